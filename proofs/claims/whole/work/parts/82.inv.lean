/-! what a step tells that goes on; sizes only grow; printed by wip/whole/gen7.py -/
theorem iv_bin {f : Int32 → Int32 → Int32} {pc : Nat} {L st : List Value} {h : mx_H} {o : mx_N} (hh : mx_bin f pc L st h = some o) : ∃ (x y : Int32) (r : List Value), st = .int y :: .int x :: r ∧ o = .inl (pc + 1, L, .int (f x y) :: r, h) := by
  unfold mx_bin at hh
  split at hh
  · exact ⟨_, _, _, rfl, (Option.some.inj hh).symm⟩
  · cases hh
theorem iv_dvd {f : Int32 → Int32 → Int32} {pc : Nat} {L st : List Value} {h : mx_H} {o : mx_N} (hh : mx_dvd f pc L st h = some o) : ∃ (x y : Int32) (r : List Value), st = .int y :: .int x :: r ∧ ¬ y = 0 ∧ o = .inl (pc + 1, L, .int (f x y) :: r, h) := by
  unfold mx_dvd at hh
  split at hh
  · split at hh
    · cases hh
    · next hy => exact ⟨_, _, _, rfl, hy, (Option.some.inj hh).symm⟩
  · cases hh
theorem iv_ild {k : Nat} {pc : Nat} {L st : List Value} {h : mx_H} {o : mx_N} (hh : mx_ild k pc L st h = some o) : ∃ x : Int32, L[k]? = some (.int x) ∧ o = .inl (pc, L, .int x :: st, h) := by
  unfold mx_ild at hh
  split at hh
  · next e => exact ⟨_, e, (Option.some.inj hh).symm⟩
  · cases hh
theorem iv_ald {k : Nat} {pc : Nat} {L st : List Value} {h : mx_H} {o : mx_N} (hh : mx_ald k pc L st h = some o) : ∃ x : Nat, L[k]? = some (.ref x) ∧ o = .inl (pc, L, .ref x :: st, h) := by
  unfold mx_ald at hh
  split at hh
  · next e => exact ⟨_, e, (Option.some.inj hh).symm⟩
  · cases hh
theorem iv_ist {k : Nat} {pc : Nat} {L st : List Value} {h : mx_H} {o : mx_N} (hh : mx_ist k pc L st h = some o) : ∃ (x : Int32) (r : List Value), st = .int x :: r ∧ k < L.length ∧ o = .inl (pc, L.set k (.int x), r, h) := by
  unfold mx_ist at hh
  split at hh
  · split at hh
    · next hk => exact ⟨_, _, rfl, hk, (Option.some.inj hh).symm⟩
    · cases hh
  · cases hh
theorem iv_ast {k : Nat} {pc : Nat} {L st : List Value} {h : mx_H} {o : mx_N} (hh : mx_ast k pc L st h = some o) : ∃ (x : Nat) (r : List Value), st = .ref x :: r ∧ k < L.length ∧ o = .inl (pc, L.set k (.ref x), r, h) := by
  unfold mx_ast at hh
  split at hh
  · split at hh
    · next hk => exact ⟨_, _, rfl, hk, (Option.some.inj hh).symm⟩
    · cases hh
  · cases hh
theorem iv_inc {k : Nat} {n : Int} {pc : Nat} {L st : List Value} {h : mx_H} {o : mx_N} (hh : mx_inc k n pc L st h = some o) : ∃ x : Int32, L[k]? = some (.int x) ∧ o = .inl (pc, L.set k (.int (x + Int32.ofInt n)), st, h) := by
  unfold mx_inc at hh
  split at hh
  · next e => exact ⟨_, e, (Option.some.inj hh).symm⟩
  · cases hh
theorem iv_if1 {c : Jvm.ClassFile.Cond} {off : Int} {pc : Nat} {L st : List Value} {h : mx_H} {o : mx_N} (hh : mx_if1 c off pc L st h = some o) : ∃ (x : Int32) (r : List Value), st = .int x :: r ∧ o = .inl (if mx_c1 c x then ((pc : Int) + off).toNat else pc + 3, L, r, h) := by
  unfold mx_if1 at hh
  split at hh
  · exact ⟨_, _, rfl, (Option.some.inj hh).symm⟩
  · cases hh
theorem iv_if2 {c : Jvm.ClassFile.Cond} {off : Int} {pc : Nat} {L st : List Value} {h : mx_H} {o : mx_N} (hh : mx_if2 c off pc L st h = some o) : ∃ (x y : Int32) (r : List Value), st = .int y :: .int x :: r ∧ o = .inl (if mx_c2 c x y then ((pc : Int) + off).toNat else pc + 3, L, r, h) := by
  unfold mx_if2 at hh
  split at hh
  · exact ⟨_, _, _, rfl, (Option.some.inj hh).symm⟩
  · cases hh
theorem iv_tsw {dflt lo hi : Int} {offs : Array Int} {pc : Nat} {L st : List Value} {h : mx_H} {o : mx_N} (hh : mx_tsw dflt lo hi offs pc L st h = some o) : ∃ (x : Int32) (r : List Value), st = .int x :: r ∧ (((x.toInt < lo ∨ hi < x.toInt) ∧ o = .inl (((pc : Int) + dflt).toNat, L, r, h)) ∨ (¬ (x.toInt < lo ∨ hi < x.toInt) ∧ ∃ off, offs[(x.toInt - lo).toNat]? = some off ∧ o = .inl (((pc : Int) + off).toNat, L, r, h))) := by
  unfold mx_tsw at hh
  split at hh
  · split at hh
    · next hc => exact ⟨_, _, rfl, Or.inl ⟨hc, (Option.some.inj hh).symm⟩⟩
    · next hc =>
      split at hh
      · next e => exact ⟨_, _, rfl, Or.inr ⟨hc, _, e, (Option.some.inj hh).symm⟩⟩
      · cases hh
  · cases hh
theorem iv_fld {h : mx_H} {ci k c : Nat} {v : Value} (hh : mx_fld h ci k c = some v) : ∃ fs, h.1[c]? = some (.inl (ci, fs)) ∧ ((fs[k]? = some none ∧ v = .int (h.2 c k)) ∨ ∃ r, fs[k]? = some (some (some r)) ∧ v = .ref r) := by
  unfold mx_fld at hh
  split at hh
  · next e =>
    split at hh
    · next e2 =>
      subst e2
      split at hh
      · next e3 => exact ⟨_, e, Or.inl ⟨e3, (Option.some.inj hh).symm⟩⟩
      · next e3 => exact ⟨_, e, Or.inr ⟨_, e3, (Option.some.inj hh).symm⟩⟩
      · cases hh
    · cases hh
  · cases hh
theorem iv_isI {sh : List mx_C} {ci k c : Nat} (hh : mx_isI sh ci k c = true) : ∃ fs, sh[c]? = some (.inl (ci, fs)) ∧ fs[k]? = some none := by
  unfold mx_isI at hh
  split at hh
  · next e =>
    simp only [Bool.and_eq_true, decide_eq_true_eq] at hh
    obtain ⟨rfl, h2⟩ := hh
    exact ⟨_, e, h2⟩
  · cases hh
theorem iv_setR {sh sh' : List mx_C} {ci k c r : Nat} (hh : mx_setR sh ci k c r = some sh') : ∃ fs, sh[c]? = some (.inl (ci, fs)) ∧ fs[k]? = some (some none) ∧ sh' = sh.set c (.inl (ci, fs.set k (some (some r)))) := by
  unfold mx_setR at hh
  split at hh
  · next e =>
    split at hh
    · next hc =>
      obtain ⟨rfl, h2⟩ := hc
      exact ⟨_, e, h2, (Option.some.inj hh).symm⟩
    · cases hh
  · cases hh
theorem iv_lenW {sh : List mx_C} {c t n : Nat} (h : mx_lenW sh c t = n) (hn : n ≠ 0) : sh[c]? = some (.inr (.inl (t, n))) := by
  unfold mx_lenW at h
  split at h
  · next e =>
    split at h
    · next e2 => rw [e, e2, h]
    · exact absurd h.symm hn
  · exact absurd h.symm hn
theorem iv_in {i : Int32} {n : Nat} (h : mx_in i n = true) : vp_in i n ∧ n ≠ 0 := by
  simp only [mx_in, Bool.and_eq_true, Bool.not_eq_true', decide_eq_false_iff_not, decide_eq_true_eq] at h
  exact ⟨fun e => e.elim h.1 (fun q => absurd h.2 (Nat.not_lt.mpr q)), by omega⟩
theorem iv_gf {aux : List Nat} {pc : Nat} {L st : List Value} {h : mx_H} {o : mx_N} (hh : mx_gf aux pc L st h = some o) : ∃ (ci k nest pl c : Nat) (r : List Value) (v : Value), aux = [ci, k, nest, pl] ∧ st = .ref c :: r ∧ mx_fld h ci k c = some v ∧ o = .inl (pc + 3, L, v :: r, h) := by
  unfold mx_gf at hh
  split at hh
  · split at hh
    · next e => exact ⟨_, _, _, _, _, _, _, rfl, rfl, e, (Option.some.inj hh).symm⟩
    · cases hh
  · cases hh
theorem iv_pf {aux : List Nat} {pc : Nat} {L st : List Value} {h : mx_H} {o : mx_N} (hh : mx_pf aux pc L st h = some o) : ∃ (ci k kind isB pl c : Nat) (r : List Value), aux = [ci, k, kind, isB, pl] ∧ ((∃ x : Int32, st = .int x :: .ref c :: r ∧ ¬ kind = 1 ∧ mx_isI h.1 ci k c = true ∧ (isB = 0 ∨ x = 0 ∨ x = 1) ∧ o = .inl (pc + 3, L, r, (h.1, mx_up h.2 c k x))) ∨ (∃ (v : Nat) (sh' : List mx_C), st = .ref v :: .ref c :: r ∧ kind = 1 ∧ mx_setR h.1 ci k c v = some sh' ∧ o = .inl (pc + 3, L, r, (sh', h.2)))) := by
  unfold mx_pf at hh
  split at hh
  · split at hh
    · next hc => exact ⟨_, _, _, _, _, _, _, rfl, Or.inl ⟨_, rfl, hc.1, hc.2.1, hc.2.2, (Option.some.inj hh).symm⟩⟩
    · cases hh
  · split at hh
    · next hc =>
      split at hh
      · next e => exact ⟨_, _, _, _, _, _, _, rfl, Or.inr ⟨_, _, rfl, hc, e, (Option.some.inj hh).symm⟩⟩
      · cases hh
    · cases hh
  · cases hh
theorem iv_iald {pc : Nat} {L st : List Value} {h : mx_H} {o : mx_N} (hh : mx_iald pc L st h = some o) : ∃ (i : Int32) (c : Nat) (r : List Value), st = .int i :: .ref c :: r ∧ mx_in i (mx_len h c) = true ∧ o = .inl (pc + 1, L, .int (h.2 c i.toNatClampNeg) :: r, h) := by
  unfold mx_iald at hh
  split at hh
  · split at hh
    · next e => exact ⟨_, _, _, rfl, e, (Option.some.inj hh).symm⟩
    · cases hh
  · cases hh
theorem iv_iast {pc : Nat} {L st : List Value} {h : mx_H} {o : mx_N} (hh : mx_iast pc L st h = some o) : ∃ (x i : Int32) (c : Nat) (r : List Value), st = .int x :: .int i :: .ref c :: r ∧ mx_in i (mx_lenW h.1 c 0) = true ∧ o = .inl (pc + 1, L, r, (h.1, mx_up h.2 c i.toNatClampNeg x)) := by
  unfold mx_iast at hh
  split at hh
  · split at hh
    · next e => exact ⟨_, _, _, _, rfl, e, (Option.some.inj hh).symm⟩
    · cases hh
  · cases hh
theorem iv_zald {pc : Nat} {L st : List Value} {h : mx_H} {o : mx_N} (hh : mx_zald pc L st h = some o) : ∃ (i : Int32) (c : Nat) (r : List Value), st = .int i :: .ref c :: r ∧ mx_in i (mx_lenW h.1 c 1) = true ∧ o = .inl (pc + 1, L, .int (h.2 c i.toNatClampNeg) :: r, h) := by
  unfold mx_zald at hh
  split at hh
  · split at hh
    · next e => exact ⟨_, _, _, rfl, e, (Option.some.inj hh).symm⟩
    · cases hh
  · cases hh
theorem iv_zast {pc : Nat} {L st : List Value} {h : mx_H} {o : mx_N} (hh : mx_zast pc L st h = some o) : ∃ (x i : Int32) (c : Nat) (r : List Value), st = .int x :: .int i :: .ref c :: r ∧ mx_in i (mx_lenW h.1 c 1) = true ∧ (x = 0 ∨ x = 1) ∧ o = .inl (pc + 1, L, r, (h.1, mx_up h.2 c i.toNatClampNeg x)) := by
  unfold mx_zast at hh
  split at hh
  · split at hh
    · next e => exact ⟨_, _, _, _, rfl, e.1, e.2, (Option.some.inj hh).symm⟩
    · cases hh
  · cases hh
theorem iv_aald {pc : Nat} {L st : List Value} {h : mx_H} {o : mx_N} (hh : mx_aald pc L st h = some o) : ∃ (i : Int32) (c : Nat) (r : List Value) (l : List (Option Nat)) (v : Nat), st = .int i :: .ref c :: r ∧ h.1[c]? = some (.inr (.inr l)) ∧ mx_in i l.length = true ∧ l[i.toNatClampNeg]? = some (some v) ∧ o = .inl (pc + 1, L, .ref v :: r, h) := by
  unfold mx_aald at hh
  split at hh
  · next i c r =>
    split at hh
    · next e =>
      split at hh
      · next v e2 =>
        unfold mx_rows at e e2
        split at e
        · next l e3 =>
          rw [e3] at e2
          exact ⟨_, _, _, l, v, rfl, e3, e, e2, (Option.some.inj hh).symm⟩
        · simp [mx_in] at e
      · cases hh
    · cases hh
  · cases hh
theorem iv_aast {pc : Nat} {L st : List Value} {h : mx_H} {o : mx_N} (hh : mx_aast pc L st h = some o) : ∃ (i : Int32) (v c : Nat) (r : List Value) (l : List (Option Nat)) (fs : List (Option (Option Nat))), st = .ref v :: .int i :: .ref c :: r ∧ h.1[v]? = some (.inl (3, fs)) ∧ h.1[c]? = some (.inr (.inr l)) ∧ mx_in i l.length = true ∧ o = .inl (pc + 1, L, r, (h.1.set c (.inr (.inr (l.set i.toNatClampNeg (some v)))), h.2)) := by
  unfold mx_aast at hh
  split at hh
  · split at hh
    · next e1 e2 =>
      split at hh
      · next e => exact ⟨_, _, _, _, _, _, rfl, e1, e2, e, (Option.some.inj hh).symm⟩
      · cases hh
    · cases hh
  · cases hh
theorem iv_alen {pc : Nat} {L st : List Value} {h : mx_H} {o : mx_N} (hh : mx_alen pc L st h = some o) : ∃ (c : Nat) (r : List Value), st = .ref c :: r ∧ ((1000 ≤ c ∧ c < 1004 ∧ o = .inl (pc + 1, L, .int (h.2 2000 (c - 1000)) :: r, h)) ∨ (∃ n, h.1[c]? = some (.inr (.inl (0, n))) ∧ o = .inl (pc + 1, L, .int (Int32.ofNat n) :: r, h))) := by
  unfold mx_alen at hh
  split at hh
  · split at hh
    · next e1 =>
      split at hh
      · next e2 => exact ⟨_, _, rfl, Or.inl ⟨e1, e2, (Option.some.inj hh).symm⟩⟩
      · cases hh
    · split at hh
      · next e => exact ⟨_, _, rfl, Or.inr ⟨_, e, (Option.some.inj hh).symm⟩⟩
      · cases hh
  · cases hh
theorem iv_dup {pc : Nat} {L st : List Value} {h : mx_H} {o : mx_N} (hh : mx_dup pc L st h = some o) : ∃ (v : Value) (r : List Value), st = v :: r ∧ o = .inl (pc + 1, L, v :: v :: r, h) := by
  unfold mx_dup at hh
  split at hh
  · exact ⟨_, _, rfl, (Option.some.inj hh).symm⟩
  · cases hh
theorem iv_dup2 {pc : Nat} {L st : List Value} {h : mx_H} {o : mx_N} (hh : mx_dup2 pc L st h = some o) : ∃ (v w : Value) (r : List Value), st = v :: w :: r ∧ o = .inl (pc + 1, L, v :: w :: v :: w :: r, h) := by
  unfold mx_dup2 at hh
  split at hh
  · exact ⟨_, _, _, rfl, (Option.some.inj hh).symm⟩
  · cases hh
theorem iv_pop {pc : Nat} {L st : List Value} {h : mx_H} {o : mx_N} (hh : mx_pop pc L st h = some o) : ∃ (v : Value) (r : List Value), st = v :: r ∧ o = .inl (pc + 1, L, r, h) := by
  unfold mx_pop at hh
  split at hh
  · exact ⟨_, _, rfl, (Option.some.inj hh).symm⟩
  · cases hh
theorem iv_new {aux : List Nat} {pc : Nat} {L st : List Value} {h : mx_H} {o : mx_N} (hh : mx_new aux pc L st h = some o) : ∃ ci p1 p2 p3 : Nat, aux = [ci, p1, p2, p3] ∧ mx_ok1 h.1 L st = true ∧ o = .inl (pc + 3, L, .ref h.1.length :: st, (h.1 ++ [.inl (ci, mx_df ci)], mx_zr h.2 h.1.length)) := by
  unfold mx_new at hh
  split at hh
  · split at hh
    · next e => exact ⟨_, _, _, _, rfl, e, (Option.some.inj hh).symm⟩
    · cases hh
  · cases hh
theorem iv_newa {aux : List Nat} {pc : Nat} {L st : List Value} {h : mx_H} {o : mx_N} (hh : mx_newa aux pc L st h = some o) : ∃ (t pl : Nat) (n : Int32) (r : List Value), aux = [t, pl] ∧ st = .int n :: r ∧ mx_ok1 h.1 L r = true ∧ ¬ n < 0 ∧ n.toNatClampNeg < 1000 ∧ o = .inl (pc + 2, L, .ref h.1.length :: r, (h.1 ++ [.inr (.inl (t, n.toNatClampNeg))], mx_zr h.2 h.1.length)) := by
  unfold mx_newa at hh
  split at hh
  · split at hh
    · next e => exact ⟨_, _, _, _, rfl, rfl, e.1, e.2.1, e.2.2, (Option.some.inj hh).symm⟩
    · cases hh
  · cases hh
theorem iv_newq {pc : Nat} {L st : List Value} {h : mx_H} {o : mx_N} (hh : mx_newq pc L st h = some o) : ∃ (n : Int32) (r : List Value), st = .int n :: r ∧ mx_ok1 h.1 L r = true ∧ ¬ n < 0 ∧ n.toNatClampNeg < 1000 ∧ o = .inl (pc + 3, L, .ref h.1.length :: r, (h.1 ++ [.inr (.inr (List.replicate n.toNatClampNeg none))], mx_zr h.2 h.1.length)) := by
  unfold mx_newq at hh
  split at hh
  · split at hh
    · next e => exact ⟨_, _, rfl, e.1, e.2.1, e.2.2, (Option.some.inj hh).symm⟩
    · cases hh
  · cases hh
theorem iv_cl {n k dc d : Nat} {st : List Value} {o : mx_N} (hh : mx_cl n k dc d st = some o) : n ≤ st.length ∧ mx_dd d dc < d ∧ (st.drop n).length ≤ 8 ∧ o = .inr (.inl (mx_dd d dc, k, (st.take n).reverse, st.drop n)) := by
  unfold mx_cl at hh
  split at hh
  · next e => exact ⟨e.1, e.2.1, e.2.2, (Option.some.inj hh).symm⟩
  · cases hh
theorem iv_cS {aux : List Nat} {d pc : Nat} {L st : List Value} {h : mx_H} {o : mx_N} (hh : mx_cS aux d pc L st h = some o) : (∃ k dc n pl p2 p3 : Nat, aux = [k, dc, n, pl, p2, p3] ∧ mx_cl n k dc d st = some o) ∨ (∃ (mm pl p2 p3 p4 : Nat) (x y : Int32) (r : List Value), aux = [mm, pl, p2, p3, p4] ∧ st = .int y :: .int x :: r ∧ r.length ≤ 8 ∧ o = .inl (pc + 3, L, .int (mx_mm mm x y) :: r, h)) := by
  unfold mx_cS at hh
  split at hh
  · exact Or.inl ⟨_, _, _, _, _, _, rfl, hh⟩
  · split at hh
    · split at hh
      · next e => exact Or.inr ⟨_, _, _, _, _, _, _, _, rfl, rfl, e, (Option.some.inj hh).symm⟩
      · cases hh
    · cases hh
  · cases hh
theorem iv_cV {aux : List Nat} {d : Nat} {st : List Value} {h : mx_H} {o : mx_N} (hh : mx_cV aux d st h = some o) : ∃ k dc n pl p2 p3 p4 ci : Nat, aux = [k, dc, n, pl, p2, p3, p4, ci] ∧ (∃ (c : Nat) (fs : List (Option (Option Nat))), st[n]? = some (.ref c) ∧ h.1[c]? = some (.inl (ci, fs))) ∧ mx_cl (n + 1) k dc d st = some o := by
  unfold mx_cV at hh
  split at hh
  · split at hh
    · next e =>
      refine ⟨_, _, _, _, _, _, _, _, rfl, ?_, hh⟩
      unfold mx_isR at e
      split at e
      · next c e1 =>
        split at e
        · next ci' fs e2 =>
          simp only [decide_eq_true_eq] at e
          subst e
          exact ⟨c, fs, e1, e2⟩
        · cases e
      · cases e
    · cases hh
  · cases hh
theorem iv_cI {aux : List Nat} {d pc : Nat} {L st : List Value} {h : mx_H} {o : mx_N} (hh : mx_cI aux d pc L st h = some o) : (∃ k dc n pl p2 p3 nest : Nat, aux = [k, dc, n, pl, p2, p3, nest] ∧ (∃ c : Nat, st[n]? = some (.ref c)) ∧ mx_cl (n + 1) k dc d st = some o) ∨ (∃ (pl c : Nat) (r : List Value), aux = [pl] ∧ st = .ref c :: r ∧ r.length ≤ 8 ∧ o = .inl (pc + 3, L, r, h)) := by
  unfold mx_cI at hh
  split at hh
  · split at hh
    · next e => exact Or.inl ⟨_, _, _, _, _, _, _, rfl, ⟨_, e⟩, hh⟩
    · cases hh
  · split at hh
    · split at hh
      · next e => exact Or.inr ⟨_, _, _, rfl, rfl, e, (Option.some.inj hh).symm⟩
      · cases hh
    · cases hh
  · cases hh
def mx_rok (rt : Option FieldType) (v : Option Value) : Prop := match v with
  | none => rt = none
  | some (.int x) => rt = some .int ∨ (rt = some .boolean ∧ (x = 0 ∨ x = 1))
  | _ => False
theorem iv_iret {rt : Option FieldType} {st : List Value} {o : mx_N} (hh : mx_iret rt st = some o) : ∃ x : Int32, st = [.int x] ∧ mx_rok rt (some (.int x)) ∧ o = .inr (.inr (some (.int x))) := by
  unfold mx_iret at hh
  split at hh
  · split at hh
    · next e => exact ⟨_, rfl, e, (Option.some.inj hh).symm⟩
    · cases hh
  · cases hh
theorem iv_vret {rt : Option FieldType} {st : List Value} {o : mx_N} (hh : mx_vret rt st = some o) : st = [] ∧ mx_rok rt none ∧ o = .inr (.inr none) := by
  unfold mx_vret at hh
  split at hh
  · split at hh
    · next e => exact ⟨rfl, e, (Option.some.inj hh).symm⟩
    · cases hh
  · cases hh
def mx_gr (h : mx_H) (o : mx_N) : Prop := ∀ (pc' : Nat) (L' st' : List Value) (h' : mx_H), o = .inl (pc', L', st', h') → h.1.length ≤ h'.1.length ∧ mx_sz h.1 ≤ mx_sz h'.1 ∧ (h.1.length < 1000 → h'.1.length < 1000) ∧ L'.length = L'.length
theorem mx_gr_same {h : mx_H} {pc : Nat} {L st : List Value} {σ : mx_S} : mx_gr h (.inl (pc, L, st, (h.1, σ))) := by
  intro pc' L' st' h' e
  cases e
  exact ⟨Nat.le_refl _, Nat.le_refl _, id, rfl⟩
theorem mx_gr_set {h : mx_H} {pc c : Nat} {L st : List Value} {σ : mx_S} {q q' : mx_C} (hq : h.1[c]? = some q) (hz : mx_cz q' = mx_cz q) : mx_gr h (.inl (pc, L, st, (h.1.set c q', σ))) := by
  intro pc' L' st' h' e
  cases e
  refine ⟨by simp, ?_, by simp, rfl⟩
  show mx_sz h.1 ≤ mx_sz (h.1.set c q')
  rw [mx_sz_set hq hz]
  exact Nat.le_refl _
theorem mx_gr_app {h : mx_H} {pc : Nat} {L st : List Value} {σ : mx_S} {q : mx_C} (hl : h.1.length < 900) : mx_gr h (.inl (pc, L, st, (h.1 ++ [q], σ))) := by
  intro pc' L' st' h' e
  cases e
  refine ⟨by simp, ?_, fun _ => by simp; omega, rfl⟩
  show mx_sz h.1 ≤ mx_sz (h.1 ++ [q])
  rw [mx_sz_app]
  omega
theorem mx_gr_r {h : mx_H} {z : (Nat × Nat × List Value × List Value) ⊕ Option Value} : mx_gr h (.inr z) := by
  intro pc' L' st' h' e
  cases e
theorem mx_ok1_lt {sh : List mx_C} {L st : List Value} (h : mx_ok1 sh L st = true) : sh.length < 900 ∧ L.all (mx_frV sh.length (sh.length + 1)) = true ∧ st.all (mx_frV sh.length (sh.length + 1)) = true ∧ sh.all (mx_frC sh.length (sh.length + 1)) = true := by
  unfold mx_ok1 at h
  simp only [Bool.and_eq_true, decide_eq_true_eq] at h
  exact ⟨h.1.1.1, h.1.1.2, h.1.2, h.2⟩
set_option maxHeartbeats 4000000 in
theorem mx_do_gr {i : Instr} {aux : List Nat} {rt : Option FieldType} {d pc : Nat} {L st : List Value} {h : mx_H} {o : mx_N} (hh : mx_do i aux rt d pc L st h = some o) : mx_gr h o := by
  cases i
  case iconst n =>
    have hh : some _ = some o := hh
    cases hh
    exact mx_gr_same
  case bipush n =>
    have hh : some _ = some o := hh
    cases hh
    exact mx_gr_same
  case sipush n =>
    have hh : some _ = some o := hh
    cases hh
    exact mx_gr_same
  case goto off =>
    have hh : some _ = some o := hh
    cases hh
    exact mx_gr_same
  case ldc ix =>
    simp only [mx_do] at hh
    split at hh
    · cases hh
      exact mx_gr_same
    · cases hh
  case ldc_w ix =>
    simp only [mx_do] at hh
    split at hh
    · cases hh
      exact mx_gr_same
    · cases hh
  case getstatic ix =>
    simp only [mx_do] at hh
    split at hh
    · cases hh
      exact mx_gr_same
    · cases hh
  case iload k =>
    obtain ⟨_, _, rfl⟩ := iv_ild hh
    exact mx_gr_same
  case iload_n k =>
    obtain ⟨_, _, rfl⟩ := iv_ild hh
    exact mx_gr_same
  case aload k =>
    obtain ⟨_, _, rfl⟩ := iv_ald hh
    exact mx_gr_same
  case aload_n k =>
    obtain ⟨_, _, rfl⟩ := iv_ald hh
    exact mx_gr_same
  case istore k =>
    obtain ⟨_, _, _, _, rfl⟩ := iv_ist hh
    exact mx_gr_same
  case istore_n k =>
    obtain ⟨_, _, _, _, rfl⟩ := iv_ist hh
    exact mx_gr_same
  case astore k =>
    obtain ⟨_, _, _, _, rfl⟩ := iv_ast hh
    exact mx_gr_same
  case astore_n k =>
    obtain ⟨_, _, _, _, rfl⟩ := iv_ast hh
    exact mx_gr_same
  case iinc k n =>
    obtain ⟨_, _, rfl⟩ := iv_inc hh
    exact mx_gr_same
  case iadd =>
    obtain ⟨_, _, _, _, rfl⟩ := iv_bin hh
    exact mx_gr_same
  case isub =>
    obtain ⟨_, _, _, _, rfl⟩ := iv_bin hh
    exact mx_gr_same
  case imul =>
    obtain ⟨_, _, _, _, rfl⟩ := iv_bin hh
    exact mx_gr_same
  case iand =>
    obtain ⟨_, _, _, _, rfl⟩ := iv_bin hh
    exact mx_gr_same
  case ior =>
    obtain ⟨_, _, _, _, rfl⟩ := iv_bin hh
    exact mx_gr_same
  case ixor =>
    obtain ⟨_, _, _, _, rfl⟩ := iv_bin hh
    exact mx_gr_same
  case ishl =>
    obtain ⟨_, _, _, _, rfl⟩ := iv_bin hh
    exact mx_gr_same
  case ishr =>
    obtain ⟨_, _, _, _, rfl⟩ := iv_bin hh
    exact mx_gr_same
  case iushr =>
    obtain ⟨_, _, _, _, rfl⟩ := iv_bin hh
    exact mx_gr_same
  case idiv =>
    obtain ⟨_, _, _, _, _, rfl⟩ := iv_dvd hh
    exact mx_gr_same
  case irem =>
    obtain ⟨_, _, _, _, _, rfl⟩ := iv_dvd hh
    exact mx_gr_same
  case ifCond c off =>
    obtain ⟨_, _, _, rfl⟩ := iv_if1 hh
    exact mx_gr_same
  case if_icmp c off =>
    obtain ⟨_, _, _, _, rfl⟩ := iv_if2 hh
    exact mx_gr_same
  case tableswitch dflt lo hi offs =>
    obtain ⟨_, _, _, ⟨_, rfl⟩ | ⟨_, _, _, rfl⟩⟩ := iv_tsw hh
    · exact mx_gr_same
    · exact mx_gr_same
  case getfield ix =>
    obtain ⟨_, _, _, _, _, _, _, _, _, _, rfl⟩ := iv_gf hh
    exact mx_gr_same
  case putfield ix =>
    obtain ⟨_, _, _, _, _, _, _, _, ⟨_, _, _, _, _, rfl⟩ | ⟨_, _, _, _, hs, rfl⟩⟩ := iv_pf hh
    · exact mx_gr_same
    · obtain ⟨fs, h1, h2, rfl⟩ := iv_setR hs
      exact mx_gr_set h1 (by simp [mx_cz])
  case iaload =>
    obtain ⟨_, _, _, _, _, rfl⟩ := iv_iald hh
    exact mx_gr_same
  case iastore =>
    obtain ⟨_, _, _, _, _, _, rfl⟩ := iv_iast hh
    exact mx_gr_same
  case baload =>
    obtain ⟨_, _, _, _, _, rfl⟩ := iv_zald hh
    exact mx_gr_same
  case bastore =>
    obtain ⟨_, _, _, _, _, _, _, rfl⟩ := iv_zast hh
    exact mx_gr_same
  case aaload =>
    obtain ⟨_, _, _, _, _, _, _, _, _, rfl⟩ := iv_aald hh
    exact mx_gr_same
  case aastore =>
    obtain ⟨_, _, _, _, _, _, _, _, h1, _, rfl⟩ := iv_aast hh
    exact mx_gr_set h1 (by simp [mx_cz])
  case arraylength =>
    obtain ⟨_, _, _, ⟨_, _, rfl⟩ | ⟨_, _, rfl⟩⟩ := iv_alen hh
    · exact mx_gr_same
    · exact mx_gr_same
  case dup =>
    obtain ⟨_, _, _, rfl⟩ := iv_dup hh
    exact mx_gr_same
  case dup2 =>
    obtain ⟨_, _, _, _, rfl⟩ := iv_dup2 hh
    exact mx_gr_same
  case pop =>
    obtain ⟨_, _, _, rfl⟩ := iv_pop hh
    exact mx_gr_same
  case new ix =>
    obtain ⟨_, _, _, _, _, h1, rfl⟩ := iv_new hh
    exact mx_gr_app (mx_ok1_lt h1).1
  case newarray ty =>
    obtain ⟨_, _, _, _, _, _, h1, _, _, rfl⟩ := iv_newa hh
    exact mx_gr_app (mx_ok1_lt h1).1
  case anewarray ix =>
    obtain ⟨_, _, _, h1, _, _, rfl⟩ := iv_newq hh
    exact mx_gr_app (mx_ok1_lt h1).1
  case invokestatic ix =>
    rcases iv_cS hh with ⟨_, _, _, _, _, _, _, h1⟩ | ⟨_, _, _, _, _, _, _, _, _, _, _, rfl⟩
    · obtain ⟨_, _, _, rfl⟩ := iv_cl h1
      exact mx_gr_r
    · exact mx_gr_same
  case invokevirtual ix =>
    obtain ⟨_, _, _, _, _, _, _, _, _, _, h1⟩ := iv_cV hh
    obtain ⟨_, _, _, rfl⟩ := iv_cl h1
    exact mx_gr_r
  case invokespecial ix =>
    rcases iv_cI hh with ⟨_, _, _, _, _, _, _, _, _, h1⟩ | ⟨_, _, _, _, _, _, rfl⟩
    · obtain ⟨_, _, _, rfl⟩ := iv_cl h1
      exact mx_gr_r
    · exact mx_gr_same
  case ireturn =>
    obtain ⟨_, _, _, rfl⟩ := iv_iret hh
    exact mx_gr_r
  case return_ =>
    obtain ⟨_, _, rfl⟩ := iv_vret hh
    exact mx_gr_r
  all_goals exact absurd hh (by simp [mx_do])
theorem iv_st {d j pc : Nat} {L st : List Value} {h : mx_H} {o : mx_N} (hh : mx_st d j pc L st h = some o) : ∃ (q : mx_HD) (i : Instr) (len : Nat) (aux : List Nat), mx_hd[j]? = some q ∧ mx_ins j pc = some (i, len, aux) ∧ mx_do i aux q.2.2.2.1 d pc L st h = some o := by
  unfold mx_st at hh
  split at hh
  · next e1 e2 => exact ⟨_, _, _, _, e1, e2, hh⟩
  · cases hh
theorem mx_ev_gr : ∀ (n d j pc : Nat) (L st : List Value) (h : mx_H) (v : Option Value) (h2 : mx_H), mx_ev n d j pc L st h = some (v, h2) → h.1.length ≤ h2.1.length ∧ mx_sz h.1 ≤ mx_sz h2.1 ∧ (h.1.length < 1000 → h2.1.length < 1000) := by
  intro n
  induction n with
  | zero => intro d j pc L st h v h2 hr; simp [mx_ev] at hr
  | succ n ih =>
    intro d j pc L st h v h2 hr
    rw [mx_ev] at hr
    cases hs : mx_st d j pc L st h with
    | none => rw [hs] at hr; simp at hr
    | some o =>
      rw [hs] at hr
      obtain ⟨q, i, len, aux, -, -, hd⟩ := iv_st hs
      have hg := mx_do_gr hd
      match o, hr, hg with
      | .inl (pc', L', st', h'), hr, hg =>
        have h1 := ih _ _ _ _ _ _ _ _ hr
        have h2 := hg pc' L' st' h' rfl
        exact ⟨Nat.le_trans h2.1 h1.1, Nat.le_trans h2.2.1 h1.2.1, fun z => h1.2.2 (h2.2.2.1 z)⟩
      | .inr (.inl (d', k, as, rest)), hr, _ =>
        dsimp only at hr
        cases hc : mx_ev n d' k 0 (mx_en k as) [] h with
        | none => rw [hc] at hr; simp at hr
        | some r =>
          rw [hc] at hr
          obtain ⟨v', h'⟩ := r
          dsimp only at hr
          by_cases hf : mx_fr h.1.length h'.1.length L rest = true
          · rw [if_pos hf] at hr
            have h1 := ih _ _ _ _ _ _ _ _ hr
            have h2 := ih _ _ _ _ _ _ _ _ hc
            exact ⟨Nat.le_trans h2.1 h1.1, Nat.le_trans h2.2.1 h1.2.1, fun z => h1.2.2 (h2.2.2 z)⟩
          · rw [if_neg hf] at hr
            cases hr
      | .inr (.inr w), hr, _ =>
        have hr : some (w, h) = some (v, h2) := hr
        cases hr
        exact ⟨Nat.le_refl _, Nat.le_refl _, id⟩
