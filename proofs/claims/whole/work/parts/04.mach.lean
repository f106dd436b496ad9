/-! the machine of my own: a step over pictures (refs are places in a list of cells), a run with fuel, the run's answer -/
def mx_up (σ : mx_S) (c k : Nat) (x : Int32) : mx_S := fun c' => if c' = c then upd (σ c) k x else σ c'
def mx_zr (σ : mx_S) (c : Nat) : mx_S := fun c' => if c' = c then (fun _ => 0) else σ c'
def mx_in (i : Int32) (n : Nat) : Bool := !(decide (i < 0)) && decide (i.toNatClampNeg < n)
def mx_fld (h : mx_H) (ci k c : Nat) : Option Value := match h.1[c]? with
  | some (.inl (ci', fs)) => if ci' = ci then (match fs[k]? with
    | some none => some (.int (h.2 c k))
    | some (some (some r)) => some (.ref r)
    | _ => none) else none
  | _ => none
def mx_isI (sh : List mx_C) (ci k c : Nat) : Bool := match sh[c]? with
  | some (.inl (ci', fs)) => decide (ci' = ci) && decide (fs[k]? = some none)
  | _ => false
def mx_setR (sh : List mx_C) (ci k c r : Nat) : Option (List mx_C) := match sh[c]? with
  | some (.inl (ci', fs)) => if ci' = ci ∧ fs[k]? = some (some none) then some (sh.set c (.inl (ci, fs.set k (some (some r))))) else none
  | _ => none
def mx_lenW (sh : List mx_C) (c t : Nat) : Nat := match sh[c]? with
  | some (.inr (.inl (t', n))) => if t' = t then n else 0
  | _ => 0
def mx_len (h : mx_H) (c : Nat) : Nat := if 1000 ≤ c then (if c < 1004 then (h.2 2000 (c - 1000)).toNatClampNeg else 0) else mx_lenW h.1 c 0
def mx_rows (sh : List mx_C) (c : Nat) : List (Option Nat) := match sh[c]? with
  | some (.inr (.inr l)) => l
  | _ => []
def mx_df7 : List (Option (Option Nat)) := [some none, some none, some none, none, some none, some none, none, some none, some none, some none, some none, some none, some none, some none, some none, some none, some none, some none, some none, none, none, none, none, none, none, none, none, none, none, some none, some none, some none]
def mx_df (ci : Nat) : List (Option (Option Nat)) := match ci with
  | 0 => [some none, some none, none, none, none, none, none]
  | 1 => [none, none, none, none, none, none, none, none]
  | 2 => [some none, some none, some none]
  | 3 => [none, none, none, none, none, none, none, none, none, none, none, none]
  | 4 => [some none, some none, some none, some none, none, none]
  | 5 => [some none, some none, some none, some none, some none, none]
  | 6 => [some none, some none, some none, some none, some none]
  | _ => mx_df7
def mx_frV (lo hi : Nat) (v : Value) : Bool := match v with
  | .ref i => !(decide (lo ≤ i) && decide (i < hi))
  | _ => true
def mx_fr (lo hi : Nat) (L st : List Value) : Bool := decide (hi ≤ lo) || (L.all (mx_frV lo hi) && st.all (mx_frV lo hi))
def mx_frO (lo hi : Nat) (o : Option Nat) : Bool := match o with
  | some i => !(decide (lo ≤ i) && decide (i < hi))
  | none => true
def mx_frC (lo hi : Nat) (q : mx_C) : Bool := match q with
  | .inl (_, fs) => fs.all (fun o => match o with | some r => mx_frO lo hi r | none => true)
  | .inr (.inl _) => true
  | .inr (.inr l) => l.all (mx_frO lo hi)
def mx_ok1 (sh : List mx_C) (L st : List Value) : Bool := decide (sh.length < 900) && L.all (mx_frV sh.length (sh.length + 1)) && st.all (mx_frV sh.length (sh.length + 1)) && sh.all (mx_frC sh.length (sh.length + 1))
def mx_nx (pc : Nat) (L st : List Value) (h : mx_H) : Option mx_N := some (.inl (pc, L, st, h))
def mx_bin (f : Int32 → Int32 → Int32) (pc : Nat) (L st : List Value) (h : mx_H) : Option mx_N := match st with
  | .int y :: .int x :: r => mx_nx (pc + 1) L (.int (f x y) :: r) h
  | _ => none
def mx_dvd (f : Int32 → Int32 → Int32) (pc : Nat) (L st : List Value) (h : mx_H) : Option mx_N := match st with
  | .int y :: .int x :: r => if y = 0 then none else mx_nx (pc + 1) L (.int (f x y) :: r) h
  | _ => none
def mx_ild (k pc' : Nat) (L st : List Value) (h : mx_H) : Option mx_N := match L[k]? with
  | some (.int x) => mx_nx pc' L (.int x :: st) h
  | _ => none
def mx_ald (k pc' : Nat) (L st : List Value) (h : mx_H) : Option mx_N := match L[k]? with
  | some (.ref x) => mx_nx pc' L (.ref x :: st) h
  | _ => none
def mx_ist (k pc' : Nat) (L st : List Value) (h : mx_H) : Option mx_N := match st with
  | .int x :: r => if k < L.length then mx_nx pc' (L.set k (.int x)) r h else none
  | _ => none
def mx_ast (k pc' : Nat) (L st : List Value) (h : mx_H) : Option mx_N := match st with
  | .ref x :: r => if k < L.length then mx_nx pc' (L.set k (.ref x)) r h else none
  | _ => none
def mx_inc (k : Nat) (n : Int) (pc' : Nat) (L st : List Value) (h : mx_H) : Option mx_N := match L[k]? with
  | some (.int x) => mx_nx pc' (L.set k (.int (x + Int32.ofInt n))) st h
  | _ => none
def mx_c1 (c : Jvm.ClassFile.Cond) (x : Int32) : Bool := match c with
  | .eq => decide (x = 0)
  | .ne => decide (¬ x = 0)
  | .lt => decide (x < 0)
  | .ge => decide (0 ≤ x)
  | .gt => decide (0 < x)
  | .le => decide (x ≤ 0)
def mx_c2 (c : Jvm.ClassFile.Cond) (x y : Int32) : Bool := match c with
  | .eq => decide (x = y)
  | .ne => decide (¬ x = y)
  | .lt => decide (x < y)
  | .ge => decide (y ≤ x)
  | .gt => decide (y < x)
  | .le => decide (x ≤ y)
def mx_if1 (c : Jvm.ClassFile.Cond) (off : Int) (pc : Nat) (L st : List Value) (h : mx_H) : Option mx_N := match st with
  | .int x :: r => mx_nx (if mx_c1 c x then ((pc : Int) + off).toNat else pc + 3) L r h
  | _ => none
def mx_if2 (c : Jvm.ClassFile.Cond) (off : Int) (pc : Nat) (L st : List Value) (h : mx_H) : Option mx_N := match st with
  | .int y :: .int x :: r => mx_nx (if mx_c2 c x y then ((pc : Int) + off).toNat else pc + 3) L r h
  | _ => none
def mx_tsw (dflt lo hi : Int) (offs : Array Int) (pc : Nat) (L st : List Value) (h : mx_H) : Option mx_N := match st with
  | .int x :: r => if x.toInt < lo ∨ hi < x.toInt then mx_nx ((pc : Int) + dflt).toNat L r h else (match offs[(x.toInt - lo).toNat]? with
    | some off => mx_nx ((pc : Int) + off).toNat L r h
    | none => none)
  | _ => none
def mx_gf (aux : List Nat) (pc : Nat) (L st : List Value) (h : mx_H) : Option mx_N := match aux, st with
  | [ci, k, _, _], .ref c :: r => (match mx_fld h ci k c with
    | some v => mx_nx (pc + 3) L (v :: r) h
    | none => none)
  | _, _ => none
def mx_pf (aux : List Nat) (pc : Nat) (L st : List Value) (h : mx_H) : Option mx_N := match aux, st with
  | [ci, k, kind, isB, _], .int x :: .ref c :: r => if ¬ kind = 1 ∧ mx_isI h.1 ci k c = true ∧ (isB = 0 ∨ x = 0 ∨ x = 1) then mx_nx (pc + 3) L r (h.1, mx_up h.2 c k x) else none
  | [ci, k, kind, _, _], .ref v :: .ref c :: r => if kind = 1 then (match mx_setR h.1 ci k c v with
    | some sh' => mx_nx (pc + 3) L r (sh', h.2)
    | none => none) else none
  | _, _ => none
def mx_iald (pc : Nat) (L st : List Value) (h : mx_H) : Option mx_N := match st with
  | .int i :: .ref c :: r => if mx_in i (mx_len h c) then mx_nx (pc + 1) L (.int (h.2 c i.toNatClampNeg) :: r) h else none
  | _ => none
def mx_iast (pc : Nat) (L st : List Value) (h : mx_H) : Option mx_N := match st with
  | .int x :: .int i :: .ref c :: r => if mx_in i (mx_lenW h.1 c 0) then mx_nx (pc + 1) L r (h.1, mx_up h.2 c i.toNatClampNeg x) else none
  | _ => none
def mx_zald (pc : Nat) (L st : List Value) (h : mx_H) : Option mx_N := match st with
  | .int i :: .ref c :: r => if mx_in i (mx_lenW h.1 c 1) then mx_nx (pc + 1) L (.int (h.2 c i.toNatClampNeg) :: r) h else none
  | _ => none
def mx_zast (pc : Nat) (L st : List Value) (h : mx_H) : Option mx_N := match st with
  | .int x :: .int i :: .ref c :: r => if mx_in i (mx_lenW h.1 c 1) ∧ (x = 0 ∨ x = 1) then mx_nx (pc + 1) L r (h.1, mx_up h.2 c i.toNatClampNeg x) else none
  | _ => none
def mx_aald (pc : Nat) (L st : List Value) (h : mx_H) : Option mx_N := match st with
  | .int i :: .ref c :: r => if mx_in i (mx_rows h.1 c).length then (match (mx_rows h.1 c)[i.toNatClampNeg]? with
    | some (some v) => mx_nx (pc + 1) L (.ref v :: r) h
    | _ => none) else none
  | _ => none
def mx_aast (pc : Nat) (L st : List Value) (h : mx_H) : Option mx_N := match st with
  | .ref v :: .int i :: .ref c :: r => (match h.1[v]?, h.1[c]? with
    | some (.inl (3, _)), some (.inr (.inr l)) => if mx_in i l.length then mx_nx (pc + 1) L r (h.1.set c (.inr (.inr (l.set i.toNatClampNeg (some v)))), h.2) else none
    | _, _ => none)
  | _ => none
def mx_alen (pc : Nat) (L st : List Value) (h : mx_H) : Option mx_N := match st with
  | .ref c :: r => if 1000 ≤ c then (if c < 1004 then mx_nx (pc + 1) L (.int (h.2 2000 (c - 1000)) :: r) h else none) else (match h.1[c]? with
    | some (.inr (.inl (0, n))) => mx_nx (pc + 1) L (.int (Int32.ofNat n) :: r) h
    | _ => none)
  | _ => none
def mx_dup (pc : Nat) (L st : List Value) (h : mx_H) : Option mx_N := match st with
  | v :: r => mx_nx (pc + 1) L (v :: v :: r) h
  | _ => none
def mx_dup2 (pc : Nat) (L st : List Value) (h : mx_H) : Option mx_N := match st with
  | v :: w :: r => mx_nx (pc + 1) L (v :: w :: v :: w :: r) h
  | _ => none
def mx_pop (pc : Nat) (L st : List Value) (h : mx_H) : Option mx_N := match st with
  | _ :: r => mx_nx (pc + 1) L r h
  | _ => none
def mx_new (aux : List Nat) (pc : Nat) (L st : List Value) (h : mx_H) : Option mx_N := match aux with
  | [ci, _, _, _] => if mx_ok1 h.1 L st then mx_nx (pc + 3) L (.ref h.1.length :: st) (h.1 ++ [.inl (ci, mx_df ci)], mx_zr h.2 h.1.length) else none
  | _ => none
def mx_newa (aux : List Nat) (pc : Nat) (L st : List Value) (h : mx_H) : Option mx_N := match aux, st with
  | [t, _], .int n :: r => if mx_ok1 h.1 L r ∧ ¬ n < 0 ∧ n.toNatClampNeg < 1000 then mx_nx (pc + 2) L (.ref h.1.length :: r) (h.1 ++ [.inr (.inl (t, n.toNatClampNeg))], mx_zr h.2 h.1.length) else none
  | _, _ => none
def mx_newq (pc : Nat) (L st : List Value) (h : mx_H) : Option mx_N := match st with
  | .int n :: r => if mx_ok1 h.1 L r ∧ ¬ n < 0 ∧ n.toNatClampNeg < 1000 then mx_nx (pc + 3) L (.ref h.1.length :: r) (h.1 ++ [.inr (.inr (List.replicate n.toNatClampNeg none))], mx_zr h.2 h.1.length) else none
  | _ => none
def mx_dd (d dc : Nat) : Nat := if dc = 0 then d - 1 else dc - 1
/-- a call: the receiver, if there is one, and n arguments are taken off the stack -/
def mx_cl (n : Nat) (k dc d : Nat) (st : List Value) : Option mx_N := if n ≤ st.length ∧ mx_dd d dc < d ∧ (st.drop n).length ≤ 8 then some (.inr (.inl (mx_dd d dc, k, (st.take n).reverse, st.drop n))) else none
def mx_isR (ci : Nat) (h : mx_H) (v : Option Value) : Bool := match v with
  | some (.ref c) => (match h.1[c]? with
    | some (.inl (ci', _)) => decide (ci' = ci)
    | _ => false)
  | _ => false
def mx_mm (mm : Nat) (x y : Int32) : Int32 := if mm = 0 then (if y < x then y else x) else (if x < y then y else x)
def mx_cS (aux : List Nat) (d pc : Nat) (L st : List Value) (h : mx_H) : Option mx_N := match aux with
  | [k, dc, n, _, _, _] => mx_cl n k dc d st
  | [mm, _, _, _, _] => (match st with
    | .int y :: .int x :: r => if r.length ≤ 8 then mx_nx (pc + 3) L (.int (mx_mm mm x y) :: r) h else none
    | _ => none)
  | _ => none
def mx_cV (aux : List Nat) (d : Nat) (st : List Value) (h : mx_H) : Option mx_N := match aux with
  | [k, dc, n, _, _, _, _, ci] => if mx_isR ci h st[n]? then mx_cl (n + 1) k dc d st else none
  | _ => none
def mx_cI (aux : List Nat) (d pc : Nat) (L st : List Value) (h : mx_H) : Option mx_N := match aux with
  | [k, dc, n, _, _, _, _] => (match st[n]? with
    | some (.ref _) => mx_cl (n + 1) k dc d st
    | _ => none)
  | [_] => (match st with
    | .ref _ :: r => if r.length ≤ 8 then mx_nx (pc + 3) L r h else none
    | _ => none)
  | _ => none
def mx_iret (rt : Option FieldType) (st : List Value) : Option mx_N := match st with
  | [.int v] => if rt = some .int ∨ (rt = some .boolean ∧ (v = 0 ∨ v = 1)) then some (.inr (.inr (some (.int v)))) else none
  | _ => none
def mx_vret (rt : Option FieldType) (st : List Value) : Option mx_N := match st with
  | [] => if rt = none then some (.inr (.inr none)) else none
  | _ => none
def mx_do (i : Instr) (aux : List Nat) (rt : Option FieldType) (d pc : Nat) (L st : List Value) (h : mx_H) : Option mx_N := match i with
  | .iconst n => mx_nx (pc + 1) L (.int (Int32.ofInt n) :: st) h
  | .bipush n => mx_nx (pc + 2) L (.int (Int8.ofInt n).toInt32 :: st) h
  | .sipush n => mx_nx (pc + 3) L (.int (Int16.ofInt n).toInt32 :: st) h
  | .ldc _ => (match aux with
    | [v, _] => mx_nx (pc + 2) L (.int (Int32.ofNat v) :: st) h
    | _ => none)
  | .ldc_w _ => (match aux with
    | [v, _] => mx_nx (pc + 3) L (.int (Int32.ofNat v) :: st) h
    | _ => none)
  | .iload k => mx_ild k (pc + 2) L st h
  | .iload_n k => mx_ild k (pc + 1) L st h
  | .aload k => mx_ald k (pc + 2) L st h
  | .aload_n k => mx_ald k (pc + 1) L st h
  | .istore k => mx_ist k (pc + 2) L st h
  | .istore_n k => mx_ist k (pc + 1) L st h
  | .astore k => mx_ast k (pc + 2) L st h
  | .astore_n k => mx_ast k (pc + 1) L st h
  | .iinc k n => mx_inc k n (pc + 3) L st h
  | .iadd => mx_bin (fun x y => x + y) pc L st h
  | .isub => mx_bin (fun x y => x - y) pc L st h
  | .imul => mx_bin (fun x y => x * y) pc L st h
  | .iand => mx_bin (fun x y => x &&& y) pc L st h
  | .ior => mx_bin (fun x y => x ||| y) pc L st h
  | .ixor => mx_bin (fun x y => x ^^^ y) pc L st h
  | .ishl => mx_bin (fun x y => x <<< (y &&& 31)) pc L st h
  | .ishr => mx_bin (fun x y => x >>> (y &&& 31)) pc L st h
  | .iushr => mx_bin (fun x y => (x.toUInt32 >>> (y.toUInt32 &&& Int32.toUInt32 31)).toInt32) pc L st h
  | .idiv => mx_dvd (fun x y => x / y) pc L st h
  | .irem => mx_dvd (fun x y => x - x / y * y) pc L st h
  | .goto off => mx_nx ((pc : Int) + off).toNat L st h
  | .ifCond c off => mx_if1 c off pc L st h
  | .if_icmp c off => mx_if2 c off pc L st h
  | .tableswitch dflt lo hi offs => mx_tsw dflt lo hi offs pc L st h
  | .getfield _ => mx_gf aux pc L st h
  | .putfield _ => mx_pf aux pc L st h
  | .getstatic _ => (match aux with
    | [k, _] => mx_nx (pc + 3) L (.ref (1000 + k) :: st) h
    | _ => none)
  | .iaload => mx_iald pc L st h
  | .iastore => mx_iast pc L st h
  | .baload => mx_zald pc L st h
  | .bastore => mx_zast pc L st h
  | .aaload => mx_aald pc L st h
  | .aastore => mx_aast pc L st h
  | .arraylength => mx_alen pc L st h
  | .dup => mx_dup pc L st h
  | .dup2 => mx_dup2 pc L st h
  | .pop => mx_pop pc L st h
  | .new _ => mx_new aux pc L st h
  | .newarray _ => mx_newa aux pc L st h
  | .anewarray _ => mx_newq pc L st h
  | .invokestatic _ => mx_cS aux d pc L st h
  | .invokevirtual _ => mx_cV aux d st h
  | .invokespecial _ => mx_cI aux d pc L st h
  | .ireturn => mx_iret rt st
  | .return_ => mx_vret rt st
  | _ => none
def mx_ins (j pc : Nat) : Option mx_I := match mx_tb[j]? with
  | some t => t.lookup pc
  | none => none
def mx_st (d j pc : Nat) (L st : List Value) (h : mx_H) : Option mx_N := match mx_hd[j]?, mx_ins j pc with
  | some q, some (i, _, aux) => mx_do i aux q.2.2.2.1 d pc L st h
  | _, _ => none
/-- the locals with which method k begins -/
def mx_en (k : Nat) (as : List Value) : List Value := as ++ List.replicate (((mx_hd[k]?).map (fun q => q.2.2.1)).getD 0 - as.length) .null
def mx_ev : Nat → Nat → Nat → Nat → List Value → List Value → mx_H → Option mx_R
  | 0, _, _, _, _, _, _ => none
  | n + 1, d, j, pc, L, st, h => match mx_st d j pc L st h with
    | none => none
    | some (.inl (pc', L', st', h')) => mx_ev n d j pc' L' st' h'
    | some (.inr (.inl (d', k, as, rest))) => (match mx_ev n d' k 0 (mx_en k as) [] h with
      | none => none
      | some (v, h') => if mx_fr h.1.length h'.1.length L rest then mx_ev n d j (pc + 3) L (v.toList ++ rest) h' else none)
    | some (.inr (.inr v)) => some (v, h)
theorem mx_ev_mono1 : ∀ (n d j pc : Nat) (L st : List Value) (h : mx_H) (r : mx_R), mx_ev n d j pc L st h = some r → mx_ev (n + 1) d j pc L st h = some r := by
  intro n
  induction n with
  | zero => intro d j pc L st h r hr; simp [mx_ev] at hr
  | succ n ih =>
    intro d j pc L st h r hr
    rw [mx_ev] at hr ⊢
    cases hs : mx_st d j pc L st h with
    | none => rw [hs] at hr; simp at hr
    | some o =>
      rw [hs] at hr
      match o, hr with
      | .inl (pc', L', st', h'), hr => exact ih _ _ _ _ _ _ _ hr
      | .inr (.inl (d', k, as, rest)), hr =>
        dsimp only at hr ⊢
        cases hc : mx_ev n d' k 0 (mx_en k as) [] h with
        | none => rw [hc] at hr; simp at hr
        | some q =>
          rw [hc] at hr
          rw [ih _ _ _ _ _ _ _ hc]
          obtain ⟨v, h'⟩ := q
          dsimp only at hr ⊢
          by_cases hf : mx_fr h.1.length h'.1.length L rest = true
          · rw [if_pos hf] at hr ⊢
            exact ih _ _ _ _ _ _ _ hr
          · rw [if_neg hf] at hr
            cases hr
      | .inr (.inr v), hr => exact hr
theorem mx_ev_mono {n d j pc : Nat} {L st : List Value} {h : mx_H} {r : mx_R} (hr : mx_ev n d j pc L st h = some r) : ∀ {m : Nat}, n ≤ m → mx_ev m d j pc L st h = some r := by
  intro m hm
  induction hm with
  | refl => exact hr
  | step _ ih => exact mx_ev_mono1 _ _ _ _ _ _ _ _ ih
theorem mx_ex (d j pc : Nat) (L st : List Value) (h : mx_H) : ∃ o : Option mx_R, ∀ r, o = some r ↔ ∃ n, mx_ev n d j pc L st h = some r := by
  by_cases hx : ∃ r n, mx_ev n d j pc L st h = some r
  · obtain ⟨r, n, hn⟩ := hx
    refine ⟨some r, fun r' => ⟨fun e => ⟨n, by rw [hn, e]⟩, fun ⟨m, hm⟩ => ?_⟩⟩
    have h1 := mx_ev_mono hn (Nat.le_max_left n m)
    have h2 := mx_ev_mono hm (Nat.le_max_right n m)
    rw [h1] at h2
    exact h2
  · exact ⟨none, fun r => ⟨fun e => (by cases e), fun ⟨n, hn⟩ => absurd ⟨r, n, hn⟩ hx⟩⟩
/-- the answer of a run from a frame on (none: it is stuck, or does not end) -/
noncomputable def vv (d j pc : Nat) (L st : List Value) (h : mx_H) : Option mx_R := Classical.choose (mx_ex d j pc L st h)
theorem vv_iff {d j pc : Nat} {L st : List Value} {h : mx_H} {r : mx_R} : vv d j pc L st h = some r ↔ ∃ n, mx_ev n d j pc L st h = some r := Classical.choose_spec (mx_ex d j pc L st h) r
noncomputable def vr (o : Option mx_R) (d j pc : Nat) (L st : List Value) (n : Nat) : Option mx_R := match o with
  | none => none
  | some (v, h') => if mx_fr n h'.1.length L st then vv d j pc L (v.toList ++ st) h' else none
noncomputable def vs (o : Option mx_N) (d j pc : Nat) (L : List Value) (h : mx_H) : Option mx_R := match o with
  | none => none
  | some (.inl (pc', L', st', h')) => vv d j pc' L' st' h'
  | some (.inr (.inl (d', k, as, rest))) => vr (vv d' k 0 (mx_en k as) [] h) d j (pc + 3) L rest h.1.length
  | some (.inr (.inr v)) => some (v, h)
theorem mx_oe {α : Type} {a b : Option α} (h : ∀ r, a = some r ↔ b = some r) : a = b := by
  cases a with
  | none =>
    cases b with
    | none => rfl
    | some x => exact absurd ((h x).mpr rfl) (by simp)
  | some x => exact ((h x).mp rfl).symm
theorem vv_eq (d j pc : Nat) (L st : List Value) (h : mx_H) : vv d j pc L st h = vs (mx_st d j pc L st h) d j pc L h := by
  refine mx_oe fun r => ?_
  rw [vv_iff]
  have key : ∀ n, mx_ev (n + 1) d j pc L st h = (match mx_st d j pc L st h with
    | none => none
    | some (.inl (pc', L', st', h')) => mx_ev n d j pc' L' st' h'
    | some (.inr (.inl (d', k, as, rest))) => (match mx_ev n d' k 0 (mx_en k as) [] h with
      | none => none
      | some (v, h') => if mx_fr h.1.length h'.1.length L rest then mx_ev n d j (pc + 3) L (v.toList ++ rest) h' else none)
    | some (.inr (.inr v)) => some (v, h)) := fun n => by rw [mx_ev]
  constructor
  · rintro ⟨n, hn⟩
    cases n with
    | zero => simp [mx_ev] at hn
    | succ n =>
      rw [key] at hn
      cases hs : mx_st d j pc L st h with
      | none => rw [hs] at hn; simp at hn
      | some o =>
        rw [hs] at hn
        match o, hn with
        | .inl (pc', L', st', h'), hn => exact vv_iff.mpr ⟨n, hn⟩
        | .inr (.inl (d', k, as, rest)), hn =>
          dsimp only at hn
          show vr (vv d' k 0 (mx_en k as) [] h) d j (pc + 3) L rest h.1.length = some r
          cases hc : mx_ev n d' k 0 (mx_en k as) [] h with
          | none => rw [hc] at hn; simp at hn
          | some q =>
            rw [hc] at hn
            rw [vv_iff.mpr ⟨n, hc⟩]
            obtain ⟨v, h'⟩ := q
            dsimp only [vr] at hn ⊢
            by_cases hf : mx_fr h.1.length h'.1.length L rest = true
            · rw [if_pos hf] at hn ⊢
              exact vv_iff.mpr ⟨n, hn⟩
            · rw [if_neg hf] at hn
              cases hn
        | .inr (.inr v), hn => exact hn
  · intro hn
    cases hs : mx_st d j pc L st h with
    | none => rw [hs] at hn; simp [vs] at hn
    | some o =>
      rw [hs] at hn
      match o, hn, hs with
      | .inl (pc', L', st', h'), hn, hs =>
        obtain ⟨n, h1⟩ := vv_iff.mp (show vv d j pc' L' st' h' = some r from hn)
        exact ⟨n + 1, by rw [key, hs]; exact h1⟩
      | .inr (.inl (d', k, as, rest)), hn, hs =>
        have hn : vr (vv d' k 0 (mx_en k as) [] h) d j (pc + 3) L rest h.1.length = some r := hn
        cases hc : vv d' k 0 (mx_en k as) [] h with
        | none => rw [hc] at hn; simp [vr] at hn
        | some q =>
          rw [hc] at hn
          obtain ⟨v, h'⟩ := q
          dsimp only [vr] at hn
          by_cases hf : mx_fr h.1.length h'.1.length L rest = true
          · rw [if_pos hf] at hn
            obtain ⟨n1, e1⟩ := vv_iff.mp hc
            obtain ⟨n2, e2⟩ := vv_iff.mp hn
            refine ⟨max n1 n2 + 1, ?_⟩
            rw [key, hs]
            dsimp only
            rw [mx_ev_mono e1 (Nat.le_max_left n1 n2)]
            dsimp only
            rw [if_pos hf]
            exact mx_ev_mono e2 (Nat.le_max_right n1 n2)
          · rw [if_neg hf] at hn
            cases hn
      | .inr (.inr v), hn, hs => exact ⟨1, by rw [key, hs]; exact hn⟩
