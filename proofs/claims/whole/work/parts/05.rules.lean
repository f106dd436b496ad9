/-! the run's answer, instruction by instruction: general rows -/
def mx_rt (j : Nat) : Option (Option FieldType) := (mx_hd[j]?).map (fun q => q.2.2.2.1)
theorem vv_do {d j pc : Nat} {L st : List Value} {h : mx_H} {rt : Option FieldType} {i : Instr} {len : Nat} {aux : List Nat} (hq : mx_rt j = some rt) (hi : mx_ins j pc = some (i, len, aux)) : vv d j pc L st h = vs (mx_do i aux rt d pc L st h) d j pc L h := by
  rw [vv_eq]
  unfold mx_st
  unfold mx_rt at hq
  cases hj : mx_hd[j]? with
  | none => rw [hj] at hq; cases hq
  | some q =>
    rw [hj] at hq
    rw [hi]
    cases hq
    rfl
noncomputable def vg (o : Option Value) (d j pc : Nat) (L st : List Value) (h : mx_H) : Option mx_R := match o with
  | some v => vv d j pc L (v :: st) h
  | none => none
theorem vg_some {v : Value} {d j pc : Nat} {L st : List Value} {h : mx_H} : vg (some v) d j pc L st h = vv d j pc L (v :: st) h := rfl
theorem mx_fr_self {n : Nat} {L st : List Value} : mx_fr n n L st = true := by simp [mx_fr]
theorem vr_v {v : Value} {d j pc : Nat} {L st : List Value} {sh : List mx_C} {σ : mx_S} : vr (some (some v, (sh, σ))) d j pc L st sh.length = vv d j pc L (v :: st) (sh, σ) := by
  unfold vr
  simp [mx_fr_self]
theorem vr_n {d j pc : Nat} {L st : List Value} {sh : List mx_C} {σ : mx_S} : vr (some (none, (sh, σ))) d j pc L st sh.length = vv d j pc L st (sh, σ) := by
  unfold vr
  simp [mx_fr_self]
theorem vr_f {v : Option Value} {d j pc n : Nat} {L st : List Value} {h : mx_H} (hf : mx_fr n h.1.length L st = true) : vr (some (v, h)) d j pc L st n = vv d j pc L (v.toList ++ st) h := by
  unfold vr
  simp [hf]
section V
variable {d j pc : Nat} {L st : List Value} {h : mx_H} {sh : List mx_C} {σ : mx_S} {rt : Option FieldType} {len : Nat} {aux : List Nat}
theorem v_iconst {n : Int} {v : Int32} (hq : mx_rt j = some rt) (hi : mx_ins j pc = some (.iconst n, len, aux)) (hv : Int32.ofInt n = v) : vv d j pc L st h = vv d j (pc + 1) L (.int v :: st) h := by
  rw [vv_do hq hi, ← hv]; rfl
theorem v_bipush {n : Int} {v : Int32} (hq : mx_rt j = some rt) (hi : mx_ins j pc = some (.bipush n, len, aux)) (hv : (Int8.ofInt n).toInt32 = v) : vv d j pc L st h = vv d j (pc + 2) L (.int v :: st) h := by
  rw [vv_do hq hi, ← hv]; rfl
theorem v_sipush {n : Int} {v : Int32} (hq : mx_rt j = some rt) (hi : mx_ins j pc = some (.sipush n, len, aux)) (hv : (Int16.ofInt n).toInt32 = v) : vv d j pc L st h = vv d j (pc + 3) L (.int v :: st) h := by
  rw [vv_do hq hi, ← hv]; rfl
theorem v_ldc {ix p0 z : Nat} {v : Int32} (hq : mx_rt j = some rt) (hi : mx_ins j pc = some (.ldc ix, len, [z, p0])) (hv : Int32.ofNat z = v) : vv d j pc L st h = vv d j (pc + 2) L (.int v :: st) h := by
  rw [vv_do hq hi, ← hv]; rfl
theorem v_ldcw {ix p0 z : Nat} {v : Int32} (hq : mx_rt j = some rt) (hi : mx_ins j pc = some (.ldc_w ix, len, [z, p0])) (hv : Int32.ofNat z = v) : vv d j pc L st h = vv d j (pc + 3) L (.int v :: st) h := by
  rw [vv_do hq hi, ← hv]; rfl
theorem v_goto {off : Int} {t : Nat} (hq : mx_rt j = some rt) (hi : mx_ins j pc = some (.goto off, len, aux)) (ht : ((pc : Int) + off).toNat = t) : vv d j pc L st h = vv d j t L st h := by
  rw [vv_do hq hi, ← ht]; rfl
theorem v_ite {c : Bool} {P : Prop} [Decidable P] (hc : c = true ↔ P) {a b : Nat} : vv d j (if c = true then a else b) L st h = if P then vv d j a L st h else vv d j b L st h := by
  by_cases hP : P
  · rw [if_pos hP, if_pos (hc.mpr hP)]
  · rw [if_neg hP, if_neg (fun z => hP (hc.mp z))]
theorem v_ifeq {off : Int} {t : Nat} {x : Int32} (hq : mx_rt j = some rt) (hi : mx_ins j pc = some (.ifCond .eq off, len, aux)) (ht : ((pc : Int) + off).toNat = t) : vv d j pc L (.int x :: st) h = if x = 0 then vv d j t L st h else vv d j (pc + 3) L st h := by
  rw [vv_do hq hi, ← ht]; exact v_ite (by simp [mx_c1])
theorem v_ifne {off : Int} {t : Nat} {x : Int32} (hq : mx_rt j = some rt) (hi : mx_ins j pc = some (.ifCond .ne off, len, aux)) (ht : ((pc : Int) + off).toNat = t) : vv d j pc L (.int x :: st) h = if x = 0 then vv d j (pc + 3) L st h else vv d j t L st h := by
  rw [vv_do hq hi, ← ht]
  refine (v_ite (P := ¬ x = 0) (by simp [mx_c1])).trans ?_
  by_cases hx : x = 0 <;> simp [hx]
theorem v_iflt {off : Int} {t : Nat} {x : Int32} (hq : mx_rt j = some rt) (hi : mx_ins j pc = some (.ifCond .lt off, len, aux)) (ht : ((pc : Int) + off).toNat = t) : vv d j pc L (.int x :: st) h = if x < 0 then vv d j t L st h else vv d j (pc + 3) L st h := by
  rw [vv_do hq hi, ← ht]; exact v_ite (by simp [mx_c1])
theorem v_ifge {off : Int} {t : Nat} {x : Int32} (hq : mx_rt j = some rt) (hi : mx_ins j pc = some (.ifCond .ge off, len, aux)) (ht : ((pc : Int) + off).toNat = t) : vv d j pc L (.int x :: st) h = if 0 ≤ x then vv d j t L st h else vv d j (pc + 3) L st h := by
  rw [vv_do hq hi, ← ht]; exact v_ite (by simp [mx_c1])
theorem v_ifgt {off : Int} {t : Nat} {x : Int32} (hq : mx_rt j = some rt) (hi : mx_ins j pc = some (.ifCond .gt off, len, aux)) (ht : ((pc : Int) + off).toNat = t) : vv d j pc L (.int x :: st) h = if 0 < x then vv d j t L st h else vv d j (pc + 3) L st h := by
  rw [vv_do hq hi, ← ht]; exact v_ite (by simp [mx_c1])
theorem v_ifle {off : Int} {t : Nat} {x : Int32} (hq : mx_rt j = some rt) (hi : mx_ins j pc = some (.ifCond .le off, len, aux)) (ht : ((pc : Int) + off).toNat = t) : vv d j pc L (.int x :: st) h = if x ≤ 0 then vv d j t L st h else vv d j (pc + 3) L st h := by
  rw [vv_do hq hi, ← ht]; exact v_ite (by simp [mx_c1])
theorem v_iceq {off : Int} {t : Nat} {x y : Int32} (hq : mx_rt j = some rt) (hi : mx_ins j pc = some (.if_icmp .eq off, len, aux)) (ht : ((pc : Int) + off).toNat = t) : vv d j pc L (.int y :: .int x :: st) h = if x = y then vv d j t L st h else vv d j (pc + 3) L st h := by
  rw [vv_do hq hi, ← ht]; exact v_ite (by simp [mx_c2])
theorem v_icne {off : Int} {t : Nat} {x y : Int32} (hq : mx_rt j = some rt) (hi : mx_ins j pc = some (.if_icmp .ne off, len, aux)) (ht : ((pc : Int) + off).toNat = t) : vv d j pc L (.int y :: .int x :: st) h = if x = y then vv d j (pc + 3) L st h else vv d j t L st h := by
  rw [vv_do hq hi, ← ht]
  refine (v_ite (P := ¬ x = y) (by simp [mx_c2])).trans ?_
  by_cases hx : x = y <;> simp [hx]
theorem v_iclt {off : Int} {t : Nat} {x y : Int32} (hq : mx_rt j = some rt) (hi : mx_ins j pc = some (.if_icmp .lt off, len, aux)) (ht : ((pc : Int) + off).toNat = t) : vv d j pc L (.int y :: .int x :: st) h = if x < y then vv d j t L st h else vv d j (pc + 3) L st h := by
  rw [vv_do hq hi, ← ht]; exact v_ite (by simp [mx_c2])
theorem v_nlt {x y : Int32} : (y ≤ x) ↔ ¬ x < y := Int32.not_lt.symm
theorem v_icge {off : Int} {t : Nat} {x y : Int32} (hq : mx_rt j = some rt) (hi : mx_ins j pc = some (.if_icmp .ge off, len, aux)) (ht : ((pc : Int) + off).toNat = t) : vv d j pc L (.int y :: .int x :: st) h = if x < y then vv d j (pc + 3) L st h else vv d j t L st h := by
  rw [vv_do hq hi, ← ht]
  refine (v_ite (P := y ≤ x) (by simp [mx_c2])).trans ?_
  by_cases hx : x < y
  · rw [if_neg (fun z => v_nlt.mp z hx), if_pos hx]
  · rw [if_pos (v_nlt.mpr hx), if_neg hx]
theorem v_icgt {off : Int} {t : Nat} {x y : Int32} (hq : mx_rt j = some rt) (hi : mx_ins j pc = some (.if_icmp .gt off, len, aux)) (ht : ((pc : Int) + off).toNat = t) : vv d j pc L (.int y :: .int x :: st) h = if y < x then vv d j t L st h else vv d j (pc + 3) L st h := by
  rw [vv_do hq hi, ← ht]; exact v_ite (by simp [mx_c2])
theorem v_icle {off : Int} {t : Nat} {x y : Int32} (hq : mx_rt j = some rt) (hi : mx_ins j pc = some (.if_icmp .le off, len, aux)) (ht : ((pc : Int) + off).toNat = t) : vv d j pc L (.int y :: .int x :: st) h = if y < x then vv d j (pc + 3) L st h else vv d j t L st h := by
  rw [vv_do hq hi, ← ht]
  refine (v_ite (P := x ≤ y) (by simp [mx_c2])).trans ?_
  by_cases hx : y < x
  · rw [if_neg (fun z => v_nlt.mp z hx), if_pos hx]
  · rw [if_pos (v_nlt.mpr hx), if_neg hx]
theorem v_tin {dflt lo hi off : Int} {offs : Array Int} {x : Int32} {t : Nat} (hq : mx_rt j = some rt) (hi' : mx_ins j pc = some (.tableswitch dflt lo hi offs, len, aux)) (h1 : ¬ (x.toInt < lo ∨ hi < x.toInt)) (ho : offs[(x.toInt - lo).toNat]? = some off) (ht : ((pc : Int) + off).toNat = t) : vv d j pc L (.int x :: st) h = vv d j t L st h := by
  rw [vv_do hq hi', ← ht]
  simp only [mx_do, mx_tsw, if_neg h1, ho]
  rfl
theorem v_tout {dflt lo hi : Int} {offs : Array Int} {x : Int32} {t : Nat} (hq : mx_rt j = some rt) (hi' : mx_ins j pc = some (.tableswitch dflt lo hi offs, len, aux)) (ht : ((pc : Int) + dflt).toNat = t) (h1 : x.toInt < lo ∨ hi < x.toInt) : vv d j pc L (.int x :: st) h = vv d j t L st h := by
  rw [vv_do hq hi', ← ht]
  simp only [mx_do, mx_tsw, if_pos h1]
  rfl
theorem v_gf {ix ci k n0 pl c : Nat} (hq : mx_rt j = some rt) (hi : mx_ins j pc = some (.getfield ix, len, [ci, k, n0, pl])) : vv d j pc L (.ref c :: st) h = vg (mx_fld h ci k c) d j (pc + 3) L st h := by
  rw [vv_do hq hi]
  simp only [mx_do, mx_gf]
  cases mx_fld h ci k c <;> rfl
theorem v_pf {ix ci k kind pl c : Nat} {x : Int32} (hq : mx_rt j = some rt) (hi : mx_ins j pc = some (.putfield ix, len, [ci, k, kind, 0, pl])) (hk : ¬ kind = 1) : vv d j pc L (.int x :: .ref c :: st) (sh, σ) = if mx_isI sh ci k c = true then vv d j (pc + 3) L st (sh, mx_up σ c k x) else none := by
  rw [vv_do hq hi]
  simp only [mx_do, mx_pf]
  by_cases hI : mx_isI sh ci k c = true
  · rw [if_pos ⟨hk, hI, Or.inl trivial⟩, if_pos hI]; rfl
  · rw [if_neg (fun z => hI z.2.1), if_neg hI]; rfl
theorem v_pfB {ix ci k kind pl c : Nat} {x : Int32} (hq : mx_rt j = some rt) (hi : mx_ins j pc = some (.putfield ix, len, [ci, k, kind, 1, pl])) (hk : ¬ kind = 1) (hx : x = 0 ∨ x = 1) : vv d j pc L (.int x :: .ref c :: st) (sh, σ) = if mx_isI sh ci k c = true then vv d j (pc + 3) L st (sh, mx_up σ c k x) else none := by
  rw [vv_do hq hi]
  simp only [mx_do, mx_pf]
  by_cases hI : mx_isI sh ci k c = true
  · rw [if_pos ⟨hk, hI, Or.inr hx⟩, if_pos hI]; rfl
  · rw [if_neg (fun z => hI z.2.1), if_neg hI]; rfl
theorem v_pfR {ix ci k n0 pl c v : Nat} {sh' : List mx_C} (hq : mx_rt j = some rt) (hi : mx_ins j pc = some (.putfield ix, len, [ci, k, 1, n0, pl])) (hs : mx_setR sh ci k c v = some sh') : vv d j pc L (.ref v :: .ref c :: st) (sh, σ) = vv d j (pc + 3) L st (sh', σ) := by
  rw [vv_do hq hi]
  simp only [mx_do, mx_pf, if_true, hs]
  rfl
theorem v_iald {c : Nat} {i : Int32} (hq : mx_rt j = some rt) (hi : mx_ins j pc = some (.iaload, len, aux)) : vv d j pc L (.int i :: .ref c :: st) (sh, σ) = if mx_in i (mx_len (sh, σ) c) = true then vv d j (pc + 1) L (.int (σ c i.toNatClampNeg) :: st) (sh, σ) else none := by
  rw [vv_do hq hi]
  simp only [mx_do, mx_iald]
  by_cases hI : mx_in i (mx_len (sh, σ) c) = true
  · rw [if_pos hI, if_pos hI]; rfl
  · rw [if_neg hI, if_neg hI]; rfl
theorem v_iast {c : Nat} {i x : Int32} (hq : mx_rt j = some rt) (hi : mx_ins j pc = some (.iastore, len, aux)) : vv d j pc L (.int x :: .int i :: .ref c :: st) (sh, σ) = if mx_in i (mx_lenW sh c 0) = true then vv d j (pc + 1) L st (sh, mx_up σ c i.toNatClampNeg x) else none := by
  rw [vv_do hq hi]
  simp only [mx_do, mx_iast]
  by_cases hI : mx_in i (mx_lenW sh c 0) = true
  · rw [if_pos hI, if_pos hI]; rfl
  · rw [if_neg hI, if_neg hI]; rfl
theorem v_zald {c : Nat} {i : Int32} (hq : mx_rt j = some rt) (hi : mx_ins j pc = some (.baload, len, aux)) : vv d j pc L (.int i :: .ref c :: st) (sh, σ) = if mx_in i (mx_lenW sh c 1) = true then vv d j (pc + 1) L (.int (σ c i.toNatClampNeg) :: st) (sh, σ) else none := by
  rw [vv_do hq hi]
  simp only [mx_do, mx_zald]
  by_cases hI : mx_in i (mx_lenW sh c 1) = true
  · rw [if_pos hI, if_pos hI]; rfl
  · rw [if_neg hI, if_neg hI]; rfl
theorem v_zast {c : Nat} {i x : Int32} (hq : mx_rt j = some rt) (hi : mx_ins j pc = some (.bastore, len, aux)) (hx : x = 0 ∨ x = 1) : vv d j pc L (.int x :: .int i :: .ref c :: st) (sh, σ) = if mx_in i (mx_lenW sh c 1) = true then vv d j (pc + 1) L st (sh, mx_up σ c i.toNatClampNeg x) else none := by
  rw [vv_do hq hi]
  simp only [mx_do, mx_zast]
  by_cases hI : mx_in i (mx_lenW sh c 1) = true
  · rw [if_pos ⟨hI, hx⟩, if_pos hI]; rfl
  · rw [if_neg (fun z => hI z.1), if_neg hI]; rfl
theorem v_aald {c v : Nat} {i : Int32} {l : List (Option Nat)} (hq : mx_rt j = some rt) (hi : mx_ins j pc = some (.aaload, len, aux)) (hc : sh[c]? = some (.inr (.inr l))) (hn : mx_in i l.length = true) (hv : l[i.toNatClampNeg]? = some (some v)) : vv d j pc L (.int i :: .ref c :: st) (sh, σ) = vv d j (pc + 1) L (.ref v :: st) (sh, σ) := by
  rw [vv_do hq hi]
  simp only [mx_do, mx_aald, mx_rows, hc, if_pos hn, hv]
  rfl
theorem v_aast {c v : Nat} {i : Int32} {l : List (Option Nat)} {fs : List (Option (Option Nat))} (hq : mx_rt j = some rt) (hi : mx_ins j pc = some (.aastore, len, aux)) (hw : sh[v]? = some (.inl (3, fs))) (hc : sh[c]? = some (.inr (.inr l))) (hn : mx_in i l.length = true) : vv d j pc L (.ref v :: .int i :: .ref c :: st) (sh, σ) = vv d j (pc + 1) L st (sh.set c (.inr (.inr (l.set i.toNatClampNeg (some v)))), σ) := by
  rw [vv_do hq hi]
  simp only [mx_do, mx_aast, hw, hc, if_pos hn]
  rfl
theorem v_alen {c n : Nat} (hq : mx_rt j = some rt) (hi : mx_ins j pc = some (.arraylength, len, aux)) (hc : sh[c]? = some (.inr (.inl (0, n)))) (h1 : c < 1000) : vv d j pc L (.ref c :: st) (sh, σ) = vv d j (pc + 1) L (.int (nI n) :: st) (sh, σ) := by
  rw [vv_do hq hi]
  simp only [mx_do, mx_alen, if_neg (Nat.not_le.mpr h1), hc]
  rfl
theorem v_alenX (hq : mx_rt j = some rt) (hi : mx_ins j pc = some (.arraylength, len, aux)) : vv d j pc L (.ref 1003 :: st) (sh, σ) = vv d j (pc + 1) L (.int (σ 2000 3) :: st) (sh, σ) := by
  rw [vv_do hq hi]; rfl
theorem v_cl {n k dc : Nat} {as rest : List Value} {o : Option mx_N} (ho : o = mx_cl n k dc d st) (h1 : (st.take n).reverse = as) (h2 : st.drop n = rest) (h3 : n ≤ st.length) (h4 : mx_dd d dc < d) (h5 : rest.length ≤ 8) : vs o d j pc L h = vr (vv (mx_dd d dc) k 0 (mx_en k as) [] h) d j (pc + 3) L rest h.1.length := by
  rw [ho]
  unfold mx_cl
  rw [if_pos ⟨h3, h4, by rw [h2]; exact h5⟩, h1, h2]
  rfl
theorem v_cS {ix n k dc p1 p2 p3 : Nat} {as rest : List Value} (hq : mx_rt j = some rt) (hi : mx_ins j pc = some (.invokestatic ix, len, [k, dc, n, p1, p2, p3])) (h1 : (st.take n).reverse = as) (h2 : st.drop n = rest) (h3 : n ≤ st.length) (h4 : mx_dd d dc < d) (h5 : rest.length ≤ 8) : vv d j pc L st h = vr (vv (mx_dd d dc) k 0 (mx_en k as) [] h) d j (pc + 3) L rest h.1.length := by
  rw [vv_do hq hi]; exact v_cl rfl h1 h2 h3 h4 h5
theorem v_cV {ix n k dc p1 p2 p3 p4 ci c : Nat} {as rest : List Value} (hq : mx_rt j = some rt) (hi : mx_ins j pc = some (.invokevirtual ix, len, [k, dc, n, p1, p2, p3, p4, ci])) (h1 : (st.take (n + 1)).reverse = as) (h2 : st.drop (n + 1) = rest) (h3 : n + 1 ≤ st.length) (h4 : mx_dd d dc < d) (h5 : rest.length ≤ 8) (hr : mx_isR ci h st[n]? = true) : vv d j pc L st h = vr (vv (mx_dd d dc) k 0 (mx_en k as) [] h) d j (pc + 3) L rest h.1.length := by
  rw [vv_do hq hi]
  refine v_cl ?_ h1 h2 h3 h4 h5
  simp only [mx_do, mx_cV, if_pos hr]
theorem v_cI {ix n k dc p1 p2 p3 ne c : Nat} {as rest : List Value} (hq : mx_rt j = some rt) (hi : mx_ins j pc = some (.invokespecial ix, len, [k, dc, n, p1, p2, p3, ne])) (h1 : (st.take (n + 1)).reverse = as) (h2 : st.drop (n + 1) = rest) (h3 : n + 1 ≤ st.length) (h4 : mx_dd d dc < d) (h5 : rest.length ≤ 8) (hr : st[n]? = some (.ref c)) : vv d j pc L st h = vr (vv (mx_dd d dc) k 0 (mx_en k as) [] h) d j (pc + 3) L rest h.1.length := by
  rw [vv_do hq hi]
  refine v_cl ?_ h1 h2 h3 h4 h5
  simp only [mx_do, mx_cI, hr]
theorem v_inc {k : Nat} {n : Int} {x v : Int32} (hq : mx_rt j = some rt) (hi : mx_ins j pc = some (.iinc k n, len, aux)) (hL : L[k]? = some (.int x)) (hv : Int32.ofInt n = v) : vv d j pc L st h = vv d j (pc + 3) (L.set k (.int (x + v))) st h := by
  rw [vv_do hq hi, ← hv]
  simp only [mx_do, mx_inc, hL]
  rfl
theorem v_idiv {x y : Int32} (hq : mx_rt j = some rt) (hi : mx_ins j pc = some (.idiv, len, aux)) : vv d j pc L (.int y :: .int x :: st) h = if y = 0 then none else vv d j (pc + 1) L (.int (x / y) :: st) h := by
  rw [vv_do hq hi]
  simp only [mx_do, mx_dvd]
  by_cases hy : y = 0
  · rw [if_pos hy, if_pos hy]; rfl
  · rw [if_neg hy, if_neg hy]; rfl
theorem v_irem {x y : Int32} (hq : mx_rt j = some rt) (hi : mx_ins j pc = some (.irem, len, aux)) : vv d j pc L (.int y :: .int x :: st) h = if y = 0 then none else vv d j (pc + 1) L (.int (x - x / y * y) :: st) h := by
  rw [vv_do hq hi]
  simp only [mx_do, mx_dvd]
  by_cases hy : y = 0
  · rw [if_pos hy, if_pos hy]; rfl
  · rw [if_neg hy, if_neg hy]; rfl
theorem v_mm {ix mm p1 p2 p3 p4 : Nat} {x y : Int32} (hq : mx_rt j = some rt) (hi : mx_ins j pc = some (.invokestatic ix, len, [mm, p1, p2, p3, p4])) (h5 : st.length ≤ 8) : vv d j pc L (.int y :: .int x :: st) h = vv d j (pc + 3) L (.int (mx_mm mm x y) :: st) h := by
  rw [vv_do hq hi]
  simp only [mx_do, mx_cS, if_pos h5]
  rfl
theorem v_obj {ix p1 c : Nat} (hq : mx_rt j = some rt) (hi : mx_ins j pc = some (.invokespecial ix, len, [p1])) (h5 : st.length ≤ 8) : vv d j pc L (.ref c :: st) h = vv d j (pc + 3) L st h := by
  rw [vv_do hq hi]
  simp only [mx_do, mx_cI, if_pos h5]
  rfl
theorem v_iret {x : Int32} (hq : mx_rt j = some (some .int)) (hi : mx_ins j pc = some (.ireturn, len, aux)) : vv d j pc L [.int x] h = some (some (.int x), h) := by
  rw [vv_do hq hi]
  simp only [mx_do, mx_iret]
  rw [if_pos (Or.inl trivial)]
  rfl
theorem v_zret {x : Int32} (hq : mx_rt j = some (some .boolean)) (hi : mx_ins j pc = some (.ireturn, len, aux)) (hx : x = 0 ∨ x = 1) : vv d j pc L [.int x] h = some (some (.int x), h) := by
  rw [vv_do hq hi]
  simp only [mx_do, mx_iret]
  rw [if_pos (Or.inr ⟨trivial, hx⟩)]
  rfl
theorem v_vret (hq : mx_rt j = some none) (hi : mx_ins j pc = some (.return_, len, aux)) : vv d j pc L [] h = some (none, h) := by
  rw [vv_do hq hi]
  simp only [mx_do, mx_vret]
  rfl
theorem v_new {ix ci p1 p2 p3 : Nat} (hq : mx_rt j = some rt) (hi : mx_ins j pc = some (.new ix, len, [ci, p1, p2, p3])) (hok : mx_ok1 sh L st = true) : vv d j pc L st (sh, σ) = vv d j (pc + 3) L (.ref sh.length :: st) (sh ++ [.inl (ci, mx_df ci)], mx_zr σ sh.length) := by
  rw [vv_do hq hi]
  simp only [mx_do, mx_new, if_pos hok]
  rfl
theorem v_newa {t p1 k : Nat} {ty : ArrayType} (hq : mx_rt j = some rt) (hi : mx_ins j pc = some (.newarray ty, len, [t, p1])) (hk : k < 1000) (hok : mx_ok1 sh L st = true) : vv d j pc L (.int (nI k) :: st) (sh, σ) = vv d j (pc + 2) L (.ref sh.length :: st) (sh ++ [.inr (.inl (t, k))], mx_zr σ sh.length) := by
  have h1 := nI_clamp (n := k) (by omega)
  rw [vv_do hq hi]
  simp only [mx_do, mx_newa, h1]
  rw [if_pos ⟨hok, nI_pos (by omega), hk⟩]
  rfl
theorem v_newq {ix p1 k : Nat} (hq : mx_rt j = some rt) (hi : mx_ins j pc = some (.anewarray ix, len, [p1])) (hk : k < 1000) (hok : mx_ok1 sh L st = true) : vv d j pc L (.int (nI k) :: st) (sh, σ) = vv d j (pc + 3) L (.ref sh.length :: st) (sh ++ [.inr (.inr (List.replicate k none))], mx_zr σ sh.length) := by
  have h1 := nI_clamp (n := k) (by omega)
  rw [vv_do hq hi]
  simp only [mx_do, mx_newq, h1]
  rw [if_pos ⟨hok, nI_pos (by omega), hk⟩]
  rfl
end V
def bI (b : Bool) : Int32 := if b then nI 1 else nI 0
theorem bI_0 {b : Bool} : (bI b = 0) ↔ b = false := by cases b <;> decide
theorem bI_n0 {b : Bool} : (bI b = nI 0) ↔ b = false := by cases b <;> decide
theorem bI_1 {b : Bool} : (bI b = nI 1) ↔ b = true := by cases b <;> decide
theorem bI_t : bI true = nI 1 := rfl
theorem bI_f : bI false = nI 0 := rfl
theorem bI_01 (b : Bool) : bI b = 0 ∨ bI b = 1 := by cases b <;> decide
theorem bI_if {c : Prop} [Decidable c] : (if c then nI 1 else nI 0) = bI (decide c) := by by_cases h : c <;> simp [h, bI]
theorem nI_mul (a b : Nat) : nI a * nI b = nI (a * b) := by
  apply Int32.toBitVec_inj.mp
  apply BitVec.eq_of_toNat_eq
  simp [nI, Int32.toBitVec_mul, BitVec.toNat_mul, Int32.toBitVec_ofNat, Nat.mul_mod]
theorem mx_in_nI {k n : Nat} (h : k < n) (hn : n < 2 ^ 31) : mx_in (nI k) n = true := by
  have h1 := nI_pos (n := k) (by omega)
  have h2 := nI_clamp (n := k) (by omega)
  simp [mx_in, h1, h2, h]
theorem nI_ng {k : Nat} (h : k < 2 ^ 31) : (0 ≤ nI k) = True := by simp [nI_pos' h]
