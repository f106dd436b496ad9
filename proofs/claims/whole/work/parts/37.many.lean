/-! hidden twos, those whom none hears; checks of numbers -/
def hid2 (σ : mx_S) : Int32 := sm (fun s => many (mk (fun b => hid σ s b) 6)) 6 / nI 2
theorem n2z : (nI 2 = 0) ↔ False := by decide +kernel
theorem c_Wi_hiddenTwos {sh : List mx_C} {σ : mx_S} (hw : WI sh) : vv 5 83 0 [.ref 1, .null, .null] [] (sh, σ) = some (some (.int (hid2 σ)), (sh, σ)) := by
  rw [e_Wi_hiddenTwos_0, e_Wi_hiddenTwos_1, e_Wi_hiddenTwos_2, e_Wi_hiddenTwos_3]
  refine (it (F := fun k => vv 5 83 4 [.ref 1, .int (sm (fun s => many (mk (fun b => hid σ s b) 6)) k), .int (nI k)] [] (sh, σ)) 6 (fun k hk => ?_)).trans ?_
  · rw [e_Wi_hiddenTwos_4]
    simp (disch := first | exact wR hw | omega) only [e_Wi_hiddenTwos_0, e_Wi_hiddenTwos_1, e_Wi_hiddenTwos_2, e_Wi_hiddenTwos_3, e_Wi_hiddenTwos_5, e_Wi_hiddenTwos_7, e_Wi_hiddenTwos_10, e_Wi_hiddenTwos_11, e_Wi_hiddenTwos_12, e_Wi_hiddenTwos_13, e_Wi_hiddenTwos_16, e_Wi_hiddenTwos_19, e_Wi_hiddenTwos_20, e_Wi_hiddenTwos_21, e_Wi_hiddenTwos_24, e_Wi_hiddenTwos_27, e_Wi_hiddenTwos_28, e_Wi_hiddenTwos_29, e_Wi_hiddenTwos_30, vr_v, vr_n, vr_vh, vr_nh, vg_some, wF_0 hw, wF_1 hw, wF_2 hw, wF_3 hw, wF_4 hw, wF_5 hw, wI_5 hw, wR hw, wL_2 hw, wL_3 hw, wL_4 hw, wL_5 hw, wL_6 hw, wW_4 hw, wW_2 hw, wW_3 hw, wW_5 hw, wW_6 hw, nI_ltI, nI_add, nI_mul, nI_clamp, mx_in_nI, hk, if_true, c_Wi_hiddenFrom hw hk, c_JI_bitCount, mk_cnt, sm]
  · simp (disch := first | exact wR hw | omega) only [e_Wi_hiddenTwos_4, e_Wi_hiddenTwos_5, e_Wi_hiddenTwos_7, e_Wi_hiddenTwos_27, e_Wi_hiddenTwos_28, e_Wi_hiddenTwos_29, e_Wi_hiddenTwos_30, nI_ltI, nI_add, nI_mul, nI_clamp, mx_in_nI, Nat.lt_irrefl, if_false, hid2, n2z]
theorem c_Mo_manyHidden {σ : mx_S} (hW : WOK σ) (hc : CW σ) : vv 7 172 0 [.ref 23, .null, .null] [] (shF, σ) = some (some (.int (hid2 σ)), (shF, σ)) := by
  have e3 : ∀ s, (fun o => isS σ s o 3) = (fun b => hid σ s b) := fun s => by funext o; simp [isS]
  rw [e_Mo_manyHidden_0, e_Mo_manyHidden_1, e_Mo_manyHidden_2, e_Mo_manyHidden_3]
  refine (it (F := fun k => vv 7 172 4 [.ref 23, .int (sm (fun s => many (mk (fun b => hid σ s b) 6)) k), .int (nI k)] [] (shF, σ)) 6 (fun k hk => ?_)).trans ?_
  · rw [e_Mo_manyHidden_4]
    simp (disch := first | exact fR_0 | exact fR_1 | exact fR_7 | exact fR_11 | exact fR_19 | exact fR_20 | exact fR_23 | omega) only [e_Mo_manyHidden_0, e_Mo_manyHidden_1, e_Mo_manyHidden_2, e_Mo_manyHidden_3, e_Mo_manyHidden_5, e_Mo_manyHidden_7, e_Mo_manyHidden_10, e_Mo_manyHidden_11, e_Mo_manyHidden_12, e_Mo_manyHidden_13, e_Mo_manyHidden_14, e_Mo_manyHidden_17, e_Mo_manyHidden_20, e_Mo_manyHidden_21, e_Mo_manyHidden_22, e_Mo_manyHidden_25, e_Mo_manyHidden_28, e_Mo_manyHidden_29, e_Mo_manyHidden_30, e_Mo_manyHidden_31, vr_v, vr_n, vr_vh, vr_nh, vg_some, fF_23_0, fF_23_1, fF_23_2, fF_23_3, fI_23_3, fF_23_4, fF_23_5, fF_23_6, fI_23_6, fF_23_7, fF_23_8, fF_23_9, fF_23_10, fF_23_11, fF_23_12, fF_23_13, fF_23_14, fF_23_15, fF_23_16, fF_23_17, fF_23_18, fF_23_19, fI_23_19, fF_23_20, fI_23_20, fF_23_21, fI_23_21, fF_23_22, fI_23_22, fF_23_23, fI_23_23, fF_23_24, fI_23_24, fF_23_25, fI_23_25, fF_23_26, fI_23_26, fF_23_27, fI_23_27, fF_23_28, fI_23_28, fF_23_29, fF_23_30, fF_23_31, fR_23, fL_24, fW_24, fL_25, fW_25, fL_26, fW_26, fL_27, fW_27, fL_28, fW_28, fL_29, fW_29, fL_30, fW_30, fL_31, fW_31, fL_32, fW_32, fL_33, fW_33, fL_34, fW_34, fL_35, fW_35, fL_36, fW_36, fW_37, fL_38, fW_38, fL_39, fW_39, fL_40, fW_40, fL_41, fW_41, fL_42, fW_42, fL_43, fW_43, nI_ltI, nI_add, nI_mul, nI_clamp, mx_in_nI, hk, if_true, c_Mo_setOf hW hc hk (show 3 < 4 by decide), c_Mo_manyOf, e3, sm]
  · simp (disch := first | exact fR_0 | exact fR_1 | exact fR_7 | exact fR_11 | exact fR_19 | exact fR_20 | exact fR_23 | omega) only [e_Mo_manyHidden_4, e_Mo_manyHidden_5, e_Mo_manyHidden_7, e_Mo_manyHidden_28, e_Mo_manyHidden_29, e_Mo_manyHidden_30, e_Mo_manyHidden_31, nI_ltI, nI_add, nI_mul, nI_clamp, mx_in_nI, Nat.lt_irrefl, if_false, hid2, n2z]
/-- whether some of the first n hears a -/
def anyh (σ : mx_S) (a : Nat) : Nat → Bool
  | 0 => false
  | n + 1 => anyh σ a n || hx σ n a
def unh (σ : mx_S) : Int32 := sm (fun a => bI (!(anyh σ a 6))) 6
theorem m6_un : ∀ b0 b1 b2 b3 b4 b5 : Bool, nI 6 - bcn (m6 b0 b1 b2 b3 b4 b5) = nI 0 + bI (!b0) + bI (!b1) + bI (!b2) + bI (!b3) + bI (!b4) + bI (!b5) := by decide +kernel
theorem m6_z : ∀ b0 b1 b2 b3 b4 b5 : Bool, decide (m6 b0 b1 b2 b3 b4 b5 = 0) = !(b0 || b1 || b2 || b3 || b4 || b5) := by decide +kernel
theorem mk_or {p q : Nat → Bool} (n : Nat) (hn : n ≤ 6) : ∀ m, m ≤ n → True := fun _ _ => trivial
theorem or_mk {p q : Nat → Bool} : mk p 6 ||| mk q 6 = mk (fun i => p i || q i) 6 := by
  have h : ∀ (r : Nat → Bool) (i : Nat) (s : Int32), i < 6 → mk r 6 ||| ob (q i) i = mk (fun z => r z || (decide (z = i) && q i)) 6 := by
    intro r i s hi
    cases hq : q i with
    | false =>
      have : (fun z => r z || (decide (z = i) && false)) = r := by funext z; simp
      rw [this]
      show mk r 6 ||| nI 0 = mk r 6
      rw [nI_0]
      simp
    | true =>
      show mk r 6 ||| (nI 1 <<< (nI i &&& 31)) = _
      rw [mk_set hi]
      refine mk_congr 6 (fun z _ => ?_)
      by_cases e : z = i <;> simp [e]
  rw [mk6 q]
  have z : mk p 6 ||| nI 0 = mk p 6 := by rw [nI_0]; simp
  simp only [← Int32.or_assoc, z]
  rw [h p 0 0 (by decide), h _ 1 0 (by decide), h _ 2 0 (by decide), h _ 3 0 (by decide), h _ 4 0 (by decide), h _ 5 0 (by decide)]
  refine mk_congr 6 (fun i hi => ?_)
  revert hi
  revert i
  refine c6 ?_ ?_ ?_ ?_ ?_ ?_ <;> simp
theorem c_Wi_unheard {sh : List mx_C} {σ : mx_S} (hw : WI sh) (hW : WOK σ) : vv 1 84 0 [.ref 1, .null, .null] [] (sh, σ) = some (some (.int (unh σ)), (sh, σ)) := by
  rw [e_Wi_unheard_0, e_Wi_unheard_1, e_Wi_unheard_2, e_Wi_unheard_3]
  have h6 : ∀ s, s < 6 → σ 6 s = mk (fun a => hx σ s a) 6 := fun s hs => by
    rw [hW.2 s hs]
    exact mk_congr 6 (fun a ha => (hx_hrp hW ha hs).symm)
  have e0 : mk (fun a => anyh σ a 0) 6 = nI 0 := show m6 false false false false false false = nI 0 by decide +kernel
  have e1 : vv 1 84 4 [.ref 1, .int (nI 0), .int (nI 0)] [] (sh, σ) = vv 1 84 4 [.ref 1, .int (mk (fun a => anyh σ a 0) 6), .int (nI 0)] [] (sh, σ) := by rw [e0]
  refine e1.trans ?_
  refine (it (F := fun k => vv 1 84 4 [.ref 1, .int (mk (fun a => anyh σ a k) 6), .int (nI k)] [] (sh, σ)) 6 (fun k hk => ?_)).trans ?_
  · rw [e_Wi_unheard_4]
    simp (disch := first | exact wR hw | omega) only [e_Wi_unheard_0, e_Wi_unheard_1, e_Wi_unheard_2, e_Wi_unheard_3, e_Wi_unheard_5, e_Wi_unheard_7, e_Wi_unheard_10, e_Wi_unheard_11, e_Wi_unheard_12, e_Wi_unheard_15, e_Wi_unheard_16, e_Wi_unheard_17, e_Wi_unheard_18, e_Wi_unheard_19, e_Wi_unheard_22, e_Wi_unheard_25, e_Wi_unheard_27, e_Wi_unheard_28, e_Wi_unheard_31, e_Wi_unheard_32, vr_v, vr_n, vr_vh, vr_nh, vg_some, wF_0 hw, wF_1 hw, wF_2 hw, wF_3 hw, wF_4 hw, wF_5 hw, wI_5 hw, wR hw, wL_2 hw, wL_3 hw, wL_4 hw, wL_5 hw, wL_6 hw, wW_4 hw, wW_2 hw, wW_3 hw, wW_5 hw, wW_6 hw, nI_ltI, nI_add, nI_mul, nI_clamp, mx_in_nI, hk, if_true, h6 k hk, or_mk, anyh]
  · simp (disch := first | exact wR hw | omega) only [e_Wi_unheard_4, e_Wi_unheard_5, e_Wi_unheard_7, e_Wi_unheard_25, e_Wi_unheard_27, e_Wi_unheard_28, e_Wi_unheard_31, e_Wi_unheard_32, vr_v, vr_n, vr_vh, vr_nh, vg_some, nI_ltI, nI_add, nI_mul, nI_clamp, mx_in_nI, Nat.lt_irrefl, if_false, c_JI_bitCount]
    exact congrArg (fun z => some (some (Value.int z), (sh, σ))) (m6_un _ _ _ _ _ _)
theorem anyh_z {σ : mx_S} {a : Nat} : (mk (fun o => hx σ o a) 6 = 0) ↔ anyh σ a 6 = false := by
  have h := m6_z (hx σ 0 a) (hx σ 1 a) (hx σ 2 a) (hx σ 3 a) (hx σ 4 a) (hx σ 5 a)
  have e : mk (fun o => hx σ o a) 6 = m6 (hx σ 0 a) (hx σ 1 a) (hx σ 2 a) (hx σ 3 a) (hx σ 4 a) (hx σ 5 a) := rfl
  rw [e]
  have h2 : (m6 (hx σ 0 a) (hx σ 1 a) (hx σ 2 a) (hx σ 3 a) (hx σ 4 a) (hx σ 5 a) = 0) ↔ (!(hx σ 0 a || hx σ 1 a || hx σ 2 a || hx σ 3 a || hx σ 4 a || hx σ 5 a)) = true := by
    rw [← h]
    simp
  rw [h2]
  simp [anyh]
theorem c_Mo_manyUnheard {σ : mx_S} (hW : WOK σ) (hc : CW σ) : vv 7 173 0 [.ref 23, .null, .null] [] (shF, σ) = some (some (.int (unh σ)), (shF, σ)) := by
  have e1 : ∀ s, (fun o => isS σ s o 1) = (fun o => hx σ o s) := fun s => by funext o; simp [isS]
  rw [e_Mo_manyUnheard_0, e_Mo_manyUnheard_1, e_Mo_manyUnheard_2, e_Mo_manyUnheard_3]
  refine (it (F := fun k => vv 7 173 4 [.ref 23, .int (sm (fun a => bI (!(anyh σ a 6))) k), .int (nI k)] [] (shF, σ)) 6 (fun k hk => ?_)).trans ?_
  · rw [e_Mo_manyUnheard_4]
    simp (disch := first | exact fR_0 | exact fR_1 | exact fR_7 | exact fR_11 | exact fR_19 | exact fR_20 | exact fR_23 | omega) only [e_Mo_manyUnheard_0, e_Mo_manyUnheard_1, e_Mo_manyUnheard_2, e_Mo_manyUnheard_3, e_Mo_manyUnheard_5, e_Mo_manyUnheard_7, e_Mo_manyUnheard_10, e_Mo_manyUnheard_11, e_Mo_manyUnheard_12, e_Mo_manyUnheard_13, e_Mo_manyUnheard_14, e_Mo_manyUnheard_17, e_Mo_manyUnheard_20, e_Mo_manyUnheard_21, e_Mo_manyUnheard_24, e_Mo_manyUnheard_25, e_Mo_manyUnheard_26, e_Mo_manyUnheard_27, e_Mo_manyUnheard_30, e_Mo_manyUnheard_33, e_Mo_manyUnheard_34, vr_v, vr_n, vr_vh, vr_nh, vg_some, fF_23_0, fF_23_1, fF_23_2, fF_23_3, fI_23_3, fF_23_4, fF_23_5, fF_23_6, fI_23_6, fF_23_7, fF_23_8, fF_23_9, fF_23_10, fF_23_11, fF_23_12, fF_23_13, fF_23_14, fF_23_15, fF_23_16, fF_23_17, fF_23_18, fF_23_19, fI_23_19, fF_23_20, fI_23_20, fF_23_21, fI_23_21, fF_23_22, fI_23_22, fF_23_23, fI_23_23, fF_23_24, fI_23_24, fF_23_25, fI_23_25, fF_23_26, fI_23_26, fF_23_27, fI_23_27, fF_23_28, fI_23_28, fF_23_29, fF_23_30, fF_23_31, fR_23, fL_24, fW_24, fL_25, fW_25, fL_26, fW_26, fL_27, fW_27, fL_28, fW_28, fL_29, fW_29, fL_30, fW_30, fL_31, fW_31, fL_32, fW_32, fL_33, fW_33, fL_34, fW_34, fL_35, fW_35, fL_36, fW_36, fW_37, fL_38, fW_38, fL_39, fW_39, fL_40, fW_40, fL_41, fW_41, fL_42, fW_42, fL_43, fW_43, nI_ltI, nI_add, nI_mul, nI_clamp, mx_in_nI, hk, if_true, c_Mo_setOf hW hc hk (show 1 < 4 by decide), e1, anyh_z, sm]
    cases anyh σ k 6 <;> simp [bI]
  · simp (disch := first | exact fR_0 | exact fR_1 | exact fR_7 | exact fR_11 | exact fR_19 | exact fR_20 | exact fR_23 | omega) only [e_Mo_manyUnheard_4, e_Mo_manyUnheard_5, e_Mo_manyUnheard_7, e_Mo_manyUnheard_33, e_Mo_manyUnheard_34, nI_ltI, nI_add, nI_mul, nI_clamp, mx_in_nI, Nat.lt_irrefl, if_false, unh]
def tw (a b : Int32) : Bool := wi a (nI 0) (nI 5) && wi b (nI 0) (nI 5) && decide (¬ a = b)
theorem c_Ml_isStation {s : Int32} {h : mx_H} : vv 1 107 0 [.int s] [] h = some (some (.int (bI (wi s (nI 0) (nI 5)))), h) := by
  simp only [e_Ml_isStation_0, e_Ml_isStation_1, e_Ml_isStation_2, e_Ml_isStation_3, e_Ml_isStation_6_0, e_Ml_isStation_6_1, e_Ml_isStation_6_b, vr_v, vr_n, vr_vh, vr_nh, vg_some, c_Ml_isWithin]
theorem c_Ml_isTone {s : Int32} {h : mx_H} : vv 1 109 0 [.int s] [] h = some (some (.int (bI (wi s (nI 0) (nI 7)))), h) := by
  simp only [e_Ml_isTone_0, e_Ml_isTone_1, e_Ml_isTone_2, e_Ml_isTone_4, e_Ml_isTone_7_0, e_Ml_isTone_7_1, e_Ml_isTone_7_b, vr_v, vr_n, vr_vh, vr_nh, vg_some, c_Ml_isWithin]
theorem c_Ml_isHalf {s : Int32} {h : mx_H} : vv 1 110 0 [.int s] [] h = some (some (.int (bI (wi s (nI 0) (nI 1)))), h) := by
  simp only [e_Ml_isHalf_0, e_Ml_isHalf_1, e_Ml_isHalf_2, e_Ml_isHalf_3, e_Ml_isHalf_6_0, e_Ml_isHalf_6_1, e_Ml_isHalf_6_b, vr_v, vr_n, vr_vh, vr_nh, vg_some, c_Ml_isWithin]
theorem c_Ml_isKey {s : Int32} {h : mx_H} : vv 1 111 0 [.int s] [] h = some (some (.int (bI (wi s (nI 0) (nI 5)))), h) := by
  simp only [e_Ml_isKey_0, e_Ml_isKey_1, e_Ml_isKey_2, e_Ml_isKey_3, e_Ml_isKey_6_0, e_Ml_isKey_6_1, e_Ml_isKey_6_b, vr_v, vr_n, vr_vh, vr_nh, vg_some, c_Ml_isWithin]
theorem c_Mo_isStation {s : Int32} {h : mx_H} : vv 1 114 0 [.int s] [] h = some (some (.int (bI (wi s (nI 0) (nI 5)))), h) := by
  simp only [e_Mo_isStation_0, e_Mo_isStation_1, e_Mo_isStation_2, e_Mo_isStation_3, e_Mo_isStation_6_0, e_Mo_isStation_6_1, e_Mo_isStation_6_b, vr_v, vr_n, vr_vh, vr_nh, vg_some, c_Mo_within]
theorem c_Mo_isTone {s : Int32} {h : mx_H} : vv 1 116 0 [.int s] [] h = some (some (.int (bI (wi s (nI 0) (nI 7)))), h) := by
  simp only [e_Mo_isTone_0, e_Mo_isTone_1, e_Mo_isTone_2, e_Mo_isTone_4, e_Mo_isTone_7_0, e_Mo_isTone_7_1, e_Mo_isTone_7_b, vr_v, vr_n, vr_vh, vr_nh, vg_some, c_Mo_within]
theorem c_Mo_isHalf {s : Int32} {h : mx_H} : vv 1 117 0 [.int s] [] h = some (some (.int (bI (wi s (nI 0) (nI 1)))), h) := by
  simp only [e_Mo_isHalf_0, e_Mo_isHalf_1, e_Mo_isHalf_2, e_Mo_isHalf_3, e_Mo_isHalf_6_0, e_Mo_isHalf_6_1, e_Mo_isHalf_6_b, vr_v, vr_n, vr_vh, vr_nh, vg_some, c_Mo_within]
theorem c_Ml_areTwo {a b : Int32} {h : mx_H} : vv 2 108 0 [.int a, .int b] [] h = some (some (.int (bI (tw a b))), h) := by
  simp only [e_Ml_areTwo_0, e_Ml_areTwo_1, e_Ml_areTwo_4, e_Ml_areTwo_7, e_Ml_areTwo_8, e_Ml_areTwo_11, e_Ml_areTwo_14, e_Ml_areTwo_15, e_Ml_areTwo_16, e_Ml_areTwo_19, e_Ml_areTwo_20, e_Ml_areTwo_23, e_Ml_areTwo_24_0, e_Ml_areTwo_24_1, e_Ml_areTwo_24_b, vr_v, vr_n, vr_vh, vr_nh, vg_some, c_Ml_isStation, bI_0, tw]
  (repeat' split) <;> simp_all [bI]
theorem c_Mo_areTwo {a b : Int32} {h : mx_H} : vv 2 115 0 [.int a, .int b] [] h = some (some (.int (bI (tw a b))), h) := by
  simp only [e_Mo_areTwo_0, e_Mo_areTwo_1, e_Mo_areTwo_4, e_Mo_areTwo_7, e_Mo_areTwo_8, e_Mo_areTwo_11, e_Mo_areTwo_14, e_Mo_areTwo_15, e_Mo_areTwo_16, e_Mo_areTwo_19, e_Mo_areTwo_20, e_Mo_areTwo_23, e_Mo_areTwo_24_0, e_Mo_areTwo_24_1, e_Mo_areTwo_24_b, vr_v, vr_n, vr_vh, vr_nh, vg_some, c_Mo_isStation, bI_0, tw]
  (repeat' split) <;> simp_all [bI]
theorem wi_of {s : Int32} {n : Nat} (hn : n < 2 ^ 31) (h : wi s (nI 0) (nI n) = true) : ∃ k, k ≤ n ∧ s = nI k := by
  simp only [wi, Bool.and_eq_true, Bool.not_eq_true', decide_eq_false_iff_not] at h
  obtain ⟨h1, h2⟩ := h
  rw [nI_0] at h1
  obtain ⟨j, hj, rfl⟩ := nI_of h1
  rw [nI_ltI hn hj] at h2
  exact ⟨j, by omega, rfl⟩
theorem wi_nI {k n : Nat} (hn : n < 2 ^ 31) (hk : k < 2 ^ 31) : wi (nI k) (nI 0) (nI n) = decide (k ≤ n) := by
  unfold wi
  have h1 : ¬ nI k < nI 0 := by rw [nI_0]; exact nI_pos hk
  have h2 := nI_ltI hn hk
  by_cases h : k ≤ n
  · have : ¬ nI n < nI k := fun z => by rw [h2] at z; omega
    simp [h1, this, h]
  · have : nI n < nI k := h2.mpr (by omega)
    simp [h1, this, h]
theorem tw_of {a b : Int32} (h : tw a b = true) : ∃ i j, i < 6 ∧ j < 6 ∧ ¬ i = j ∧ a = nI i ∧ b = nI j := by
  simp only [tw, Bool.and_eq_true, decide_eq_true_eq] at h
  obtain ⟨⟨h1, h2⟩, h3⟩ := h
  obtain ⟨i, hi, rfl⟩ := wi_of (by decide) h1
  obtain ⟨j, hj, rfl⟩ := wi_of (by decide) h2
  exact ⟨i, j, by omega, by omega, fun e => h3 (by rw [e]), rfl, rfl⟩
