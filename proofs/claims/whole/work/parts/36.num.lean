/-! how long it lasts; how many -/
theorem n0lt {r : Nat} (h : r < 2 ^ 31) : (0 < nI r) ↔ 0 < r := by rw [← nI_0]; exact nI_ltI (by decide) h
theorem nle0 {r : Nat} (h : r < 2 ^ 31) : (nI r ≤ 0) ↔ r = 0 := by
  rw [← nI_0, nI_leI h (by decide)]
  omega
theorem neq0 {r : Nat} (h : r < 2 ^ 31) : (nI r = 0) ↔ r = 0 := by rw [← nI_0]; exact nI_eq h (by decide)
theorem bt_n (x : Int32) : ∃ m, m ≤ 10 ∧ bt x = nI m := by
  unfold bt
  (repeat' split)
  · exact ⟨0, by decide, rfl⟩
  · exact ⟨1, by decide, rfl⟩
  · exact ⟨2, by decide, rfl⟩
  · exact ⟨3, by decide, rfl⟩
  · exact ⟨4, by decide, rfl⟩
  · exact ⟨6, by decide, rfl⟩
  · exact ⟨8, by decide, rfl⟩
  · exact ⟨10, by decide, rfl⟩
theorem sm_n {f : Nat → Int32} {M : Nat} : ∀ n, (∀ i, i < n → ∃ m, m ≤ M ∧ f i = nI m) → ∃ m, m ≤ M * n ∧ sm f n = nI m := by
  intro n
  induction n with
  | zero => intro _; exact ⟨0, by omega, rfl⟩
  | succ n ih =>
    intro h
    obtain ⟨m1, h1, e1⟩ := ih (fun i hi => h i (by omega))
    obtain ⟨m2, h2, e2⟩ := h n (by omega)
    refine ⟨m1 + m2, by rw [Nat.mul_succ]; omega, ?_⟩
    show sm f n + f n = _
    rw [e1, e2, nI_add]
theorem spd_n (σ : mx_S) (a b k : Nat) : ∃ F, F ≤ 80 ∧ spd σ a b k = nI F := by
  obtain ⟨m, h1, h2⟩ := sm_n (f := fun t => bC σ a b t k) (M := 10) 8 (fun i _ => bt_n _)
  exact ⟨m, by omega, h2⟩
def qup (v d : Nat) : Nat := (v + d - 1) / d
theorem c_Wi_quotientUp {v d : Nat} {h : mx_H} (hv : v < 1000000) (hd : 0 < d) (hd2 : d < 1000000) : vv 0 86 0 [.int (nI v), .int (nI d)] [] h = some (some (.int (nI (qup v d))), h) := by
  have e1 : ¬ d = 0 := by omega
  simp (disch := omega) only [e_Wi_quotientUp_0, e_Wi_quotientUp_1, e_Wi_quotientUp_4, e_Wi_quotientUp_5, e_Wi_quotientUp_6, e_Wi_quotientUp_7, e_Wi_quotientUp_8, e_Wi_quotientUp_9, e_Wi_quotientUp_10, e_Wi_quotientUp_11, e_Wi_quotientUp_14, e_Wi_quotientUp_15, nI_ltI, nI_add, nI_mul, nI_clamp, mx_in_nI, nle0, neq0, e1, if_false, pk_sub, pk_div, qup]
theorem c_Mo_up {v d : Nat} {h : mx_H} (hv : v < 1000000) (hd : 0 < d) (hd2 : d < 1000000) : vv 0 134 0 [.int (nI v), .int (nI d)] [] h = some (some (.int (nI (qup v d))), h) := by
  have e1 : ¬ d = 0 := by omega
  simp (disch := omega) only [e_Mo_up_0, e_Mo_up_1, e_Mo_up_2, e_Mo_up_3, e_Mo_up_4, e_Mo_up_5, e_Mo_up_6, e_Mo_up_7, nI_ltI, nI_add, nI_mul, nI_clamp, mx_in_nI, nle0, neq0, e1, if_false, pk_sub, pk_div, qup]
def lef (F G N : Nat) : Nat := 8 * N - (8 * N - 1) / (10 * (F + G)) * (10 * (F + G))
def symN (F G N : Nat) : Nat := (8 * N - 1) / (10 * (F + G)) * 20 + (if 10 * F < lef F G N then 10 + qup (lef F G N - 10 * F) G else qup (lef F G N) F)
theorem lef_b {F G N : Nat} (h0 : 0 < F + G) (hN : 0 < N) : 1 ≤ lef F G N ∧ lef F G N ≤ 10 * (F + G) ∧ (8 * N - 1) / (10 * (F + G)) * (10 * (F + G)) + lef F G N = 8 * N := by
  unfold lef
  have h1 := Nat.div_mul_le_self (8 * N - 1) (10 * (F + G))
  have h2 := Nat.lt_mul_div_succ (8 * N - 1) (show 0 < 10 * (F + G) by omega)
  rw [Nat.mul_add, Nat.mul_one, Nat.mul_comm (10 * (F + G)) ((8 * N - 1) / (10 * (F + G)))] at h2
  omega
theorem c_Wi_symbolsFor {sh : List mx_C} {σ : mx_S} (hw : WI sh) {a b N F G : Nat} (ha : a < 6) (hb : b < 6) (hF : σ 5 (six a b 0) = nI F) (hG : σ 5 (six a b 1) = nI G) (hF8 : F ≤ 80) (hG8 : G ≤ 80) (h0 : 0 < F + G) (hN : 0 < N) (hN2 : N ≤ 2000) : vv 1 85 0 [.ref 1, .int (nI a), .int (nI b), .int (nI N), .null, .null, .null, .null, .null, .null, .null] [] (sh, σ) = some (some (.int (nI (symN F G N))), (sh, σ)) := by
  have z0 := six_lt ha hb (show 0 < 2 by decide)
  have z1 := six_lt ha hb (show 1 < 2 by decide)
  obtain ⟨l1, l2, l3⟩ := lef_b h0 hN
  have hq : (8 * N - 1) / (10 * (F + G)) ≤ 8 * N - 1 := Nat.div_le_self _ _
  have r0 : 0 < 10 * (F + G) := by omega
  have rn : ¬ 10 * (F + G) = 0 := by omega
  have hle : (8 * N - 1) / (10 * (F + G)) * (10 * (F + G)) ≤ 8 * N := by omega
  have hll : 8 * N - (8 * N - 1) / (10 * (F + G)) * (10 * (F + G)) = lef F G N := rfl
  by_cases hb2 : 10 * F < lef F G N
  · have g0 : 0 < G := by omega
    simp (disch := first | exact wR hw | omega) only [e_Wi_symbolsFor_0, e_Wi_symbolsFor_1, e_Wi_symbolsFor_4, e_Wi_symbolsFor_5, e_Wi_symbolsFor_6, e_Wi_symbolsFor_7, e_Wi_symbolsFor_10, e_Wi_symbolsFor_11, e_Wi_symbolsFor_13, e_Wi_symbolsFor_14, e_Wi_symbolsFor_17, e_Wi_symbolsFor_18, e_Wi_symbolsFor_19, e_Wi_symbolsFor_20, e_Wi_symbolsFor_23, e_Wi_symbolsFor_24, e_Wi_symbolsFor_26, e_Wi_symbolsFor_28, e_Wi_symbolsFor_30, e_Wi_symbolsFor_32, e_Wi_symbolsFor_33, e_Wi_symbolsFor_34, e_Wi_symbolsFor_36, e_Wi_symbolsFor_38, e_Wi_symbolsFor_41, e_Wi_symbolsFor_43, e_Wi_symbolsFor_44, e_Wi_symbolsFor_46, e_Wi_symbolsFor_47, e_Wi_symbolsFor_48, e_Wi_symbolsFor_49, e_Wi_symbolsFor_50, e_Wi_symbolsFor_52, e_Wi_symbolsFor_53, e_Wi_symbolsFor_55, e_Wi_symbolsFor_57, e_Wi_symbolsFor_58, e_Wi_symbolsFor_59, e_Wi_symbolsFor_61, e_Wi_symbolsFor_63, e_Wi_symbolsFor_64, e_Wi_symbolsFor_65, e_Wi_symbolsFor_67, e_Wi_symbolsFor_69, e_Wi_symbolsFor_70, e_Wi_symbolsFor_71, e_Wi_symbolsFor_73, e_Wi_symbolsFor_74, e_Wi_symbolsFor_76, e_Wi_symbolsFor_78, e_Wi_symbolsFor_80, e_Wi_symbolsFor_81, e_Wi_symbolsFor_83, e_Wi_symbolsFor_85, e_Wi_symbolsFor_87, e_Wi_symbolsFor_90, e_Wi_symbolsFor_92, e_Wi_symbolsFor_94, e_Wi_symbolsFor_96, e_Wi_symbolsFor_99, e_Wi_symbolsFor_100, e_Wi_symbolsFor_101, e_Wi_symbolsFor_103, e_Wi_symbolsFor_105, e_Wi_symbolsFor_106, e_Wi_symbolsFor_108, e_Wi_symbolsFor_110, e_Wi_symbolsFor_111, e_Wi_symbolsFor_113, e_Wi_symbolsFor_116, e_Wi_symbolsFor_117, vr_v, vr_n, vr_vh, vr_nh, vg_some, wF_0 hw, wF_1 hw, wF_2 hw, wF_3 hw, wF_4 hw, wF_5 hw, wI_5 hw, wR hw, wL_2 hw, wL_3 hw, wL_4 hw, wL_5 hw, wL_6 hw, wW_4 hw, wW_2 hw, wW_3 hw, wW_5 hw, wW_6 hw, c_Wi_speedAt, nI_ltI, nI_add, nI_mul, nI_clamp, mx_in_nI, hF, hG, n0lt, r0, if_true, if_false, pk_sub, pk_div, neq0, rn, hll, hb2, c_Wi_quotientUp, symN]
    rw [show (8 * N - 1) / (10 * (F + G)) * 2 * 10 + 10 + qup (lef F G N - 10 * F) G = (8 * N - 1) / (10 * (F + G)) * 20 + (10 + qup (lef F G N - 10 * F) G) by omega]
  · have f0 : 0 < F := by omega
    simp (disch := first | exact wR hw | omega) only [e_Wi_symbolsFor_0, e_Wi_symbolsFor_1, e_Wi_symbolsFor_4, e_Wi_symbolsFor_5, e_Wi_symbolsFor_6, e_Wi_symbolsFor_7, e_Wi_symbolsFor_10, e_Wi_symbolsFor_11, e_Wi_symbolsFor_13, e_Wi_symbolsFor_14, e_Wi_symbolsFor_17, e_Wi_symbolsFor_18, e_Wi_symbolsFor_19, e_Wi_symbolsFor_20, e_Wi_symbolsFor_23, e_Wi_symbolsFor_24, e_Wi_symbolsFor_26, e_Wi_symbolsFor_28, e_Wi_symbolsFor_30, e_Wi_symbolsFor_32, e_Wi_symbolsFor_33, e_Wi_symbolsFor_34, e_Wi_symbolsFor_36, e_Wi_symbolsFor_38, e_Wi_symbolsFor_41, e_Wi_symbolsFor_43, e_Wi_symbolsFor_44, e_Wi_symbolsFor_46, e_Wi_symbolsFor_47, e_Wi_symbolsFor_48, e_Wi_symbolsFor_49, e_Wi_symbolsFor_50, e_Wi_symbolsFor_52, e_Wi_symbolsFor_53, e_Wi_symbolsFor_55, e_Wi_symbolsFor_57, e_Wi_symbolsFor_58, e_Wi_symbolsFor_59, e_Wi_symbolsFor_61, e_Wi_symbolsFor_63, e_Wi_symbolsFor_64, e_Wi_symbolsFor_65, e_Wi_symbolsFor_67, e_Wi_symbolsFor_69, e_Wi_symbolsFor_70, e_Wi_symbolsFor_71, e_Wi_symbolsFor_73, e_Wi_symbolsFor_74, e_Wi_symbolsFor_76, e_Wi_symbolsFor_78, e_Wi_symbolsFor_80, e_Wi_symbolsFor_81, e_Wi_symbolsFor_83, e_Wi_symbolsFor_85, e_Wi_symbolsFor_87, e_Wi_symbolsFor_90, e_Wi_symbolsFor_92, e_Wi_symbolsFor_94, e_Wi_symbolsFor_96, e_Wi_symbolsFor_99, e_Wi_symbolsFor_100, e_Wi_symbolsFor_101, e_Wi_symbolsFor_103, e_Wi_symbolsFor_105, e_Wi_symbolsFor_106, e_Wi_symbolsFor_108, e_Wi_symbolsFor_110, e_Wi_symbolsFor_111, e_Wi_symbolsFor_113, e_Wi_symbolsFor_116, e_Wi_symbolsFor_117, vr_v, vr_n, vr_vh, vr_nh, vg_some, wF_0 hw, wF_1 hw, wF_2 hw, wF_3 hw, wF_4 hw, wF_5 hw, wI_5 hw, wR hw, wL_2 hw, wL_3 hw, wL_4 hw, wL_5 hw, wL_6 hw, wW_4 hw, wW_2 hw, wW_3 hw, wW_5 hw, wW_6 hw, c_Wi_speedAt, nI_ltI, nI_add, nI_mul, nI_clamp, mx_in_nI, hF, hG, n0lt, r0, if_true, if_false, pk_sub, pk_div, neq0, rn, hll, hb2, c_Wi_quotientUp, symN]
    rw [show (8 * N - 1) / (10 * (F + G)) * 2 * 10 = (8 * N - 1) / (10 * (F + G)) * 20 by omega]
theorem c_Mo_lastsOf {σ : mx_S} (hc : CW σ) {a b N F G : Nat} (ha : a < 6) (hb : b < 6) (hab : ¬ a = b) (hF : spd σ a b 0 = nI F) (hG : spd σ a b 1 = nI G) (hF8 : F ≤ 80) (hG8 : G ≤ 80) (h0 : 0 < F + G) (hN : 0 < N) (hN2 : N ≤ 2000) : vv 3 135 0 [.ref 23, .int (nI a), .int (nI b), .int (nI N), .null, .null, .null, .null, .null] [] (shF, σ) = some (some (.int (nI (symN F G N))), (shF, σ)) := by
  obtain ⟨l1, l2, l3⟩ := lef_b h0 hN
  have hq : (8 * N - 1) / (10 * (F + G)) ≤ 8 * N - 1 := Nat.div_le_self _ _
  have r0 : 0 < 10 * (F + G) := by omega
  have rn : ¬ 10 * (F + G) = 0 := by omega
  have hle : (8 * N - 1) / (10 * (F + G)) * (10 * (F + G)) ≤ 8 * N := by omega
  have hll : 8 * N - (8 * N - 1) / (10 * (F + G)) * (10 * (F + G)) = lef F G N := rfl
  by_cases hb2 : 10 * F < lef F G N
  · have g0 : 0 < G := by omega
    simp (disch := first | exact fR_0 | exact fR_1 | exact fR_7 | exact fR_11 | exact fR_19 | exact fR_20 | exact fR_23 | omega) only [e_Mo_lastsOf_0, e_Mo_lastsOf_1, e_Mo_lastsOf_2, e_Mo_lastsOf_3, e_Mo_lastsOf_4, e_Mo_lastsOf_7, e_Mo_lastsOf_9, e_Mo_lastsOf_10, e_Mo_lastsOf_11, e_Mo_lastsOf_12, e_Mo_lastsOf_13, e_Mo_lastsOf_16, e_Mo_lastsOf_18, e_Mo_lastsOf_20, e_Mo_lastsOf_22, e_Mo_lastsOf_24, e_Mo_lastsOf_25, e_Mo_lastsOf_26, e_Mo_lastsOf_28, e_Mo_lastsOf_30, e_Mo_lastsOf_31, e_Mo_lastsOf_32, e_Mo_lastsOf_33, e_Mo_lastsOf_34, e_Mo_lastsOf_36, e_Mo_lastsOf_37, e_Mo_lastsOf_39, e_Mo_lastsOf_41, e_Mo_lastsOf_42, e_Mo_lastsOf_43, e_Mo_lastsOf_45, e_Mo_lastsOf_47, e_Mo_lastsOf_48, e_Mo_lastsOf_49, e_Mo_lastsOf_51, e_Mo_lastsOf_53, e_Mo_lastsOf_55, e_Mo_lastsOf_56, e_Mo_lastsOf_58, e_Mo_lastsOf_60, e_Mo_lastsOf_62, e_Mo_lastsOf_63, e_Mo_lastsOf_66, e_Mo_lastsOf_68, e_Mo_lastsOf_70, e_Mo_lastsOf_73, e_Mo_lastsOf_76, e_Mo_lastsOf_78, e_Mo_lastsOf_80, e_Mo_lastsOf_82, e_Mo_lastsOf_84, e_Mo_lastsOf_85, e_Mo_lastsOf_86, e_Mo_lastsOf_88, e_Mo_lastsOf_91, e_Mo_lastsOf_92, e_Mo_lastsOf_93, vr_v, vr_n, vr_vh, vr_nh, vg_some, fF_23_0, fF_23_1, fF_23_2, fF_23_3, fI_23_3, fF_23_4, fF_23_5, fF_23_6, fI_23_6, fF_23_7, fF_23_8, fF_23_9, fF_23_10, fF_23_11, fF_23_12, fF_23_13, fF_23_14, fF_23_15, fF_23_16, fF_23_17, fF_23_18, fF_23_19, fI_23_19, fF_23_20, fI_23_20, fF_23_21, fI_23_21, fF_23_22, fI_23_22, fF_23_23, fI_23_23, fF_23_24, fI_23_24, fF_23_25, fI_23_25, fF_23_26, fI_23_26, fF_23_27, fI_23_27, fF_23_28, fI_23_28, fF_23_29, fF_23_30, fF_23_31, fR_23, fL_24, fW_24, fL_25, fW_25, fL_26, fW_26, fL_27, fW_27, fL_28, fW_28, fL_29, fW_29, fL_30, fW_30, fL_31, fW_31, fL_32, fW_32, fL_33, fW_33, fL_34, fW_34, fL_35, fW_35, fL_36, fW_36, fW_37, fL_38, fW_38, fL_39, fW_39, fL_40, fW_40, fL_41, fW_41, fL_42, fW_42, fL_43, fW_43, c_Mo_speedOf hc ha hb hab (show 0 < 2 by decide), c_Mo_speedOf hc ha hb hab (show 1 < 2 by decide), nI_ltI, nI_add, nI_mul, nI_clamp, mx_in_nI, hF, hG, n0lt, r0, if_true, if_false, pk_sub, pk_div, neq0, rn, hll, hb2, c_Mo_up, symN]
    rw [show 20 * ((8 * N - 1) / (10 * (F + G))) + (10 + qup (lef F G N - 10 * F) G) = (8 * N - 1) / (10 * (F + G)) * 20 + (10 + qup (lef F G N - 10 * F) G) by omega]
  · have f0 : 0 < F := by omega
    simp (disch := first | exact fR_0 | exact fR_1 | exact fR_7 | exact fR_11 | exact fR_19 | exact fR_20 | exact fR_23 | omega) only [e_Mo_lastsOf_0, e_Mo_lastsOf_1, e_Mo_lastsOf_2, e_Mo_lastsOf_3, e_Mo_lastsOf_4, e_Mo_lastsOf_7, e_Mo_lastsOf_9, e_Mo_lastsOf_10, e_Mo_lastsOf_11, e_Mo_lastsOf_12, e_Mo_lastsOf_13, e_Mo_lastsOf_16, e_Mo_lastsOf_18, e_Mo_lastsOf_20, e_Mo_lastsOf_22, e_Mo_lastsOf_24, e_Mo_lastsOf_25, e_Mo_lastsOf_26, e_Mo_lastsOf_28, e_Mo_lastsOf_30, e_Mo_lastsOf_31, e_Mo_lastsOf_32, e_Mo_lastsOf_33, e_Mo_lastsOf_34, e_Mo_lastsOf_36, e_Mo_lastsOf_37, e_Mo_lastsOf_39, e_Mo_lastsOf_41, e_Mo_lastsOf_42, e_Mo_lastsOf_43, e_Mo_lastsOf_45, e_Mo_lastsOf_47, e_Mo_lastsOf_48, e_Mo_lastsOf_49, e_Mo_lastsOf_51, e_Mo_lastsOf_53, e_Mo_lastsOf_55, e_Mo_lastsOf_56, e_Mo_lastsOf_58, e_Mo_lastsOf_60, e_Mo_lastsOf_62, e_Mo_lastsOf_63, e_Mo_lastsOf_66, e_Mo_lastsOf_68, e_Mo_lastsOf_70, e_Mo_lastsOf_73, e_Mo_lastsOf_76, e_Mo_lastsOf_78, e_Mo_lastsOf_80, e_Mo_lastsOf_82, e_Mo_lastsOf_84, e_Mo_lastsOf_85, e_Mo_lastsOf_86, e_Mo_lastsOf_88, e_Mo_lastsOf_91, e_Mo_lastsOf_92, e_Mo_lastsOf_93, vr_v, vr_n, vr_vh, vr_nh, vg_some, fF_23_0, fF_23_1, fF_23_2, fF_23_3, fI_23_3, fF_23_4, fF_23_5, fF_23_6, fI_23_6, fF_23_7, fF_23_8, fF_23_9, fF_23_10, fF_23_11, fF_23_12, fF_23_13, fF_23_14, fF_23_15, fF_23_16, fF_23_17, fF_23_18, fF_23_19, fI_23_19, fF_23_20, fI_23_20, fF_23_21, fI_23_21, fF_23_22, fI_23_22, fF_23_23, fI_23_23, fF_23_24, fI_23_24, fF_23_25, fI_23_25, fF_23_26, fI_23_26, fF_23_27, fI_23_27, fF_23_28, fI_23_28, fF_23_29, fF_23_30, fF_23_31, fR_23, fL_24, fW_24, fL_25, fW_25, fL_26, fW_26, fL_27, fW_27, fL_28, fW_28, fL_29, fW_29, fL_30, fW_30, fL_31, fW_31, fL_32, fW_32, fL_33, fW_33, fL_34, fW_34, fL_35, fW_35, fL_36, fW_36, fW_37, fL_38, fW_38, fL_39, fW_39, fL_40, fW_40, fL_41, fW_41, fL_42, fW_42, fL_43, fW_43, c_Mo_speedOf hc ha hb hab (show 0 < 2 by decide), c_Mo_speedOf hc ha hb hab (show 1 < 2 by decide), nI_ltI, nI_add, nI_mul, nI_clamp, mx_in_nI, hF, hG, n0lt, r0, if_true, if_false, pk_sub, pk_div, neq0, rn, hll, hb2, c_Mo_up, symN]
    rw [show 20 * ((8 * N - 1) / (10 * (F + G))) = (8 * N - 1) / (10 * (F + G)) * 20 by omega]
def many (x : Int32) : Int32 := sm (fun i => (x >>> (nI i &&& 31)) &&& nI 1) 31
theorem c_Mo_manyOf {x : Int32} {h : mx_H} : vv 0 160 0 [.int x, .null, .null] [] h = some (some (.int (many x)), h) := by
  rw [e_Mo_manyOf_0, e_Mo_manyOf_1, e_Mo_manyOf_2, e_Mo_manyOf_3]
  refine (it (F := fun k => vv 0 160 4 [.int x, .int (sm (fun i => (x >>> (nI i &&& 31)) &&& nI 1) k), .int (nI k)] [] h) 31 (fun k hk => ?_)).trans ?_
  · rw [e_Mo_manyOf_4]
    simp (disch := omega) only [e_Mo_manyOf_0, e_Mo_manyOf_1, e_Mo_manyOf_2, e_Mo_manyOf_3, e_Mo_manyOf_5, e_Mo_manyOf_7, e_Mo_manyOf_10, e_Mo_manyOf_11, e_Mo_manyOf_12, e_Mo_manyOf_13, e_Mo_manyOf_14, e_Mo_manyOf_15, e_Mo_manyOf_16, e_Mo_manyOf_17, e_Mo_manyOf_18, e_Mo_manyOf_21, e_Mo_manyOf_24, e_Mo_manyOf_25, nI_ltI, nI_add, nI_mul, nI_clamp, mx_in_nI, hk, if_true, sm]
  · simp (disch := omega) only [e_Mo_manyOf_4, e_Mo_manyOf_5, e_Mo_manyOf_7, e_Mo_manyOf_24, e_Mo_manyOf_25, nI_ltI, nI_add, nI_mul, nI_clamp, mx_in_nI, Nat.lt_irrefl, if_false, many]
def us (x : Int32) (k : Nat) : Int32 := (x.toUInt32 >>> ((nI k).toUInt32 &&& Int32.toUInt32 31)).toInt32
def bc1 (x : Int32) : Int32 := x - (us x 1 &&& nI 1431655765)
def bc2 (x : Int32) : Int32 := (x &&& nI 858993459) + (us x 2 &&& nI 858993459)
def bc3 (x : Int32) : Int32 := (x + us x 4) &&& nI 252645135
def bc4 (x : Int32) : Int32 := x + us x 8
def bc5 (x : Int32) : Int32 := x + us x 16
def bcn (x : Int32) : Int32 := bc5 (bc4 (bc3 (bc2 (bc1 x)))) &&& nI 63
theorem c_JI_bitCount {x : Int32} {h : mx_H} : vv 0 175 0 [.int x] [] h = some (some (.int (bcn x)), h) := by
  simp only [e_JI_bitCount_0, e_JI_bitCount_1, e_JI_bitCount_2, e_JI_bitCount_3, e_JI_bitCount_4, e_JI_bitCount_7, e_JI_bitCount_8, e_JI_bitCount_9, e_JI_bitCount_10, e_JI_bitCount_11, e_JI_bitCount_14, e_JI_bitCount_15, e_JI_bitCount_16, e_JI_bitCount_17, e_JI_bitCount_18, e_JI_bitCount_21, e_JI_bitCount_22, e_JI_bitCount_23, e_JI_bitCount_24, e_JI_bitCount_25, e_JI_bitCount_26, e_JI_bitCount_27, e_JI_bitCount_28, e_JI_bitCount_29, e_JI_bitCount_32, e_JI_bitCount_33, e_JI_bitCount_34, e_JI_bitCount_35, e_JI_bitCount_36, e_JI_bitCount_38, e_JI_bitCount_39, e_JI_bitCount_40, e_JI_bitCount_41, e_JI_bitCount_42, e_JI_bitCount_43, e_JI_bitCount_45, e_JI_bitCount_46, e_JI_bitCount_47, e_JI_bitCount_48, e_JI_bitCount_49, e_JI_bitCount_51, e_JI_bitCount_52]
  rfl
theorem m6_cnt : ∀ b0 b1 b2 b3 b4 b5 : Bool, bcn (m6 b0 b1 b2 b3 b4 b5) = many (m6 b0 b1 b2 b3 b4 b5) := by decide +kernel
theorem mk_cnt (p : Nat → Bool) : bcn (mk p 6) = many (mk p 6) := m6_cnt (p 0) (p 1) (p 2) (p 3) (p 4) (p 5)
