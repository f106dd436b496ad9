/-! promise 1: a new object of both -/
theorem mx_zr_nn {σ : mx_S} {c n : Nat} (h : ¬ c = n) : mx_zr σ n c = σ c := by unfold mx_zr; rw [if_neg h]
theorem mx_zr_at {σ : mx_S} {n : Nat} : mx_zr σ n n = fun _ => 0 := by unfold mx_zr; rw [if_pos rfl]
theorem WI_10 : WI sk_10 := ⟨rfl, rfl, rfl, rfl, rfl, rfl⟩
theorem a57 {L st : List Value} {σ : mx_S} : vv 5 59 57 L (.ref 2 :: st) (sk_10, σ) = vv 5 59 58 L (.int (nI 288) :: st) (sk_10, σ) := e_Wi_init_57 rfl (by decide)
theorem a82 {L st : List Value} {σ : mx_S} : vv 5 59 82 L (.ref 3 :: st) (sk_10, σ) = vv 5 59 83 L (.int (nI 96) :: st) (sk_10, σ) := e_Wi_init_82 rfl (by decide)
theorem k_Wi1 {S : mx_S} : vv 5 59 50 [.ref 1, .null] [] (sk_10, S) = vv 5 59 100 [.ref 1, .int (nI 96)] [] (sk_10, rw1 (rw1 S 2 (fun _ => nI 30) 288) 3 (fun _ => nI 10) 96) := by
  have hw := WI_10
  have l1 := it (F := fun k => vv 5 59 52 [.ref 1, .int (nI k)] [] (sk_10, rw1 S 2 (fun _ => nI 30) k)) 288 (fun k hk => by
    show vv _ _ _ _ _ _ = vv _ _ _ _ _ _
    rw [e_Wi_init_52]
    have hu : mx_up (rw1 S 2 (fun _ => nI 30) k) 2 k (nI 30) = rw1 S 2 (fun _ => nI 30) (k + 1) := rw1_up
    simp (disch := first | exact wR hw | omega) only [e_Wi_init_53, e_Wi_init_54, e_Wi_init_58, e_Wi_init_61, e_Wi_init_62, e_Wi_init_65, e_Wi_init_66, e_Wi_init_68, e_Wi_init_69, e_Wi_init_72, a57, vr_v, vr_n, vr_vh, vr_nh, vg_some, wF_0 hw, wF_1 hw, wF_2 hw, wF_3 hw, wF_4 hw, wF_5 hw, wI_5 hw, wR hw, wL_2 hw, wL_3 hw, wL_4 hw, wL_5 hw, wL_6 hw, wW_4 hw, wW_2 hw, wW_3 hw, wW_5 hw, wW_6 hw, nI_ltI, nI_add, nI_mul, nI_clamp, mx_in_nI, hk, if_true, hu])
  have l2 := it (F := fun k => vv 5 59 77 [.ref 1, .int (nI k)] [] (sk_10, rw1 (rw1 S 2 (fun _ => nI 30) 288) 3 (fun _ => nI 10) k)) 96 (fun k hk => by
    show vv _ _ _ _ _ _ = vv _ _ _ _ _ _
    rw [e_Wi_init_77]
    have hu : mx_up (rw1 (rw1 S 2 (fun _ => nI 30) 288) 3 (fun _ => nI 10) k) 3 k (nI 10) = rw1 (rw1 S 2 (fun _ => nI 30) 288) 3 (fun _ => nI 10) (k + 1) := rw1_up
    simp (disch := first | exact wR hw | omega) only [e_Wi_init_78, e_Wi_init_79, e_Wi_init_83, e_Wi_init_86, e_Wi_init_87, e_Wi_init_90, e_Wi_init_91, e_Wi_init_93, e_Wi_init_94, e_Wi_init_97, a82, vr_v, vr_n, vr_vh, vr_nh, vg_some, wF_0 hw, wF_1 hw, wF_2 hw, wF_3 hw, wF_4 hw, wF_5 hw, wI_5 hw, wR hw, wL_2 hw, wL_3 hw, wL_4 hw, wL_5 hw, wL_6 hw, wW_4 hw, wW_2 hw, wW_3 hw, wW_5 hw, wW_6 hw, nI_ltI, nI_add, nI_mul, nI_clamp, mx_in_nI, hk, if_true, hu])
  simp only [rw1_0] at l1 l2
  rw [e_Wi_init_50, e_Wi_init_51, l1]
  simp (disch := first | exact wR hw | omega) only [e_Wi_init_52, e_Wi_init_53, e_Wi_init_54, e_Wi_init_58, e_Wi_init_75, e_Wi_init_76, a57, vr_v, vr_n, vr_vh, vr_nh, vg_some, wF_0 hw, wF_1 hw, wF_2 hw, wF_3 hw, wF_4 hw, wF_5 hw, wI_5 hw, wR hw, wL_2 hw, wL_3 hw, wL_4 hw, wL_5 hw, wL_6 hw, wW_4 hw, wW_2 hw, wW_3 hw, wW_5 hw, wW_6 hw, nI_ltI, nI_add, nI_mul, nI_clamp, mx_in_nI, Nat.lt_irrefl, if_false]
  rw [l2]
  simp (disch := first | exact wR hw | omega) only [e_Wi_init_77, e_Wi_init_78, e_Wi_init_79, e_Wi_init_83, a82, vr_v, vr_n, vr_vh, vr_nh, vg_some, wF_0 hw, wF_1 hw, wF_2 hw, wF_3 hw, wF_4 hw, wF_5 hw, wI_5 hw, wR hw, wL_2 hw, wL_3 hw, wL_4 hw, wL_5 hw, wL_6 hw, wW_4 hw, wW_2 hw, wW_3 hw, wW_5 hw, wW_6 hw, nI_ltI, nI_add, nI_mul, nI_clamp, mx_in_nI, Nat.lt_irrefl, if_false]
theorem k_Wi (σ : mx_S) : ∃ σ1, vv 5 59 0 [.ref 1, .null] [] (sk_0, σ) = some (none, (sk_10, σ1)) ∧ WOK σ1 ∧ σ1 1 5 = nI 3 ∧ (∀ i, i < 288 → σ1 2 i = nI 30) ∧ (∀ i, i < 96 → σ1 3 i = nI 10) ∧ ∀ i, σ1 4 i = 0 := by
  have hw := WI_10
  have f1 : (mx_up (mx_zr (mx_zr (mx_zr (mx_zr (mx_zr σ 2) 3) 4) 5) 6) 1 5 (nI 3)) 1 5 = nI 3 := by rw [mx_up_ap, if_pos rfl, if_pos rfl]
  have f4 : (mx_up (mx_zr (mx_zr (mx_zr (mx_zr (mx_zr σ 2) 3) 4) 5) 6) 1 5 (nI 3)) 4 = fun _ => 0 := by rw [mx_up_nn (by decide), mx_zr_nn (by decide), mx_zr_nn (by decide), mx_zr_at]
  have f6 : (mx_up (mx_zr (mx_zr (mx_zr (mx_zr (mx_zr σ 2) 3) 4) 5) 6) 1 5 (nI 3)) 6 = fun _ => 0 := by rw [mx_up_nn (by decide), mx_zr_at]
  have h0 := fun r => @k_Wi0 σ r
  generalize mx_up (mx_zr (mx_zr (mx_zr (mx_zr (mx_zr σ 2) 3) 4) 5) 6) 1 5 (nI 3) = S at f1 f4 f6 h0
  have hq : WQ (rw1 (rw1 S 2 (fun _ => nI 30) 288) 3 (fun _ => nI 10) 96) (fun _ _ => False) := ⟨fun _ _ => false, fun b _ => by
    rw [rw1_nn (by decide), rw1_nn (by decide), f6, mk_no, nI_0], fun _ _ => rfl, fun _ _ _ _ _ h => h.elim⟩
  obtain ⟨σ', e, i1, i2⟩ := c_Wi_tuneAll hw hq
  refine ⟨σ', h0 _ ?_, i1, ?_, fun i hi => ?_, fun i hi => ?_, fun i => ?_⟩
  · rw [k_Wi1]
    simp (disch := first | exact wR hw | omega) only [e_Wi_init_100, e_Wi_init_101, e_Wi_init_104, vr_v, vr_n, vr_vh, vr_nh, vg_some, e]
  · rw [i2 1 (by decide) (by decide), rw1_nn (by decide), rw1_nn (by decide), f1]
  · rw [i2 2 (by decide) (by decide), rw1_nn (by decide), rw1_at hi]
  · rw [i2 3 (by decide) (by decide), rw1_at hi]
  · rw [i2 4 (by decide) (by decide), rw1_nn (by decide), rw1_nn (by decide), f4]
def NWc (σ : mx_S) : Prop := WOK σ ∧ σ 1 5 = nI 3 ∧ (∀ i, i < 288 → σ 2 i = nI 30) ∧ (∀ i, i < 96 → σ 3 i = nI 10) ∧ (∀ i, σ 4 i = 0) ∧ σ 11 2 = nI 1 ∧ (∀ k, ¬ k = 2 → σ 11 k = 0) ∧ ∀ c, 13 ≤ c → c ≤ 18 → σ c = fun _ => 0
theorem k_Ml (σ : mx_S) : ∃ σ2, vv 6 87 0 [.ref 0] [] (sk_11, σ) = some (none, (sk_47, σ2)) ∧ NWc σ2 := by
  obtain ⟨σ1, e, w, f1, f2, f3, f4⟩ := k_Wi (mx_zr σ 1)
  have g : ∀ c, c < 7 → (mx_zr (mx_zr (mx_zr (mx_zr (mx_zr (mx_zr (mx_zr (mx_zr (mx_zr (mx_zr (mx_up (mx_zr (mx_zr (mx_zr (mx_zr (mx_zr (mx_zr σ1 7) 8) 9) 10) 11) 12) 11 2 (nI 1)) 13) 14) 15) 16) 17) 18) 19) 20) 21) 22) c = σ1 c := fun c hc => by
    rw [mx_zr_nn (by omega), mx_zr_nn (by omega), mx_zr_nn (by omega), mx_zr_nn (by omega), mx_zr_nn (by omega), mx_zr_nn (by omega), mx_zr_nn (by omega), mx_zr_nn (by omega), mx_zr_nn (by omega), mx_zr_nn (by omega), mx_up_nn (by omega), mx_zr_nn (by omega), mx_zr_nn (by omega), mx_zr_nn (by omega), mx_zr_nn (by omega), mx_zr_nn (by omega), mx_zr_nn (by omega)]
  refine ⟨_, k_Ml0 e, WOK_of w (by rw [g 1 (by decide)]) (g 2 (by decide)) (g 3 (by decide)) (g 5 (by decide)) (g 6 (by decide)), by rw [g 1 (by decide)]; exact f1, fun i hi => by rw [g 2 (by decide)]; exact f2 i hi, fun i hi => by rw [g 3 (by decide)]; exact f3 i hi, fun i => by rw [g 4 (by decide)]; exact f4 i, ?_, fun k hk => ?_, fun c h1 h2 => ?_⟩
  · rw [mx_zr_nn (by decide), mx_zr_nn (by decide), mx_zr_nn (by decide), mx_zr_nn (by decide), mx_zr_nn (by decide), mx_zr_nn (by decide), mx_zr_nn (by decide), mx_zr_nn (by decide), mx_zr_nn (by decide), mx_zr_nn (by decide), mx_up_ap, if_pos rfl, if_pos rfl]
  · rw [mx_zr_nn (by decide), mx_zr_nn (by decide), mx_zr_nn (by decide), mx_zr_nn (by decide), mx_zr_nn (by decide), mx_zr_nn (by decide), mx_zr_nn (by decide), mx_zr_nn (by decide), mx_zr_nn (by decide), mx_zr_nn (by decide), mx_up_ap, if_pos rfl, if_neg hk, mx_zr_nn (by decide), mx_zr_at]
  · rcases (show c = 13 ∨ c = 14 ∨ c = 15 ∨ c = 16 ∨ c = 17 ∨ c = 18 by omega) with rfl | rfl | rfl | rfl | rfl | rfl
    · rw [mx_zr_nn (by decide), mx_zr_nn (by decide), mx_zr_nn (by decide), mx_zr_nn (by decide), mx_zr_nn (by decide), mx_zr_nn (by decide), mx_zr_nn (by decide), mx_zr_nn (by decide), mx_zr_nn (by decide), mx_zr_at]
    · rw [mx_zr_nn (by decide), mx_zr_nn (by decide), mx_zr_nn (by decide), mx_zr_nn (by decide), mx_zr_nn (by decide), mx_zr_nn (by decide), mx_zr_nn (by decide), mx_zr_nn (by decide), mx_zr_at]
    · rw [mx_zr_nn (by decide), mx_zr_nn (by decide), mx_zr_nn (by decide), mx_zr_nn (by decide), mx_zr_nn (by decide), mx_zr_nn (by decide), mx_zr_nn (by decide), mx_zr_at]
    · rw [mx_zr_nn (by decide), mx_zr_nn (by decide), mx_zr_nn (by decide), mx_zr_nn (by decide), mx_zr_nn (by decide), mx_zr_nn (by decide), mx_zr_at]
    · rw [mx_zr_nn (by decide), mx_zr_nn (by decide), mx_zr_nn (by decide), mx_zr_nn (by decide), mx_zr_nn (by decide), mx_zr_at]
    · rw [mx_zr_nn (by decide), mx_zr_nn (by decide), mx_zr_nn (by decide), mx_zr_nn (by decide), mx_zr_at]
theorem k_Mo1 {S : mx_S} : vv 0 112 175 [.ref 23, .null] [] (shF, S) = some (none, (shF, rw1 (rw1 S 24 (fun _ => nI 30) 288) 25 (fun _ => nI 10) 96)) := by
  have l1 := it (F := fun k => vv 0 112 177 [.ref 23, .int (nI k)] [] (shF, rw1 S 24 (fun _ => nI 30) k)) 288 (fun k hk => by
    show vv _ _ _ _ _ _ = vv _ _ _ _ _ _
    rw [e_Mo_init_177]
    have hu : mx_up (rw1 S 24 (fun _ => nI 30) k) 24 k (nI 30) = rw1 S 24 (fun _ => nI 30) (k + 1) := rw1_up
    simp (disch := first | exact fR_0 | exact fR_1 | exact fR_7 | exact fR_11 | exact fR_19 | exact fR_20 | exact fR_23 | omega) only [e_Mo_init_178, e_Mo_init_181, e_Mo_init_184, e_Mo_init_185, e_Mo_init_188, e_Mo_init_189, e_Mo_init_191, e_Mo_init_192, e_Mo_init_195, vr_v, vr_n, vr_vh, vr_nh, vg_some, fF_23_0, fF_23_1, fF_23_2, fF_23_3, fI_23_3, fF_23_4, fF_23_5, fF_23_6, fI_23_6, fF_23_7, fF_23_8, fF_23_9, fF_23_10, fF_23_11, fF_23_12, fF_23_13, fF_23_14, fF_23_15, fF_23_16, fF_23_17, fF_23_18, fF_23_19, fI_23_19, fF_23_20, fI_23_20, fF_23_21, fI_23_21, fF_23_22, fI_23_22, fF_23_23, fI_23_23, fF_23_24, fI_23_24, fF_23_25, fI_23_25, fF_23_26, fI_23_26, fF_23_27, fI_23_27, fF_23_28, fI_23_28, fF_23_29, fF_23_30, fF_23_31, fR_23, fL_24, fW_24, fL_25, fW_25, fL_26, fW_26, fL_27, fW_27, fL_28, fW_28, fL_29, fW_29, fL_30, fW_30, fL_31, fW_31, fL_32, fW_32, fL_33, fW_33, fL_34, fW_34, fL_35, fW_35, fL_36, fW_36, fW_37, fL_38, fW_38, fL_39, fW_39, fL_40, fW_40, fL_41, fW_41, fL_42, fW_42, fL_43, fW_43, nI_ltI, nI_add, nI_mul, nI_clamp, mx_in_nI, hk, if_true, hu])
  have l2 := it (F := fun k => vv 0 112 200 [.ref 23, .int (nI k)] [] (shF, rw1 (rw1 S 24 (fun _ => nI 30) 288) 25 (fun _ => nI 10) k)) 96 (fun k hk => by
    show vv _ _ _ _ _ _ = vv _ _ _ _ _ _
    rw [e_Mo_init_200]
    have hu : mx_up (rw1 (rw1 S 24 (fun _ => nI 30) 288) 25 (fun _ => nI 10) k) 25 k (nI 10) = rw1 (rw1 S 24 (fun _ => nI 30) 288) 25 (fun _ => nI 10) (k + 1) := rw1_up
    simp (disch := first | exact fR_0 | exact fR_1 | exact fR_7 | exact fR_11 | exact fR_19 | exact fR_20 | exact fR_23 | omega) only [e_Mo_init_201, e_Mo_init_203, e_Mo_init_206, e_Mo_init_207, e_Mo_init_210, e_Mo_init_211, e_Mo_init_213, e_Mo_init_214, e_Mo_init_217, vr_v, vr_n, vr_vh, vr_nh, vg_some, fF_23_0, fF_23_1, fF_23_2, fF_23_3, fI_23_3, fF_23_4, fF_23_5, fF_23_6, fI_23_6, fF_23_7, fF_23_8, fF_23_9, fF_23_10, fF_23_11, fF_23_12, fF_23_13, fF_23_14, fF_23_15, fF_23_16, fF_23_17, fF_23_18, fF_23_19, fI_23_19, fF_23_20, fI_23_20, fF_23_21, fI_23_21, fF_23_22, fI_23_22, fF_23_23, fI_23_23, fF_23_24, fI_23_24, fF_23_25, fI_23_25, fF_23_26, fI_23_26, fF_23_27, fI_23_27, fF_23_28, fI_23_28, fF_23_29, fF_23_30, fF_23_31, fR_23, fL_24, fW_24, fL_25, fW_25, fL_26, fW_26, fL_27, fW_27, fL_28, fW_28, fL_29, fW_29, fL_30, fW_30, fL_31, fW_31, fL_32, fW_32, fL_33, fW_33, fL_34, fW_34, fL_35, fW_35, fL_36, fW_36, fW_37, fL_38, fW_38, fL_39, fW_39, fL_40, fW_40, fL_41, fW_41, fL_42, fW_42, fL_43, fW_43, nI_ltI, nI_add, nI_mul, nI_clamp, mx_in_nI, hk, if_true, hu])
  simp only [rw1_0] at l1 l2
  rw [e_Mo_init_175, e_Mo_init_176, l1]
  simp (disch := first | exact fR_0 | exact fR_1 | exact fR_7 | exact fR_11 | exact fR_19 | exact fR_20 | exact fR_23 | omega) only [e_Mo_init_177, e_Mo_init_178, e_Mo_init_181, e_Mo_init_198, e_Mo_init_199, nI_ltI, nI_add, nI_mul, nI_clamp, mx_in_nI, Nat.lt_irrefl, if_false]
  rw [l2]
  simp (disch := first | exact fR_0 | exact fR_1 | exact fR_7 | exact fR_11 | exact fR_19 | exact fR_20 | exact fR_23 | omega) only [e_Mo_init_200, e_Mo_init_201, e_Mo_init_203, e_Mo_init_220, nI_ltI, nI_add, nI_mul, nI_clamp, mx_in_nI, Nat.lt_irrefl, if_false]
def NWm (σ σ' : mx_S) : Prop := (∀ c, c < 23 → σ' c = σ c) ∧ σ' 23 3 = nI 3 ∧ σ' 23 6 = nI 1 ∧ (∀ k, ¬ k = 3 → ¬ k = 6 → σ' 23 k = σ 23 k) ∧ (∀ i, i < 288 → σ' 24 i = nI 30) ∧ (∀ i, i < 96 → σ' 25 i = nI 10) ∧ ∀ c, 26 ≤ c → c ≤ 43 → σ' c = fun _ => 0
theorem zr_end {σ : mx_S} {n c : Nat} (h : (¬ c = n → σ c = fun _ => 0)) : mx_zr σ n c = fun _ => 0 := by
  by_cases e : c = n
  · subst e; exact mx_zr_at
  · rw [mx_zr_nn e]; exact h e
theorem up_end {σ : mx_S} {n k c : Nat} {v : Int32} (h1 : ¬ c = n) (h : σ c = fun _ => 0) : mx_up σ n k v c = fun _ => 0 := by rw [mx_up_nn h1]; exact h
theorem k_Mo (σ : mx_S) : ∃ σ3, vv 0 112 0 [.ref 23, .null] [] (sk_48, σ) = some (none, (shF, σ3)) ∧ NWm σ σ3 := by
  refine ⟨_, k_Mo0 k_Mo1, fun c hc => ?_, ?_, ?_, fun k h3 h6 => ?_, fun i hi => ?_, fun i hi => ?_, fun c h1 h2 => ?_⟩
  · rw [rw1_nn (by omega), rw1_nn (by omega)]
    repeat (first | rw [mx_zr_nn (by omega)] | rw [mx_up_nn (by omega)])
  · rw [rw1_nn (by decide), rw1_nn (by decide)]
    repeat (first | rw [mx_zr_nn (by decide)])
    rw [mx_up_ap, if_pos rfl, if_neg (by decide)]
    repeat (first | rw [mx_zr_nn (by decide)])
    rw [mx_up_ap, if_pos rfl, if_pos rfl]
  · rw [rw1_nn (by decide), rw1_nn (by decide)]
    repeat (first | rw [mx_zr_nn (by decide)])
    rw [mx_up_ap, if_pos rfl, if_pos rfl]
  · rw [rw1_nn (by decide), rw1_nn (by decide)]
    repeat (first | rw [mx_zr_nn (by decide)])
    rw [mx_up_ap, if_pos rfl, if_neg h6]
    repeat (first | rw [mx_zr_nn (by decide)])
    rw [mx_up_ap, if_pos rfl, if_neg h3]
    repeat (first | rw [mx_zr_nn (by decide)])
  · rw [rw1_nn (by decide), rw1_at hi]
  · rw [rw1_at hi]
  · rw [rw1_nn (by omega), rw1_nn (by omega)]
    refine zr_end (fun _ => zr_end (fun _ => zr_end (fun _ => zr_end (fun _ => zr_end (fun _ => zr_end (fun _ => zr_end (fun _ => zr_end (fun _ => zr_end (fun _ => zr_end (fun _ => zr_end (fun _ => zr_end (fun _ => zr_end (fun _ => zr_end (fun _ => zr_end (fun _ => up_end (by omega) (zr_end (fun _ => zr_end (fun _ => up_end (by omega) (zr_end (fun _ => ?_))))))))))))))))))))
    exact absurd h1 (by omega)
theorem INV_new {σ τ : mx_S} (h : NWc σ) (hz : σ 23 = fun _ => 0) (hm : NWm σ τ) (hX : XW τ) : INV τ := by
  obtain ⟨w, c15, c2, c3, c4, c112, c11, c13⟩ := h
  obtain ⟨m0, m3, m6, m23, m24, m25, m26⟩ := hm
  have t11 : ∀ k, ¬ k = 2 → τ 11 k = 0 := fun k hk => by rw [m0 11 (by decide)]; exact c11 k hk
  have t13 : ∀ i k, i < 6 → τ (13 + i) k = 0 := fun i k hi => by rw [m0 (13 + i) (by omega), c13 (13 + i) (by omega) (by omega)]
  have t26 : ∀ c k, 26 ≤ c → c ≤ 43 → τ c k = 0 := fun c k h1 h2 => by rw [m26 c h1 h2]
  have t23 : ∀ k, ¬ k = 3 → ¬ k = 6 → τ 23 k = 0 := fun k h3 h6 => by rw [m23 k h3 h6, hz]
  refine ⟨WOK_of w (by rw [m0 1 (by decide)]) (m0 2 (by decide)) (m0 3 (by decide)) (m0 5 (by decide)) (m0 6 (by decide)), ⟨fun a b t ha hb hab ht => ?_, fun s t k hs ht hk => ?_, ?_, fun s hs => ?_⟩, ⟨fun i hi => ?_, ?_, fun i hi => ?_⟩, hX⟩
  · rw [m24 _ (by omega), m0 2 (by decide), c2 _ (lix_lt ha hb ht)]
  · rw [m25 _ (nix_lt hs ht hk), m0 3 (by decide), c3 _ (nix_lt hs ht hk)]
  · rw [m3, m0 1 (by decide), c15]
  · rw [t26 26 s (by decide) (by decide), m0 4 (by decide), c4]
    exact ⟨rfl, 0, by decide, nI_0.symm⟩
  · refine ⟨?_, ?_, ?_, ?_, ?_, ?_, ?_, ?_, ?_, ?_, ?_, ?_⟩ <;> rw [t26 _ i (by decide) (by decide), t13 i _ hi]
  · refine ⟨by rw [m6, m0 11 (by decide), c112], by rw [t23 19 (by decide) (by decide), t11 3 (by decide)], by rw [t23 20 (by decide) (by decide), t11 5 (by decide)], ?_, ?_⟩
    · rw [t11 4 (by decide), sm_congr (g := fun _ => 0) 6 (fun i _ => t26 38 i (by decide) (by decide))]
      decide +kernel
    · rw [t11 6 (by decide), sm_congr (g := fun _ => 0) 6 (fun i _ => t26 39 i (by decide) (by decide))]
      decide +kernel
  · refine ⟨⟨0, by decide, ?_⟩, ⟨0, by decide, ?_⟩, ⟨0, by decide, ?_⟩, ⟨0, by decide, ?_, fun z => ?_⟩, ⟨0, by decide, ?_⟩, ⟨0, by decide, ?_⟩, ⟨false, ?_⟩⟩
    · rw [t13 i _ hi, nI_0]
    · rw [t13 i _ hi, nI_0]
    · rw [t13 i _ hi, nI_0]
    · rw [t13 i _ hi, nI_0]
    · exact absurd (by rw [t13 i _ hi, nI_0]) z
    · rw [t13 i _ hi, nI_0]
    · rw [t13 i _ hi, nI_0]
    · rw [t13 i _ hi, bI_f, nI_0]
/-- the law up to its loop -/
theorem law_new (σ : mx_S) (hX : XW σ) : ∃ τ, vv 12 176 0 [.ref 1003, .null, .null, .null] [] ([], σ) = vv 12 176 18 [.ref 1003, .ref 0, .ref 23, .int (nI 0)] [] (shF, τ) ∧ INV τ ∧ ∀ c, 1000 ≤ c → τ c = σ c := by
  obtain ⟨σ2, e2, n2⟩ := k_Ml (mx_zr σ 0)
  obtain ⟨σ3, e3, n3⟩ := k_Mo (mx_zr σ2 23)
  have q2 := vv_hi e2 (show sk_11.length < 1000 by decide)
  have q3 := vv_hi e3 (show sk_48.length < 1000 by decide)
  have q : ∀ c, 1000 ≤ c → σ3 c = σ c := fun c hc => by
    have a : σ3 c = mx_zr σ2 23 c := q3 c hc
    have b : σ2 c = mx_zr σ 0 c := q2 c hc
    rw [a, mx_zr_nn (by omega), b, mx_zr_nn (by omega)]
  have n2' : NWc (mx_zr σ2 23) := by
    obtain ⟨w, c15, c2, c3, c4, c112, c11, c13⟩ := n2
    exact ⟨WOK_of w (by rw [mx_zr_nn (by decide)]) (mx_zr_nn (by decide)) (mx_zr_nn (by decide)) (mx_zr_nn (by decide)) (mx_zr_nn (by decide)), by rw [mx_zr_nn (by decide)]; exact c15, fun i hi => by rw [mx_zr_nn (by decide)]; exact c2 i hi, fun i hi => by rw [mx_zr_nn (by decide)]; exact c3 i hi, fun i => by rw [mx_zr_nn (by decide)]; exact c4 i, by rw [mx_zr_nn (by decide)]; exact c112, fun k hk => by rw [mx_zr_nn (by decide)]; exact c11 k hk, fun c h1 h2 => by rw [mx_zr_nn (by omega)]; exact c13 c h1 h2⟩
  refine ⟨σ3, ?_, INV_new n2' mx_zr_at n3 (XW_of hX q), q⟩
  refine (e_La_law_0 rfl).trans ?_
  show vv 12 176 3 [.ref 1003, .null, .null, .null] [.ref 0] (sk_11, mx_zr σ 0) = _
  refine (e_La_law_3).trans ?_
  refine (e_La_law_4).trans ?_
  rw [e2]
  refine (vr_f rfl).trans ?_
  show vv 12 176 7 [.ref 1003, .null, .null, .null] [.ref 0] (sk_47, σ2) = _
  refine (e_La_law_7).trans ?_
  refine (e_La_law_8 rfl).trans ?_
  show vv 12 176 11 [.ref 1003, .ref 0, .null, .null] [.ref 23] (sk_48, mx_zr σ2 23) = _
  refine (e_La_law_11).trans ?_
  refine (e_La_law_12).trans ?_
  rw [e3]
  refine (vr_f rfl).trans ?_
  show vv 12 176 15 [.ref 1003, .ref 0, .null, .null] [.ref 23] (shF, σ3) = _
  refine (e_La_law_15).trans ?_
  refine (e_La_law_16).trans ?_
  exact e_La_law_17
