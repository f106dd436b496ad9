/-! the steps of a slot, as the class does them -/
def EN (σ0 σ : mx_S) : Prop := hx σ = hx σ0 ∧ rch σ = rch σ0 ∧ (∀ a b k, spd σ a b k = spd σ0 a b k) ∧ WOK σ ∧ XW σ
theorem EN_of {σ0 σ : mx_S} (h1 : σ 1 5 = σ0 1 5) (h2 : σ 2 = σ0 2) (h3 : σ 3 = σ0 3) (h4 : σ 4 = σ0 4) (h5 : σ 5 = σ0 5) (h6 : σ 6 = σ0 6) (hx' : ∀ c, 1000 ≤ c → σ c = σ0 c) (hW : WOK σ0) (hX : XW σ0) : EN σ0 σ := by
  have e1 : hx σ = hx σ0 := by funext b a; simp only [hx, h6]
  refine ⟨e1, by funext a b; simp only [rch, h4, e1], fun a b k => spd_of (fun t _ => bC_of h1 (by rw [h2]) (by rw [h3])), WOK_of hW h1 h2 h3 h5 h6, XW_of hX hx'⟩
theorem FC.en {σ0 σ : mx_S} (h : FC σ0 σ) (hW : WOK σ0) (hX : XW σ0) : EN σ0 σ := EN_of (by rw [h.1 1 (by omega) (by omega)]) (h.1 2 (by omega) (by omega)) (h.1 3 (by omega) (by omega)) (h.1 4 (by omega) (by omega)) (h.1 5 (by omega) (by omega)) (h.1 6 (by omega) (by omega)) (fun c hc => h.1 c (by omega) (by omega)) hW hX
theorem held_en {σ0 σ A : mx_S} (h : EN σ0 σ) {W S : Nat → Bool} {i : Nat} : held σ A W S i = held σ0 A W S i := by simp only [held, h.1]
theorem mk_t {p : Nat → Bool} {k : Nat} (h : p k = true) : mk p (k + 1) = mk p k ||| (nI 1 <<< (nI k &&& 31)) := by
  show mk p k ||| ob (p k) k = _
  rw [h]; rfl
theorem mk_f {p : Nat → Bool} {k : Nat} (h : p k = false) : mk p (k + 1) = mk p k := by
  show mk p k ||| ob (p k) k = _
  rw [h, ob_or, if_pos rfl]
theorem c_Co_countDown {σ A : mx_S} (hW : WOK σ) (hX : XW σ) (h : RC σ A) {W S R : Nat → Bool} (hR : ∀ k, R k = r1 σ W S (itr (f1 σ W S) A k) k) : ∃ σ', vv 2 10 0 [.ref 11, .int (mk W 6), .int (mk S 6), .null, .null] [] (shF, σ) = some (some (.int (mk R 6)), (shF, σ')) ∧ RC σ' (itr (f1 σ W S) A 6) ∧ FC σ σ' := by
  obtain ⟨σ', e, i1, i2⟩ := its (F := fun k τ => vv 2 10 5 [.ref 11, .int (mk W 6), .int (mk S 6), .int (mk R k), .int (nI k)] [] (shF, τ)) (I := fun k τ => RC τ (itr (f1 σ W S) A k) ∧ FC σ τ) 6 (fun k τ hk hI => by
    obtain ⟨j1, j2⟩ := hI
    have en := j2.en hW hX
    have hh := c_Co_isHeld en.2.2.2.1 j1 hk (W := W) (S := S)
    rw [held_en en] at hh
    have h5 := j1.1 5 k (by decide) hk
    have ef : itr (f1 σ W S) A (k + 1) = f1 σ W S (itr (f1 σ W S) A k) k := rfl
    have hRk := hR k
    rw [e_Co_countDown_5, ef]
    generalize itr (f1 σ W S) A k = B at *
    cases c1 : W k with
    | false =>
      refine ⟨τ, ?_, by simpa [f1, c1] using j1, j2⟩
      rw [mk_f (show R k = false by rw [hRk]; simp [r1, c1])]
      simp (disch := first | exact fR_0 | exact fR_1 | exact fR_7 | exact fR_11 | exact fR_19 | exact fR_20 | exact fR_23 | omega) only [e_Co_countDown_0, e_Co_countDown_1, e_Co_countDown_2, e_Co_countDown_3, e_Co_countDown_7, e_Co_countDown_9, e_Co_countDown_12, e_Co_countDown_13, e_Co_countDown_15, e_Co_countDown_18, e_Co_countDown_21, e_Co_countDown_22, e_Co_countDown_24, e_Co_countDown_25, e_Co_countDown_26, e_Co_countDown_29, e_Co_countDown_32, e_Co_countDown_35, e_Co_countDown_36, e_Co_countDown_39, e_Co_countDown_41, e_Co_countDown_42, e_Co_countDown_45, e_Co_countDown_48, e_Co_countDown_49, e_Co_countDown_51, e_Co_countDown_54, e_Co_countDown_55, e_Co_countDown_56, e_Co_countDown_59, e_Co_countDown_60, e_Co_countDown_63, e_Co_countDown_65, e_Co_countDown_66, e_Co_countDown_67, e_Co_countDown_70, e_Co_countDown_71, e_Co_countDown_72, e_Co_countDown_75, e_Co_countDown_78, e_Co_countDown_81, e_Co_countDown_82, vr_v, vr_n, vr_vh, vr_nh, vg_some, nI_ltI, nI_add, nI_mul, nI_clamp, mx_in_nI, hk, if_true, c_Se_has, mk_has hk, c1, bI_0]
    | true =>
      cases c2 : held σ B W S k with
      | true =>
        refine ⟨τ, ?_, by simpa [f1, c1, c2] using j1, j2⟩
        rw [mk_f (show R k = false by rw [hRk]; simp [r1, c1, c2])]
        simp (disch := first | exact fR_0 | exact fR_1 | exact fR_7 | exact fR_11 | exact fR_19 | exact fR_20 | exact fR_23 | omega) only [e_Co_countDown_0, e_Co_countDown_1, e_Co_countDown_2, e_Co_countDown_3, e_Co_countDown_7, e_Co_countDown_9, e_Co_countDown_12, e_Co_countDown_13, e_Co_countDown_15, e_Co_countDown_18, e_Co_countDown_21, e_Co_countDown_22, e_Co_countDown_24, e_Co_countDown_25, e_Co_countDown_26, e_Co_countDown_29, e_Co_countDown_32, e_Co_countDown_35, e_Co_countDown_36, e_Co_countDown_39, e_Co_countDown_41, e_Co_countDown_42, e_Co_countDown_45, e_Co_countDown_48, e_Co_countDown_49, e_Co_countDown_51, e_Co_countDown_54, e_Co_countDown_55, e_Co_countDown_56, e_Co_countDown_59, e_Co_countDown_60, e_Co_countDown_63, e_Co_countDown_65, e_Co_countDown_66, e_Co_countDown_67, e_Co_countDown_70, e_Co_countDown_71, e_Co_countDown_72, e_Co_countDown_75, e_Co_countDown_78, e_Co_countDown_81, e_Co_countDown_82, vr_v, vr_n, vr_vh, vr_nh, vg_some, nI_ltI, nI_add, nI_mul, nI_clamp, mx_in_nI, hk, if_true, if_false, c_Se_has, mk_has hk, c1, c2, hh, bI_0, tf]
      | false =>
        by_cases c3 : B 5 k = 0
        · refine ⟨τ, ?_, by simpa [f1, c1, c2, c3] using j1, j2⟩
          rw [mk_t (show R k = true by rw [hRk]; simp [r1, c1, c2, c3])]
          simp (disch := first | exact fR_0 | exact fR_1 | exact fR_7 | exact fR_11 | exact fR_19 | exact fR_20 | exact fR_23 | omega) only [e_Co_countDown_0, e_Co_countDown_1, e_Co_countDown_2, e_Co_countDown_3, e_Co_countDown_7, e_Co_countDown_9, e_Co_countDown_12, e_Co_countDown_13, e_Co_countDown_15, e_Co_countDown_18, e_Co_countDown_21, e_Co_countDown_22, e_Co_countDown_24, e_Co_countDown_25, e_Co_countDown_26, e_Co_countDown_29, e_Co_countDown_32, e_Co_countDown_35, e_Co_countDown_36, e_Co_countDown_39, e_Co_countDown_41, e_Co_countDown_42, e_Co_countDown_45, e_Co_countDown_48, e_Co_countDown_49, e_Co_countDown_51, e_Co_countDown_54, e_Co_countDown_55, e_Co_countDown_56, e_Co_countDown_59, e_Co_countDown_60, e_Co_countDown_63, e_Co_countDown_65, e_Co_countDown_66, e_Co_countDown_67, e_Co_countDown_70, e_Co_countDown_71, e_Co_countDown_72, e_Co_countDown_75, e_Co_countDown_78, e_Co_countDown_81, e_Co_countDown_82, vr_v, vr_n, vr_vh, vr_nh, vg_some, nI_ltI, nI_add, nI_mul, nI_clamp, mx_in_nI, hk, if_true, if_false, c_Se_has, c_Se_of, mk_has hk, c1, c2, hh, bI_0, tf, fF_11_1, fS_5, h5, c3]
        · refine ⟨mx_up τ (13 + k) 5 (B 5 k - nI 1), ?_, by simpa [f1, c1, c2, c3] using j1.put hk (f := 5) (x := B 5 k - nI 1) (by decide), j2.st hk⟩
          rw [mk_f (show R k = false by rw [hRk]; simp [r1, c1, c2, c3])]
          simp (disch := first | exact fR_0 | exact fR_1 | exact fR_7 | exact fR_11 | exact fR_19 | exact fR_20 | exact fR_23 | omega) only [e_Co_countDown_0, e_Co_countDown_1, e_Co_countDown_2, e_Co_countDown_3, e_Co_countDown_7, e_Co_countDown_9, e_Co_countDown_12, e_Co_countDown_13, e_Co_countDown_15, e_Co_countDown_18, e_Co_countDown_21, e_Co_countDown_22, e_Co_countDown_24, e_Co_countDown_25, e_Co_countDown_26, e_Co_countDown_29, e_Co_countDown_32, e_Co_countDown_35, e_Co_countDown_36, e_Co_countDown_39, e_Co_countDown_41, e_Co_countDown_42, e_Co_countDown_45, e_Co_countDown_48, e_Co_countDown_49, e_Co_countDown_51, e_Co_countDown_54, e_Co_countDown_55, e_Co_countDown_56, e_Co_countDown_59, e_Co_countDown_60, e_Co_countDown_63, e_Co_countDown_65, e_Co_countDown_66, e_Co_countDown_67, e_Co_countDown_70, e_Co_countDown_71, e_Co_countDown_72, e_Co_countDown_75, e_Co_countDown_78, e_Co_countDown_81, e_Co_countDown_82, vr_v, vr_n, vr_vh, vr_nh, vg_some, nI_ltI, nI_add, nI_mul, nI_clamp, mx_in_nI, hk, if_true, if_false, c_Se_has, mk_has hk, c1, c2, hh, bI_0, tf, fF_11_1, fS_5, isI_st, h5, c3]) σ ⟨h, FC.rf⟩
  refine ⟨σ', ?_, i1, i2⟩
  rw [e_Co_countDown_0, e_Co_countDown_1, e_Co_countDown_2, e_Co_countDown_3]
  refine e.trans ?_
  simp (disch := first | exact fR_0 | exact fR_1 | exact fR_7 | exact fR_11 | exact fR_19 | exact fR_20 | exact fR_23 | omega) only [e_Co_countDown_5, e_Co_countDown_7, e_Co_countDown_9, e_Co_countDown_81, e_Co_countDown_82, nI_ltI, nI_add, nI_mul, nI_clamp, mx_in_nI, Nat.lt_irrefl, if_false]
theorem qup_le {v d : Nat} (hd : 0 < d) : qup v d ≤ v + d := Nat.le_trans (Nat.div_le_self _ _) (by omega)
theorem symN_le {F G N : Nat} (hF : F ≤ 80) (hG : G ≤ 80) (h0 : 0 < F + G) (hN : 0 < N) (hN2 : N ≤ 2000) : symN F G N ≤ 700000 := by
  obtain ⟨l1, l2, l3⟩ := lef_b h0 hN
  have hq : (8 * N - 1) / (10 * (F + G)) ≤ 8 * N - 1 := Nat.div_le_self _ _
  unfold symN
  split
  · have : qup (lef F G N - 10 * F) G ≤ lef F G N - 10 * F + G := by
      by_cases z : 0 < G
      · exact qup_le z
      · have : G = 0 := by omega
        subst this
        simp [qup]
    omega
  · have : qup (lef F G N) F ≤ lef F G N + F := by
      by_cases z : 0 < F
      · exact qup_le z
      · have : F = 0 := by omega
        subst this
        simp [qup]
    omega
theorem rch_n' {σ : mx_S} (hW : WOK σ) {a b : Nat} (ha : a < 6) (hb : b < 6) (h : rch σ a b = true) : ¬ a = b ∧ ∃ F G, F ≤ 80 ∧ G ≤ 80 ∧ 0 < F + G ∧ spd σ a b 0 = nI F ∧ spd σ a b 1 = nI G ∧ σ 5 (six a b 0) = nI F ∧ σ 5 (six a b 1) = nI G := by
  simp only [rch, Bool.and_eq_true, decide_eq_true_eq] at h
  obtain ⟨⟨hab, -⟩, h3⟩ := h
  refine ⟨hab, ?_⟩
  obtain ⟨F, hF, eF⟩ := spd_n σ a b 0
  obtain ⟨G, hG, eG⟩ := spd_n σ a b 1
  rw [hx_hrp hW ha hb] at h3
  refine ⟨F, G, hF, hG, ?_, eF, eG, by rw [hW.1 a b 0 ha hb hab (by decide), eF], by rw [hW.1 a b 1 ha hb hab (by decide), eG]⟩
  simp only [hrp, eF, eG, nle0 (show F < 2 ^ 31 by omega), nle0 (show G < 2 ^ 31 by omega)] at h3
  rcases Nat.eq_zero_or_pos (F + G) with z | z
  · have : F = 0 ∧ G = 0 := by omega
    simp [this.1, this.2] at h3
  · exact z
theorem c_Co_send {σ A : mx_S} (hW : WOK σ) (h : RC σ A) (hA : AR A) {k : Nat} (hk : k < 6) (hz : ¬ A 0 k = nI 0) (hr : rch σ k (toN A k) = true) : vv 2 13 0 [.ref 11, .int (nI k), .null] [] (shF, σ) = some (none, (shF, mx_up (mx_up (mx_up σ (13 + k) 0 (nI 2)) (13 + k) 8 (nI 0)) (13 + k) 7 (gov σ A k))) := by
  obtain ⟨t1, t2⟩ := hA.to hk
  obtain ⟨b1, b2, b3⟩ := hA.by_ hk
  have b4 := b3 hz
  obtain ⟨hij, F, G, hF, hG, h0, e1, e2, e3, e4⟩ := rch_n' hW hk t1 hr
  have hle := symN_le hF hG h0 b4 (by omega)
  have g1 := h.1 1 k (by decide) hk
  have g3 := h.1 3 k (by decide) hk
  have cs := c_Wi_symbolsFor (σ := mx_up (mx_up σ (13 + k) 0 (nI 2)) (13 + k) 8 (nI 0)) WI_F hk t1 (N := byN A k) (F := F) (G := G) (by rw [mx_up_nn (by omega), mx_up_nn (by omega)]; exact e3) (by rw [mx_up_nn (by omega), mx_up_nn (by omega)]; exact e4) hF hG h0 b4 (by omega)
  have eg : gov σ A k = nI (qup (symN F G (byN A k)) 10) := by
    unfold gov
    rw [e1, e2, nI_clamp (by omega), nI_clamp (by omega)]
  have n10 : (nI 10 = 0) ↔ False := by decide +kernel
  simp (disch := first | exact fR_0 | exact fR_1 | exact fR_7 | exact fR_11 | exact fR_19 | exact fR_20 | exact fR_23 | omega) only [e_Co_send_0, e_Co_send_1, e_Co_send_4, e_Co_send_5, e_Co_send_6, e_Co_send_7, e_Co_send_8, e_Co_send_9, e_Co_send_12, e_Co_send_13, e_Co_send_14_0, e_Co_send_14_1, e_Co_send_17, e_Co_send_18, e_Co_send_19, e_Co_send_22, e_Co_send_23, e_Co_send_24, e_Co_send_27, e_Co_send_28, e_Co_send_31, e_Co_send_34, e_Co_send_36, e_Co_send_37, e_Co_send_38, e_Co_send_39, e_Co_send_41, e_Co_send_42, e_Co_send_45, vr_v, vr_n, vr_vh, vr_nh, vg_some, fF_11_1, fF_11_0, isI_st, fS_1, fS_3, if_true, if_false, mx_up_ap, Nat.reduceEqDiff, g1, g3, t2, b2, cs, nI_ltI, nI_add, nI_mul, nI_clamp, mx_in_nI, pk_sub, n10, pk_div, eg, qup]
theorem c_Co_start {σ A : mx_S} (hW : WOK σ) (hX : XW σ) (h : RC σ A) (hA : AR A) {R T : Nat → Bool} (hT : ∀ k, T k = t2 σ R (itr (f2 σ R) A k) k) (hR : ∀ k, k < 6 → R k = true → ¬ A 0 k = nI 0) : ∃ σ', vv 3 12 0 [.ref 11, .int (mk R 6), .null, .null] [] (shF, σ) = some (some (.int (mk T 6)), (shF, σ')) ∧ RC σ' (itr (f2 σ R) A 6) ∧ FC σ σ' ∧ AR (itr (f2 σ R) A 6) := by
  obtain ⟨σ', e, i1, i2, i3, -⟩ := its (F := fun k τ => vv 3 12 4 [.ref 11, .int (mk R 6), .int (mk T k), .int (nI k)] [] (shF, τ)) (I := fun k τ => RC τ (itr (f2 σ R) A k) ∧ FC σ τ ∧ AR (itr (f2 σ R) A k) ∧ ∀ j, k ≤ j → (itr (f2 σ R) A k) 0 j = A 0 j) 6 (fun k τ hk hI => by
    obtain ⟨j1, j2, j3, j4⟩ := hI
    have en := j2.en hW hX
    have ef : itr (f2 σ R) A (k + 1) = f2 σ R (itr (f2 σ R) A k) k := rfl
    have hz : R k = true → ¬ (itr (f2 σ R) A k) 0 k = nI 0 := fun z => by rw [j4 k (Nat.le_refl k)]; exact hR k hk z
    have hAR := AR_f2 (σ := σ) (R := R) hk hz j3
    have h1 := j1.1 1 k (by decide) hk
    have hTk := hT k
    rw [e_Co_start_4, ef]
    generalize itr (f2 σ R) A k = B at *
    obtain ⟨t1, t2'⟩ := j3.to hk
    have cr := c_Wi_reaches (σ := τ) WI_F hk t1
    rw [en.2.1] at cr
    have ph : ∀ j, k + 1 ≤ j → f2 σ R B k 0 j = A 0 j := fun j hj => by
      have : B 0 j = A 0 j := j4 j (by omega)
      unfold f2
      split
      · split
        · rw [ap_ne (by omega), ap_ne (by omega), ap_ne (by omega)]; exact this
        · rw [ap_ne (by omega), ap_ne (by omega)]; exact this
      · exact this
    cases c1 : R k with
    | false =>
      refine ⟨τ, ?_, by simpa [f2, c1] using j1, j2, hAR, ph⟩
      rw [mk_f (show T k = false by rw [hTk]; simp [t2, c1])]
      simp (disch := first | exact fR_0 | exact fR_1 | exact fR_7 | exact fR_11 | exact fR_19 | exact fR_20 | exact fR_23 | omega) only [e_Co_start_0, e_Co_start_1, e_Co_start_2, e_Co_start_3, e_Co_start_5, e_Co_start_7, e_Co_start_10, e_Co_start_11, e_Co_start_12, e_Co_start_15, e_Co_start_18, e_Co_start_21, e_Co_start_22, e_Co_start_25, e_Co_start_26, e_Co_start_27, e_Co_start_30, e_Co_start_31, e_Co_start_32, e_Co_start_35, e_Co_start_38, e_Co_start_41, e_Co_start_42, e_Co_start_43, e_Co_start_46, e_Co_start_47, e_Co_start_48, e_Co_start_51, e_Co_start_52, e_Co_start_53, e_Co_start_56, e_Co_start_57, e_Co_start_60, e_Co_start_61, e_Co_start_62, e_Co_start_63, e_Co_start_66, e_Co_start_67, e_Co_start_68, e_Co_start_71, e_Co_start_72, e_Co_start_73, e_Co_start_76, e_Co_start_79, e_Co_start_82, e_Co_start_83, vr_v, vr_n, vr_vh, vr_nh, vg_some, nI_ltI, nI_add, nI_mul, nI_clamp, mx_in_nI, hk, if_true, c_Se_has, mk_has hk, c1, bI_0]
    | true =>
      cases c2 : rch σ k (toN B k) with
      | true =>
        have cs := c_Co_send en.2.2.2.1 j1 j3 hk (hz c1) (by rw [en.2.1]; exact c2)
        have eg : gov τ B k = gov σ B k := by simp only [gov, en.2.2.1]
        rw [eg] at cs
        refine ⟨_, ?_, by simpa [f2, c1, c2] using (((j1.put hk (f := 0) (x := nI 2) (by decide)).put hk (f := 8) (x := nI 0) (by decide)).put hk (f := 7) (x := gov σ B k) (by decide)), ((j2.st hk).st hk).st hk, hAR, ph⟩
        rw [mk_t (show T k = true by rw [hTk]; simp [t2, c1, c2])]
        simp (disch := first | exact fR_0 | exact fR_1 | exact fR_7 | exact fR_11 | exact fR_19 | exact fR_20 | exact fR_23 | omega) only [e_Co_start_0, e_Co_start_1, e_Co_start_2, e_Co_start_3, e_Co_start_5, e_Co_start_7, e_Co_start_10, e_Co_start_11, e_Co_start_12, e_Co_start_15, e_Co_start_18, e_Co_start_21, e_Co_start_22, e_Co_start_25, e_Co_start_26, e_Co_start_27, e_Co_start_30, e_Co_start_31, e_Co_start_32, e_Co_start_35, e_Co_start_38, e_Co_start_41, e_Co_start_42, e_Co_start_43, e_Co_start_46, e_Co_start_47, e_Co_start_48, e_Co_start_51, e_Co_start_52, e_Co_start_53, e_Co_start_56, e_Co_start_57, e_Co_start_60, e_Co_start_61, e_Co_start_62, e_Co_start_63, e_Co_start_66, e_Co_start_67, e_Co_start_68, e_Co_start_71, e_Co_start_72, e_Co_start_73, e_Co_start_76, e_Co_start_79, e_Co_start_82, e_Co_start_83, vr_v, vr_n, vr_vh, vr_nh, vg_some, nI_ltI, nI_add, nI_mul, nI_clamp, mx_in_nI, hk, if_true, if_false, c_Se_has, c_Se_of, mk_has hk, c1, c2, bI_0, tf, fF_11_1, fF_11_0, fS_1, h1, t2', cr, cs]
      | false =>
        have hd : τ 11 5 = B 12 1 := j1.2.2.1
        have n11 : ¬ 11 = 13 + k := by omega
        refine ⟨mx_up (mx_up τ (13 + k) 0 (nI 0)) 11 5 (B 12 1 + nI 1), ?_, by simpa [f2, c1, c2] using ((j1.put hk (f := 0) (x := nI 0) (by decide)).s (x := B 12 1 + nI 1) (Or.inr (Or.inl ⟨rfl, rfl⟩))), (j2.st hk).s (by decide), hAR, ph⟩
        rw [mk_f (show T k = false by rw [hTk]; simp [t2, c1, c2])]
        simp (disch := first | exact fR_0 | exact fR_1 | exact fR_7 | exact fR_11 | exact fR_19 | exact fR_20 | exact fR_23 | omega) only [e_Co_start_0, e_Co_start_1, e_Co_start_2, e_Co_start_3, e_Co_start_5, e_Co_start_7, e_Co_start_10, e_Co_start_11, e_Co_start_12, e_Co_start_15, e_Co_start_18, e_Co_start_21, e_Co_start_22, e_Co_start_25, e_Co_start_26, e_Co_start_27, e_Co_start_30, e_Co_start_31, e_Co_start_32, e_Co_start_35, e_Co_start_38, e_Co_start_41, e_Co_start_42, e_Co_start_43, e_Co_start_46, e_Co_start_47, e_Co_start_48, e_Co_start_51, e_Co_start_52, e_Co_start_53, e_Co_start_56, e_Co_start_57, e_Co_start_60, e_Co_start_61, e_Co_start_62, e_Co_start_63, e_Co_start_66, e_Co_start_67, e_Co_start_68, e_Co_start_71, e_Co_start_72, e_Co_start_73, e_Co_start_76, e_Co_start_79, e_Co_start_82, e_Co_start_83, vr_v, vr_n, vr_vh, vr_nh, vg_some, nI_ltI, nI_add, nI_mul, nI_clamp, mx_in_nI, hk, if_true, if_false, c_Se_has, mk_has hk, c1, c2, bI_0, tf, fF_11_1, fF_11_0, fF_11_5, fI_11_5, fS_1, isI_st, h1, t2', cr, mx_up_ap, n11, hd]) σ ⟨h, FC.rf, hA, fun _ _ => rfl⟩
  refine ⟨σ', ?_, i1, i2, i3⟩
  rw [e_Co_start_0, e_Co_start_1, e_Co_start_2, e_Co_start_3]
  refine e.trans ?_
  simp (disch := first | exact fR_0 | exact fR_1 | exact fR_7 | exact fR_11 | exact fR_19 | exact fR_20 | exact fR_23 | omega) only [e_Co_start_4, e_Co_start_5, e_Co_start_7, e_Co_start_82, e_Co_start_83, nI_ltI, nI_add, nI_mul, nI_clamp, mx_in_nI, Nat.lt_irrefl, if_false]
