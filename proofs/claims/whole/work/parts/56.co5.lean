/-! steps 4 and 5 in their loops; a slot -/
theorem bI_z {b : Bool} : (bI b = 0) ↔ b = false := bI_0
theorem f4_ph {Z : Nat → Bool} {A : mx_S} {k j : Nat} (h : ¬ j = k ∨ Z k = false) : f4 Z A k 0 j = A 0 j := by
  unfold f4
  split
  · next hz =>
    have hj : ¬ j = k := h.elim id (fun z => by rw [hz] at z; cases z)
    split
    · split
      · unfold ar4
        rw [ap_ne (by omega), ap_ne (by omega), ap_ne (by omega), ap_ne (by omega), ap_ne (by omega)]
      · unfold co4 wt
        rw [ap_ne (by omega), ap_ne (by omega), ap_ne (by omega), ap_ne (by omega), ap_ne (by omega), ap_ne (by omega), ap_ne (by omega), ap_ne (by omega)]
    · rw [ap_ne (by omega)]
  · rfl
theorem f4_ph' {Z : Nat → Bool} {A : mx_S} (n j : Nat) (h : n ≤ j ∨ Z j = false) : itr (f4 Z) A n 0 j = A 0 j := by
  induction n with
  | zero => rfl
  | succ n ih =>
    show f4 Z (itr (f4 Z) A n) n 0 j = _
    have h2 : n ≤ j ∨ Z j = false := h.elim (fun z => Or.inl (by omega)) Or.inr
    by_cases e : j = n
    · subst e
      rw [f4_ph (Or.inr (h.resolve_left (by omega)))]
      exact ih h2
    · rw [f4_ph (Or.inl e)]
      exact ih h2
theorem c_Co_goOn {σ A : mx_S} (hW : WOK σ) (hX : XW σ) (h : RC σ A) (hA : AR A) {Z : Nat → Bool} (hZ : ∀ k, k < 6 → Z k = true → ¬ A 0 k = nI 0) : ∃ σ', vv 3 15 0 [.ref 11, .int (mk Z 6), .null, .null] [] (shF, σ) = some (none, (shF, σ')) ∧ RC σ' (itr (f4 Z) A 6) ∧ FC σ σ' ∧ AR (itr (f4 Z) A 6) := by
  obtain ⟨x', e, i1, i2, i3⟩ := itx (F := fun k (x : mx_S × Value) => vv 3 15 2 [.ref 11, .int (mk Z 6), .int (nI k), x.2] [] (shF, x.1)) (I := fun k x => RC x.1 (itr (f4 Z) A k) ∧ FC σ x.1 ∧ AR (itr (f4 Z) A k)) 6 (fun k x hk hI => by
    obtain ⟨τ, v3⟩ := x
    obtain ⟨j1, j2, j3⟩ := hI
    have j1 : RC τ (itr (f4 Z) A k) := j1
    have j2 : FC σ τ := j2
    have en := j2.en hW hX
    have ef : itr (f4 Z) A (k + 1) = f4 Z (itr (f4 Z) A k) k := rfl
    have hz : Z k = true → ¬ (itr (f4 Z) A k) 0 k = nI 0 := fun z => by rw [f4_ph' k k (Or.inl (Nat.le_refl k))]; exact hZ k hk z
    have hAR := AR_f4 (Z := Z) (k := k) hz j3
    have h7 := j1.1 7 k (by decide) hk
    have h8 := j1.1 8 k (by decide) hk
    dsimp only
    rw [e_Co_goOn_2, ef]
    generalize itr (f4 Z) A k = B at *
    cases c1 : Z k with
    | false =>
      refine ⟨(τ, v3), ?_, by simpa [f4, c1] using j1, j2, hAR⟩
      simp (disch := first | exact fR_0 | exact fR_1 | exact fR_7 | exact fR_11 | exact fR_19 | exact fR_20 | exact fR_23 | omega) only [e_Co_goOn_0, e_Co_goOn_1, e_Co_goOn_3, e_Co_goOn_5, e_Co_goOn_8, e_Co_goOn_9, e_Co_goOn_10, e_Co_goOn_13, e_Co_goOn_16, e_Co_goOn_19, e_Co_goOn_20, e_Co_goOn_23, e_Co_goOn_24, e_Co_goOn_25, e_Co_goOn_26, e_Co_goOn_27, e_Co_goOn_28, e_Co_goOn_31, e_Co_goOn_32, e_Co_goOn_33, e_Co_goOn_36, e_Co_goOn_37, e_Co_goOn_40, e_Co_goOn_43, e_Co_goOn_46, e_Co_goOn_47, e_Co_goOn_50, e_Co_goOn_53, e_Co_goOn_54, e_Co_goOn_55, e_Co_goOn_58, e_Co_goOn_61, e_Co_goOn_62, e_Co_goOn_63, e_Co_goOn_66, e_Co_goOn_69, e_Co_goOn_72, vr_v, vr_n, vr_vh, vr_nh, vg_some, nI_ltI, nI_add, nI_mul, nI_clamp, mx_in_nI, hk, if_true, c_Se_has, mk_has hk, c1, bI_0]
    | true =>
      have k7 : RC (mx_up τ (13 + k) 7 (B 7 k - nI 1)) (mx_up B 7 k (B 7 k - nI 1)) := j1.put hk (by decide)
      have a7 : AR (mx_up B 7 k (B 7 k - nI 1)) := j3.free (Or.inr (Or.inl rfl))
      have x7 : XW (mx_up τ (13 + k) 7 (B 7 k - nI 1)) := XW_of en.2.2.2.2 (fun c hc => by rw [mx_up_nn (by omega)])
      by_cases c2 : 0 < B 7 k - nI 1
      · have c2' : ¬ B 7 k - nI 1 ≤ 0 := nle.mp c2
        refine ⟨(mx_up τ (13 + k) 7 (B 7 k - nI 1), .ref (13 + k)), ?_, by simpa [f4, c1, e4, c2] using k7, j2.st hk, hAR⟩
        simp (disch := first | exact fR_0 | exact fR_1 | exact fR_7 | exact fR_11 | exact fR_19 | exact fR_20 | exact fR_23 | omega) only [e_Co_goOn_0, e_Co_goOn_1, e_Co_goOn_3, e_Co_goOn_5, e_Co_goOn_8, e_Co_goOn_9, e_Co_goOn_10, e_Co_goOn_13, e_Co_goOn_16, e_Co_goOn_19, e_Co_goOn_20, e_Co_goOn_23, e_Co_goOn_24, e_Co_goOn_25, e_Co_goOn_26, e_Co_goOn_27, e_Co_goOn_28, e_Co_goOn_31, e_Co_goOn_32, e_Co_goOn_33, e_Co_goOn_36, e_Co_goOn_37, e_Co_goOn_40, e_Co_goOn_43, e_Co_goOn_46, e_Co_goOn_47, e_Co_goOn_50, e_Co_goOn_53, e_Co_goOn_54, e_Co_goOn_55, e_Co_goOn_58, e_Co_goOn_61, e_Co_goOn_62, e_Co_goOn_63, e_Co_goOn_66, e_Co_goOn_69, e_Co_goOn_72, vr_v, vr_n, vr_vh, vr_nh, vg_some, nI_ltI, nI_add, nI_mul, nI_clamp, mx_in_nI, hk, if_true, if_false, c_Se_has, mk_has hk, c1, bI_0, tf, fF_11_1, fS_7, isI_st, h7, mx_up_ap, c2']
      · have c2' : B 7 k - nI 1 ≤ 0 := Int32.not_lt.mp c2
        by_cases c3 : B 8 k = 0
        · obtain ⟨σ2, e2, q1, q2⟩ := c_Co_arrive k7 a7 hk
          refine ⟨(σ2, .ref (13 + k)), ?_, by simpa [f4, c1, e4, c2, c3] using q1, (j2.st hk).tr q2, hAR⟩
          simp (disch := first | exact fR_0 | exact fR_1 | exact fR_7 | exact fR_11 | exact fR_19 | exact fR_20 | exact fR_23 | omega) only [e_Co_goOn_0, e_Co_goOn_1, e_Co_goOn_3, e_Co_goOn_5, e_Co_goOn_8, e_Co_goOn_9, e_Co_goOn_10, e_Co_goOn_13, e_Co_goOn_16, e_Co_goOn_19, e_Co_goOn_20, e_Co_goOn_23, e_Co_goOn_24, e_Co_goOn_25, e_Co_goOn_26, e_Co_goOn_27, e_Co_goOn_28, e_Co_goOn_31, e_Co_goOn_32, e_Co_goOn_33, e_Co_goOn_36, e_Co_goOn_37, e_Co_goOn_40, e_Co_goOn_43, e_Co_goOn_46, e_Co_goOn_47, e_Co_goOn_50, e_Co_goOn_53, e_Co_goOn_54, e_Co_goOn_55, e_Co_goOn_58, e_Co_goOn_61, e_Co_goOn_62, e_Co_goOn_63, e_Co_goOn_66, e_Co_goOn_69, e_Co_goOn_72, vr_v, vr_n, vr_vh, vr_nh, vg_some, nI_ltI, nI_add, nI_mul, nI_clamp, mx_in_nI, hk, if_true, if_false, c_Se_has, mk_has hk, c1, bI_0, tf, fF_11_1, fS_7, fS_8, isI_st, h7, h8, mx_up_ap, c2', c3, Nat.reduceEqDiff, e2]
        · obtain ⟨σ2, e2, q1, q2⟩ := c_Co_collide x7 k7 a7 hk
          refine ⟨(σ2, .ref (13 + k)), ?_, by simpa [f4, c1, e4, c2, c3] using q1, (j2.st hk).tr q2, hAR⟩
          simp (disch := first | exact fR_0 | exact fR_1 | exact fR_7 | exact fR_11 | exact fR_19 | exact fR_20 | exact fR_23 | omega) only [e_Co_goOn_0, e_Co_goOn_1, e_Co_goOn_3, e_Co_goOn_5, e_Co_goOn_8, e_Co_goOn_9, e_Co_goOn_10, e_Co_goOn_13, e_Co_goOn_16, e_Co_goOn_19, e_Co_goOn_20, e_Co_goOn_23, e_Co_goOn_24, e_Co_goOn_25, e_Co_goOn_26, e_Co_goOn_27, e_Co_goOn_28, e_Co_goOn_31, e_Co_goOn_32, e_Co_goOn_33, e_Co_goOn_36, e_Co_goOn_37, e_Co_goOn_40, e_Co_goOn_43, e_Co_goOn_46, e_Co_goOn_47, e_Co_goOn_50, e_Co_goOn_53, e_Co_goOn_54, e_Co_goOn_55, e_Co_goOn_58, e_Co_goOn_61, e_Co_goOn_62, e_Co_goOn_63, e_Co_goOn_66, e_Co_goOn_69, e_Co_goOn_72, vr_v, vr_n, vr_vh, vr_nh, vg_some, nI_ltI, nI_add, nI_mul, nI_clamp, mx_in_nI, hk, if_true, if_false, c_Se_has, mk_has hk, c1, bI_0, tf, fF_11_1, fS_7, fS_8, isI_st, h7, h8, mx_up_ap, c2', c3, Nat.reduceEqDiff, e2]) (σ, .null) ⟨h, FC.rf, hA⟩
  refine ⟨x'.1, ?_, i1, i2, i3⟩
  rw [e_Co_goOn_0, e_Co_goOn_1]
  refine e.trans ?_
  simp (disch := first | exact fR_0 | exact fR_1 | exact fR_7 | exact fR_11 | exact fR_19 | exact fR_20 | exact fR_23 | omega) only [e_Co_goOn_2, e_Co_goOn_3, e_Co_goOn_5, e_Co_goOn_72, nI_ltI, nI_add, nI_mul, nI_clamp, mx_in_nI, Nat.lt_irrefl, if_false]
theorem f5_ph {σ : mx_S} {P T : Nat → Bool} {A : mx_S} {k j : Nat} (hk : ¬ j = k ∨ A 0 k = nI 1) : f5 σ P T A k 0 j = A 0 j := by
  unfold f5
  split
  · unfold df5
    split
    · unfold wt
      rw [ap_ne (by omega), ap_ne (by omega), ap_ne (by omega), ap_ne (by omega)]
      by_cases e : j = k
      · subst e
        rw [ap_eq, hk.resolve_left (fun z => z rfl)]
      · rw [ap_ne (by omega)]
    · split
      · rw [ap_ne (by omega), ap_ne (by omega)]
      · rw [ap_ne (by omega)]
  · rfl
theorem c_Co_giveWay {σ A : mx_S} (hW : WOK σ) (hX : XW σ) (h : RC σ A) (hA : AR A) {P T : Nat → Bool} (hP : ∀ k, k < 6 → P k = true → A 0 k = nI 1) : ∃ σ', vv 3 18 0 [.ref 11, .int (mk P 6), .int (mk T 6), .null] [] (shF, σ) = some (none, (shF, σ')) ∧ RC σ' (itr (f5 σ P T) A 6) ∧ FC σ σ' ∧ AR (itr (f5 σ P T) A 6) := by
  obtain ⟨σ', e, i1, i2, i3, -⟩ := its (F := fun k τ => vv 3 18 2 [.ref 11, .int (mk P 6), .int (mk T 6), .int (nI k)] [] (shF, τ)) (I := fun k τ => RC τ (itr (f5 σ P T) A k) ∧ FC σ τ ∧ AR (itr (f5 σ P T) A k) ∧ ∀ j, k ≤ j → (itr (f5 σ P T) A k) 0 j = A 0 j) 6 (fun k τ hk hI => by
    obtain ⟨j1, j2, j3, j4⟩ := hI
    have en := j2.en hW hX
    have ef : itr (f5 σ P T) A (k + 1) = f5 σ P T (itr (f5 σ P T) A k) k := rfl
    have hp : P k = true → (itr (f5 σ P T) A k) 0 k = nI 1 := fun z => by rw [j4 k (Nat.le_refl k)]; exact hP k hk z
    have hz : P k = true → ¬ (itr (f5 σ P T) A k) 0 k = nI 0 := fun z => by rw [hp z]; decide
    have hAR := AR_f5 (σ := σ) (P := P) (T := T) hk hz j3
    have ph : ∀ j, k + 1 ≤ j → f5 σ P T (itr (f5 σ P T) A k) k 0 j = A 0 j := fun j hj => by rw [f5_ph (Or.inl (by omega))]; exact j4 j (by omega)
    have ch := c_Wi_heardBy (σ := τ) WI_F hk
    rw [mk6h en.2.2.2.1 hk, en.1] at ch
    rw [e_Co_giveWay_2, ef]
    generalize itr (f5 σ P T) A k = B at *
    cases c1 : P k with
    | false =>
      refine ⟨τ, ?_, by simpa [f5, c1] using j1, j2, hAR, ph⟩
      simp (disch := first | exact fR_0 | exact fR_1 | exact fR_7 | exact fR_11 | exact fR_19 | exact fR_20 | exact fR_23 | omega) only [e_Co_giveWay_0, e_Co_giveWay_1, e_Co_giveWay_3, e_Co_giveWay_5, e_Co_giveWay_8, e_Co_giveWay_9, e_Co_giveWay_10, e_Co_giveWay_13, e_Co_giveWay_16, e_Co_giveWay_17, e_Co_giveWay_20, e_Co_giveWay_21, e_Co_giveWay_24, e_Co_giveWay_25, e_Co_giveWay_26, e_Co_giveWay_29, e_Co_giveWay_30, e_Co_giveWay_31, e_Co_giveWay_34, e_Co_giveWay_35, e_Co_giveWay_36, e_Co_giveWay_39, e_Co_giveWay_42, e_Co_giveWay_45, vr_v, vr_n, vr_vh, vr_nh, vg_some, nI_ltI, nI_add, nI_mul, nI_clamp, mx_in_nI, hk, if_true, c_Se_has, mk_has hk, c1, bI_0]
    | true =>
      cases c2 : anyb (fun j => hx σ k j && T j) 6 with
      | false =>
        refine ⟨τ, ?_, by rw [show f5 σ P T B k = B by unfold f5; rw [c1, c2]; rfl]; exact j1, j2, hAR, ph⟩
        simp (disch := first | exact fR_0 | exact fR_1 | exact fR_7 | exact fR_11 | exact fR_19 | exact fR_20 | exact fR_23 | omega) only [e_Co_giveWay_0, e_Co_giveWay_1, e_Co_giveWay_3, e_Co_giveWay_5, e_Co_giveWay_8, e_Co_giveWay_9, e_Co_giveWay_10, e_Co_giveWay_13, e_Co_giveWay_16, e_Co_giveWay_17, e_Co_giveWay_20, e_Co_giveWay_21, e_Co_giveWay_24, e_Co_giveWay_25, e_Co_giveWay_26, e_Co_giveWay_29, e_Co_giveWay_30, e_Co_giveWay_31, e_Co_giveWay_34, e_Co_giveWay_35, e_Co_giveWay_36, e_Co_giveWay_39, e_Co_giveWay_42, e_Co_giveWay_45, vr_v, vr_n, vr_vh, vr_nh, vg_some, nI_ltI, nI_add, nI_mul, nI_clamp, mx_in_nI, hk, if_true, if_false, c_Se_has, mk_has hk, c1, bI_0, tf, fF_11_0, ch, and_mk, mk_z, c2]
      | true =>
        obtain ⟨σ2, e2, q1, q2⟩ := c_Co_deferAt en.2.2.2.2 j1 j3 hk
        refine ⟨σ2, ?_, by rw [show f5 σ P T B k = df5 B k by unfold f5; rw [c1, c2]; rfl]; exact q1, j2.tr q2, hAR, ph⟩
        simp (disch := first | exact fR_0 | exact fR_1 | exact fR_7 | exact fR_11 | exact fR_19 | exact fR_20 | exact fR_23 | omega) only [e_Co_giveWay_0, e_Co_giveWay_1, e_Co_giveWay_3, e_Co_giveWay_5, e_Co_giveWay_8, e_Co_giveWay_9, e_Co_giveWay_10, e_Co_giveWay_13, e_Co_giveWay_16, e_Co_giveWay_17, e_Co_giveWay_20, e_Co_giveWay_21, e_Co_giveWay_24, e_Co_giveWay_25, e_Co_giveWay_26, e_Co_giveWay_29, e_Co_giveWay_30, e_Co_giveWay_31, e_Co_giveWay_34, e_Co_giveWay_35, e_Co_giveWay_36, e_Co_giveWay_39, e_Co_giveWay_42, e_Co_giveWay_45, vr_v, vr_n, vr_vh, vr_nh, vg_some, nI_ltI, nI_add, nI_mul, nI_clamp, mx_in_nI, hk, if_true, if_false, c_Se_has, mk_has hk, c1, bI_0, tf, fF_11_0, fF_11_1, ch, and_mk, mk_z, c2, e2]) σ ⟨h, FC.rf, hA, fun _ _ => rfl⟩
  refine ⟨σ', ?_, i1, i2, i3⟩
  rw [e_Co_giveWay_0, e_Co_giveWay_1]
  refine e.trans ?_
  simp (disch := first | exact fR_0 | exact fR_1 | exact fR_7 | exact fR_11 | exact fR_19 | exact fR_20 | exact fR_23 | omega) only [e_Co_giveWay_2, e_Co_giveWay_3, e_Co_giveWay_5, e_Co_giveWay_45, nI_ltI, nI_add, nI_mul, nI_clamp, mx_in_nI, Nat.lt_irrefl, if_false]
