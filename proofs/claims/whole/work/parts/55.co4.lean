/-! steps 3 to 5, as the class does them; a slot -/
theorem itx {R X : Type} {F : Nat → X → R} {I : Nat → X → Prop} : ∀ (n : Nat), (∀ k x, k < n → I k x → ∃ x', F k x = F (k + 1) x' ∧ I (k + 1) x') → ∀ x, I 0 x → ∃ x', F 0 x = F n x' ∧ I n x' := by
  intro n
  induction n with
  | zero => intro _ x h; exact ⟨x, rfl, h⟩
  | succ n ih =>
    intro h x h0
    obtain ⟨x1, e1, i1⟩ := ih (fun k x hk hI => h k x (by omega) hI) x h0
    obtain ⟨x2, e2, i2⟩ := h n x1 (by omega) i1
    exact ⟨x2, e1.trans e2, i2⟩
theorem c_Co_spoil {σ A : mx_S} (hW : WOK σ) (hX : XW σ) (h : RC σ A) (hA : AR A) {Z : Nat → Bool} : ∃ σ', vv 1 14 0 [.ref 11, .int (mk Z 6), .null, .null, .null] [] (shF, σ) = some (none, (shF, σ')) ∧ RC σ' (itr (f3 σ Z) A 6) ∧ FC σ σ' ∧ AR (itr (f3 σ Z) A 6) := by
  obtain ⟨x', e, i1, i2, i3⟩ := itx (F := fun k (x : mx_S × Value × Value) => vv 1 14 2 [.ref 11, .int (mk Z 6), .int (nI k), x.2.1, x.2.2] [] (shF, x.1)) (I := fun k x => RC x.1 (itr (f3 σ Z) A k) ∧ FC σ x.1 ∧ AR (itr (f3 σ Z) A k)) 6 (fun k x hk hI => by
    obtain ⟨τ, v3, v4⟩ := x
    obtain ⟨j1, j2, j3⟩ := hI
    have j1 : RC τ (itr (f3 σ Z) A k) := j1
    have j2 : FC σ τ := j2
    have en := j2.en hW hX
    have ef : itr (f3 σ Z) A (k + 1) = f3 σ Z (itr (f3 σ Z) A k) k := rfl
    have hAR := AR_f3 (σ := σ) (Z := Z) (k := k) j3
    have h1 := j1.1 1 k (by decide) hk
    dsimp only
    rw [e_Co_spoil_2, ef]
    generalize itr (f3 σ Z) A k = B at *
    obtain ⟨t1, t2'⟩ := j3.to hk
    have ch := c_Wi_heardBy (σ := τ) WI_F t1
    rw [mk6h en.2.2.2.1 t1, en.1] at ch
    cases c1 : Z k with
    | false =>
      refine ⟨(τ, v3, v4), ?_, by simpa [f3, c1] using j1, j2, hAR⟩
      simp (disch := first | exact fR_0 | exact fR_1 | exact fR_7 | exact fR_11 | exact fR_19 | exact fR_20 | exact fR_23 | omega) only [e_Co_spoil_0, e_Co_spoil_1, e_Co_spoil_3, e_Co_spoil_5, e_Co_spoil_8, e_Co_spoil_9, e_Co_spoil_10, e_Co_spoil_13, e_Co_spoil_16, e_Co_spoil_19, e_Co_spoil_20, e_Co_spoil_23, e_Co_spoil_24, e_Co_spoil_25, e_Co_spoil_28, e_Co_spoil_29, e_Co_spoil_30, e_Co_spoil_33, e_Co_spoil_34, e_Co_spoil_37, e_Co_spoil_38, e_Co_spoil_39, e_Co_spoil_40, e_Co_spoil_43, e_Co_spoil_44, e_Co_spoil_45, e_Co_spoil_46, e_Co_spoil_48, e_Co_spoil_49, e_Co_spoil_50, e_Co_spoil_53, e_Co_spoil_56, e_Co_spoil_58, e_Co_spoil_61, e_Co_spoil_62, e_Co_spoil_65, e_Co_spoil_66, e_Co_spoil_67, e_Co_spoil_68_0, e_Co_spoil_68_1, e_Co_spoil_71, e_Co_spoil_74, e_Co_spoil_77, vr_v, vr_n, vr_vh, vr_nh, vg_some, nI_ltI, nI_add, nI_mul, nI_clamp, mx_in_nI, hk, if_true, c_Se_has, mk_has hk, c1, bI_0]
    | true =>
      cases c2 : Z (toN B k) with
      | true =>
        refine ⟨(mx_up τ (13 + k) 8 (nI 1), .int (nI (toN B k)), .int (mk (fun i => if i = k then false else hx σ (toN B k) i && Z i) 6)), ?_, by simpa [f3, c1, sp3, c2] using j1.put hk (f := 8) (x := nI 1) (by decide), j2.st hk, hAR⟩
        simp (disch := first | exact fR_0 | exact fR_1 | exact fR_7 | exact fR_11 | exact fR_19 | exact fR_20 | exact fR_23 | omega) only [e_Co_spoil_0, e_Co_spoil_1, e_Co_spoil_3, e_Co_spoil_5, e_Co_spoil_8, e_Co_spoil_9, e_Co_spoil_10, e_Co_spoil_13, e_Co_spoil_16, e_Co_spoil_19, e_Co_spoil_20, e_Co_spoil_23, e_Co_spoil_24, e_Co_spoil_25, e_Co_spoil_28, e_Co_spoil_29, e_Co_spoil_30, e_Co_spoil_33, e_Co_spoil_34, e_Co_spoil_37, e_Co_spoil_38, e_Co_spoil_39, e_Co_spoil_40, e_Co_spoil_43, e_Co_spoil_44, e_Co_spoil_45, e_Co_spoil_46, e_Co_spoil_48, e_Co_spoil_49, e_Co_spoil_50, e_Co_spoil_53, e_Co_spoil_56, e_Co_spoil_58, e_Co_spoil_61, e_Co_spoil_62, e_Co_spoil_65, e_Co_spoil_66, e_Co_spoil_67, e_Co_spoil_68_0, e_Co_spoil_68_1, e_Co_spoil_71, e_Co_spoil_74, e_Co_spoil_77, vr_v, vr_n, vr_vh, vr_nh, vg_some, nI_ltI, nI_add, nI_mul, nI_clamp, mx_in_nI, hk, if_true, if_false, c_Se_has, c_Se_of, mk_has hk, mk_has t1, c1, c2, bI_0, tf, fF_11_1, fF_11_0, fS_1, isI_st, h1, t2', ch, and_mk, mk_clr hk]
      | false =>
        cases c3 : anyb (fun j => if j = k then false else hx σ (toN B k) j && Z j) 6 with
        | true =>
          refine ⟨(mx_up τ (13 + k) 8 (nI 1), .int (nI (toN B k)), .int (mk (fun i => if i = k then false else hx σ (toN B k) i && Z i) 6)), ?_, by rw [show f3 σ Z B k = mx_up B 8 k (nI 1) by unfold f3 sp3; rw [c1, c2, c3]; rfl]; exact j1.put hk (by decide), j2.st hk, hAR⟩
          simp (disch := first | exact fR_0 | exact fR_1 | exact fR_7 | exact fR_11 | exact fR_19 | exact fR_20 | exact fR_23 | omega) only [e_Co_spoil_0, e_Co_spoil_1, e_Co_spoil_3, e_Co_spoil_5, e_Co_spoil_8, e_Co_spoil_9, e_Co_spoil_10, e_Co_spoil_13, e_Co_spoil_16, e_Co_spoil_19, e_Co_spoil_20, e_Co_spoil_23, e_Co_spoil_24, e_Co_spoil_25, e_Co_spoil_28, e_Co_spoil_29, e_Co_spoil_30, e_Co_spoil_33, e_Co_spoil_34, e_Co_spoil_37, e_Co_spoil_38, e_Co_spoil_39, e_Co_spoil_40, e_Co_spoil_43, e_Co_spoil_44, e_Co_spoil_45, e_Co_spoil_46, e_Co_spoil_48, e_Co_spoil_49, e_Co_spoil_50, e_Co_spoil_53, e_Co_spoil_56, e_Co_spoil_58, e_Co_spoil_61, e_Co_spoil_62, e_Co_spoil_65, e_Co_spoil_66, e_Co_spoil_67, e_Co_spoil_68_0, e_Co_spoil_68_1, e_Co_spoil_71, e_Co_spoil_74, e_Co_spoil_77, vr_v, vr_n, vr_vh, vr_nh, vg_some, nI_ltI, nI_add, nI_mul, nI_clamp, mx_in_nI, hk, if_true, if_false, c_Se_has, c_Se_of, mk_has hk, mk_has t1, c1, c2, bI_0, tf, fF_11_1, fF_11_0, fS_1, isI_st, h1, t2', ch, and_mk, mk_clr hk, mk_z, c3]
        | false =>
          refine ⟨(τ, .int (nI (toN B k)), .int (mk (fun i => if i = k then false else hx σ (toN B k) i && Z i) 6)), ?_, by rw [show f3 σ Z B k = B by unfold f3 sp3; rw [c1, c2, c3]; rfl]; exact j1, j2, hAR⟩
          simp (disch := first | exact fR_0 | exact fR_1 | exact fR_7 | exact fR_11 | exact fR_19 | exact fR_20 | exact fR_23 | omega) only [e_Co_spoil_0, e_Co_spoil_1, e_Co_spoil_3, e_Co_spoil_5, e_Co_spoil_8, e_Co_spoil_9, e_Co_spoil_10, e_Co_spoil_13, e_Co_spoil_16, e_Co_spoil_19, e_Co_spoil_20, e_Co_spoil_23, e_Co_spoil_24, e_Co_spoil_25, e_Co_spoil_28, e_Co_spoil_29, e_Co_spoil_30, e_Co_spoil_33, e_Co_spoil_34, e_Co_spoil_37, e_Co_spoil_38, e_Co_spoil_39, e_Co_spoil_40, e_Co_spoil_43, e_Co_spoil_44, e_Co_spoil_45, e_Co_spoil_46, e_Co_spoil_48, e_Co_spoil_49, e_Co_spoil_50, e_Co_spoil_53, e_Co_spoil_56, e_Co_spoil_58, e_Co_spoil_61, e_Co_spoil_62, e_Co_spoil_65, e_Co_spoil_66, e_Co_spoil_67, e_Co_spoil_68_0, e_Co_spoil_68_1, e_Co_spoil_71, e_Co_spoil_74, e_Co_spoil_77, vr_v, vr_n, vr_vh, vr_nh, vg_some, nI_ltI, nI_add, nI_mul, nI_clamp, mx_in_nI, hk, if_true, if_false, c_Se_has, c_Se_of, mk_has hk, mk_has t1, c1, c2, bI_0, tf, fF_11_1, fF_11_0, fS_1, isI_st, h1, t2', ch, and_mk, mk_clr hk, mk_z, c3]) (σ, .null, .null) ⟨h, FC.rf, hA⟩
  refine ⟨x'.1, ?_, i1, i2, i3⟩
  rw [e_Co_spoil_0, e_Co_spoil_1]
  refine e.trans ?_
  simp (disch := first | exact fR_0 | exact fR_1 | exact fR_7 | exact fR_11 | exact fR_19 | exact fR_20 | exact fR_23 | omega) only [e_Co_spoil_2, e_Co_spoil_3, e_Co_spoil_5, e_Co_spoil_77, nI_ltI, nI_add, nI_mul, nI_clamp, mx_in_nI, Nat.lt_irrefl, if_false]
theorem c_Co_arrive {σ A : mx_S} (h : RC σ A) (hA : AR A) {k : Nat} (hk : k < 6) : ∃ σ', vv 0 16 0 [.ref 11, .ref (13 + k)] [] (shF, σ) = some (none, (shF, σ')) ∧ RC σ' (ar4 A k) ∧ FC σ σ' := by
  obtain ⟨t1, t2'⟩ := hA.to hk
  have h1 := h.1 1 k (by decide) hk
  have h9 := h.1 9 k (by decide) hk
  have h11 := h.1 11 (toN A k) (by decide) t1
  have ht := h.2.2.2.1
  have n11 : ¬ 11 = 13 + k := by omega
  have n12 : ¬ 11 = 13 + toN A k := by omega
  refine ⟨mx_up (mx_up (mx_up (mx_up σ (13 + k) 0 (nI 0)) (13 + k) 9 (A 9 k + nI 1)) (13 + toN A k) 11 (A 11 (toN A k) + nI 1)) 11 4 (A 12 2 + nI 1), ?_, (((h.put hk (by decide)).put hk (by decide)).put t1 (by decide)).s (Or.inr (Or.inr (Or.inl ⟨rfl, rfl⟩))), (((FC.rf.st hk).st hk).st t1).s (by decide)⟩
  simp (disch := first | exact fR_0 | exact fR_1 | exact fR_7 | exact fR_11 | exact fR_19 | exact fR_20 | exact fR_23 | omega) only [e_Co_arrive_0, e_Co_arrive_1, e_Co_arrive_2, e_Co_arrive_5, e_Co_arrive_6, e_Co_arrive_7, e_Co_arrive_10, e_Co_arrive_11, e_Co_arrive_12, e_Co_arrive_15, e_Co_arrive_16, e_Co_arrive_19, e_Co_arrive_20, e_Co_arrive_23, e_Co_arrive_24, e_Co_arrive_25, e_Co_arrive_28, e_Co_arrive_29, e_Co_arrive_30, e_Co_arrive_33, e_Co_arrive_34, e_Co_arrive_35, e_Co_arrive_38, e_Co_arrive_39, e_Co_arrive_40, e_Co_arrive_43, vr_v, vr_n, vr_vh, vr_nh, vg_some, fF_11_1, fF_11_4, fI_11_4, fS_1, fS_9, fS_11, isI_st, if_true, if_false, mx_up_ap, Nat.reduceEqDiff, h1, h9, t2', ht, n11, n12]
  have hh : (if 13 + toN A k = 13 + k then σ (13 + k) 11 else if 13 + toN A k = 13 + k then σ (13 + k) 11 else σ (13 + toN A k) 11) = A 11 (toN A k) := by
    by_cases e : 13 + toN A k = 13 + k
    · rw [if_pos e, ← e]
      exact h11
    · rw [if_neg e, if_neg e]
      exact h11
  rw [hh]
theorem c_Co_collide {σ A : mx_S} (hX : XW σ) (h : RC σ A) (hA : AR A) {k : Nat} (hk : k < 6) : ∃ σ', vv 2 17 0 [.ref 11, .ref (13 + k)] [] (shF, σ) = some (none, (shF, σ')) ∧ RC σ' (co4 A k) ∧ FC σ σ' := by
  obtain ⟨r1', r2⟩ := hA.rk hk
  obtain ⟨s1, s2⟩ := hA.sg hk
  have h2 := h.1 2 k (by decide) hk
  have h4 := h.1 4 k (by decide) hk
  have h10 := h.1 10 k (by decide) hk
  have ht := h.2.2.2.2
  have n11 : ¬ 11 = 13 + k := by omega
  have n11' : ¬ 13 + k = 11 := by omega
  have hX2 : XW (mx_up (mx_up σ (13 + k) 10 (A 10 k + nI 1)) 11 6 (A 12 3 + nI 1)) := XW_of hX (fun c hc => by rw [mx_up_nn (by omega), mx_up_nn (by omega)])
  have cw := c_Co_waitAt hX2 hk r1' (g := sgN A k + 1) (by omega) (by rw [mx_up_nn (by omega), ap_ne (by omega), h2, r2])
  refine ⟨wtC (mx_up (mx_up σ (13 + k) 10 (A 10 k + nI 1)) 11 6 (A 12 3 + nI 1)) k (rkN A k) (sgN A k + 1), ?_, wtC_RC ((h.put hk (by decide)).s (Or.inr (Or.inr (Or.inr ⟨rfl, rfl⟩)))) hk, FC.tr ((FC.rf.st hk).s (by decide)) (wtC_FC hk)⟩
  simp (disch := first | exact fR_0 | exact fR_1 | exact fR_7 | exact fR_11 | exact fR_19 | exact fR_20 | exact fR_23 | omega) only [e_Co_collide_0, e_Co_collide_1, e_Co_collide_2, e_Co_collide_5, e_Co_collide_6, e_Co_collide_7, e_Co_collide_10, e_Co_collide_11, e_Co_collide_12, e_Co_collide_15, e_Co_collide_16, e_Co_collide_17, e_Co_collide_20, e_Co_collide_21, e_Co_collide_22, e_Co_collide_23, e_Co_collide_26, e_Co_collide_27, e_Co_collide_28, e_Co_collide_31, vr_v, vr_n, vr_vh, vr_nh, vg_some, fF_11_6, fI_11_6, fS_4, fS_10, isI_st, if_true, if_false, mx_up_ap, Nat.reduceEqDiff, h4, h10, s2, ht, n11, n11', nI_ltI, nI_add, nI_mul, nI_clamp, mx_in_nI, cw]
theorem c_Co_deferAt {σ A : mx_S} (hX : XW σ) (h : RC σ A) (hA : AR A) {k : Nat} (hk : k < 6) : ∃ σ', vv 2 19 0 [.ref 11, .ref (13 + k)] [] (shF, σ) = some (none, (shF, σ')) ∧ RC σ' (df5 A k) ∧ FC σ σ' := by
  obtain ⟨r1', r2⟩ := hA.rk hk
  obtain ⟨s1, s2⟩ := hA.sg hk
  have h2 := h.1 2 k (by decide) hk
  have h4 := h.1 4 k (by decide) hk
  have h5 := h.1 5 k (by decide) hk
  have h6 := h.1 6 k (by decide) hk
  by_cases c1 : A 6 k = 0
  · have cw := c_Co_waitAt hX hk r1' (g := sgN A k + 1) (by omega) (by rw [h2, r2])
    refine ⟨wtC σ k (rkN A k) (sgN A k + 1), ?_, by simpa [df5, c1] using wtC_RC h hk, wtC_FC hk⟩
    simp (disch := first | exact fR_0 | exact fR_1 | exact fR_7 | exact fR_11 | exact fR_19 | exact fR_20 | exact fR_23 | omega) only [e_Co_deferAt_0, e_Co_deferAt_1, e_Co_deferAt_4, e_Co_deferAt_7, e_Co_deferAt_8, e_Co_deferAt_9, e_Co_deferAt_10, e_Co_deferAt_13, e_Co_deferAt_14, e_Co_deferAt_15, e_Co_deferAt_18, e_Co_deferAt_19, e_Co_deferAt_20, e_Co_deferAt_21, e_Co_deferAt_24, e_Co_deferAt_25, e_Co_deferAt_26, e_Co_deferAt_29, e_Co_deferAt_30, e_Co_deferAt_33, e_Co_deferAt_36, e_Co_deferAt_37, e_Co_deferAt_38, e_Co_deferAt_41, e_Co_deferAt_42, e_Co_deferAt_43, e_Co_deferAt_46, vr_v, vr_n, vr_vh, vr_nh, vg_some, fS_4, fS_6, if_true, h4, h6, s2, c1, nI_ltI, nI_add, nI_mul, nI_clamp, mx_in_nI, cw]
  · by_cases c2 : 0 < A 5 k
    · have c3 : ¬ A 5 k ≤ 0 := nle.mp c2
      refine ⟨mx_up (mx_up σ (13 + k) 6 (A 6 k - nI 1)) (13 + k) 5 (A 5 k - nI 1), ?_, by simpa [df5, c1, c2] using (h.put hk (f := 6) (x := A 6 k - nI 1) (by decide)).put hk (f := 5) (x := A 5 k - nI 1) (by decide), (FC.rf.st hk).st hk⟩
      simp (disch := first | exact fR_0 | exact fR_1 | exact fR_7 | exact fR_11 | exact fR_19 | exact fR_20 | exact fR_23 | omega) only [e_Co_deferAt_0, e_Co_deferAt_1, e_Co_deferAt_4, e_Co_deferAt_7, e_Co_deferAt_8, e_Co_deferAt_9, e_Co_deferAt_10, e_Co_deferAt_13, e_Co_deferAt_14, e_Co_deferAt_15, e_Co_deferAt_18, e_Co_deferAt_19, e_Co_deferAt_20, e_Co_deferAt_21, e_Co_deferAt_24, e_Co_deferAt_25, e_Co_deferAt_26, e_Co_deferAt_29, e_Co_deferAt_30, e_Co_deferAt_33, e_Co_deferAt_36, e_Co_deferAt_37, e_Co_deferAt_38, e_Co_deferAt_41, e_Co_deferAt_42, e_Co_deferAt_43, e_Co_deferAt_46, vr_v, vr_n, vr_vh, vr_nh, vg_some, fS_5, fS_6, isI_st, if_true, if_false, h5, h6, c1, c3, mx_up_ap, Nat.reduceEqDiff]
    · have c3 : A 5 k ≤ 0 := Int32.not_lt.mp c2
      refine ⟨mx_up σ (13 + k) 6 (A 6 k - nI 1), ?_, by simpa [df5, c1, c2] using h.put hk (f := 6) (x := A 6 k - nI 1) (by decide), FC.rf.st hk⟩
      simp (disch := first | exact fR_0 | exact fR_1 | exact fR_7 | exact fR_11 | exact fR_19 | exact fR_20 | exact fR_23 | omega) only [e_Co_deferAt_0, e_Co_deferAt_1, e_Co_deferAt_4, e_Co_deferAt_7, e_Co_deferAt_8, e_Co_deferAt_9, e_Co_deferAt_10, e_Co_deferAt_13, e_Co_deferAt_14, e_Co_deferAt_15, e_Co_deferAt_18, e_Co_deferAt_19, e_Co_deferAt_20, e_Co_deferAt_21, e_Co_deferAt_24, e_Co_deferAt_25, e_Co_deferAt_26, e_Co_deferAt_29, e_Co_deferAt_30, e_Co_deferAt_33, e_Co_deferAt_36, e_Co_deferAt_37, e_Co_deferAt_38, e_Co_deferAt_41, e_Co_deferAt_42, e_Co_deferAt_43, e_Co_deferAt_46, vr_v, vr_n, vr_vh, vr_nh, vg_some, fS_5, fS_6, isI_st, if_true, if_false, h5, h6, c1, c3, mx_up_ap, Nat.reduceEqDiff]
