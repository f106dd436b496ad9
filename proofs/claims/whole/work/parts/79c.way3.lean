/-! nearest ways: the reference -/
def yv (v : Nat) : Nat := if v < 100000000 then v + 1 else 1000000000
def hv (v : Nat) : Nat := if v < 100000000 then v else 1000000000
theorem yv_le {v : Nat} : yv v ≤ 1000000000 := by unfold yv; split <;> omega
theorem hv_le {v : Nat} : hv v ≤ 1000000000 := by unfold hv; split <;> omega
theorem lin_far' {C : Nat → Nat → Nat} {F M B : Nat} {x : Nat → Nat} (hM : ∀ s t, C s t < F → C s t ≤ M) (hx : ∀ i, x i < F → x i ≤ B) : ∀ e i, lin C x e i < F → lin C x e i ≤ B + e * M := by
  intro e
  induction e with
  | zero => intro i h; have := hx i h; show x i ≤ _; omega
  | succ e ih =>
    intro i h
    rw [lin] at h ⊢
    unfold rl at h ⊢
    rw [Nat.add_mul, Nat.one_mul]
    by_cases c : i = e / 6
    · rw [if_pos c] at h ⊢
      by_cases d : C (e / 6) (e % 6) + lin C x e (e % 6) < lin C x e (e / 6)
      · rw [if_pos d] at h ⊢
        have h1 := hM (e / 6) (e % 6) (by omega)
        have h2 := ih (e % 6) (by omega)
        omega
      · rw [if_neg d] at h ⊢
        have := ih (e / 6) h
        omega
    · rw [if_neg c] at h ⊢
      have := ih i h
      omega
theorem rn_far {C : Nat → Nat → Nat} {F M : Nat} {x : Nat → Nat} (hM : ∀ s t, C s t < F → C s t ≤ M) (hx : ∀ i, x i < F → x i = 0) : ∀ r i, rn C x r i < F → rn C x r i ≤ r * (36 * M) := by
  intro r
  induction r with
  | zero => intro i h; have := hx i h; show x i ≤ _; omega
  | succ r ih =>
    intro i h
    rw [rn] at h ⊢
    have := lin_far' hM ih 36 i h
    rw [Nat.add_mul, Nat.one_mul]
    omega
def HOf (σ : mx_S) (N : Nat) : Nat → Int32 := fun e => nI (hv (CN σ N (e / 6) (e % 6)))
theorem HOf_at {σ : mx_S} {N a b : Nat} (hb : b < 6) : HOf σ N (a * 6 + b) = nI (hv (CN σ N a b)) := by
  unfold HOf
  rw [show (a * 6 + b) / 6 = a by omega, show (a * 6 + b) % 6 = b by omega]
def YF (x : Nat → Nat) : Nat → Int32 := fun i => nI (yv (x i))
def Y7 (S : mx_S) (x : Nat → Nat) : mx_S := rw1 S 27 (YF x) 6
theorem Y7_at {S : mx_S} {x : Nat → Nat} {i : Nat} (h : i < 6) : Y7 S x 27 i = nI (yv (x i)) := rw1_at h
theorem Y7_nn {S : mx_S} {x : Nat → Nat} {c : Nat} (h : ¬ c = 27) : Y7 S x c = S c := rw1_nn h
theorem Y7_up {S : mx_S} {x y : Nat → Nat} {k v : Nat} (hk : k < 6) (hy : ∀ i, i < 6 → nI (yv (y i)) = if i = k then nI v else nI (yv (x i))) : mx_up (Y7 S x) 27 k (nI v) = Y7 S y := rw1_set hk hy
section WM
theorem fc_1 {σ : mx_S} (hI : INV σ) {N b : Nat} (hN : 0 < N) (hN2 : N ≤ 2000) (hb : b < 6) : ∃ y : Value, vv 5 137 2 [.ref 23, .int (nI b), .int (nI N), .int (nI 0), .null, .null] [] (shF, σ) = vv 5 137 2 [.ref 23, .int (nI b), .int (nI N), .int (nI 6), y, .null] [] (shF, Y7 (rw1 σ 28 (HOf σ N) 36) (x0 b)) := by
  obtain ⟨x', e, -⟩ := itx (F := fun s (x : Value) => vv 5 137 2 [.ref 23, .int (nI b), .int (nI N), .int (nI s), x, .null] [] (shF, rw1 (rw1 σ 28 (HOf σ N) (s * 6)) 27 (YF (x0 b)) s)) (I := fun _ _ => True) 6 (fun s x hs _ => by
    obtain ⟨y', e1, hy6⟩ := itx (F := fun o (y : Value) => vv 5 137 28 [.ref 23, .int (nI b), .int (nI N), .int (nI s), y, .null] [] (shF, rw1 (rw1 σ 28 (HOf σ N) (s * 6 + o)) 27 (YF (x0 b)) (s + 1))) (I := fun o y => y = .int (nI o)) 6 (fun o y ho hy => by
      refine ⟨.int (nI (o + 1)), ?_, rfl⟩
      subst hy
      show vv _ _ _ _ _ _ = vv _ _ _ _ _ _
      rw [e_Mo_findCosts_28]
      have hJ : INV (rw1 (rw1 σ 28 (HOf σ N) (s * 6 + o)) 27 (YF (x0 b)) (s + 1)) := INV_rw (INV_rw hI (Or.inr (by decide))) (Or.inr (by decide))
      have hr : rch (rw1 (rw1 σ 28 (HOf σ N) (s * 6 + o)) 27 (YF (x0 b)) (s + 1)) s o = rch σ s o := by
        rw [rch_of (rw1_nn (by decide)) (rw1_nn (by decide)), rch_of (rw1_nn (by decide)) (rw1_nn (by decide))]
      have hq : sN (rw1 (rw1 σ 28 (HOf σ N) (s * 6 + o)) 27 (YF (x0 b)) (s + 1)) N s o = sN σ N s o := by
        rw [sN_of (rw1_nn (by decide)) (rw1_nn (by decide)) (rw1_nn (by decide)), sN_of (rw1_nn (by decide)) (rw1_nn (by decide)) (rw1_nn (by decide))]
      have k36 : s * 6 + o < 36 := by omega
      have hc6 : 6 * s + o = s * 6 + o := by omega
      have hu : mx_up (rw1 (rw1 σ 28 (HOf σ N) (s * 6 + o)) 27 (YF (x0 b)) (s + 1)) 28 (s * 6 + o) (nI (hv (CN σ N s o))) = rw1 (rw1 σ 28 (HOf σ N) (s * 6 + (o + 1))) 27 (YF (x0 b)) (s + 1) := by
        rw [rw1_upc (by decide), ← HOf_at ho, rw1_up]
        rfl
      cases h : rch σ s o with
      | false =>
        have hc : hv (CN σ N s o) = 1000000000 := by unfold CN hv; rw [h]; rfl
        rw [hc] at hu
        simp (disch := first | exact fR_0 | exact fR_1 | exact fR_7 | exact fR_11 | exact fR_19 | exact fR_20 | exact fR_23 | omega) only [e_Mo_findCosts_30, e_Mo_findCosts_32, e_Mo_findCosts_35, e_Mo_findCosts_36, e_Mo_findCosts_39, e_Mo_findCosts_41, e_Mo_findCosts_42, e_Mo_findCosts_43, e_Mo_findCosts_45, e_Mo_findCosts_46, e_Mo_findCosts_47, e_Mo_findCosts_48, e_Mo_findCosts_50, e_Mo_findCosts_53, e_Mo_findCosts_72, e_Mo_findCosts_74, e_Mo_findCosts_75, e_Mo_findCosts_78, vr_v, vr_n, vr_vh, vr_nh, vg_some, fF_23_0, fF_23_1, fF_23_2, fF_23_3, fI_23_3, fF_23_4, fF_23_5, fF_23_6, fI_23_6, fF_23_7, fF_23_8, fF_23_9, fF_23_10, fF_23_11, fF_23_12, fF_23_13, fF_23_14, fF_23_15, fF_23_16, fF_23_17, fF_23_18, fF_23_19, fI_23_19, fF_23_20, fI_23_20, fF_23_21, fI_23_21, fF_23_22, fI_23_22, fF_23_23, fI_23_23, fF_23_24, fI_23_24, fF_23_25, fI_23_25, fF_23_26, fI_23_26, fF_23_27, fI_23_27, fF_23_28, fI_23_28, fF_23_29, fF_23_30, fF_23_31, fR_23, fL_24, fW_24, fL_25, fW_25, fL_26, fW_26, fL_27, fW_27, fL_28, fW_28, fL_29, fW_29, fL_30, fW_30, fL_31, fW_31, fL_32, fW_32, fL_33, fW_33, fL_34, fW_34, fL_35, fW_35, fL_36, fW_36, fW_37, fL_38, fW_38, fL_39, fW_39, fL_40, fW_40, fL_41, fW_41, fL_42, fW_42, fL_43, fW_43, nI_ltI, nI_add, nI_mul, nI_clamp, mx_in_nI, ho, hc6, k36, if_true, if_false, c_Mo_reaches hJ.1 hJ.2.1 hs ho, hr, h, bI_0, tf, hu]
      | true =>
        have hbb := sN_b (σ := σ) (s := s) (t := o) hN hN2
        have hc : hv (CN σ N s o) = 8 * sN σ N s o + 1 := by
          unfold CN hv
          rw [h, if_pos rfl, if_pos (by omega)]
          omega
        rw [hc] at hu
        have hs' := (rch_c hJ hs ho (by rw [hr]; exact h) hN hN2).2
        rw [hq] at hs'
        simp (disch := first | exact fR_0 | exact fR_1 | exact fR_7 | exact fR_11 | exact fR_19 | exact fR_20 | exact fR_23 | omega) only [e_Mo_findCosts_30, e_Mo_findCosts_32, e_Mo_findCosts_35, e_Mo_findCosts_36, e_Mo_findCosts_39, e_Mo_findCosts_41, e_Mo_findCosts_42, e_Mo_findCosts_43, e_Mo_findCosts_45, e_Mo_findCosts_46, e_Mo_findCosts_47, e_Mo_findCosts_48, e_Mo_findCosts_50, e_Mo_findCosts_53, e_Mo_findCosts_56, e_Mo_findCosts_58, e_Mo_findCosts_59, e_Mo_findCosts_60, e_Mo_findCosts_62, e_Mo_findCosts_63, e_Mo_findCosts_66, e_Mo_findCosts_67, e_Mo_findCosts_68, e_Mo_findCosts_69, e_Mo_findCosts_74, e_Mo_findCosts_75, e_Mo_findCosts_78, vr_v, vr_n, vr_vh, vr_nh, vg_some, fF_23_0, fF_23_1, fF_23_2, fF_23_3, fI_23_3, fF_23_4, fF_23_5, fF_23_6, fI_23_6, fF_23_7, fF_23_8, fF_23_9, fF_23_10, fF_23_11, fF_23_12, fF_23_13, fF_23_14, fF_23_15, fF_23_16, fF_23_17, fF_23_18, fF_23_19, fI_23_19, fF_23_20, fI_23_20, fF_23_21, fI_23_21, fF_23_22, fI_23_22, fF_23_23, fI_23_23, fF_23_24, fI_23_24, fF_23_25, fI_23_25, fF_23_26, fI_23_26, fF_23_27, fI_23_27, fF_23_28, fI_23_28, fF_23_29, fF_23_30, fF_23_31, fR_23, fL_24, fW_24, fL_25, fW_25, fL_26, fW_26, fL_27, fW_27, fL_28, fW_28, fL_29, fW_29, fL_30, fW_30, fL_31, fW_31, fL_32, fW_32, fL_33, fW_33, fL_34, fW_34, fL_35, fW_35, fL_36, fW_36, fW_37, fL_38, fW_38, fL_39, fW_39, fL_40, fW_40, fL_41, fW_41, fL_42, fW_42, fL_43, fW_43, nI_ltI, nI_add, nI_mul, nI_clamp, mx_in_nI, ho, hc6, k36, if_true, if_false, c_Mo_reaches hJ.1 hJ.2.1 hs ho, hr, h, bI_0, tf, hs', hu]) (.int (nI 0)) rfl
    refine ⟨y', ?_, trivial⟩
    show vv _ _ _ _ _ _ = vv _ _ _ _ _ _
    have hu := rw1_up (σ := rw1 σ 28 (HOf σ N) (s * 6)) (c := 27) (n := s) (f := YF (x0 b))
    have s0 : vv 5 137 2 [.ref 23, .int (nI b), .int (nI N), .int (nI s), x, .null] [] (shF, rw1 (rw1 σ 28 (HOf σ N) (s * 6)) 27 (YF (x0 b)) s) = vv 5 137 28 [.ref 23, .int (nI b), .int (nI N), .int (nI s), .int (nI 0), .null] [] (shF, rw1 (rw1 σ 28 (HOf σ N) (s * 6 + 0)) 27 (YF (x0 b)) (s + 1)) := by
      by_cases e : s = b
      · subst e
        have hy : YF (x0 s) s = nI 1 := by unfold YF x0 yv; rw [if_pos rfl]; rfl
        rw [hy] at hu
        simp (disch := first | exact fR_0 | exact fR_1 | exact fR_7 | exact fR_11 | exact fR_19 | exact fR_20 | exact fR_23 | omega) only [e_Mo_findCosts_2, e_Mo_findCosts_3, e_Mo_findCosts_5, e_Mo_findCosts_8, e_Mo_findCosts_9, e_Mo_findCosts_12, e_Mo_findCosts_13, e_Mo_findCosts_14, e_Mo_findCosts_15, e_Mo_findCosts_18, e_Mo_findCosts_19, e_Mo_findCosts_24, e_Mo_findCosts_25, e_Mo_findCosts_26, vr_v, vr_n, vr_vh, vr_nh, vg_some, fF_23_0, fF_23_1, fF_23_2, fF_23_3, fI_23_3, fF_23_4, fF_23_5, fF_23_6, fI_23_6, fF_23_7, fF_23_8, fF_23_9, fF_23_10, fF_23_11, fF_23_12, fF_23_13, fF_23_14, fF_23_15, fF_23_16, fF_23_17, fF_23_18, fF_23_19, fI_23_19, fF_23_20, fI_23_20, fF_23_21, fI_23_21, fF_23_22, fI_23_22, fF_23_23, fI_23_23, fF_23_24, fI_23_24, fF_23_25, fI_23_25, fF_23_26, fI_23_26, fF_23_27, fI_23_27, fF_23_28, fI_23_28, fF_23_29, fF_23_30, fF_23_31, fR_23, fL_24, fW_24, fL_25, fW_25, fL_26, fW_26, fL_27, fW_27, fL_28, fW_28, fL_29, fW_29, fL_30, fW_30, fL_31, fW_31, fL_32, fW_32, fL_33, fW_33, fL_34, fW_34, fL_35, fW_35, fL_36, fW_36, fW_37, fL_38, fW_38, fL_39, fW_39, fL_40, fW_40, fL_41, fW_41, fL_42, fW_42, fL_43, fW_43, nI_ltI, nI_add, nI_mul, nI_clamp, mx_in_nI, hs, if_true, eq_self, Nat.add_zero, hu]
      · have hy : YF (x0 b) s = nI 1000000000 := by unfold YF x0 yv; rw [if_neg e]; rfl
        rw [hy] at hu
        simp (disch := first | exact fR_0 | exact fR_1 | exact fR_7 | exact fR_11 | exact fR_19 | exact fR_20 | exact fR_23 | omega) only [e_Mo_findCosts_2, e_Mo_findCosts_3, e_Mo_findCosts_5, e_Mo_findCosts_8, e_Mo_findCosts_9, e_Mo_findCosts_12, e_Mo_findCosts_13, e_Mo_findCosts_14, e_Mo_findCosts_15, e_Mo_findCosts_22, e_Mo_findCosts_24, e_Mo_findCosts_25, e_Mo_findCosts_26, vr_v, vr_n, vr_vh, vr_nh, vg_some, fF_23_0, fF_23_1, fF_23_2, fF_23_3, fI_23_3, fF_23_4, fF_23_5, fF_23_6, fI_23_6, fF_23_7, fF_23_8, fF_23_9, fF_23_10, fF_23_11, fF_23_12, fF_23_13, fF_23_14, fF_23_15, fF_23_16, fF_23_17, fF_23_18, fF_23_19, fI_23_19, fF_23_20, fI_23_20, fF_23_21, fI_23_21, fF_23_22, fI_23_22, fF_23_23, fI_23_23, fF_23_24, fI_23_24, fF_23_25, fI_23_25, fF_23_26, fI_23_26, fF_23_27, fI_23_27, fF_23_28, fI_23_28, fF_23_29, fF_23_30, fF_23_31, fR_23, fL_24, fW_24, fL_25, fW_25, fL_26, fW_26, fL_27, fW_27, fL_28, fW_28, fL_29, fW_29, fL_30, fW_30, fL_31, fW_31, fL_32, fW_32, fL_33, fW_33, fL_34, fW_34, fL_35, fW_35, fL_36, fW_36, fW_37, fL_38, fW_38, fL_39, fW_39, fL_40, fW_40, fL_41, fW_41, fL_42, fW_42, fL_43, fW_43, nI_ltI, nI_add, nI_mul, nI_clamp, mx_in_nI, hs, if_true, if_false, nI_eq, e, hu, Nat.add_zero]
    refine s0.trans (e1.trans ?_)
    rw [hy6, e_Mo_findCosts_28]
    simp (disch := first | exact fR_0 | exact fR_1 | exact fR_7 | exact fR_11 | exact fR_19 | exact fR_20 | exact fR_23 | omega) only [e_Mo_findCosts_30, e_Mo_findCosts_32, e_Mo_findCosts_81, e_Mo_findCosts_84, nI_ltI, nI_add, nI_mul, nI_clamp, mx_in_nI, Nat.lt_irrefl, if_false, show (s + 1) * 6 = s * 6 + 6 by omega]) .null trivial
  refine ⟨x', ?_⟩
  simp only [Nat.zero_mul, rw1_0] at e
  exact e
/-- a step of a round -/
theorem fc_s {S : mx_S} {C : Nat → Nat → Nat} {x : Nat → Nat} {b N r e : Nat} {y : Value} (he : e < 36) (h28 : S 28 e = nI (hv (C (e / 6) (e % 6)))) (hx : ∀ i, x i ≤ 100000000) (hfar : C (e / 6) (e % 6) < 100000000 → x (e % 6) < 100000000 → C (e / 6) (e % 6) + x (e % 6) < 100000000) : ∃ y' : Value, vv 5 137 98 [.ref 23, .int (nI b), .int (nI N), .int (nI r), .int (nI e), y] [] (shF, Y7 S x) = vv 5 137 98 [.ref 23, .int (nI b), .int (nI N), .int (nI r), .int (nI (e + 1)), y'] [] (shF, Y7 S (rl C x (e / 6) (e % 6))) := by
  have hs : e / 6 < 6 := by omega
  have ht : e % 6 < 6 := by omega
  have hm : e - e / 6 * 6 = e % 6 := by omega
  have hle : e / 6 * 6 ≤ e := by omega
  have n6 : ¬ (6 : Nat) = 0 := by decide
  have s28 : Y7 S x 28 e = nI (hv (C (e / 6) (e % 6))) := by rw [Y7_nn (by decide)]; exact h28
  have t27 := Y7_at (S := S) (x := x) ht
  have s27 := Y7_at (S := S) (x := x) hs
  have hxs := hx (e / 6)
  have hxt := hx (e % 6)
  have ylt := yv_le (v := x (e / 6))
  generalize hsd : e / 6 = s at *
  generalize htd : e % 6 = t at *
  by_cases c1 : C s t < 100000000
  · have v1 : hv (C s t) = C s t := by unfold hv; rw [if_pos c1]
    have w1 : C s t < 1000000000 := by omega
    by_cases c2 : x t < 100000000
    · have v2 : yv (x t) = x t + 1 := by unfold yv; rw [if_pos c2]
      have w2 : x t + 1 < 1000000000 := by omega
      have hf := hfar c1 c2
      refine ⟨.int (nI (C s t + (x t + 1))), ?_⟩
      rw [e_Mo_findCosts_98]
      by_cases d : C s t + (x t + 1) < yv (x s)
      · have hd : C s t + x t < x s := by
          unfold yv at d
          by_cases q : x s < 100000000
          · rw [if_pos q] at d; omega
          · omega
        have hu : mx_up (Y7 S x) 27 s (nI (C s t + (x t + 1))) = Y7 S (rl C x s t) := Y7_up hs (fun i _ => by
          unfold rl
          by_cases q : i = s
          · rw [if_pos q, if_pos q, if_pos hd]
            unfold yv
            rw [if_pos hf]
            rfl
          · rw [if_neg q, if_neg q])
        simp (disch := first | exact fR_0 | exact fR_1 | exact fR_7 | exact fR_11 | exact fR_19 | exact fR_20 | exact fR_23 | omega) only [e_Mo_findCosts_100, e_Mo_findCosts_102, e_Mo_findCosts_105, e_Mo_findCosts_106, e_Mo_findCosts_109, e_Mo_findCosts_111, e_Mo_findCosts_112, e_Mo_findCosts_114, e_Mo_findCosts_117, e_Mo_findCosts_118, e_Mo_findCosts_121, e_Mo_findCosts_123, e_Mo_findCosts_125, e_Mo_findCosts_126, e_Mo_findCosts_127, e_Mo_findCosts_129, e_Mo_findCosts_132, e_Mo_findCosts_133, e_Mo_findCosts_136, e_Mo_findCosts_138, e_Mo_findCosts_139, e_Mo_findCosts_140, e_Mo_findCosts_143, e_Mo_findCosts_145, e_Mo_findCosts_147, e_Mo_findCosts_148, e_Mo_findCosts_149, e_Mo_findCosts_150, e_Mo_findCosts_155, e_Mo_findCosts_157, e_Mo_findCosts_158, e_Mo_findCosts_161, e_Mo_findCosts_163, e_Mo_findCosts_165, e_Mo_findCosts_166, e_Mo_findCosts_168, e_Mo_findCosts_169, e_Mo_findCosts_172, e_Mo_findCosts_174, e_Mo_findCosts_176, e_Mo_findCosts_177, e_Mo_findCosts_178, e_Mo_findCosts_181, e_Mo_findCosts_183, e_Mo_findCosts_196, e_Mo_findCosts_197, e_Mo_findCosts_200, vr_v, vr_n, vr_vh, vr_nh, vg_some, fF_23_0, fF_23_1, fF_23_2, fF_23_3, fI_23_3, fF_23_4, fF_23_5, fF_23_6, fI_23_6, fF_23_7, fF_23_8, fF_23_9, fF_23_10, fF_23_11, fF_23_12, fF_23_13, fF_23_14, fF_23_15, fF_23_16, fF_23_17, fF_23_18, fF_23_19, fI_23_19, fF_23_20, fI_23_20, fF_23_21, fI_23_21, fF_23_22, fI_23_22, fF_23_23, fI_23_23, fF_23_24, fI_23_24, fF_23_25, fI_23_25, fF_23_26, fI_23_26, fF_23_27, fI_23_27, fF_23_28, fI_23_28, fF_23_29, fF_23_30, fF_23_31, fR_23, fL_24, fW_24, fL_25, fW_25, fL_26, fW_26, fL_27, fW_27, fL_28, fW_28, fL_29, fW_29, fL_30, fW_30, fL_31, fW_31, fL_32, fW_32, fL_33, fW_33, fL_34, fW_34, fL_35, fW_35, fL_36, fW_36, fW_37, fL_38, fW_38, fL_39, fW_39, fL_40, fW_40, fL_41, fW_41, fL_42, fW_42, fL_43, fW_43, nI_ltI, nI_add, nI_mul, nI_clamp, mx_in_nI, he, if_true, if_false, neq0, n6, pk_div, pk_sub, hsd, hm, hs, ht, s28, s27, t27, v1, v2, w1, w2, d, hu]
      · have hd : ¬ C s t + x t < x s := by
          unfold yv at d
          by_cases q : x s < 100000000
          · rw [if_pos q] at d; omega
          rw [if_neg q] at d; omega
        have hu : mx_up (Y7 S x) 27 s (nI (yv (x s))) = Y7 S (rl C x s t) := Y7_up hs (fun i _ => by
          unfold rl
          by_cases q : i = s
          · rw [if_pos q, if_pos q, if_neg hd]
          · rw [if_neg q, if_neg q])
        simp (disch := first | exact fR_0 | exact fR_1 | exact fR_7 | exact fR_11 | exact fR_19 | exact fR_20 | exact fR_23 | omega) only [e_Mo_findCosts_100, e_Mo_findCosts_102, e_Mo_findCosts_105, e_Mo_findCosts_106, e_Mo_findCosts_109, e_Mo_findCosts_111, e_Mo_findCosts_112, e_Mo_findCosts_114, e_Mo_findCosts_117, e_Mo_findCosts_118, e_Mo_findCosts_121, e_Mo_findCosts_123, e_Mo_findCosts_125, e_Mo_findCosts_126, e_Mo_findCosts_127, e_Mo_findCosts_129, e_Mo_findCosts_132, e_Mo_findCosts_133, e_Mo_findCosts_136, e_Mo_findCosts_138, e_Mo_findCosts_139, e_Mo_findCosts_140, e_Mo_findCosts_143, e_Mo_findCosts_145, e_Mo_findCosts_147, e_Mo_findCosts_148, e_Mo_findCosts_149, e_Mo_findCosts_150, e_Mo_findCosts_155, e_Mo_findCosts_157, e_Mo_findCosts_158, e_Mo_findCosts_161, e_Mo_findCosts_163, e_Mo_findCosts_165, e_Mo_findCosts_166, e_Mo_findCosts_168, e_Mo_findCosts_169, e_Mo_findCosts_172, e_Mo_findCosts_174, e_Mo_findCosts_176, e_Mo_findCosts_177, e_Mo_findCosts_178, e_Mo_findCosts_186, e_Mo_findCosts_187, e_Mo_findCosts_190, e_Mo_findCosts_192, e_Mo_findCosts_194, e_Mo_findCosts_195, e_Mo_findCosts_196, e_Mo_findCosts_197, e_Mo_findCosts_200, vr_v, vr_n, vr_vh, vr_nh, vg_some, fF_23_0, fF_23_1, fF_23_2, fF_23_3, fI_23_3, fF_23_4, fF_23_5, fF_23_6, fI_23_6, fF_23_7, fF_23_8, fF_23_9, fF_23_10, fF_23_11, fF_23_12, fF_23_13, fF_23_14, fF_23_15, fF_23_16, fF_23_17, fF_23_18, fF_23_19, fI_23_19, fF_23_20, fI_23_20, fF_23_21, fI_23_21, fF_23_22, fI_23_22, fF_23_23, fI_23_23, fF_23_24, fI_23_24, fF_23_25, fI_23_25, fF_23_26, fI_23_26, fF_23_27, fI_23_27, fF_23_28, fI_23_28, fF_23_29, fF_23_30, fF_23_31, fR_23, fL_24, fW_24, fL_25, fW_25, fL_26, fW_26, fL_27, fW_27, fL_28, fW_28, fL_29, fW_29, fL_30, fW_30, fL_31, fW_31, fL_32, fW_32, fL_33, fW_33, fL_34, fW_34, fL_35, fW_35, fL_36, fW_36, fW_37, fL_38, fW_38, fL_39, fW_39, fL_40, fW_40, fL_41, fW_41, fL_42, fW_42, fL_43, fW_43, nI_ltI, nI_add, nI_mul, nI_clamp, mx_in_nI, he, if_true, if_false, neq0, n6, pk_div, pk_sub, hsd, hm, hs, ht, s28, s27, t27, v1, v2, w1, w2, d, hu]
    · have v2 : yv (x t) = 1000000000 := by unfold yv; rw [if_neg c2]
      have hd : ¬ C s t + x t < x s := by omega
      have d : ¬ 1000000000 < yv (x s) := by omega
      have hu : mx_up (Y7 S x) 27 s (nI (yv (x s))) = Y7 S (rl C x s t) := Y7_up hs (fun i _ => by
        unfold rl
        by_cases q : i = s
        · rw [if_pos q, if_pos q, if_neg hd]
        · rw [if_neg q, if_neg q])
      refine ⟨.int (nI 1000000000), ?_⟩
      rw [e_Mo_findCosts_98]
      simp (disch := first | exact fR_0 | exact fR_1 | exact fR_7 | exact fR_11 | exact fR_19 | exact fR_20 | exact fR_23 | omega) only [e_Mo_findCosts_100, e_Mo_findCosts_102, e_Mo_findCosts_105, e_Mo_findCosts_106, e_Mo_findCosts_109, e_Mo_findCosts_111, e_Mo_findCosts_112, e_Mo_findCosts_114, e_Mo_findCosts_117, e_Mo_findCosts_118, e_Mo_findCosts_121, e_Mo_findCosts_123, e_Mo_findCosts_125, e_Mo_findCosts_126, e_Mo_findCosts_127, e_Mo_findCosts_129, e_Mo_findCosts_153, e_Mo_findCosts_155, e_Mo_findCosts_157, e_Mo_findCosts_158, e_Mo_findCosts_161, e_Mo_findCosts_163, e_Mo_findCosts_165, e_Mo_findCosts_166, e_Mo_findCosts_168, e_Mo_findCosts_169, e_Mo_findCosts_172, e_Mo_findCosts_174, e_Mo_findCosts_176, e_Mo_findCosts_177, e_Mo_findCosts_178, e_Mo_findCosts_186, e_Mo_findCosts_187, e_Mo_findCosts_190, e_Mo_findCosts_192, e_Mo_findCosts_194, e_Mo_findCosts_195, e_Mo_findCosts_196, e_Mo_findCosts_197, e_Mo_findCosts_200, vr_v, vr_n, vr_vh, vr_nh, vg_some, fF_23_0, fF_23_1, fF_23_2, fF_23_3, fI_23_3, fF_23_4, fF_23_5, fF_23_6, fI_23_6, fF_23_7, fF_23_8, fF_23_9, fF_23_10, fF_23_11, fF_23_12, fF_23_13, fF_23_14, fF_23_15, fF_23_16, fF_23_17, fF_23_18, fF_23_19, fI_23_19, fF_23_20, fI_23_20, fF_23_21, fI_23_21, fF_23_22, fI_23_22, fF_23_23, fI_23_23, fF_23_24, fI_23_24, fF_23_25, fI_23_25, fF_23_26, fI_23_26, fF_23_27, fI_23_27, fF_23_28, fI_23_28, fF_23_29, fF_23_30, fF_23_31, fR_23, fL_24, fW_24, fL_25, fW_25, fL_26, fW_26, fL_27, fW_27, fL_28, fW_28, fL_29, fW_29, fL_30, fW_30, fL_31, fW_31, fL_32, fW_32, fL_33, fW_33, fL_34, fW_34, fL_35, fW_35, fL_36, fW_36, fW_37, fL_38, fW_38, fL_39, fW_39, fL_40, fW_40, fL_41, fW_41, fL_42, fW_42, fL_43, fW_43, nI_ltI, nI_add, nI_mul, nI_clamp, mx_in_nI, he, if_true, if_false, neq0, n6, pk_div, pk_sub, hsd, hm, hs, ht, s28, s27, t27, v1, v2, w1, Nat.lt_irrefl, d, hu]
  · have v1 : hv (C s t) = 1000000000 := by unfold hv; rw [if_neg c1]
    have hd : ¬ C s t + x t < x s := by omega
    have d : ¬ 1000000000 < yv (x s) := by omega
    have hu : mx_up (Y7 S x) 27 s (nI (yv (x s))) = Y7 S (rl C x s t) := Y7_up hs (fun i _ => by
      unfold rl
      by_cases q : i = s
      · rw [if_pos q, if_pos q, if_neg hd]
      · rw [if_neg q, if_neg q])
    refine ⟨.int (nI 1000000000), ?_⟩
    rw [e_Mo_findCosts_98]
    simp (disch := first | exact fR_0 | exact fR_1 | exact fR_7 | exact fR_11 | exact fR_19 | exact fR_20 | exact fR_23 | omega) only [e_Mo_findCosts_100, e_Mo_findCosts_102, e_Mo_findCosts_105, e_Mo_findCosts_106, e_Mo_findCosts_109, e_Mo_findCosts_111, e_Mo_findCosts_112, e_Mo_findCosts_114, e_Mo_findCosts_153, e_Mo_findCosts_155, e_Mo_findCosts_157, e_Mo_findCosts_158, e_Mo_findCosts_161, e_Mo_findCosts_163, e_Mo_findCosts_165, e_Mo_findCosts_166, e_Mo_findCosts_168, e_Mo_findCosts_169, e_Mo_findCosts_172, e_Mo_findCosts_174, e_Mo_findCosts_176, e_Mo_findCosts_177, e_Mo_findCosts_178, e_Mo_findCosts_186, e_Mo_findCosts_187, e_Mo_findCosts_190, e_Mo_findCosts_192, e_Mo_findCosts_194, e_Mo_findCosts_195, e_Mo_findCosts_196, e_Mo_findCosts_197, e_Mo_findCosts_200, vr_v, vr_n, vr_vh, vr_nh, vg_some, fF_23_0, fF_23_1, fF_23_2, fF_23_3, fI_23_3, fF_23_4, fF_23_5, fF_23_6, fI_23_6, fF_23_7, fF_23_8, fF_23_9, fF_23_10, fF_23_11, fF_23_12, fF_23_13, fF_23_14, fF_23_15, fF_23_16, fF_23_17, fF_23_18, fF_23_19, fI_23_19, fF_23_20, fI_23_20, fF_23_21, fI_23_21, fF_23_22, fI_23_22, fF_23_23, fI_23_23, fF_23_24, fI_23_24, fF_23_25, fI_23_25, fF_23_26, fI_23_26, fF_23_27, fI_23_27, fF_23_28, fI_23_28, fF_23_29, fF_23_30, fF_23_31, fR_23, fL_24, fW_24, fL_25, fW_25, fL_26, fW_26, fL_27, fW_27, fL_28, fW_28, fL_29, fW_29, fL_30, fW_30, fL_31, fW_31, fL_32, fW_32, fL_33, fW_33, fL_34, fW_34, fL_35, fW_35, fL_36, fW_36, fW_37, fL_38, fW_38, fL_39, fW_39, fL_40, fW_40, fL_41, fW_41, fL_42, fW_42, fL_43, fW_43, nI_ltI, nI_add, nI_mul, nI_clamp, mx_in_nI, he, if_true, if_false, neq0, n6, pk_div, pk_sub, hsd, hm, hs, ht, s28, s27, t27, v1, Nat.lt_irrefl, d, hu]
theorem x0_z {b : Nat} : ∀ i, x0 b i < 100000000 → x0 b i = 0 := fun i h => by
  unfold x0 at h ⊢
  by_cases q : i = b
  · rw [if_pos q]
  · rw [if_neg q] at h; omega
theorem c_Mo_findCosts {σ : mx_S} (hI : INV σ) {N b : Nat} (hN : 0 < N) (hN2 : N ≤ 2000) (hb : b < 6) : vv 5 137 0 [.ref 23, .int (nI b), .int (nI N), .null, .null, .null] [] (shF, σ) = some (none, (shF, Y7 (rw1 σ 28 (HOf σ N) 36) (rn (CN σ N) (x0 b) 6))) := by
  rw [e_Mo_findCosts_0, e_Mo_findCosts_1]
  obtain ⟨y, e⟩ := fc_1 hI hN hN2 hb
  rw [e]
  simp (disch := first | exact fR_0 | exact fR_1 | exact fR_7 | exact fR_11 | exact fR_19 | exact fR_20 | exact fR_23 | omega) only [e_Mo_findCosts_2, e_Mo_findCosts_3, e_Mo_findCosts_5, e_Mo_findCosts_87, e_Mo_findCosts_88, nI_ltI, nI_add, nI_mul, nI_clamp, mx_in_nI, Nat.lt_irrefl, if_false]
  obtain ⟨x', e2, -⟩ := itx (F := fun r (x : Value × Value) => vv 5 137 89 [.ref 23, .int (nI b), .int (nI N), .int (nI r), x.1, x.2] [] (shF, Y7 (rw1 σ 28 (HOf σ N) 36) (rn (CN σ N) (x0 b) r))) (I := fun _ _ => True) 6 (fun r x hr _ => by
    obtain ⟨y', e1, -⟩ := itx (F := fun e (y : Value) => vv 5 137 98 [.ref 23, .int (nI b), .int (nI N), .int (nI r), .int (nI e), y] [] (shF, Y7 (rw1 σ 28 (HOf σ N) 36) (lin (CN σ N) (rn (CN σ N) (x0 b) r) e))) (I := fun _ _ => True) 36 (fun e y he _ => by
      have hx : ∀ i, lin (CN σ N) (rn (CN σ N) (x0 b) r) e i ≤ 100000000 := fun i => Nat.le_trans (lin_le (d := 0) e (Nat.zero_le _)) (Nat.le_trans (rn_le (d := 0) r (Nat.zero_le _)) (x0_le i))
      obtain ⟨y', q⟩ := fc_s (S := rw1 σ 28 (HOf σ N) 36) (C := CN σ N) (x := lin (CN σ N) (rn (CN σ N) (x0 b) r) e) (b := b) (N := N) (r := r) (y := y) he (rw1_at he) hx (fun h1 h2 => by
        have m1 := CN_M hN hN2 _ _ h1
        have m2 := lin_far' (CN_M hN hN2) (rn_far (CN_M (σ := σ) hN hN2) (x0_z (b := b)) r) e _ h2
        omega)
      exact ⟨y', q, trivial⟩) x.2 trivial
    refine ⟨(.int (nI 36), y'), ?_, trivial⟩
    show vv _ _ _ _ _ _ = vv _ _ _ _ _ _
    have s0 : vv 5 137 89 [.ref 23, .int (nI b), .int (nI N), .int (nI r), x.1, x.2] [] (shF, Y7 (rw1 σ 28 (HOf σ N) 36) (rn (CN σ N) (x0 b) r)) = vv 5 137 98 [.ref 23, .int (nI b), .int (nI N), .int (nI r), .int (nI 0), x.2] [] (shF, Y7 (rw1 σ 28 (HOf σ N) 36) (lin (CN σ N) (rn (CN σ N) (x0 b) r) 0)) := by
      simp (disch := first | exact fR_0 | exact fR_1 | exact fR_7 | exact fR_11 | exact fR_19 | exact fR_20 | exact fR_23 | omega) only [e_Mo_findCosts_89, e_Mo_findCosts_90, e_Mo_findCosts_92, e_Mo_findCosts_95, e_Mo_findCosts_96, nI_ltI, nI_add, nI_mul, nI_clamp, mx_in_nI, hr, if_true, lin]
    refine s0.trans (e1.trans ?_)
    rw [e_Mo_findCosts_98]
    simp (disch := first | exact fR_0 | exact fR_1 | exact fR_7 | exact fR_11 | exact fR_19 | exact fR_20 | exact fR_23 | omega) only [e_Mo_findCosts_100, e_Mo_findCosts_102, e_Mo_findCosts_203, e_Mo_findCosts_206, nI_ltI, nI_add, nI_mul, nI_clamp, mx_in_nI, Nat.lt_irrefl, if_false, rn]) (y, .null) trivial
  refine e2.trans ?_
  simp (disch := first | exact fR_0 | exact fR_1 | exact fR_7 | exact fR_11 | exact fR_19 | exact fR_20 | exact fR_23 | omega) only [e_Mo_findCosts_89, e_Mo_findCosts_90, e_Mo_findCosts_92, e_Mo_findCosts_209, nI_ltI, nI_add, nI_mul, nI_clamp, mx_in_nI, Nat.lt_irrefl, if_false]
end WM
