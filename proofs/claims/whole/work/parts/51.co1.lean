/-! contention of the class: small methods -/
theorem xl_0 {σ : mx_S} : mx_len (shF, σ) 1000 = (σ 2000 0).toNatClampNeg := rfl
theorem xl_1 {σ : mx_S} : mx_len (shF, σ) 1001 = (σ 2000 1).toNatClampNeg := rfl
theorem xl_2 {σ : mx_S} : mx_len (shF, σ) 1002 = (σ 2000 2).toNatClampNeg := rfl
theorem wid_C {σ : mx_S} (hX : XW σ) {g : Nat} (hg : g < 4) : σ 1000 g = nI (wid 0 g) ∧ σ 1001 g = nI (wid 2 g) ∧ σ 1002 g = nI (dfn g) := by
  obtain ⟨-, ⟨a0, a1, a2, a3⟩, ⟨b0, b1, b2, b3⟩, ⟨c0, c1, c2, c3⟩⟩ := hX
  match g, hg with
  | 0, _ => exact ⟨a0, b0, c0⟩
  | 1, _ => exact ⟨a1, b1, c1⟩
  | 2, _ => exact ⟨a2, b2, c2⟩
  | 3, _ => exact ⟨a3, b3, c3⟩
theorem wid_lo {r g : Nat} (h : r < 2) : wid r g = wid 0 g := by simp [wid, h]
theorem wid_hi {r g : Nat} (h : ¬ r < 2) : wid r g = wid 2 g := by simp [wid, h]
theorem c_Co_widthOf {σ : mx_S} (hX : XW σ) {i r g : Nat} (hi : i < 6) (hr : r < 4) (hg : g < 4) (er : σ (13 + i) 2 = nI r) (eg : σ (13 + i) 4 = nI g) : vv 0 21 0 [.ref (13 + i)] [] (shF, σ) = some (some (.int (nI (wid r g))), (shF, σ)) := by
  obtain ⟨w1, w2, w3⟩ := wid_C hX hg
  obtain ⟨⟨x0, x1, x2⟩, -⟩ := hX
  by_cases h : r < 2
  · simp (disch := first | exact fR_0 | exact fR_1 | exact fR_7 | exact fR_11 | exact fR_19 | exact fR_20 | exact fR_23 | omega) only [e_Co_widthOf_0, e_Co_widthOf_1, e_Co_widthOf_4, e_Co_widthOf_5, e_Co_widthOf_8, e_Co_widthOf_11, e_Co_widthOf_12, e_Co_widthOf_15, e_Co_widthOf_16, e_Co_widthOf_19, e_Co_widthOf_22, e_Co_widthOf_23, e_Co_widthOf_26, e_Co_widthOf_27, vr_v, vr_n, vr_vh, vr_nh, vg_some, fS_2, fS_4, er, eg, nI_ltI, nI_add, nI_mul, nI_clamp, mx_in_nI, h, if_true, xl_0, x0, w1, wid_lo h]
  · simp (disch := first | exact fR_0 | exact fR_1 | exact fR_7 | exact fR_11 | exact fR_19 | exact fR_20 | exact fR_23 | omega) only [e_Co_widthOf_0, e_Co_widthOf_1, e_Co_widthOf_4, e_Co_widthOf_5, e_Co_widthOf_8, e_Co_widthOf_11, e_Co_widthOf_12, e_Co_widthOf_15, e_Co_widthOf_16, e_Co_widthOf_19, e_Co_widthOf_22, e_Co_widthOf_23, e_Co_widthOf_26, e_Co_widthOf_27, vr_v, vr_n, vr_vh, vr_nh, vg_some, fS_2, fS_4, er, eg, nI_ltI, nI_add, nI_mul, nI_clamp, mx_in_nI, h, if_true, if_false, xl_1, x1, w2, wid_hi h]
def wtC (σ : mx_S) (i r g : Nat) : mx_S := mx_up (mx_up (mx_up (mx_up (mx_up σ (13 + i) 0 (nI 1)) (13 + i) 4 (nI (mn3 g))) 11 2 (sdB (σ 11 2))) (13 + i) 5 (lfB (sdB (σ 11 2)) (nI (wid r (mn3 g))))) (13 + i) 6 (nI (dfn (mn3 g)))
theorem mm3 {g : Nat} (hg : g < 100) : mx_mm 0 (nI g) (nI 3) = nI (mn3 g) := by
  unfold mx_mm mn3
  rw [if_pos rfl]
  by_cases h : 3 < g
  · rw [if_pos h, if_pos ((nI_ltI (by decide) (by omega)).mpr h)]
  · rw [if_neg h, if_neg (fun z => h ((nI_ltI (by decide) (by omega)).mp z))]
theorem s13 {i c : Nat} (hi : i < 6) (hc : c < 13 ∨ 18 < c) : (c = 13 + i) ↔ False := iff_false_intro (by omega)
theorem s13' {i c : Nat} (hi : i < 6) (hc : c < 13 ∨ 18 < c) : (13 + i = c) ↔ False := iff_false_intro (by omega)
theorem fC_3 {i k : Nat} : True := trivial
theorem isI_st {i k : Nat} (hi : i < 6) (hk : k < 12) : mx_isI shF 3 k (13 + i) = true := by
  match k, hk with
  | 0, _ => exact fT_0 hi
  | 1, _ => exact fT_1 hi
  | 2, _ => exact fT_2 hi
  | 3, _ => exact fT_3 hi
  | 4, _ => exact fT_4 hi
  | 5, _ => exact fT_5 hi
  | 6, _ => exact fT_6 hi
  | 7, _ => exact fT_7 hi
  | 8, _ => exact fT_8 hi
  | 9, _ => exact fT_9 hi
  | 10, _ => exact fT_10 hi
  | 11, _ => exact fT_11 hi
theorem c_Co_waitAt {σ : mx_S} (hX : XW σ) {i r g : Nat} (hi : i < 6) (hr : r < 4) (hg : g < 100) (er : σ (13 + i) 2 = nI r) : vv 1 20 0 [.ref 11, .ref (13 + i), .int (nI g)] [] (shF, σ) = some (none, (shF, wtC σ i r g)) := by
  have hp := wid_pos r (mn3 g)
  have hp0 : 0 < nI (wid r (mn3 g)) := (n0lt (by omega)).mpr hp.1
  have hm := mn3_lt g
  obtain ⟨w1, w2, w3⟩ := wid_C hX hm
  obtain ⟨⟨x0, x1, x2⟩, -⟩ := id hX
  have hX2 : XW (mx_up (mx_up (mx_up σ (13 + i) 0 (nI 1)) (13 + i) 4 (nI (mn3 g))) 11 2 (sdB (σ 11 2))) := XW_of hX (fun c hc => by rw [mx_up_nn (by omega), mx_up_nn (by omega), mx_up_nn (by omega)])
  have cw := c_Co_widthOf hX2 hi hr hm (g := mn3 g) (by simp [mx_up_ap, er, (s13' hi (c := 11) (by omega))]) (by simp [mx_up_ap, (s13' hi (c := 11) (by omega))])
  simp (disch := first | exact fR_0 | exact fR_1 | exact fR_7 | exact fR_11 | exact fR_19 | exact fR_20 | exact fR_23 | omega) only [e_Co_waitAt_0, e_Co_waitAt_1, e_Co_waitAt_2, e_Co_waitAt_5, e_Co_waitAt_6, e_Co_waitAt_7, e_Co_waitAt_8, e_Co_waitAt_11, e_Co_waitAt_14, e_Co_waitAt_15, e_Co_waitAt_16, e_Co_waitAt_19, e_Co_waitAt_22, e_Co_waitAt_25, e_Co_waitAt_26, e_Co_waitAt_27, e_Co_waitAt_30, e_Co_waitAt_31, e_Co_waitAt_34, e_Co_waitAt_37, e_Co_waitAt_40, e_Co_waitAt_41, e_Co_waitAt_44, e_Co_waitAt_45, e_Co_waitAt_48, e_Co_waitAt_49, e_Co_waitAt_52, vr_v, vr_n, vr_vh, vr_nh, vg_some, fS_0, fS_1, fS_2, fS_3, fS_4, fS_5, fS_6, fS_7, fS_8, fS_9, fS_10, fS_11, isI_st, fF_11_2, fI_11_2, mm3, c_Dr_seedBehind, mx_up_ap, s13, s13', if_true, if_false, cw, c_Dr_leftBy hp0, fS_4, nI_ltI, nI_add, nI_mul, nI_clamp, mx_in_nI, xl_2, x2, w3, Nat.reduceEqDiff, wtC]
theorem wtC_RC {σ A : mx_S} (h : RC σ A) {i r g : Nat} (hi : i < 6) : RC (wtC σ i r g) (wt A i r g) := by
  unfold wtC wt
  rw [h.2.1]
  exact ((((h.put hi (by decide)).put hi (by decide)).s (Or.inl ⟨rfl, rfl⟩)).put hi (by decide)).put hi (by decide)
theorem wtC_FC {σ : mx_S} {i r g : Nat} (hi : i < 6) : FC σ (wtC σ i r g) := ((((FC.rf.st hi).st hi).s (by decide)).st hi).st hi
