/-! contention of the class: reads, counting down -/
theorem c_Co_setSeed {σ : mx_S} {v : Int32} : vv 0 1 0 [.ref 11, .int v, .null] [] (shF, σ) = some (some (.int (σ 11 2)), (shF, mx_up σ 11 2 v)) := by
  simp (disch := first | exact fR_0 | exact fR_1 | exact fR_7 | exact fR_11 | exact fR_19 | exact fR_20 | exact fR_23 | omega) only [e_Co_setSeed_0, e_Co_setSeed_1, e_Co_setSeed_4, e_Co_setSeed_5, e_Co_setSeed_6, e_Co_setSeed_7, e_Co_setSeed_10, e_Co_setSeed_11, vr_v, vr_n, vr_vh, vr_nh, vg_some, fF_11_2, fI_11_2, if_true]
theorem c_Co_hasLetter {σ : mx_S} {i p : Nat} (hi : i < 6) (hp : p < 3) (ep : σ (13 + i) 0 = nI p) : vv 0 2 0 [.ref 11, .int (nI i)] [] (shF, σ) = some (some (.int (bI (decide (¬ p = 0)))), (shF, σ)) := by
  simp (disch := first | exact fR_0 | exact fR_1 | exact fR_7 | exact fR_11 | exact fR_19 | exact fR_20 | exact fR_23 | omega) only [e_Co_hasLetter_0, e_Co_hasLetter_1, e_Co_hasLetter_4, e_Co_hasLetter_5, e_Co_hasLetter_6, e_Co_hasLetter_9, e_Co_hasLetter_12, e_Co_hasLetter_13, e_Co_hasLetter_16, e_Co_hasLetter_17_0, e_Co_hasLetter_17_1, e_Co_hasLetter_17_b, vr_v, vr_n, vr_vh, vr_nh, vg_some, fF_11_1, fS_0, ep, neq0]
  split <;> simp_all [bI]
theorem c_Co_isWaiting {σ : mx_S} {i p : Nat} (hi : i < 6) (hp : p < 3) (ep : σ (13 + i) 0 = nI p) : vv 0 3 0 [.ref 11, .int (nI i)] [] (shF, σ) = some (some (.int (bI (decide (p = 1)))), (shF, σ)) := by
  simp (disch := first | exact fR_0 | exact fR_1 | exact fR_7 | exact fR_11 | exact fR_19 | exact fR_20 | exact fR_23 | omega) only [e_Co_isWaiting_0, e_Co_isWaiting_1, e_Co_isWaiting_4, e_Co_isWaiting_5, e_Co_isWaiting_6, e_Co_isWaiting_9, e_Co_isWaiting_10, e_Co_isWaiting_13, e_Co_isWaiting_14, e_Co_isWaiting_17, e_Co_isWaiting_18_0, e_Co_isWaiting_18_1, e_Co_isWaiting_18_b, vr_v, vr_n, vr_vh, vr_nh, vg_some, fF_11_1, fS_0, ep, nI_eq]
  split <;> simp_all [bI]
theorem c_Co_takeBack {σ : mx_S} {i : Nat} (hi : i < 6) : vv 0 5 0 [.ref 11, .int (nI i)] [] (shF, σ) = some (some (.int (σ (13 + i) 3)), (shF, mx_up σ (13 + i) 0 (nI 0))) := by
  simp (disch := first | exact fR_0 | exact fR_1 | exact fR_7 | exact fR_11 | exact fR_19 | exact fR_20 | exact fR_23 | omega) only [e_Co_takeBack_0, e_Co_takeBack_1, e_Co_takeBack_4, e_Co_takeBack_5, e_Co_takeBack_6, e_Co_takeBack_7, e_Co_takeBack_10, e_Co_takeBack_11, e_Co_takeBack_14, e_Co_takeBack_15, e_Co_takeBack_16, e_Co_takeBack_19, vr_v, vr_n, vr_vh, vr_nh, vg_some, fF_11_1, isI_st, fS_3, if_true, mx_up_ap, Nat.reduceEqDiff, if_false]
theorem c_Co_giveLetter {σ : mx_S} (hX : XW σ) {i b r n : Nat} (hi : i < 6) (hr : r < 4) : vv 2 4 0 [.ref 11, .int (nI i), .int (nI b), .int (nI r), .int (nI n), .null] [] (shF, σ) = some (some (.int (lfB (sdB (σ 11 2)) (nI (wid r 0)))), (shF, wtC (mx_up (mx_up (mx_up σ (13 + i) 1 (nI b)) (13 + i) 2 (nI r)) (13 + i) 3 (nI n)) i r 0)) := by
  have hX2 : XW (mx_up (mx_up (mx_up σ (13 + i) 1 (nI b)) (13 + i) 2 (nI r)) (13 + i) 3 (nI n)) := XW_of hX (fun c hc => by rw [mx_up_nn (by omega), mx_up_nn (by omega), mx_up_nn (by omega)])
  have cw := c_Co_waitAt hX2 hi hr (show 0 < 100 by decide) (by simp [mx_up_ap])
  simp (disch := first | exact fR_0 | exact fR_1 | exact fR_7 | exact fR_11 | exact fR_19 | exact fR_20 | exact fR_23 | omega) only [e_Co_giveLetter_0, e_Co_giveLetter_1, e_Co_giveLetter_4, e_Co_giveLetter_5, e_Co_giveLetter_6, e_Co_giveLetter_8, e_Co_giveLetter_10, e_Co_giveLetter_11, e_Co_giveLetter_14, e_Co_giveLetter_16, e_Co_giveLetter_17, e_Co_giveLetter_20, e_Co_giveLetter_22, e_Co_giveLetter_24, e_Co_giveLetter_27, e_Co_giveLetter_28, e_Co_giveLetter_30, e_Co_giveLetter_31, e_Co_giveLetter_34, e_Co_giveLetter_36, e_Co_giveLetter_39, vr_v, vr_n, vr_vh, vr_nh, vg_some, fF_11_1, isI_st, if_true, cw, fS_5]
  have e1 : wtC (mx_up (mx_up (mx_up σ (13 + i) 1 (nI b)) (13 + i) 2 (nI r)) (13 + i) 3 (nI n)) i r 0 (13 + i) 5 = lfB (sdB (σ 11 2)) (nI (wid r 0)) := by
    have : ¬ 11 = 13 + i := by omega
    simp [wtC, mx_up_ap, this, mn3]
  rw [e1]
/-- the set of those in a phase -/
def php (A : mx_S) (p i : Nat) : Bool := decide (A 0 i = nI p)
theorem c_Co_inPhase {σ A : mx_S} (h : RC σ A) {p : Nat} : vv 1 9 0 [.ref 11, .int (nI p), .null, .null] [] (shF, σ) = some (some (.int (mk (php A p) 6)), (shF, σ)) := by
  rw [e_Co_inPhase_0, e_Co_inPhase_1, e_Co_inPhase_2, e_Co_inPhase_3]
  refine (it (F := fun k => vv 1 9 4 [.ref 11, .int (nI p), .int (mk (php A p) k), .int (nI k)] [] (shF, σ)) 6 (fun k hk => ?_)).trans ?_
  · rw [e_Co_inPhase_4]
    simp (disch := first | exact fR_0 | exact fR_1 | exact fR_7 | exact fR_11 | exact fR_19 | exact fR_20 | exact fR_23 | omega) only [e_Co_inPhase_0, e_Co_inPhase_1, e_Co_inPhase_2, e_Co_inPhase_3, e_Co_inPhase_5, e_Co_inPhase_7, e_Co_inPhase_10, e_Co_inPhase_11, e_Co_inPhase_14, e_Co_inPhase_15, e_Co_inPhase_16, e_Co_inPhase_19, e_Co_inPhase_20, e_Co_inPhase_23, e_Co_inPhase_24, e_Co_inPhase_25, e_Co_inPhase_28, e_Co_inPhase_29, e_Co_inPhase_30, e_Co_inPhase_33, e_Co_inPhase_36, e_Co_inPhase_37, vr_v, vr_n, vr_vh, vr_nh, vg_some, fF_11_1, fS_0, h.1 0 k (by decide) hk, nI_ltI, nI_add, nI_mul, nI_clamp, mx_in_nI, hk, if_true, c_Se_of, mk, ob_or, php]
    by_cases e : A 0 k = nI p <;> simp [e]
  · simp (disch := first | exact fR_0 | exact fR_1 | exact fR_7 | exact fR_11 | exact fR_19 | exact fR_20 | exact fR_23 | omega) only [e_Co_inPhase_4, e_Co_inPhase_5, e_Co_inPhase_7, e_Co_inPhase_36, e_Co_inPhase_37, nI_ltI, nI_add, nI_mul, nI_clamp, mx_in_nI, Nat.lt_irrefl, if_false]
theorem c_Co_withLetters {σ A : mx_S} (h : RC σ A) : vv 2 7 0 [.ref 11] [] (shF, σ) = some (some (.int (mk (fun i => php A 1 i || php A 2 i) 6)), (shF, σ)) := by
  simp (disch := first | exact fR_0 | exact fR_1 | exact fR_7 | exact fR_11 | exact fR_19 | exact fR_20 | exact fR_23 | omega) only [e_Co_withLetters_0, e_Co_withLetters_1, e_Co_withLetters_2, e_Co_withLetters_5, e_Co_withLetters_6, e_Co_withLetters_7, e_Co_withLetters_10, e_Co_withLetters_11, vr_v, vr_n, vr_vh, vr_nh, vg_some, c_Co_inPhase h, or_mk]
theorem m6_and : ∀ b0 b1 b2 b3 b4 b5 c0 c1 c2 c3 c4 c5 : Bool, m6 b0 b1 b2 b3 b4 b5 &&& m6 c0 c1 c2 c3 c4 c5 = m6 (b0 && c0) (b1 && c1) (b2 && c2) (b3 && c3) (b4 && c4) (b5 && c5) := by decide +kernel
theorem and_mk {p q : Nat → Bool} : mk p 6 &&& mk q 6 = mk (fun i => p i && q i) 6 := m6_and (p 0) (p 1) (p 2) (p 3) (p 4) (p 5) (q 0) (q 1) (q 2) (q 3) (q 4) (q 5)
def anyb (p : Nat → Bool) : Nat → Bool
  | 0 => false
  | n + 1 => anyb p n || p n
theorem anyb_congr {p q : Nat → Bool} (n : Nat) (h : ∀ i, i < n → p i = q i) : anyb p n = anyb q n := by
  induction n with
  | zero => rfl
  | succ n ih =>
    show (anyb p n || p n) = (anyb q n || q n)
    rw [ih (fun i hi => h i (by omega)), h n (by omega)]
theorem mk_z {p : Nat → Bool} : (mk p 6 = 0) ↔ anyb p 6 = false := by
  have h := m6_z (p 0) (p 1) (p 2) (p 3) (p 4) (p 5)
  have e : mk p 6 = m6 (p 0) (p 1) (p 2) (p 3) (p 4) (p 5) := rfl
  have h2 : (m6 (p 0) (p 1) (p 2) (p 3) (p 4) (p 5) = 0) ↔ (!(p 0 || p 1 || p 2 || p 3 || p 4 || p 5)) = true := by
    rw [← h]
    simp
  rw [e, h2]
  simp [anyb]
theorem mk6h {σ : mx_S} (hW : WOK σ) {s : Nat} (hs : s < 6) : σ 6 s = mk (fun a => hx σ s a) 6 := by
  rw [hW.2 s hs]
  exact mk_congr 6 (fun a ha => (hx_hrp hW ha hs).symm)
/-- whether i is held: of those waiting W and sending S ahead of the slot -/
def held (σ A : mx_S) (W S : Nat → Bool) (i : Nat) : Bool := anyb (fun j => hx σ i j && S j) 6 || anyb (fun j => hx σ i j && W j && decide (A 2 i < A 2 j)) 6
theorem c_Co_isHeld {σ A : mx_S} (hW : WOK σ) (h : RC σ A) {i : Nat} (hi : i < 6) {W S : Nat → Bool} : vv 1 11 0 [.ref 11, .int (nI i), .int (mk W 6), .int (mk S 6), .null, .null] [] (shF, σ) = some (some (.int (bI (held σ A W S i))), (shF, σ)) := by
  have lp : vv 1 11 22 [.ref 11, .int (nI i), .int (mk W 6), .int (mk S 6), .int (mk (fun a => hx σ i a) 6), .int (nI 0)] [] (shF, σ) = some (some (.int (bI (anyb (fun j => hx σ i j && W j && decide (A 2 i < A 2 j)) 6))), (shF, σ)) := by
    have key := it (F := fun k => if anyb (fun j => hx σ i j && W j && decide (A 2 i < A 2 j)) k = true then some (some (.int (nI 1)), (shF, σ)) else vv 1 11 22 [.ref 11, .int (nI i), .int (mk W 6), .int (mk S 6), .int (mk (fun a => hx σ i a) 6), .int (nI k)] [] (shF, σ)) 6 (fun k hk => by
      by_cases hh : anyb (fun j => hx σ i j && W j && decide (A 2 i < A 2 j)) k = true
      · simp [anyb, hh]
      · have hh : anyb (fun j => hx σ i j && W j && decide (A 2 i < A 2 j)) k = false := by simpa using hh
        rw [if_neg (by simp [hh]), e_Co_isHeld_22]
        simp (disch := first | exact fR_0 | exact fR_1 | exact fR_7 | exact fR_11 | exact fR_19 | exact fR_20 | exact fR_23 | omega) only [e_Co_isHeld_0, e_Co_isHeld_1, e_Co_isHeld_4, e_Co_isHeld_5, e_Co_isHeld_8, e_Co_isHeld_10, e_Co_isHeld_12, e_Co_isHeld_13, e_Co_isHeld_14, e_Co_isHeld_17, e_Co_isHeld_18_0, e_Co_isHeld_18_1, e_Co_isHeld_18_b, e_Co_isHeld_19, e_Co_isHeld_20, e_Co_isHeld_24, e_Co_isHeld_26, e_Co_isHeld_29, e_Co_isHeld_31, e_Co_isHeld_32, e_Co_isHeld_33, e_Co_isHeld_35, e_Co_isHeld_38, e_Co_isHeld_41, e_Co_isHeld_42, e_Co_isHeld_45, e_Co_isHeld_47, e_Co_isHeld_48, e_Co_isHeld_51, e_Co_isHeld_52, e_Co_isHeld_55, e_Co_isHeld_56, e_Co_isHeld_57, e_Co_isHeld_60, e_Co_isHeld_63, e_Co_isHeld_64_0, e_Co_isHeld_64_1, e_Co_isHeld_64_b, e_Co_isHeld_65, e_Co_isHeld_68, e_Co_isHeld_71, e_Co_isHeld_72_0, e_Co_isHeld_72_1, e_Co_isHeld_72_b, vr_v, vr_n, vr_vh, vr_nh, vg_some, fF_11_1, fS_2, h.1 2 k (by decide) hk, h.1 2 i (by decide) hi, nI_ltI, nI_add, nI_mul, nI_clamp, mx_in_nI, hk, if_true, and_mk, c_Se_has, mk_has hk, bI_0, anyb, hh, Bool.false_or]
        by_cases e : A 2 i < A 2 k <;> cases hx σ i k <;> cases W k <;> simp [e])
    have key : vv 1 11 22 [.ref 11, .int (nI i), .int (mk W 6), .int (mk S 6), .int (mk (fun a => hx σ i a) 6), .int (nI 0)] [] (shF, σ) = if anyb (fun j => hx σ i j && W j && decide (A 2 i < A 2 j)) 6 = true then some (some (.int (nI 1)), (shF, σ)) else vv 1 11 22 [.ref 11, .int (nI i), .int (mk W 6), .int (mk S 6), .int (mk (fun a => hx σ i a) 6), .int (nI 6)] [] (shF, σ) := by simpa [anyb] using key
    rw [key]
    by_cases hh : anyb (fun j => hx σ i j && W j && decide (A 2 i < A 2 j)) 6 = true
    · rw [if_pos hh, hh]; rfl
    · have hh : anyb (fun j => hx σ i j && W j && decide (A 2 i < A 2 j)) 6 = false := by simpa using hh
      rw [hh]
      simp (disch := first | exact fR_0 | exact fR_1 | exact fR_7 | exact fR_11 | exact fR_19 | exact fR_20 | exact fR_23 | omega) only [e_Co_isHeld_22, e_Co_isHeld_24, e_Co_isHeld_26, e_Co_isHeld_71, e_Co_isHeld_72_0, nI_ltI, nI_add, nI_mul, nI_clamp, mx_in_nI, Nat.lt_irrefl, if_false, Bool.false_eq_true]
      rfl
  simp (disch := first | exact fR_0 | exact fR_1 | exact fR_7 | exact fR_11 | exact fR_19 | exact fR_20 | exact fR_23 | omega) only [e_Co_isHeld_0, e_Co_isHeld_1, e_Co_isHeld_4, e_Co_isHeld_5, e_Co_isHeld_8, e_Co_isHeld_10, e_Co_isHeld_12, e_Co_isHeld_13, e_Co_isHeld_14, e_Co_isHeld_17, e_Co_isHeld_18_0, e_Co_isHeld_18_1, e_Co_isHeld_18_b, e_Co_isHeld_19, e_Co_isHeld_20, e_Co_isHeld_24, e_Co_isHeld_26, e_Co_isHeld_29, e_Co_isHeld_31, e_Co_isHeld_32, e_Co_isHeld_33, e_Co_isHeld_35, e_Co_isHeld_38, e_Co_isHeld_41, e_Co_isHeld_42, e_Co_isHeld_45, e_Co_isHeld_47, e_Co_isHeld_48, e_Co_isHeld_51, e_Co_isHeld_52, e_Co_isHeld_55, e_Co_isHeld_56, e_Co_isHeld_57, e_Co_isHeld_60, e_Co_isHeld_63, e_Co_isHeld_64_0, e_Co_isHeld_64_1, e_Co_isHeld_64_b, e_Co_isHeld_65, e_Co_isHeld_68, e_Co_isHeld_71, e_Co_isHeld_72_0, e_Co_isHeld_72_1, e_Co_isHeld_72_b, vr_v, vr_n, vr_vh, vr_nh, vg_some, fF_11_0, c_Wi_heardBy WI_F hi, mk6h hW hi, and_mk, mk_z, lp, held]
  cases anyb (fun j => hx σ i j && S j) 6 <;> simp [bI]
