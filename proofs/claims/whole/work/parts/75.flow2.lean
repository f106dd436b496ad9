/-! flows of the class -/
theorem ten0 : 0 < nI 10 := by decide +kernel
theorem c_Fl_drawTenth {σ : mx_S} {x0 x1 x2 x3 x4 x5 x6 x7 : Int32} : vv 1 30 0 [.ref 19] [] (shF, cF σ x0 x1 x2 x3 x4 x5 x6 x7) = some (some (.int (lfB (sdB x0) (nI 10))), (shF, cF σ (sdB x0) x1 x2 x3 x4 x5 x6 x7)) := by
  simp (disch := first | exact fR_0 | exact fR_1 | exact fR_7 | exact fR_11 | exact fR_19 | exact fR_20 | exact fR_23 | omega) only [e_Fl_drawTenth_0, e_Fl_drawTenth_1, e_Fl_drawTenth_2, e_Fl_drawTenth_5, e_Fl_drawTenth_8, e_Fl_drawTenth_11, e_Fl_drawTenth_12, e_Fl_drawTenth_15, e_Fl_drawTenth_17, e_Fl_drawTenth_20, vr_v, vr_n, vr_vh, vr_nh, vg_some, fF_19_0, fI_19_0, fF_19_1, fI_19_1, fF_19_2, fI_19_2, fF_19_3, fI_19_3, fF_19_4, fI_19_4, fF_19_5, fI_19_5, fF_19_6, fI_19_6, fF_19_7, fI_19_7, cF_0, cF_1, cF_2, cF_3, cF_4, cF_5, cF_6, cF_7, cU_0, cU_1, cU_2, cU_3, cU_4, cU_5, cU_6, cU_7, if_true, c_Dr_seedBehind, c_Dr_leftBy ten0]
theorem c_Fl_take {σ : mx_S} {x0 x1 x3 x4 x5 x6 x7 : Int32} {t : Nat → Bool} {i : Nat} (hi : i < 30) : vv 1 31 0 [.ref 19, .int (nI i)] [] (shF, cF σ x0 x1 (st t) x3 x4 x5 x6 x7) = some (none, (shF, cF σ x0 x1 (st (fun j => if j = i then true else t j)) x3 x4 x5 (x6 + bI (t i)) x7)) := by
  cases h : t i with
  | false =>
    have z : x6 + bI false = x6 := by show x6 + nI 0 = x6; rw [nI_0, Int32.add_zero]
    simp (disch := first | exact fR_0 | exact fR_1 | exact fR_7 | exact fR_11 | exact fR_19 | exact fR_20 | exact fR_23 | omega) only [e_Fl_take_0, e_Fl_take_1, e_Fl_take_4, e_Fl_take_5, e_Fl_take_8, e_Fl_take_11, e_Fl_take_12, e_Fl_take_13, e_Fl_take_16, e_Fl_take_17, e_Fl_take_18, e_Fl_take_21, e_Fl_take_22, e_Fl_take_23, e_Fl_take_26, e_Fl_take_27, e_Fl_take_30, e_Fl_take_31, e_Fl_take_34, vr_v, vr_n, vr_vh, vr_nh, vg_some, fF_19_0, fI_19_0, fF_19_1, fI_19_1, fF_19_2, fI_19_2, fF_19_3, fI_19_3, fF_19_4, fI_19_4, fF_19_5, fI_19_5, fF_19_6, fI_19_6, fF_19_7, fI_19_7, cF_0, cF_1, cF_2, cF_3, cF_4, cF_5, cF_6, cF_7, cU_0, cU_1, cU_2, cU_3, cU_4, cU_5, cU_6, cU_7, if_true, c_Se_has, st_has hi, h, bI_0, c_Se_of, st_set hi, z]
  | true => simp (disch := first | exact fR_0 | exact fR_1 | exact fR_7 | exact fR_11 | exact fR_19 | exact fR_20 | exact fR_23 | omega) only [e_Fl_take_0, e_Fl_take_1, e_Fl_take_4, e_Fl_take_5, e_Fl_take_8, e_Fl_take_11, e_Fl_take_12, e_Fl_take_13, e_Fl_take_16, e_Fl_take_17, e_Fl_take_18, e_Fl_take_21, e_Fl_take_22, e_Fl_take_23, e_Fl_take_26, e_Fl_take_27, e_Fl_take_30, e_Fl_take_31, e_Fl_take_34, vr_v, vr_n, vr_vh, vr_nh, vg_some, fF_19_0, fI_19_0, fF_19_1, fI_19_1, fF_19_2, fI_19_2, fF_19_3, fI_19_3, fF_19_4, fI_19_4, fF_19_5, fI_19_5, fF_19_6, fI_19_6, fF_19_7, fI_19_7, cF_0, cF_1, cF_2, cF_3, cF_4, cF_5, cF_6, cF_7, cU_0, cU_1, cU_2, cU_3, cU_4, cU_5, cU_6, cU_7, if_true, if_false, c_Se_has, st_has hi, h, n1z, c_Se_of, st_set hi, bI_t]
theorem c_Fl_firstOpen {σ : mx_S} {x0 x2 x4 x5 x6 x7 : Int32} {a : Nat → Bool} {n w : Nat} (hw : w < 100) : vv 1 28 0 [.ref 19, .int (nI w), .null, .null, .null] [] (shF, cF σ x0 (st (fun i => decide (i < n))) x2 (st a) x4 x5 x6 x7) = some (some (.int (st (fo (fun i => decide (i < n) && !(a i)) w 30).1)), (shF, cF σ x0 (st (fun i => decide (i < n))) x2 (st a) x4 x5 x6 x7)) := by
  rw [e_Fl_firstOpen_0, e_Fl_firstOpen_1, e_Fl_firstOpen_2, e_Fl_firstOpen_3, e_Fl_firstOpen_4, e_Fl_firstOpen_5, ← st_no]
  refine (ite1 (F := fun k => vv 1 28 7 [.ref 19, .int (nI w), .int (st (fo (fun i => decide (i < n) && !(a i)) w k).1), .int (nI (w - (fo (fun i => decide (i < n) && !(a i)) w k).2)), .int (nI k)] [] (shF, cF σ x0 (st (fun i => decide (i < n))) x2 (st a) x4 x5 x6 x7)) (p := fun k => decide ((fo (fun i => decide (i < n) && !(a i)) w k).2 = w)) (r := some (some (.int (st (fo (fun i => decide (i < n) && !(a i)) w 30).1)), (shF, cF σ x0 (st (fun i => decide (i < n))) x2 (st a) x4 x5 x6 x7))) 30 (fun k hk hp => ?_) (fun k hk hp => ?_)).trans ?_
  · have hl := fo_le (o := fun i => decide (i < n) && !(a i)) (w := w) k
    have hne : ¬ (fo (fun i => decide (i < n) && !(a i)) w k).2 = w := by simpa using hp
    have hr0 : ¬ w - (fo (fun i => decide (i < n) && !(a i)) w k).2 = 0 := by omega
    show vv _ _ _ _ _ _ = vv _ _ _ _ _ _
    rw [e_Fl_firstOpen_7]
    cases h : (decide (k < n) && !(a k)) with
    | false =>
      rw [fo_n (o := fun i => decide (i < n) && !(a i)) h]
      simp (disch := first | exact fR_0 | exact fR_1 | exact fR_7 | exact fR_11 | exact fR_19 | exact fR_20 | exact fR_23 | omega) only [e_Fl_firstOpen_0, e_Fl_firstOpen_1, e_Fl_firstOpen_2, e_Fl_firstOpen_3, e_Fl_firstOpen_4, e_Fl_firstOpen_5, e_Fl_firstOpen_9, e_Fl_firstOpen_11, e_Fl_firstOpen_14, e_Fl_firstOpen_15, e_Fl_firstOpen_18, e_Fl_firstOpen_19, e_Fl_firstOpen_22, e_Fl_firstOpen_23, e_Fl_firstOpen_26, e_Fl_firstOpen_27, e_Fl_firstOpen_28, e_Fl_firstOpen_29, e_Fl_firstOpen_31, e_Fl_firstOpen_34, e_Fl_firstOpen_37, e_Fl_firstOpen_40, e_Fl_firstOpen_41, e_Fl_firstOpen_43, e_Fl_firstOpen_46, e_Fl_firstOpen_47, e_Fl_firstOpen_48, e_Fl_firstOpen_51, e_Fl_firstOpen_54, e_Fl_firstOpen_57, e_Fl_firstOpen_58, vr_v, vr_n, vr_vh, vr_nh, vg_some, fF_19_0, fI_19_0, fF_19_1, fI_19_1, fF_19_2, fI_19_2, fF_19_3, fI_19_3, fF_19_4, fI_19_4, fF_19_5, fI_19_5, fF_19_6, fI_19_6, fF_19_7, fI_19_7, cF_0, cF_1, cF_2, cF_3, cF_4, cF_5, cF_6, cF_7, cU_0, cU_1, cU_2, cU_3, cU_4, cU_5, cU_6, cU_7, nI_ltI, nI_add, nI_mul, nI_clamp, mx_in_nI, hk, if_true, if_false, nle0, hr0, c_Se_has, st_not, st_has hk, h, bI_0]
    | true =>
      rw [fo_y (o := fun i => decide (i < n) && !(a i)) (by omega) h]
      have er : w - (fo (fun i => decide (i < n) && !(a i)) w k).2 = (w - ((fo (fun i => decide (i < n) && !(a i)) w k).2 + 1)) + 1 := by omega
      simp (disch := first | exact fR_0 | exact fR_1 | exact fR_7 | exact fR_11 | exact fR_19 | exact fR_20 | exact fR_23 | omega) only [e_Fl_firstOpen_0, e_Fl_firstOpen_1, e_Fl_firstOpen_2, e_Fl_firstOpen_3, e_Fl_firstOpen_4, e_Fl_firstOpen_5, e_Fl_firstOpen_9, e_Fl_firstOpen_11, e_Fl_firstOpen_14, e_Fl_firstOpen_15, e_Fl_firstOpen_18, e_Fl_firstOpen_19, e_Fl_firstOpen_22, e_Fl_firstOpen_23, e_Fl_firstOpen_26, e_Fl_firstOpen_27, e_Fl_firstOpen_28, e_Fl_firstOpen_29, e_Fl_firstOpen_31, e_Fl_firstOpen_34, e_Fl_firstOpen_37, e_Fl_firstOpen_40, e_Fl_firstOpen_41, e_Fl_firstOpen_43, e_Fl_firstOpen_46, e_Fl_firstOpen_47, e_Fl_firstOpen_48, e_Fl_firstOpen_51, e_Fl_firstOpen_54, e_Fl_firstOpen_57, e_Fl_firstOpen_58, vr_v, vr_n, vr_vh, vr_nh, vg_some, fF_19_0, fI_19_0, fF_19_1, fI_19_1, fF_19_2, fI_19_2, fF_19_3, fI_19_3, fF_19_4, fI_19_4, fF_19_5, fI_19_5, fF_19_6, fI_19_6, fF_19_7, fI_19_7, cF_0, cF_1, cF_2, cF_3, cF_4, cF_5, cF_6, cF_7, cU_0, cU_1, cU_2, cU_3, cU_4, cU_5, cU_6, cU_7, nI_ltI, nI_add, nI_mul, nI_clamp, mx_in_nI, hk, if_true, if_false, nle0, hr0, c_Se_has, st_not, st_has hk, h, bI_0, tf, c_Se_of, st_set hk]
      rw [er, nI_dec]
  · have he : (fo (fun i => decide (i < n) && !(a i)) w k).2 = w := by simpa using hp
    have e2 := fo_stop he 30 (by omega)
    show vv _ _ _ _ _ _ = _
    have hr0 : w - (fo (fun i => decide (i < n) && !(a i)) w k).2 = 0 := by omega
    simp (disch := first | exact fR_0 | exact fR_1 | exact fR_7 | exact fR_11 | exact fR_19 | exact fR_20 | exact fR_23 | omega) only [e_Fl_firstOpen_7, e_Fl_firstOpen_9, e_Fl_firstOpen_11, e_Fl_firstOpen_14, e_Fl_firstOpen_15, e_Fl_firstOpen_57, e_Fl_firstOpen_58, vr_v, vr_n, vr_vh, vr_nh, vg_some, nI_ltI, nI_add, nI_mul, nI_clamp, mx_in_nI, hk, if_true, nle0, hr0, e2]
  · simp (disch := first | exact fR_0 | exact fR_1 | exact fR_7 | exact fR_11 | exact fR_19 | exact fR_20 | exact fR_23 | omega) only [e_Fl_firstOpen_7, e_Fl_firstOpen_9, e_Fl_firstOpen_11, e_Fl_firstOpen_57, e_Fl_firstOpen_58, nI_ltI, nI_add, nI_mul, nI_clamp, mx_in_nI, Nat.lt_irrefl, if_false]
    split <;> rfl
theorem c_Fl_gap {σ : mx_S} {x0 x1 x3 x4 x5 x6 x7 : Int32} {t : Nat → Bool} : vv 1 32 0 [.ref 19, .null] [] (shF, cF σ x0 x1 (st t) x3 x4 x5 x6 x7) = some (some (.int (bh t)), (shF, cF σ x0 x1 (st t) x3 x4 x5 x6 x7)) := by
  have lp : ∀ f k, k + f = 30 → vv 1 32 2 [.ref 19, .int (nI k)] [] (shF, cF σ x0 x1 (st t) x3 x4 x5 x6 x7) = vv 1 32 25 [.ref 19, .int (nI (gp t f k))] [] (shF, cF σ x0 x1 (st t) x3 x4 x5 x6 x7) := by
    intro f
    induction f with
    | zero =>
      intro k hk
      have : k = 30 := by omega
      subst this
      simp (disch := first | exact fR_0 | exact fR_1 | exact fR_7 | exact fR_11 | exact fR_19 | exact fR_20 | exact fR_23 | omega) only [e_Fl_takenBeyondGap_2, e_Fl_takenBeyondGap_3, e_Fl_takenBeyondGap_5, nI_ltI, nI_add, nI_mul, nI_clamp, mx_in_nI, Nat.lt_irrefl, if_false, gp]
    | succ f ih =>
      intro k hk
      have hk' : k < 30 := by omega
      cases h : t k with
      | false =>
        have e : gp t (f + 1) k = k := by rw [gp, if_neg (by rw [h]; simp)]
        rw [e]
        simp (disch := first | exact fR_0 | exact fR_1 | exact fR_7 | exact fR_11 | exact fR_19 | exact fR_20 | exact fR_23 | omega) only [e_Fl_takenBeyondGap_2, e_Fl_takenBeyondGap_3, e_Fl_takenBeyondGap_5, e_Fl_takenBeyondGap_8, e_Fl_takenBeyondGap_9, e_Fl_takenBeyondGap_12, e_Fl_takenBeyondGap_13, e_Fl_takenBeyondGap_16, vr_v, vr_n, vr_vh, vr_nh, vg_some, fF_19_0, fI_19_0, fF_19_1, fI_19_1, fF_19_2, fI_19_2, fF_19_3, fI_19_3, fF_19_4, fI_19_4, fF_19_5, fI_19_5, fF_19_6, fI_19_6, fF_19_7, fI_19_7, cF_0, cF_1, cF_2, cF_3, cF_4, cF_5, cF_6, cF_7, cU_0, cU_1, cU_2, cU_3, cU_4, cU_5, cU_6, cU_7, nI_ltI, nI_add, nI_mul, nI_clamp, mx_in_nI, hk', if_true, c_Se_has, st_has hk', h, bI_0]
      | true =>
        have e : gp t (f + 1) k = gp t f (k + 1) := by rw [gp, if_pos h]
        rw [e, ← ih (k + 1) (by omega), e_Fl_takenBeyondGap_2]
        simp (disch := first | exact fR_0 | exact fR_1 | exact fR_7 | exact fR_11 | exact fR_19 | exact fR_20 | exact fR_23 | omega) only [e_Fl_takenBeyondGap_3, e_Fl_takenBeyondGap_5, e_Fl_takenBeyondGap_8, e_Fl_takenBeyondGap_9, e_Fl_takenBeyondGap_12, e_Fl_takenBeyondGap_13, e_Fl_takenBeyondGap_16, e_Fl_takenBeyondGap_19, e_Fl_takenBeyondGap_22, vr_v, vr_n, vr_vh, vr_nh, vg_some, fF_19_0, fI_19_0, fF_19_1, fI_19_1, fF_19_2, fI_19_2, fF_19_3, fI_19_3, fF_19_4, fI_19_4, fF_19_5, fI_19_5, fF_19_6, fI_19_6, fF_19_7, fI_19_7, cF_0, cF_1, cF_2, cF_3, cF_4, cF_5, cF_6, cF_7, cU_0, cU_1, cU_2, cU_3, cU_4, cU_5, cU_6, cU_7, nI_ltI, nI_add, nI_mul, nI_clamp, mx_in_nI, hk', if_true, if_false, c_Se_has, st_has hk', h, bI_0, tf]
  have hg := gp_le (t := t) 30 0
  rw [e_Fl_takenBeyondGap_0, e_Fl_takenBeyondGap_1, lp 30 0 (by decide)]
  simp (disch := first | exact fR_0 | exact fR_1 | exact fR_7 | exact fR_11 | exact fR_19 | exact fR_20 | exact fR_23 | omega) only [e_Fl_takenBeyondGap_25, e_Fl_takenBeyondGap_26, e_Fl_takenBeyondGap_29, e_Fl_takenBeyondGap_30, e_Fl_takenBeyondGap_31, e_Fl_takenBeyondGap_34, vr_v, vr_n, vr_vh, vr_nh, vg_some, fF_19_0, fI_19_0, fF_19_1, fI_19_1, fF_19_2, fI_19_2, fF_19_3, fI_19_3, fF_19_4, fI_19_4, fF_19_5, fI_19_5, fF_19_6, fI_19_6, fF_19_7, fI_19_7, cF_0, cF_1, cF_2, cF_3, cF_4, cF_5, cF_6, cF_7, cU_0, cU_1, cU_2, cU_3, cU_4, cU_5, cU_6, cU_7, c_JI_bitCount, bh_c (show gp t 30 0 < 32 by omega)]
  rfl
def bmx (h b : Int32) : Int32 := if h < b then b else h
theorem mm_bmx {h b : Int32} : mx_mm 1 h b = bmx h b := by simp [mx_mm, bmx]
theorem c_Fl_sendFrame {σ : mx_S} {s x1 x4 c d h bad deaf : Int32} {t a fr : Nat → Bool} (hdf : True) : vv 2 29 0 [.ref 19, .int (st fr), .int bad, .int deaf, .null] [] (shF, cF σ s x1 (st t) (st a) x4 c d h) = some (none, (shF, cF σ (sdB (sl fr bad (s, t, d) 30).1) x1 (st (sl fr bad (s, t, d) 30).2.1) (st (fun i => a i || (!(decide (lfB (sdB (sl fr bad (s, t, d) 30).1) (nI 10) < deaf)) && (fr i && (sl fr bad (s, t, d) 30).2.1 i)))) x4 (c + nI (cnt fr 30)) (sl fr bad (s, t, d) 30).2.2 (bmx h (bh (sl fr bad (s, t, d) 30).2.1)))) := by
  rw [e_Fl_sendFrame_0, e_Fl_sendFrame_1]
  have z0 : c = c + nI (cnt fr 0) := by show c = c + nI 0; rw [nI_0, Int32.add_zero]
  have s1 := it (F := fun k => vv 2 29 3 [.ref 19, .int (st fr), .int bad, .int deaf, .int (nI k)] [] (shF, cF σ (sl fr bad (s, t, d) k).1 x1 (st (sl fr bad (s, t, d) k).2.1) (st a) x4 (c + nI (cnt fr k)) (sl fr bad (s, t, d) k).2.2 h)) 30 (fun k hk => by
    show vv _ _ _ _ _ _ = vv _ _ _ _ _ _
    rw [e_Fl_sendFrame_3]
    cases hf : fr k with
    | false =>
      have ec : cnt fr (k + 1) = cnt fr k := by rw [cnt, hf]; rfl
      rw [sl_n hf, ec]
      simp (disch := first | exact fR_0 | exact fR_1 | exact fR_7 | exact fR_11 | exact fR_19 | exact fR_20 | exact fR_23 | omega) only [e_Fl_sendFrame_5, e_Fl_sendFrame_7, e_Fl_sendFrame_10, e_Fl_sendFrame_11, e_Fl_sendFrame_13, e_Fl_sendFrame_16, e_Fl_sendFrame_19, e_Fl_sendFrame_46, e_Fl_sendFrame_49, vr_v, vr_n, vr_vh, vr_nh, vg_some, fF_19_0, fI_19_0, fF_19_1, fI_19_1, fF_19_2, fI_19_2, fF_19_3, fI_19_3, fF_19_4, fI_19_4, fF_19_5, fI_19_5, fF_19_6, fI_19_6, fF_19_7, fI_19_7, cF_0, cF_1, cF_2, cF_3, cF_4, cF_5, cF_6, cF_7, cU_0, cU_1, cU_2, cU_3, cU_4, cU_5, cU_6, cU_7, nI_ltI, nI_add, nI_mul, nI_clamp, mx_in_nI, hk, if_true, c_Se_has, st_has hk, hf, bI_0]
    | true =>
      have ec : cnt fr (k + 1) = cnt fr k + 1 := by rw [cnt, hf]; rfl
      have e5 : c + nI (cnt fr k) + nI 1 = c + nI (cnt fr k + 1) := by rw [Int32.add_assoc, nI_add]
      by_cases hb : lfB (sdB (sl fr bad (s, t, d) k).1) (nI 10) < bad
      · have es : sl fr bad (s, t, d) (k + 1) = (sdB (sl fr bad (s, t, d) k).1, (sl fr bad (s, t, d) k).2.1, (sl fr bad (s, t, d) k).2.2) := by rw [sl, if_pos hf, if_pos hb]
        rw [es, ec]
        simp (disch := first | exact fR_0 | exact fR_1 | exact fR_7 | exact fR_11 | exact fR_19 | exact fR_20 | exact fR_23 | omega) only [e_Fl_sendFrame_5, e_Fl_sendFrame_7, e_Fl_sendFrame_10, e_Fl_sendFrame_11, e_Fl_sendFrame_13, e_Fl_sendFrame_16, e_Fl_sendFrame_22, e_Fl_sendFrame_23, e_Fl_sendFrame_24, e_Fl_sendFrame_27, e_Fl_sendFrame_28, e_Fl_sendFrame_29, e_Fl_sendFrame_32, e_Fl_sendFrame_33, e_Fl_sendFrame_36, e_Fl_sendFrame_37, e_Fl_sendFrame_46, e_Fl_sendFrame_49, vr_v, vr_n, vr_vh, vr_nh, vg_some, fF_19_0, fI_19_0, fF_19_1, fI_19_1, fF_19_2, fI_19_2, fF_19_3, fI_19_3, fF_19_4, fI_19_4, fF_19_5, fI_19_5, fF_19_6, fI_19_6, fF_19_7, fI_19_7, cF_0, cF_1, cF_2, cF_3, cF_4, cF_5, cF_6, cF_7, cU_0, cU_1, cU_2, cU_3, cU_4, cU_5, cU_6, cU_7, nI_ltI, nI_add, nI_mul, nI_clamp, mx_in_nI, hk, if_true, if_false, c_Se_has, st_has hk, hf, bI_0, tf, e5, c_Fl_drawTenth, hb]
      · have es : sl fr bad (s, t, d) (k + 1) = (sdB (sl fr bad (s, t, d) k).1, (fun i => if i = k then true else (sl fr bad (s, t, d) k).2.1 i), (sl fr bad (s, t, d) k).2.2 + bI ((sl fr bad (s, t, d) k).2.1 k)) := by rw [sl, if_pos hf, if_neg hb]
        rw [es, ec]
        simp (disch := first | exact fR_0 | exact fR_1 | exact fR_7 | exact fR_11 | exact fR_19 | exact fR_20 | exact fR_23 | omega) only [e_Fl_sendFrame_5, e_Fl_sendFrame_7, e_Fl_sendFrame_10, e_Fl_sendFrame_11, e_Fl_sendFrame_13, e_Fl_sendFrame_16, e_Fl_sendFrame_22, e_Fl_sendFrame_23, e_Fl_sendFrame_24, e_Fl_sendFrame_27, e_Fl_sendFrame_28, e_Fl_sendFrame_29, e_Fl_sendFrame_32, e_Fl_sendFrame_33, e_Fl_sendFrame_36, e_Fl_sendFrame_37, e_Fl_sendFrame_40, e_Fl_sendFrame_41, e_Fl_sendFrame_43, e_Fl_sendFrame_46, e_Fl_sendFrame_49, vr_v, vr_n, vr_vh, vr_nh, vg_some, fF_19_0, fI_19_0, fF_19_1, fI_19_1, fF_19_2, fI_19_2, fF_19_3, fI_19_3, fF_19_4, fI_19_4, fF_19_5, fI_19_5, fF_19_6, fI_19_6, fF_19_7, fI_19_7, cF_0, cF_1, cF_2, cF_3, cF_4, cF_5, cF_6, cF_7, cU_0, cU_1, cU_2, cU_3, cU_4, cU_5, cU_6, cU_7, nI_ltI, nI_add, nI_mul, nI_clamp, mx_in_nI, hk, if_true, if_false, c_Se_has, st_has hk, hf, bI_0, tf, e5, c_Fl_drawTenth, hb, c_Fl_take hk])
  have s2 : vv 2 29 3 [.ref 19, .int (st fr), .int bad, .int deaf, .int (nI 0)] [] (shF, cF σ s x1 (st t) (st a) x4 c d h) = vv 2 29 3 [.ref 19, .int (st fr), .int bad, .int deaf, .int (nI 30)] [] (shF, cF σ (sl fr bad (s, t, d) 30).1 x1 (st (sl fr bad (s, t, d) 30).2.1) (st a) x4 (c + nI (cnt fr 30)) (sl fr bad (s, t, d) 30).2.2 h) := by
    have s1' : vv 2 29 3 [.ref 19, .int (st fr), .int bad, .int deaf, .int (nI 0)] [] (shF, cF σ s x1 (st t) (st a) x4 (c + nI (cnt fr 0)) d h) = _ := s1
    rw [← z0] at s1'
    exact s1'
  rw [s2]
  generalize sl fr bad (s, t, d) 30 = X
  by_cases hd : lfB (sdB X.1) (nI 10) < deaf
  · have ea : st (fun i => a i || (!(decide (lfB (sdB X.1) (nI 10) < deaf)) && (fr i && X.2.1 i))) = st a := st_congr (fun i _ => by simp [hd])
    rw [ea]
    simp (disch := first | exact fR_0 | exact fR_1 | exact fR_7 | exact fR_11 | exact fR_19 | exact fR_20 | exact fR_23 | omega) only [e_Fl_sendFrame_3, e_Fl_sendFrame_5, e_Fl_sendFrame_7, e_Fl_sendFrame_52, e_Fl_sendFrame_53, e_Fl_sendFrame_56, e_Fl_sendFrame_57, e_Fl_sendFrame_75, e_Fl_sendFrame_76, e_Fl_sendFrame_77, e_Fl_sendFrame_80, e_Fl_sendFrame_81, e_Fl_sendFrame_84, e_Fl_sendFrame_87, e_Fl_sendFrame_90, vr_v, vr_n, vr_vh, vr_nh, vg_some, fF_19_0, fI_19_0, fF_19_1, fI_19_1, fF_19_2, fI_19_2, fF_19_3, fI_19_3, fF_19_4, fI_19_4, fF_19_5, fI_19_5, fF_19_6, fI_19_6, fF_19_7, fI_19_7, cF_0, cF_1, cF_2, cF_3, cF_4, cF_5, cF_6, cF_7, cU_0, cU_1, cU_2, cU_3, cU_4, cU_5, cU_6, cU_7, nI_ltI, nI_add, nI_mul, nI_clamp, mx_in_nI, Nat.lt_irrefl, if_true, if_false, c_Fl_drawTenth, hd, c_Fl_gap, mm_bmx]
  · have ea : st (fun i => a i || (!(decide (lfB (sdB X.1) (nI 10) < deaf)) && (fr i && X.2.1 i))) = st (fun i => a i || (fr i && X.2.1 i)) := st_congr (fun i _ => by simp [hd])
    rw [ea]
    simp (disch := first | exact fR_0 | exact fR_1 | exact fR_7 | exact fR_11 | exact fR_19 | exact fR_20 | exact fR_23 | omega) only [e_Fl_sendFrame_3, e_Fl_sendFrame_5, e_Fl_sendFrame_7, e_Fl_sendFrame_52, e_Fl_sendFrame_53, e_Fl_sendFrame_56, e_Fl_sendFrame_57, e_Fl_sendFrame_60, e_Fl_sendFrame_61, e_Fl_sendFrame_62, e_Fl_sendFrame_65, e_Fl_sendFrame_66, e_Fl_sendFrame_67, e_Fl_sendFrame_70, e_Fl_sendFrame_71, e_Fl_sendFrame_72, e_Fl_sendFrame_75, e_Fl_sendFrame_76, e_Fl_sendFrame_77, e_Fl_sendFrame_80, e_Fl_sendFrame_81, e_Fl_sendFrame_84, e_Fl_sendFrame_87, e_Fl_sendFrame_90, vr_v, vr_n, vr_vh, vr_nh, vg_some, fF_19_0, fI_19_0, fF_19_1, fI_19_1, fF_19_2, fI_19_2, fF_19_3, fI_19_3, fF_19_4, fI_19_4, fF_19_5, fI_19_5, fF_19_6, fI_19_6, fF_19_7, fI_19_7, cF_0, cF_1, cF_2, cF_3, cF_4, cF_5, cF_6, cF_7, cU_0, cU_1, cU_2, cU_3, cU_4, cU_5, cU_6, cU_7, nI_ltI, nI_add, nI_mul, nI_clamp, mx_in_nI, Nat.lt_irrefl, if_true, if_false, c_Fl_drawTenth, hd, st_and, st_or, c_Fl_gap, mm_bmx]
