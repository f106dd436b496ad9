/-! promises 11 to 15: seed, write, unwrite, pass, ofStation -/
theorem f4_t {Z : Nat → Bool} {A : mx_S} (n : Nat) : itr (f4 Z) A n 12 2 = A 12 2 + ec Z A n := by
  induction n with
  | zero => show A 12 2 = A 12 2 + nI 0; rw [nI_0]; simp
  | succ n ih =>
    show f4 Z (itr (f4 Z) A n) n 12 2 = A 12 2 + (if Z n && e4 (itr (f4 Z) A n) n && decide (itr (f4 Z) A n 8 n = 0) then ec Z A n + nI 1 else ec Z A n)
    generalize itr (f4 Z) A n = B at *
    unfold f4
    cases c1 : Z n with
    | false => simpa using ih
    | true =>
      cases c2 : e4 B n with
      | false => simp only [if_true, Bool.and_false, Bool.false_and, Bool.false_eq_true, if_false]; rw [ap_ne (by omega)]; exact ih
      | true =>
        by_cases c3 : B 8 n = 0
        · simp only [if_true, c3, decide_true, Bool.and_self]
          unfold ar4
          rw [ap_eq, ap_ne (by omega), ih, Int32.add_assoc]
        · simp only [if_true, c3, if_false, decide_false, Bool.and_false, Bool.false_eq_true]
          unfold co4 wt
          rw [ap_ne (by omega), ap_ne (by omega), ap_ne (by omega), ap_ne (by omega), ap_ne (by omega), ap_ne (by omega), ap_ne (by omega), ap_ne (by omega)]
          exact ih
theorem itr_k {f : mx_S → Nat → mx_S} {A : mx_S} {c i : Nat} (hf : ∀ B k, f B k c i = B c i) (n : Nat) : itr f A n c i = A c i := by
  induction n with
  | zero => rfl
  | succ n ih => exact (hf _ _).trans ih
theorem slotA_t {σ A : mx_S} : slotA σ A 12 2 = A 12 2 + ec (sZ σ A) (sA3 σ A) 6 := by
  have e5 : slotA σ A 12 2 = sA4 σ A 12 2 := itr_k (fun B k => by
    unfold f5
    split
    · unfold df5
      split
      · unfold wt
        rw [ap_ne (by omega), ap_ne (by omega), ap_ne (by omega), ap_ne (by omega), ap_ne (by omega)]
      · split
        · rw [ap_ne (by omega), ap_ne (by omega)]
        · rw [ap_ne (by omega)]
    · rfl) 6
  have e3 : sA3 σ A 12 2 = sA2 σ A 12 2 := itr_k (fun B k => by
    unfold f3
    split
    · rw [ap_ne (by omega)]
    · rfl) 6
  have e2 : sA2 σ A 12 2 = sA1 σ A 12 2 := itr_k (fun B k => by
    unfold f2
    split
    · split
      · rw [ap_ne (by omega), ap_ne (by omega), ap_ne (by omega)]
      · rw [ap_ne (by omega), ap_ne (by omega)]
    · rfl) 6
  have e1 : sA1 σ A 12 2 = A 12 2 := itr_k (fun B k => by
    unfold f1
    split
    · split
      · rfl
      · rw [ap_ne (by omega)]
    · rfl) 6
  rw [e5]
  unfold sA4
  rw [f4_t, e3, e2, e1]
theorem sub_add' {x a e : Int32} : x - a + e = x + e - a := by
  rw [Int32.sub_eq_add_neg, Int32.sub_eq_add_neg, Int32.add_assoc, Int32.add_comm (-a) e, ← Int32.add_assoc]
theorem es_t {σ A : mx_S} : ∀ n, es σ A n = pasA σ A n 12 2 - A 12 2 := by
  intro n
  induction n with
  | zero => show nI 0 = A 12 2 - A 12 2; rw [nI_0]; simp
  | succ n ih =>
    show es σ A n + _ = slotA σ (pasA σ A n) 12 2 - A 12 2
    rw [ih, slotA_t, sub_add']
def abA (σ : mx_S) : mx_S := fun f i => if f < 12 then σ (13 + i) f else (if i = 0 then σ 11 2 else if i = 1 then σ 11 5 else if i = 2 then σ 11 4 else σ 11 6)
theorem CC_un {σ : mx_S} (h : CC σ) : RC σ (abA σ) ∧ RM σ (abA σ) ∧ AR (abA σ) ∧ TOT (abA σ) ∧ σ 23 19 = σ 11 3 := by
  have hf : ∀ f i, f < 12 → abA σ f i = σ (13 + i) f := fun f i hf => by unfold abA; rw [if_pos hf]
  obtain ⟨h1, ⟨s0, s1, s2, s3, s4⟩, h3⟩ := h
  refine ⟨⟨fun f i hf' hi => (hf f i hf').symm, rfl, rfl, rfl, rfl⟩, ⟨fun f i hf' hi => ?_, s0, s2⟩, fun i hi => ?_, ⟨?_, ?_⟩, s1⟩
  · rw [hf f i hf']
    obtain ⟨a0, a1, a2, a3, a4, a5, a6, a7, a8, a9, a10, a11⟩ := h1 i hi
    match f, hf' with
    | 0, _ => exact a0
    | 1, _ => exact a1
    | 2, _ => exact a2
    | 3, _ => exact a3
    | 4, _ => exact a4
    | 5, _ => exact a5
    | 6, _ => exact a6
    | 7, _ => exact a7
    | 8, _ => exact a8
    | 9, _ => exact a9
    | 10, _ => exact a10
    | 11, _ => exact a11
  · exact h3 i hi
  · show σ 11 4 = _
    rw [s3]
    exact sm_congr 6 (fun i hi => by rw [hf 9 i (by decide)]; exact (h1 i hi).2.2.2.2.2.2.2.2.2.1)
  · show σ 11 6 = _
    rw [s4]
    exact sm_congr 6 (fun i hi => by rw [hf 10 i (by decide)]; exact (h1 i hi).2.2.2.2.2.2.2.2.2.2.1)
theorem CC_mk {σ A : mx_S} (h : RC σ A) (hm : RM σ A) (hA : AR A) (hT : TOT A) (hs : σ 23 19 = σ 11 3) : CC σ := by
  refine ⟨fun i hi => ?_, ⟨?_, hs, ?_, ?_, ?_⟩, fun i hi => ?_⟩
  · have e : ∀ f, f < 12 → σ (29 + f) i = σ (13 + i) f := fun f hf => by rw [hm.1 f i hf hi, h.1 f i hf hi]
    exact ⟨e 0 (by decide), e 1 (by decide), e 2 (by decide), e 3 (by decide), e 4 (by decide), e 5 (by decide), e 6 (by decide), e 7 (by decide), e 8 (by decide), e 9 (by decide), e 10 (by decide), e 11 (by decide)⟩
  · rw [hm.2.1, h.2.1]
  · rw [hm.2.2, h.2.2.1]
  · rw [h.2.2.2.1, hT.1]
    exact sm_congr 6 (fun i hi => (hm.1 9 i (by decide) hi).symm)
  · rw [h.2.2.2.2, hT.2]
    exact sm_congr 6 (fun i hi => (hm.1 10 i (by decide) hi).symm)
  · have q := hA i hi
    unfold ARi at q
    rw [← h.1 0 i (by decide) hi, ← h.1 1 i (by decide) hi, ← h.1 2 i (by decide) hi, ← h.1 3 i (by decide) hi, ← h.1 4 i (by decide) hi, ← h.1 5 i (by decide) hi, ← h.1 8 i (by decide) hi] at q
    exact q
theorem p_pass {σ : mx_S} (hI : INV σ) (n : Int32) : PR σ (fun σ => vv 6 100 0 [.ref 0, .int n] [] (shF, σ)) (fun σ => vv 8 157 0 [.ref 23, .int n, .null, .null] [] (shF, σ)) := by
  cases h1 : wi n (nI 1) (nI 1000) with
  | false => exact PR.same hI (-2) (by simp only [e_Ml_pass_0, e_Ml_pass_1, e_Ml_pass_2, e_Ml_pass_5, e_Ml_pass_8, e_Ml_pass_11, e_Ml_pass_13, e_Ml_pass_14, e_Ml_pass_15, e_Ml_pass_18, e_Ml_pass_19, e_Ml_pass_22, vr_v, vr_n, vr_vh, vr_nh, vg_some, c_Ml_isWithin, c_Ml_isStation, c_Ml_areTwo, c_Ml_isTone, c_Ml_isHalf, c_Ml_isKey, c_Mo_within, c_Mo_isStation, c_Mo_areTwo, c_Mo_isTone, c_Mo_isHalf, bI_0, if_true, if_false, Bool.false_eq_true, eq_self, tf, h1]) (by simp only [e_Mo_pass_0, e_Mo_pass_1, e_Mo_pass_2, e_Mo_pass_5, e_Mo_pass_8, e_Mo_pass_11, e_Mo_pass_13, e_Mo_pass_14, e_Mo_pass_15, e_Mo_pass_16, e_Mo_pass_17, e_Mo_pass_19, e_Mo_pass_20, e_Mo_pass_23, e_Mo_pass_24, e_Mo_pass_25, e_Mo_pass_28, e_Mo_pass_29, e_Mo_pass_30, e_Mo_pass_33, e_Mo_pass_36, e_Mo_pass_37, vr_v, vr_n, vr_vh, vr_nh, vg_some, c_Ml_isWithin, c_Ml_isStation, c_Ml_areTwo, c_Ml_isTone, c_Ml_isHalf, c_Ml_isKey, c_Mo_within, c_Mo_isStation, c_Mo_areTwo, c_Mo_isTone, c_Mo_isHalf, bI_0, if_true, if_false, Bool.false_eq_true, eq_self, tf, h1])
  | true =>
    obtain ⟨N, n1, n2, rfl⟩ := wi_of1 (by decide) (by decide) h1
    obtain ⟨hW, hc, hCC, hX⟩ := hI
    obtain ⟨r, m, a, t, s⟩ := CC_un hCC
    obtain ⟨σ1, e1, q1, f1', g1⟩ := c_Co_passSlots hW hX r a n2
    have m1 : RM σ1 (abA σ) := ⟨fun f i hf hi => by rw [f1' (29 + f) (by omega) (by omega)]; exact m.1 f i hf hi, by rw [f1' 23 (by omega) (by omega)]; exact m.2.1, by rw [f1' 23 (by omega) (by omega)]; exact m.2.2⟩
    have en1 : EN σ σ1 := EN_of (by rw [f1' 1 (by omega) (by omega)]) (f1' 2 (by omega) (by omega)) (f1' 3 (by omega) (by omega)) (f1' 4 (by omega) (by omega)) (f1' 5 (by omega) (by omega)) (f1' 6 (by omega) (by omega)) (fun c hc => f1' c (by omega) (by omega)) hW hX
    have c1 : CW σ1 := CW_of hc (by rw [f1' 1 (by omega) (by omega)]) (f1' 2 (by omega) (by omega)) (f1' 3 (by omega) (by omega)) (f1' 4 (by omega) (by omega)) (by rw [f1' 23 (by omega) (by omega)]) (f1' 24 (by omega) (by omega)) (f1' 25 (by omega) (by omega)) (f1' 26 (by omega) (by omega))
    obtain ⟨σ2, e2, q2, f2'⟩ := c_Mo_pass en1.2.2.2.1 c1 en1.2.2.2.2 m1 a n1 n2
    have pe : ∀ k, pasA σ1 (abA σ) k = pasA σ (abA σ) k := by
      intro k
      induction k with
      | zero => rfl
      | succ k ih =>
        show slotA σ1 (pasA σ1 (abA σ) k) = slotA σ (pasA σ (abA σ) k)
        rw [ih, (slotA_en en1).1]
    rw [es_t, pe] at e2
    rw [pe] at q2
    have en2 := f2'.en en1.2.2.2.1 en1.2.2.2.2
    have r2 : RC σ2 (pasA σ (abA σ) N) := ⟨fun f i hf hi => by rw [f2'.1 (13 + i) (by omega) (by omega)]; exact q1.1 f i hf hi, by rw [f2'.1 11 (by omega) (by omega)]; exact q1.2.1, by rw [f2'.1 11 (by omega) (by omega)]; exact q1.2.2.1, by rw [f2'.1 11 (by omega) (by omega)]; exact q1.2.2.2.1, by rw [f2'.1 11 (by omega) (by omega)]; exact q1.2.2.2.2⟩
    refine ⟨pasA σ (abA σ) N 12 2 - abA σ 12 2, σ1, σ2, ?_, e2, ⟨en2.2.2.2.1, f2'.cw c1, CC_mk r2 q2 (pasA_AR hW hX a N) (TOT_pas t N) ?_, en2.2.2.2.2⟩, fun c hc => by rw [f2'.1 c (by omega) (by omega), f1' c (by omega) (by omega)]⟩
    · simp (disch := first | exact fR_0 | exact fR_1 | exact fR_7 | exact fR_11 | exact fR_19 | exact fR_20 | exact fR_23 | omega) only [e_Ml_pass_0, e_Ml_pass_1, e_Ml_pass_2, e_Ml_pass_5, e_Ml_pass_8, e_Ml_pass_11, e_Ml_pass_13, e_Ml_pass_14, e_Ml_pass_15, e_Ml_pass_18, e_Ml_pass_19, e_Ml_pass_22, vr_v, vr_n, vr_vh, vr_nh, vg_some, c_Ml_isWithin, c_Ml_isStation, c_Ml_areTwo, c_Ml_isTone, c_Ml_isHalf, c_Ml_isKey, c_Mo_within, c_Mo_isStation, c_Mo_areTwo, c_Mo_isTone, c_Mo_isHalf, bI_0, if_true, if_false, Bool.false_eq_true, eq_self, tf, fF_0_0, fF_0_1, fF_0_2, fF_0_3, fF_0_4, h1, e1]
    · rw [f2'.2.2, f2'.1 11 (by omega) (by omega), g1, f1' 23 (by omega) (by omega), s]
theorem p_seed {σ : mx_S} (hI : INV σ) (v : Int32) : PR σ (fun σ => vv 1 97 0 [.ref 0, .int v] [] (shF, σ)) (fun σ => vv 0 140 0 [.ref 23, .int v, .null] [] (shF, σ)) := by
  obtain ⟨hW, hc, hCC, hX⟩ := hI
  obtain ⟨r, m, a, t, s⟩ := CC_un hCC
  have r1' := (r.s (k := 2) (l := 0) (x := v) (Or.inl ⟨rfl, rfl⟩))
  have f1' : FC σ (mx_up σ 11 2 v) := FC.rf.s (by decide)
  have en1 := f1'.en hW hX
  have m1 : RM (mx_up (mx_up σ 11 2 v) 23 6 v) (mx_up (abA σ) 12 0 v) := by
    have : RM (mx_up σ 11 2 v) (abA σ) := ⟨fun f i hf hi => by rw [mx_up_nn (by omega)]; exact m.1 f i hf hi, by rw [mx_up_nn (by decide)]; exact m.2.1, by rw [mx_up_nn (by decide)]; exact m.2.2⟩
    exact this.s (Or.inl ⟨rfl, rfl⟩)
  have f2' : FM (mx_up σ 11 2 v) (mx_up (mx_up σ 11 2 v) 23 6 v) := FM.rf.s (Or.inl rfl)
  have en2 := f2'.en en1.2.2.2.1 en1.2.2.2.2
  have r2 : RC (mx_up (mx_up σ 11 2 v) 23 6 v) (mx_up (abA σ) 12 0 v) := ⟨fun f i hf hi => by rw [mx_up_nn (by omega)]; exact r1'.1 f i hf hi, by rw [mx_up_nn (by decide)]; exact r1'.2.1, by rw [mx_up_nn (by decide)]; exact r1'.2.2.1, by rw [mx_up_nn (by decide)]; exact r1'.2.2.2.1, by rw [mx_up_nn (by decide)]; exact r1'.2.2.2.2⟩
  have c1 : CW (mx_up σ 11 2 v) := CW_of hc (by rw [mx_up_nn (by decide)]) (mx_up_nn (by decide)) (mx_up_nn (by decide)) (mx_up_nn (by decide)) (by rw [mx_up_nn (by decide)]) (mx_up_nn (by decide)) (mx_up_nn (by decide)) (mx_up_nn (by decide))
  have e6 : mx_up σ 11 2 v 23 6 = σ 11 2 := by rw [mx_up_nn (by decide)]; exact hCC.2.1.1
  refine ⟨σ 11 2, mx_up σ 11 2 v, mx_up (mx_up σ 11 2 v) 23 6 v, ?_, ?_, ⟨en2.2.2.2.1, f2'.cw c1, CC_mk r2 m1 (a.free (by decide)) (t.free (by decide)) ?_, en2.2.2.2.2⟩, fun c hc => by rw [mx_up_nn (by omega), mx_up_nn (by omega)]⟩
  · simp (disch := first | exact fR_0 | exact fR_1 | exact fR_7 | exact fR_11 | exact fR_19 | exact fR_20 | exact fR_23 | omega) only [e_Ml_seed_0, e_Ml_seed_1, e_Ml_seed_4, e_Ml_seed_5, e_Ml_seed_8, vr_v, vr_n, vr_vh, vr_nh, vg_some, fF_0_0, fF_0_1, fF_0_2, fF_0_3, fF_0_4, c_Co_setSeed]
  · simp (disch := first | exact fR_0 | exact fR_1 | exact fR_7 | exact fR_11 | exact fR_19 | exact fR_20 | exact fR_23 | omega) only [e_Mo_seed_0, e_Mo_seed_1, e_Mo_seed_4, e_Mo_seed_5, e_Mo_seed_6, e_Mo_seed_7, e_Mo_seed_10, e_Mo_seed_11, vr_v, vr_n, vr_vh, vr_nh, vg_some, fF_23_0, fF_23_1, fF_23_2, fF_23_3, fI_23_3, fF_23_4, fF_23_5, fF_23_6, fI_23_6, fF_23_7, fF_23_8, fF_23_9, fF_23_10, fF_23_11, fF_23_12, fF_23_13, fF_23_14, fF_23_15, fF_23_16, fF_23_17, fF_23_18, fF_23_19, fI_23_19, fF_23_20, fI_23_20, fF_23_21, fI_23_21, fF_23_22, fI_23_22, fF_23_23, fI_23_23, fF_23_24, fI_23_24, fF_23_25, fI_23_25, fF_23_26, fI_23_26, fF_23_27, fI_23_27, fF_23_28, fI_23_28, fF_23_29, fF_23_30, fF_23_31, fR_23, fL_24, fW_24, fL_25, fW_25, fL_26, fW_26, fL_27, fW_27, fL_28, fW_28, fL_29, fW_29, fL_30, fW_30, fL_31, fW_31, fL_32, fW_32, fL_33, fW_33, fL_34, fW_34, fL_35, fW_35, fL_36, fW_36, fW_37, fL_38, fW_38, fL_39, fW_39, fL_40, fW_40, fL_41, fW_41, fL_42, fW_42, fL_43, fW_43, if_true, e6]
  · rw [ap_ne (by omega), mx_up_nn (by decide), mx_up_nn (by decide), ap_ne (by omega)]; exact s
