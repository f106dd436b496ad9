/-! slots of both; totals; the way in and out of the invariant -/
theorem r1_en {σ0 σ : mx_S} (h : EN σ0 σ) {W S : Nat → Bool} : r1 σ W S = r1 σ0 W S := by funext A k; simp only [r1, held_en h]
theorem slotA_en {σ0 σ A : mx_S} (h : EN σ0 σ) : slotA σ A = slotA σ0 A ∧ sZ σ A = sZ σ0 A ∧ sA3 σ A = sA3 σ0 A := by
  have e1 : sR σ A = sR σ0 A := by funext k; simp only [sR, r1_en h, f1_en h]
  have e2 : sA1 σ A = sA1 σ0 A := by simp only [sA1, f1_en h]
  have e3 : sT σ A = sT σ0 A := by funext k; simp only [sT, t2_en h, f2_en h, e1, e2]
  have e4 : sA2 σ A = sA2 σ0 A := by simp only [sA2, f2_en h, e1, e2]
  have e5 : sZ σ A = sZ σ0 A := by funext k; simp only [sZ, e3]
  have e6 : sA3 σ A = sA3 σ0 A := by simp only [sA3, f3_en h, e4, e5]
  have e7 : sA4 σ A = sA4 σ0 A := by simp only [sA4, e5, e6]
  have e8 : sP σ A = sP σ0 A := by funext k; simp only [sP, e1]
  exact ⟨by simp only [slotA, f5_en h, e3, e7, e8], e5, e6⟩
def FS (σ σ' : mx_S) (n : Nat) : Prop := (∀ c, ¬ c = 23 → ¬ (29 ≤ c ∧ c ≤ 40) → σ' c = σ c) ∧ (∀ k, ¬ k = 6 → ¬ k = 20 → ¬ k = 19 → σ' 23 k = σ 23 k) ∧ σ' 23 19 = σ 23 19 + nI n
theorem c_Mo_slot {σ A : mx_S} (hW : WOK σ) (hc : CW σ) (hX : XW σ) (h : RM σ A) (hA : AR A) : ∃ σ', vv 7 156 0 [.ref 23, .null, .null, .null, .null] [] (shF, σ) = some (some (.int (ec (sZ σ A) (sA3 σ A) 6)), (shF, σ')) ∧ RM σ' (slotA σ A) ∧ FS σ σ' 1 := by
  obtain ⟨σ1, e1, a1, b1⟩ := c_Mo_findStarts hW hc hX h hA (W := php A 1) (S := php A 2) (R := sR σ A) (fun _ => rfl)
  have en1 := b1.en hW hX
  have q1 : AR (sA1 σ A) := hA.itr 6 (Nat.le_refl 6) (fun B k hk hB => AR_f1 hk hB)
  obtain ⟨σ2, e2, a2, b2⟩ := c_Mo_starts en1.2.2.2.1 (b1.cw hc) en1.2.2.2.2 a1 q1 (R := sR σ A) (T := sT σ A) (fun k => by rw [f2_en en1, t2_en en1]; rfl) (fun k hk hr => sR_nz hr)
  rw [f2_en en1] at a2
  have q2 : AR (sA2 σ A) := by
    have : ∀ n, n ≤ 6 → AR (itr (f2 σ (sR σ A)) (sA1 σ A) n) := by
      intro n
      induction n with
      | zero => intro _; exact q1
      | succ n ih =>
        intro hn
        refine AR_f2 (by omega) (fun hr => ?_) (ih (by omega))
        rw [ph2, if_neg (by omega)]
        exact sR_nz hr
    exact this 6 (Nat.le_refl 6)
  have en2 := (b1.tr b2).en hW hX
  have z2 : ∀ k, k < 6 → php (sA2 σ A) 2 k = sZ σ A k := fun k hk => by
    rw [← sZ_2 hk]
    unfold sA3
    rw [ph3]
    rfl
  obtain ⟨σ3, e3, a3, b3⟩ := c_Mo_spoils en2.2.2.2.1 ((b1.tr b2).cw hc) en2.2.2.2.2 a2 q2 (Z := sZ σ A) z2
  rw [f3_en en2] at a3
  have q3 : AR (sA3 σ A) := q2.itr 6 (Nat.le_refl 6) (fun B k hk hB => AR_f3 hB)
  have en3 := ((b1.tr b2).tr b3).en hW hX
  have z3 : ∀ k, k < 6 → (sA3 σ A 0 k = nI 2 ↔ sZ σ A k = true) := fun k hk => by
    rw [← sZ_2 hk]
    simp
  obtain ⟨σ4, e4', a4, b4⟩ := c_Mo_ends en3.2.2.2.1 en3.2.2.2.2 a3 q3 (Z := sZ σ A) z3
  have q4 : AR (sA4 σ A) := by
    have : ∀ n, n ≤ 6 → AR (itr (f4 (sZ σ A)) (sA3 σ A) n) := by
      intro n
      induction n with
      | zero => intro _; exact q3
      | succ n ih =>
        intro hn
        refine AR_f4 (fun hz => ?_) (ih (by omega))
        rw [f4_ph' n n (Or.inl (Nat.le_refl n)), (z3 n (by omega)).mpr hz]
        decide
    exact this 6 (Nat.le_refl 6)
  have en4 := (((b1.tr b2).tr b3).tr b4).en hW hX
  obtain ⟨σ5, e5, a5, b5⟩ := c_Mo_defers en4.2.2.2.1 ((((b1.tr b2).tr b3).tr b4).cw hc) en4.2.2.2.2 a4 q4 (P := sP σ A) (T := sT σ A) (fun k hk hp => sP_ph hp)
  rw [f5_en en4] at a5
  have bb := (((b1.tr b2).tr b3).tr b4).tr b5
  refine ⟨mx_up σ5 23 19 (σ 23 19 + nI 1), ?_, ?_, ?_, ?_, ?_⟩
  · have ep : (fun i => php A 1 i && !(sR σ A i)) = sP σ A := rfl
    have hs := bb.2 19 (by decide) (by decide)
    have ec3 : ec (sZ σ A) (itr (f3 σ (sZ σ A)) (itr (f2 σ (sR σ A)) (itr (f1 σ (php A 1) (php A 2)) A 6) 6) 6) 6 = ec (sZ σ A) (sA3 σ A) 6 := rfl
    simp (disch := first | exact fR_0 | exact fR_1 | exact fR_7 | exact fR_11 | exact fR_19 | exact fR_20 | exact fR_23 | omega) only [e_Mo_slot_0, e_Mo_slot_1, e_Mo_slot_2, e_Mo_slot_5, e_Mo_slot_6, e_Mo_slot_7, e_Mo_slot_8, e_Mo_slot_9, e_Mo_slot_10, e_Mo_slot_13, e_Mo_slot_16, e_Mo_slot_17, e_Mo_slot_18, e_Mo_slot_19, e_Mo_slot_22, e_Mo_slot_23, e_Mo_slot_24, e_Mo_slot_27, e_Mo_slot_28, e_Mo_slot_31, e_Mo_slot_33, e_Mo_slot_34, e_Mo_slot_35, e_Mo_slot_36, e_Mo_slot_37, e_Mo_slot_38, e_Mo_slot_39, e_Mo_slot_40, e_Mo_slot_43, e_Mo_slot_44, e_Mo_slot_45, e_Mo_slot_48, e_Mo_slot_49, e_Mo_slot_50, e_Mo_slot_53, e_Mo_slot_55, vr_v, vr_n, vr_vh, vr_nh, vg_some, fF_23_0, fF_23_1, fF_23_2, fF_23_3, fI_23_3, fF_23_4, fF_23_5, fF_23_6, fI_23_6, fF_23_7, fF_23_8, fF_23_9, fF_23_10, fF_23_11, fF_23_12, fF_23_13, fF_23_14, fF_23_15, fF_23_16, fF_23_17, fF_23_18, fF_23_19, fI_23_19, fF_23_20, fI_23_20, fF_23_21, fI_23_21, fF_23_22, fI_23_22, fF_23_23, fI_23_23, fF_23_24, fI_23_24, fF_23_25, fI_23_25, fF_23_26, fI_23_26, fF_23_27, fI_23_27, fF_23_28, fI_23_28, fF_23_29, fF_23_30, fF_23_31, fR_23, fL_24, fW_24, fL_25, fW_25, fL_26, fW_26, fL_27, fW_27, fL_28, fW_28, fL_29, fW_29, fL_30, fW_30, fL_31, fW_31, fL_32, fW_32, fL_33, fW_33, fL_34, fW_34, fL_35, fW_35, fL_36, fW_36, fW_37, fL_38, fW_38, fL_39, fW_39, fL_40, fW_40, fL_41, fW_41, fL_42, fW_42, fL_43, fW_43, if_true, c_Mo_setThat h, e1, e2, e3, e4', e5, andn_mk, ep, hs, ec3]
  · refine ⟨fun f i hf hi => ?_, ?_, ?_⟩
    · rw [mx_up_nn (by omega)]; exact a5.1 f i hf hi
    · rw [ap_ne (by omega)]; exact a5.2.1
    · rw [ap_ne (by omega)]; exact a5.2.2
  · intro c h1 h2; rw [mx_up_nn h1]; exact bb.1 c h1 h2
  · intro k h1 h2 h3; rw [ap_ne (by omega)]; exact bb.2 k h1 h2
  · rw [ap_eq]
def pasA (σ A : mx_S) : Nat → mx_S
  | 0 => A
  | n + 1 => slotA σ (pasA σ A n)
def es (σ A : mx_S) : Nat → Int32
  | 0 => nI 0
  | n + 1 => es σ A n + ec (sZ σ (pasA σ A n)) (sA3 σ (pasA σ A n)) 6
theorem FS.en {σ0 σ : mx_S} {n : Nat} (h : FS σ0 σ n) (hW : WOK σ0) (hX : XW σ0) : EN σ0 σ := EN_of (by rw [h.1 1 (by omega) (by omega)]) (h.1 2 (by omega) (by omega)) (h.1 3 (by omega) (by omega)) (h.1 4 (by omega) (by omega)) (h.1 5 (by omega) (by omega)) (h.1 6 (by omega) (by omega)) (fun c hc => h.1 c (by omega) (by omega)) hW hX
theorem FS.cw {σ0 σ : mx_S} {n : Nat} (h : FS σ0 σ n) (hc : CW σ0) : CW σ := CW_of hc (by rw [h.1 1 (by omega) (by omega)]) (h.1 2 (by omega) (by omega)) (h.1 3 (by omega) (by omega)) (h.1 4 (by omega) (by omega)) (h.2.1 3 (by decide) (by decide) (by decide)) (h.1 24 (by omega) (by omega)) (h.1 25 (by omega) (by omega)) (h.1 26 (by omega) (by omega))
/-- a slot keeps the ranges -/
theorem slotA_AR {σ A : mx_S} (hW : WOK σ) (hX : XW σ) (hA : AR A) : AR (slotA σ A) := by
  have hRC : ∃ τ, RC τ A ∧ WOK τ ∧ XW τ ∧ EN σ τ := by
    refine ⟨fun c => if c = 11 then (fun k => if k = 2 then A 12 0 else if k = 5 then A 12 1 else if k = 4 then A 12 2 else A 12 3) else if 13 ≤ c ∧ c ≤ 18 then (fun f => A f (c - 13)) else σ c, ⟨fun f i hf hi => ?_, rfl, rfl, rfl, rfl⟩, ?_⟩
    · simp only [show ¬ 13 + i = 11 by omega, if_false]
      rw [if_pos (by omega), show 13 + i - 13 = i by omega]
    · have en : EN σ (fun c => if c = 11 then (fun k => if k = 2 then A 12 0 else if k = 5 then A 12 1 else if k = 4 then A 12 2 else A 12 3) else if 13 ≤ c ∧ c ≤ 18 then (fun f => A f (c - 13)) else σ c) := EN_of rfl rfl rfl rfl rfl rfl (fun c hc => by
        rw [if_neg (by omega), if_neg (by omega)]) hW hX
      exact ⟨en.2.2.2.1, en.2.2.2.2, en⟩
  obtain ⟨τ, h1, h2, h3, h4⟩ := hRC
  obtain ⟨σ', -, -, -, h5⟩ := c_Co_passSlot h2 h3 h1 hA
  rw [(slotA_en h4).1] at h5
  exact h5
theorem pasA_AR {σ A : mx_S} (hW : WOK σ) (hX : XW σ) (hA : AR A) : ∀ n, AR (pasA σ A n) := by
  intro n
  induction n with
  | zero => exact hA
  | succ n ih => exact slotA_AR hW hX ih
theorem c_Mo_pass {σ A : mx_S} (hW : WOK σ) (hc : CW σ) (hX : XW σ) (h : RM σ A) (hA : AR A) {N : Nat} (h1 : 1 ≤ N) (h2 : N ≤ 1000) : ∃ σ', vv 8 157 0 [.ref 23, .int (nI N), .null, .null] [] (shF, σ) = some (some (.int (es σ A N)), (shF, σ')) ∧ RM σ' (pasA σ A N) ∧ FS σ σ' N := by
  have hw : wi (nI N) (nI 1) (nI 1000) = true := by
    have a1 : ¬ nI N < nI 1 := fun z => by rw [nI_ltI (by omega) (by decide)] at z; omega
    have a2 : ¬ nI 1000 < nI N := fun z => by rw [nI_ltI (by decide) (by omega)] at z; omega
    simp [wi, a1, a2]
  obtain ⟨σ', e, i1, i2⟩ := its (F := fun k τ => vv 8 157 18 [.ref 23, .int (nI N), .int (es σ A k), .int (nI k)] [] (shF, τ)) (I := fun k τ => RM τ (pasA σ A k) ∧ FS σ τ k) N (fun k τ hk hI => by
    obtain ⟨j1, j2⟩ := hI
    have en := j2.en hW hX
    obtain ⟨τ', e', a', b'⟩ := c_Mo_slot en.2.2.2.1 (j2.cw hc) en.2.2.2.2 j1 (pasA_AR hW hX hA k)
    obtain ⟨s1, s2, s3⟩ := slotA_en (A := pasA σ A k) en
    rw [s1] at a'
    rw [s2, s3] at e'
    refine ⟨τ', ?_, a', fun c z1 z2 => (b'.1 c z1 z2).trans (j2.1 c z1 z2), fun l z1 z2 z3 => (b'.2.1 l z1 z2 z3).trans (j2.2.1 l z1 z2 z3), by rw [b'.2.2, j2.2.2, Int32.add_assoc, nI_add]⟩
    have ee : es σ A (k + 1) = es σ A k + ec (sZ σ (pasA σ A k)) (sA3 σ (pasA σ A k)) 6 := rfl
    rw [e_Mo_pass_18, ee]
    simp (disch := first | exact fR_0 | exact fR_1 | exact fR_7 | exact fR_11 | exact fR_19 | exact fR_20 | exact fR_23 | omega) only [e_Mo_pass_0, e_Mo_pass_1, e_Mo_pass_2, e_Mo_pass_5, e_Mo_pass_8, e_Mo_pass_11, e_Mo_pass_13, e_Mo_pass_14, e_Mo_pass_15, e_Mo_pass_16, e_Mo_pass_17, e_Mo_pass_19, e_Mo_pass_20, e_Mo_pass_23, e_Mo_pass_24, e_Mo_pass_25, e_Mo_pass_28, e_Mo_pass_29, e_Mo_pass_30, e_Mo_pass_33, e_Mo_pass_36, e_Mo_pass_37, vr_v, vr_n, vr_vh, vr_nh, vg_some, fF_23_0, fF_23_1, fF_23_2, fF_23_3, fI_23_3, fF_23_4, fF_23_5, fF_23_6, fI_23_6, fF_23_7, fF_23_8, fF_23_9, fF_23_10, fF_23_11, fF_23_12, fF_23_13, fF_23_14, fF_23_15, fF_23_16, fF_23_17, fF_23_18, fF_23_19, fI_23_19, fF_23_20, fI_23_20, fF_23_21, fI_23_21, fF_23_22, fI_23_22, fF_23_23, fI_23_23, fF_23_24, fI_23_24, fF_23_25, fI_23_25, fF_23_26, fI_23_26, fF_23_27, fI_23_27, fF_23_28, fI_23_28, fF_23_29, fF_23_30, fF_23_31, fR_23, fL_24, fW_24, fL_25, fW_25, fL_26, fW_26, fL_27, fW_27, fL_28, fW_28, fL_29, fW_29, fL_30, fW_30, fL_31, fW_31, fL_32, fW_32, fL_33, fW_33, fL_34, fW_34, fL_35, fW_35, fL_36, fW_36, fW_37, fL_38, fW_38, fL_39, fW_39, fL_40, fW_40, fL_41, fW_41, fL_42, fW_42, fL_43, fW_43, nI_ltI, nI_add, nI_mul, nI_clamp, mx_in_nI, hk, if_true, e']) σ ⟨h, fun _ _ _ => rfl, fun _ _ _ _ => rfl, by rw [nI_0]; simp [pasA]⟩
  refine ⟨σ', ?_, i1, i2⟩
  have e0 : vv 8 157 18 [.ref 23, .int (nI N), .int (nI 0), .int (nI 0)] [] (shF, σ) = vv 8 157 18 [.ref 23, .int (nI N), .int (es σ A N), .int (nI N)] [] (shF, σ') := e
  simp (disch := first | exact fR_0 | exact fR_1 | exact fR_7 | exact fR_11 | exact fR_19 | exact fR_20 | exact fR_23 | omega) only [e_Mo_pass_0, e_Mo_pass_1, e_Mo_pass_2, e_Mo_pass_5, e_Mo_pass_8, e_Mo_pass_11, e_Mo_pass_13, e_Mo_pass_14, e_Mo_pass_15, e_Mo_pass_16, e_Mo_pass_17, e_Mo_pass_19, e_Mo_pass_20, e_Mo_pass_23, e_Mo_pass_24, e_Mo_pass_25, e_Mo_pass_28, e_Mo_pass_29, e_Mo_pass_30, e_Mo_pass_33, e_Mo_pass_36, e_Mo_pass_37, vr_v, vr_n, vr_vh, vr_nh, vg_some, c_Ml_isWithin, c_Ml_isStation, c_Ml_areTwo, c_Ml_isTone, c_Ml_isHalf, c_Ml_isKey, c_Mo_within, c_Mo_isStation, c_Mo_areTwo, c_Mo_isTone, c_Mo_isHalf, bI_0, if_true, if_false, Bool.false_eq_true, eq_self, tf, hw]
  rw [e0]
  simp (disch := first | exact fR_0 | exact fR_1 | exact fR_7 | exact fR_11 | exact fR_19 | exact fR_20 | exact fR_23 | omega) only [e_Mo_pass_18, e_Mo_pass_19, e_Mo_pass_20, e_Mo_pass_36, e_Mo_pass_37, nI_ltI, nI_add, nI_mul, nI_clamp, mx_in_nI, Nat.lt_irrefl, if_false]
