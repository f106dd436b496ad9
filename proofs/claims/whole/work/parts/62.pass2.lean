/-! slots of the class; totals; the invariant in and out -/
theorem anyb_f {p : Nat → Bool} (n : Nat) (h : ∀ i, i < n → p i = false) : anyb p n = false := by
  induction n with
  | zero => rfl
  | succ n ih =>
    show (anyb p n || p n) = false
    rw [ih (fun i hi => h i (by omega)), h n (by omega)]
    rfl
theorem anyb_t {p : Nat → Bool} : ∀ n, anyb p n = false → ∀ i, i < n → p i = false := by
  intro n
  induction n with
  | zero => intro _ i hi; omega
  | succ n ih =>
    intro h i hi
    have h' : (anyb p n || p n) = false := h
    rw [Bool.or_eq_false_iff] at h'
    by_cases e : i = n
    · rw [e]; exact h'.2
    · exact ih h'.1 i (by omega)
theorem itr_id {f : mx_S → Nat → mx_S} {A : mx_S} (n : Nat) (h : ∀ k, k < n → f A k = A) : itr f A n = A := by
  induction n with
  | zero => rfl
  | succ n ih =>
    show f (itr f A n) n = A
    rw [ih (fun k hk => h k (by omega))]
    exact h n (by omega)
/-- without letters a slot changes nothing -/
theorem slotA_id {σ A : mx_S} (h1 : ∀ i, i < 6 → php A 1 i = false) (h2 : ∀ i, i < 6 → php A 2 i = false) : slotA σ A = A := by
  have a1 : sA1 σ A = A := itr_id 6 (fun k hk => by simp [f1, h1 k hk])
  have r : ∀ k, k < 6 → sR σ A k = false := fun k hk => by simp [sR, r1, h1 k hk]
  have a2 : sA2 σ A = A := by
    unfold sA2
    rw [a1]
    exact itr_id 6 (fun k hk => by simp [f2, r k hk])
  have t : ∀ k, k < 6 → sT σ A k = false := fun k hk => by simp [sT, t2, r k hk]
  have z : ∀ k, k < 6 → sZ σ A k = false := fun k hk => by simp [sZ, h2 k hk, t k hk]
  have a3 : sA3 σ A = A := by
    unfold sA3
    rw [a2]
    exact itr_id 6 (fun k hk => by simp [f3, z k hk])
  have a4 : sA4 σ A = A := by
    unfold sA4
    rw [a3]
    exact itr_id 6 (fun k hk => by simp [f4, z k hk])
  unfold slotA
  rw [a4]
  exact itr_id 6 (fun k hk => by simp [f5, sP, h1 k hk])
theorem pasA_id {σ A : mx_S} {k : Nat} (h : slotA σ (pasA σ A k) = pasA σ A k) : ∀ n, pasA σ A (k + n) = pasA σ A k := by
  intro n
  induction n with
  | zero => rfl
  | succ n ih =>
    show slotA σ (pasA σ A (k + n)) = _
    rw [ih, h]
theorem c_Co_passSlots {σ A : mx_S} (hW : WOK σ) (hX : XW σ) (h : RC σ A) (hA : AR A) {N : Nat} (hN : N ≤ 1000) : ∃ σ', vv 5 6 0 [.ref 11, .int (nI N), .null, .null] [] (shF, σ) = some (some (.int (pasA σ A N 12 2 - A 12 2)), (shF, σ')) ∧ RC σ' (pasA σ A N) ∧ (∀ c, ¬ c = 11 → ¬ (13 ≤ c ∧ c ≤ 18) → σ' c = σ c) ∧ σ' 11 3 = σ 11 3 + nI N := by
  let σ0 := mx_up σ 11 3 (σ 11 3 + nI N)
  have h0 : RC σ0 A := ⟨fun f i hf hi => by show mx_up σ 11 3 _ (13 + i) f = _; rw [mx_up_nn (by omega)]; exact h.1 f i hf hi, by show mx_up σ 11 3 _ 11 2 = _; rw [ap_ne (by omega)]; exact h.2.1, by show mx_up σ 11 3 _ 11 5 = _; rw [ap_ne (by omega)]; exact h.2.2.1, by show mx_up σ 11 3 _ 11 4 = _; rw [ap_ne (by omega)]; exact h.2.2.2.1, by show mx_up σ 11 3 _ 11 6 = _; rw [ap_ne (by omega)]; exact h.2.2.2.2⟩
  have en0 : EN σ σ0 := EN_of (by show mx_up σ 11 3 _ 1 5 = _; rw [mx_up_nn (by decide)]) (mx_up_nn (by decide)) (mx_up_nn (by decide)) (mx_up_nn (by decide)) (mx_up_nn (by decide)) (mx_up_nn (by decide)) (fun c hc => mx_up_nn (by omega)) hW hX
  have key : ∀ m k τ, k + m = N → RC τ (pasA σ A k) → FC σ0 τ → ∃ σ', vv 5 6 17 [.ref 11, .int (nI N), .int (A 12 2), .int (nI k)] [] (shF, τ) = some (some (.int (pasA σ A N 12 2 - A 12 2)), (shF, σ')) ∧ RC σ' (pasA σ A N) ∧ FC σ0 σ' := by
    intro m
    induction m with
    | zero =>
      intro k τ hk hR hF
      have hk : k = N := by omega
      subst hk
      refine ⟨τ, ?_, hR, hF⟩
      have h4 := hR.2.2.2.1
      simp (disch := first | exact fR_0 | exact fR_1 | exact fR_7 | exact fR_11 | exact fR_19 | exact fR_20 | exact fR_23 | omega) only [e_Co_passSlots_17, e_Co_passSlots_18, e_Co_passSlots_19, e_Co_passSlots_39, e_Co_passSlots_40, e_Co_passSlots_43, e_Co_passSlots_44, e_Co_passSlots_45, vr_v, vr_n, vr_vh, vr_nh, vg_some, nI_ltI, nI_add, nI_mul, nI_clamp, mx_in_nI, Nat.lt_irrefl, if_false, fF_11_4, h4]
    | succ m ih =>
      intro k τ hk hR hF
      have hlt : k < N := by omega
      have en1 := hF.en en0.2.2.2.1 en0.2.2.2.2
      have en : EN σ τ := ⟨en1.1.trans en0.1, en1.2.1.trans en0.2.1, fun a b c => (en1.2.2.1 a b c).trans (en0.2.2.1 a b c), en1.2.2.2.1, en1.2.2.2.2⟩
      cases c1 : anyb (fun i => php (pasA σ A k) 1 i || php (pasA σ A k) 2 i) 6 with
      | false =>
        have hz := anyb_t 6 c1
        have hid : slotA σ (pasA σ A k) = pasA σ A k := slotA_id (fun i hi => (Bool.or_eq_false_iff.mp (hz i hi)).1) (fun i hi => (Bool.or_eq_false_iff.mp (hz i hi)).2)
        have hN : pasA σ A N = pasA σ A k := by rw [← hk]; exact pasA_id hid (m + 1)
        refine ⟨τ, ?_, by rw [hN]; exact hR, hF⟩
        have h4 := hR.2.2.2.1
        rw [hN]
        simp (disch := first | exact fR_0 | exact fR_1 | exact fR_7 | exact fR_11 | exact fR_19 | exact fR_20 | exact fR_23 | omega) only [e_Co_passSlots_17, e_Co_passSlots_18, e_Co_passSlots_19, e_Co_passSlots_22, e_Co_passSlots_23, e_Co_passSlots_26, e_Co_passSlots_39, e_Co_passSlots_40, e_Co_passSlots_43, e_Co_passSlots_44, e_Co_passSlots_45, vr_v, vr_n, vr_vh, vr_nh, vg_some, nI_ltI, nI_add, nI_mul, nI_clamp, mx_in_nI, hlt, if_true, c_Co_withLetters hR, mk_z, c1, fF_11_4, h4]
      | true =>
        obtain ⟨τ', e', a', b', -⟩ := c_Co_passSlot en.2.2.2.1 en.2.2.2.2 hR (pasA_AR hW hX hA k)
        rw [(slotA_en en).1] at a'
        obtain ⟨σ', e2, q1, q2⟩ := ih (k + 1) τ' (by omega) a' (hF.tr b')
        refine ⟨σ', ?_, q1, q2⟩
        rw [e_Co_passSlots_17]
        simp (disch := first | exact fR_0 | exact fR_1 | exact fR_7 | exact fR_11 | exact fR_19 | exact fR_20 | exact fR_23 | omega) only [e_Co_passSlots_0, e_Co_passSlots_1, e_Co_passSlots_4, e_Co_passSlots_5, e_Co_passSlots_6, e_Co_passSlots_7, e_Co_passSlots_10, e_Co_passSlots_11, e_Co_passSlots_12, e_Co_passSlots_15, e_Co_passSlots_16, e_Co_passSlots_18, e_Co_passSlots_19, e_Co_passSlots_22, e_Co_passSlots_23, e_Co_passSlots_26, e_Co_passSlots_29, e_Co_passSlots_30, e_Co_passSlots_33, e_Co_passSlots_36, e_Co_passSlots_39, e_Co_passSlots_40, e_Co_passSlots_43, e_Co_passSlots_44, e_Co_passSlots_45, vr_v, vr_n, vr_vh, vr_nh, vg_some, nI_ltI, nI_add, nI_mul, nI_clamp, mx_in_nI, hlt, if_true, if_false, c_Co_withLetters hR, mk_z, c1, tf, e', e2]
  obtain ⟨σ', e, q1, q2⟩ := key N 0 σ0 (by omega) h0 FC.rf
  refine ⟨σ', ?_, q1, fun c z1 z2 => by rw [q2.1 c z1 z2]; exact mx_up_nn z1, by rw [q2.2]; exact ap_eq⟩
  have h4 := h.2.2.2.1
  simp (disch := first | exact fR_0 | exact fR_1 | exact fR_7 | exact fR_11 | exact fR_19 | exact fR_20 | exact fR_23 | omega) only [e_Co_passSlots_0, e_Co_passSlots_1, e_Co_passSlots_4, e_Co_passSlots_5, e_Co_passSlots_6, e_Co_passSlots_7, e_Co_passSlots_10, e_Co_passSlots_11, e_Co_passSlots_12, e_Co_passSlots_15, e_Co_passSlots_16, e_Co_passSlots_18, e_Co_passSlots_19, e_Co_passSlots_22, e_Co_passSlots_23, e_Co_passSlots_26, e_Co_passSlots_29, e_Co_passSlots_30, e_Co_passSlots_33, e_Co_passSlots_36, e_Co_passSlots_39, e_Co_passSlots_40, e_Co_passSlots_43, e_Co_passSlots_44, e_Co_passSlots_45, vr_v, vr_n, vr_vh, vr_nh, vg_some, fF_11_4, fF_11_3, fI_11_3, if_true, h4]
  exact e
/-- totals -/
def TOT (A : mx_S) : Prop := A 12 2 = sm (A 9) 6 ∧ A 12 3 = sm (A 10) 6
theorem sm_inc {f : Nat → Int32} {k : Nat} : ∀ n, sm (fun i => if i = k then f k + nI 1 else f i) n = sm f n + (if k < n then nI 1 else nI 0) := by
  intro n
  induction n with
  | zero =>
    rw [if_neg (by omega)]
    show nI 0 = nI 0 + nI 0
    decide
  | succ n ih =>
    show sm (fun i => if i = k then f k + nI 1 else f i) n + (if n = k then f k + nI 1 else f n) = (sm f n + f n) + _
    rw [ih]
    by_cases e : n = k
    · subst e
      rw [if_neg (by omega), if_pos rfl, if_pos (by omega)]
      rw [show sm f n + nI 0 = sm f n by rw [nI_0]; simp, Int32.add_assoc]
    · rw [if_neg e]
      by_cases e2 : k < n
      · rw [if_pos e2, if_pos (by omega), Int32.add_assoc, Int32.add_comm (nI 1) (f n), ← Int32.add_assoc]
      · rw [if_neg e2, if_neg (by omega), nI_0]
        simp
theorem up_row {A : mx_S} {f k : Nat} {x : Int32} : mx_up A f k x f = fun i => if i = k then x else A f i := by funext i; rw [mx_up_ap, if_pos rfl]
theorem TOT.free {A : mx_S} (h : TOT A) {f i : Nat} {x : Int32} (hf : ¬ f = 9 ∧ ¬ f = 10 ∧ (¬ f = 12 ∨ i < 2)) : TOT (mx_up A f i x) := by
  unfold TOT
  rw [ap_ne (by omega), ap_ne (by omega), mx_up_nn (Ne.symm hf.1), mx_up_nn (Ne.symm hf.2.1)]
  exact h
theorem TOT_wt {A : mx_S} (h : TOT A) {i r g : Nat} : TOT (wt A i r g) := by
  unfold wt
  exact ((((h.free (by omega)).free (by omega)).free (by omega)).free (by omega)).free (by omega)
theorem TOT.itr {f : mx_S → Nat → mx_S} {A : mx_S} (h : TOT A) (n : Nat) (hn : n ≤ 6) (hf : ∀ B k, k < 6 → TOT B → TOT (f B k)) : TOT (itr f A n) := by
  induction n with
  | zero => exact h
  | succ n ih => exact hf _ n (by omega) (ih (by omega))
theorem TOT_f4 {A : mx_S} {Z : Nat → Bool} {k : Nat} (hk : k < 6) (h : TOT A) : TOT (f4 Z A k) := by
  unfold f4
  split
  · have h7 : TOT (mx_up A 7 k (A 7 k - nI 1)) := h.free (by omega)
    split
    · split
      · generalize mx_up A 7 k (A 7 k - nI 1) = B at h7
        unfold ar4 TOT
        rw [ap_eq, mx_up_nn (show ¬ 9 = 12 by decide), mx_up_nn (show ¬ 9 = 11 by decide), up_row, mx_up_nn (show ¬ 9 = 0 by decide), sm_inc, if_pos hk, h7.1]
        refine ⟨rfl, ?_⟩
        rw [ap_ne (by omega), ap_ne (by omega), ap_ne (by omega), ap_ne (by omega), mx_up_nn (show ¬ 10 = 12 by decide), mx_up_nn (show ¬ 10 = 11 by decide), mx_up_nn (show ¬ 10 = 9 by decide), mx_up_nn (show ¬ 10 = 0 by decide)]
        exact h7.2
      · generalize mx_up A 7 k (A 7 k - nI 1) = B at h7
        unfold co4
        refine TOT_wt ?_
        refine ⟨?_, ?_⟩
        · rw [ap_ne (by omega), ap_ne (by omega), mx_up_nn (show ¬ 9 = 12 by decide), mx_up_nn (show ¬ 9 = 10 by decide)]
          exact h7.1
        · rw [ap_eq, mx_up_nn (show ¬ 10 = 12 by decide), up_row, sm_inc, if_pos hk, h7.2]
    · exact h7
  · exact h
theorem TOT_slot {σ A : mx_S} (h : TOT A) : TOT (slotA σ A) := by
  refine TOT.itr (TOT.itr (TOT.itr (TOT.itr (TOT.itr h 6 (Nat.le_refl 6) (fun B k hk hB => ?_)) 6 (Nat.le_refl 6) (fun B k hk hB => ?_)) 6 (Nat.le_refl 6) (fun B k hk hB => ?_)) 6 (Nat.le_refl 6) (fun B k hk hB => ?_)) 6 (Nat.le_refl 6) (fun B k hk hB => ?_)
  · unfold f1
    split
    · split
      · exact hB
      · exact hB.free (by omega)
    · exact hB
  · unfold f2
    split
    · split
      · exact ((hB.free (by omega)).free (by omega)).free (by omega)
      · exact (hB.free (by omega)).free (by omega)
    · exact hB
  · unfold f3
    split
    · exact hB.free (by omega)
    · exact hB
  · exact TOT_f4 hk hB
  · unfold f5
    split
    · unfold df5
      split
      · exact TOT_wt hB
      · split
        · exact (hB.free (by omega)).free (by omega)
        · exact hB.free (by omega)
    · exact hB
theorem TOT_pas {σ A : mx_S} (h : TOT A) : ∀ n, TOT (pasA σ A n) := by
  intro n
  induction n with
  | zero => exact h
  | succ n ih => exact TOT_slot ih
