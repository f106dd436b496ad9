/-! a slot, and many -/
theorem m6_andn : ∀ b0 b1 b2 b3 b4 b5 c0 c1 c2 c3 c4 c5 : Bool, m6 b0 b1 b2 b3 b4 b5 &&& (m6 c0 c1 c2 c3 c4 c5 ^^^ (-1)) = m6 (b0 && !c0) (b1 && !c1) (b2 && !c2) (b3 && !c3) (b4 && !c4) (b5 && !c5) := by decide +kernel
theorem andn_mk {p q : Nat → Bool} : mk p 6 &&& (mk q 6 ^^^ (-1)) = mk (fun i => p i && !(q i)) 6 := m6_andn (p 0) (p 1) (p 2) (p 3) (p 4) (p 5) (q 0) (q 1) (q 2) (q 3) (q 4) (q 5)
theorem f1_en {σ0 σ : mx_S} (h : EN σ0 σ) {W S : Nat → Bool} : f1 σ W S = f1 σ0 W S := by funext A k; simp only [f1, held_en h]
theorem f2_en {σ0 σ : mx_S} (h : EN σ0 σ) {R : Nat → Bool} : f2 σ R = f2 σ0 R := by funext A k; simp only [f2, gov, h.2.1, h.2.2.1]
theorem t2_en {σ0 σ : mx_S} (h : EN σ0 σ) {R : Nat → Bool} : t2 σ R = t2 σ0 R := by funext A k; simp only [t2, h.2.1]
theorem f3_en {σ0 σ : mx_S} (h : EN σ0 σ) {Z : Nat → Bool} : f3 σ Z = f3 σ0 Z := by funext A k; unfold f3 sp3; rw [h.1]
theorem f5_en {σ0 σ : mx_S} (h : EN σ0 σ) {P T : Nat → Bool} : f5 σ P T = f5 σ0 P T := by funext A k; simp only [f5, h.1]
def sR (σ A : mx_S) (k : Nat) : Bool := r1 σ (php A 1) (php A 2) (itr (f1 σ (php A 1) (php A 2)) A k) k
def sA1 (σ A : mx_S) : mx_S := itr (f1 σ (php A 1) (php A 2)) A 6
def sT (σ A : mx_S) (k : Nat) : Bool := t2 σ (sR σ A) (itr (f2 σ (sR σ A)) (sA1 σ A) k) k
def sA2 (σ A : mx_S) : mx_S := itr (f2 σ (sR σ A)) (sA1 σ A) 6
def sZ (σ A : mx_S) (k : Nat) : Bool := php A 2 k || sT σ A k
def sA3 (σ A : mx_S) : mx_S := itr (f3 σ (sZ σ A)) (sA2 σ A) 6
def sA4 (σ A : mx_S) : mx_S := itr (f4 (sZ σ A)) (sA3 σ A) 6
def sP (σ A : mx_S) (k : Nat) : Bool := php A 1 k && !(sR σ A k)
def slotA (σ A : mx_S) : mx_S := itr (f5 σ (sP σ A) (sT σ A)) (sA4 σ A) 6
theorem ph1 {σ A : mx_S} {W S : Nat → Bool} (n j : Nat) : itr (f1 σ W S) A n 0 j = A 0 j := by
  induction n with
  | zero => rfl
  | succ n ih =>
    show f1 σ W S (itr (f1 σ W S) A n) n 0 j = _
    unfold f1
    split
    · split
      · exact ih
      · rw [ap_ne (by omega)]; exact ih
    · exact ih
theorem ph2a {σ A : mx_S} {R : Nat → Bool} {j : Nat} : f2 σ R A j 0 j = if R j = true then (if t2 σ R A j = true then nI 2 else nI 0) else A 0 j := by
  unfold f2 t2
  cases hr : R j with
  | false => simp
  | true =>
    cases hc : rch σ j (toN A j) with
    | true =>
      simp only [if_true, Bool.and_self]
      rw [ap_ne (by omega), ap_ne (by omega), ap_eq]
    | false =>
      simp only [if_true, Bool.and_false, Bool.false_eq_true, if_false]
      rw [ap_ne (by omega), ap_eq]
theorem ph2b {σ A : mx_S} {R : Nat → Bool} {j n : Nat} (e : ¬ j = n) : f2 σ R A n 0 j = A 0 j := by
  unfold f2
  split
  · split
    · rw [ap_ne (by omega), ap_ne (by omega), ap_ne (by omega)]
    · rw [ap_ne (by omega), ap_ne (by omega)]
  · rfl
theorem ph2 {σ A : mx_S} {R : Nat → Bool} (n j : Nat) : itr (f2 σ R) A n 0 j = if j < n ∧ R j = true then (if t2 σ R (itr (f2 σ R) A j) j = true then nI 2 else nI 0) else A 0 j := by
  induction n with
  | zero => rw [if_neg (by omega)]; rfl
  | succ n ih =>
    show f2 σ R (itr (f2 σ R) A n) n 0 j = _
    by_cases e : j = n
    · subst e
      rw [if_neg (by omega)] at ih
      rw [ph2a, ih]
      by_cases hr : R j = true
      · rw [if_pos hr, if_pos (show j < j + 1 ∧ R j = true from ⟨by omega, hr⟩)]
      · rw [if_neg hr, if_neg (fun z => hr z.2)]
    · rw [ph2b e, ih]
      by_cases h1 : j < n ∧ R j = true
      · rw [if_pos h1, if_pos (show j < n + 1 ∧ R j = true from ⟨by omega, h1.2⟩)]
      · rw [if_neg h1, if_neg (show ¬ (j < n + 1 ∧ R j = true) from fun z => h1 ⟨by omega, z.2⟩)]
theorem ph3 {σ A : mx_S} {Z : Nat → Bool} (n j : Nat) : itr (f3 σ Z) A n 0 j = A 0 j := by
  induction n with
  | zero => rfl
  | succ n ih =>
    show f3 σ Z (itr (f3 σ Z) A n) n 0 j = _
    unfold f3
    split
    · rw [ap_ne (by omega)]; exact ih
    · exact ih
theorem sR_ph {σ A : mx_S} {k : Nat} (h : sR σ A k = true) : A 0 k = nI 1 := by
  simp only [sR, r1, Bool.and_eq_true, php, decide_eq_true_eq] at h
  exact h.1.1
theorem sR_nz {σ A : mx_S} {k : Nat} (h : sR σ A k = true) : ¬ sA1 σ A 0 k = nI 0 := by
  unfold sA1
  rw [ph1, sR_ph h]
  decide
theorem sT_R {σ A : mx_S} {k : Nat} (h : sT σ A k = true) : sR σ A k = true := by
  simp only [sT, t2, Bool.and_eq_true] at h
  exact h.1
theorem n12 : ¬ nI 1 = nI 2 := by decide
theorem n21 : ¬ nI 2 = nI 1 := by decide
theorem sZ_ph {σ A : mx_S} {k : Nat} (hk : k < 6) : (sA3 σ A 0 k = nI 2) ↔ (sZ σ A k = true ∨ (sR σ A k = false ∧ A 0 k = nI 2)) := by
  unfold sA3
  rw [ph3]
  unfold sA2
  rw [ph2]
  unfold sA1
  rw [ph1]
  by_cases h : sR σ A k = true
  · rw [if_pos ⟨hk, h⟩]
    have hs : php A 2 k = false := by simp [php, sR_ph h, n12]
    have e : t2 σ (sR σ A) (itr (f2 σ (sR σ A)) (itr (f1 σ (php A 1) (php A 2)) A 6) k) k = sT σ A k := rfl
    rw [e]
    simp only [sZ, hs, Bool.false_or, h, Bool.true_eq_false, false_and, or_false]
    cases sT σ A k
    · simp; decide
    · simp
  · have h' : sR σ A k = false := by simpa using h
    rw [if_neg (fun z => h z.2)]
    have ht : sT σ A k = false := by
      cases ht : sT σ A k with
      | false => rfl
      | true => exact absurd (sT_R ht) h
    simp [sZ, ht, h', php]
theorem sZ_2 {σ A : mx_S} {k : Nat} (hk : k < 6) : decide (sA3 σ A 0 k = nI 2) = sZ σ A k := by
  have h := sZ_ph (σ := σ) (A := A) hk
  cases hz : sZ σ A k with
  | true => simp [h, hz]
  | false =>
    have : ¬ sA3 σ A 0 k = nI 2 := by
      rw [h, hz]
      rintro (z | ⟨-, z⟩)
      · cases z
      · simp [sZ, php, z] at hz
    simp [this]
theorem sP_ph {σ A : mx_S} {k : Nat} (h : sP σ A k = true) : sA4 σ A 0 k = nI 1 := by
  simp only [sP, Bool.and_eq_true, php, decide_eq_true_eq, Bool.not_eq_true'] at h
  obtain ⟨h1, h2⟩ := h
  have ht : sT σ A k = false := by
    cases ht : sT σ A k with
    | false => rfl
    | true => rw [sT_R ht] at h2; cases h2
  have hz : sZ σ A k = false := by simp [sZ, php, h1, n12, ht]
  unfold sA4
  rw [f4_ph' 6 k (Or.inr hz)]
  unfold sA3
  rw [ph3]
  unfold sA2
  rw [ph2, if_neg (fun z => by rw [z.2] at h2; cases h2)]
  unfold sA1
  rw [ph1, h1]
theorem c_Co_passSlot {σ A : mx_S} (hW : WOK σ) (hX : XW σ) (h : RC σ A) (hA : AR A) : ∃ σ', vv 4 8 0 [.ref 11, .null, .null, .null, .null] [] (shF, σ) = some (none, (shF, σ')) ∧ RC σ' (slotA σ A) ∧ FC σ σ' ∧ AR (slotA σ A) := by
  obtain ⟨σ1, e1, a1, b1⟩ := c_Co_countDown hW hX h (W := php A 1) (S := php A 2) (R := sR σ A) (fun _ => rfl)
  have en1 := b1.en hW hX
  have q1 : AR (sA1 σ A) := hA.itr 6 (Nat.le_refl 6) (fun B k hk hB => AR_f1 hk hB)
  obtain ⟨σ2, e2, a2, b2, q2⟩ := c_Co_start en1.2.2.2.1 en1.2.2.2.2 a1 q1 (R := sR σ A) (T := sT σ A) (fun k => by rw [f2_en en1, t2_en en1]; rfl) (fun k hk hr => sR_nz hr)
  rw [f2_en en1] at a2 q2
  have en2 := (b1.tr b2).en hW hX
  obtain ⟨σ3, e3, a3, b3, q3⟩ := c_Co_spoil en2.2.2.2.1 en2.2.2.2.2 a2 q2 (Z := sZ σ A)
  rw [f3_en en2] at a3 q3
  have en3 := ((b1.tr b2).tr b3).en hW hX
  have q3' : AR (sA3 σ A) := q3
  obtain ⟨σ4, e4', a4, b4, q4⟩ := c_Co_goOn en3.2.2.2.1 en3.2.2.2.2 a3 q3 (Z := sZ σ A) (fun k hk hz => by
    have : sA3 σ A 0 k = nI 2 := (sZ_ph hk).mpr (Or.inl hz)
    show ¬ sA3 σ A 0 k = nI 0
    rw [this]
    decide)
  have en4 := (((b1.tr b2).tr b3).tr b4).en hW hX
  obtain ⟨σ5, e5, a5, b5, q5⟩ := c_Co_giveWay en4.2.2.2.1 en4.2.2.2.2 a4 q4 (P := sP σ A) (T := sT σ A) (fun k hk hp => sP_ph hp)
  rw [f5_en en4] at a5 q5
  refine ⟨σ5, ?_, a5, (((b1.tr b2).tr b3).tr b4).tr b5, q5⟩
  have ez : (fun i => php A 2 i || sT σ A i) = sZ σ A := rfl
  have ep : (fun i => php A 1 i && !(sR σ A i)) = sP σ A := rfl
  simp (disch := first | exact fR_0 | exact fR_1 | exact fR_7 | exact fR_11 | exact fR_19 | exact fR_20 | exact fR_23 | omega) only [e_Co_passSlot_0, e_Co_passSlot_1, e_Co_passSlot_2, e_Co_passSlot_5, e_Co_passSlot_6, e_Co_passSlot_7, e_Co_passSlot_8, e_Co_passSlot_11, e_Co_passSlot_12, e_Co_passSlot_13, e_Co_passSlot_14, e_Co_passSlot_15, e_Co_passSlot_18, e_Co_passSlot_19, e_Co_passSlot_20, e_Co_passSlot_21, e_Co_passSlot_24, e_Co_passSlot_26, e_Co_passSlot_27, e_Co_passSlot_28, e_Co_passSlot_30, e_Co_passSlot_31, e_Co_passSlot_34, e_Co_passSlot_35, e_Co_passSlot_36, e_Co_passSlot_38, e_Co_passSlot_39, e_Co_passSlot_42, e_Co_passSlot_43, e_Co_passSlot_44, e_Co_passSlot_45, e_Co_passSlot_46, e_Co_passSlot_47, e_Co_passSlot_48, e_Co_passSlot_50, e_Co_passSlot_53, vr_v, vr_n, vr_vh, vr_nh, vg_some, c_Co_inPhase h, e1, e2, e3, e4', e5, or_mk, andn_mk, ez, ep]
