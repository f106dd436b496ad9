/-! the law, whole -/
theorem and31 (x : Int32) : ∃ j, j < 32 ∧ x &&& nI 31 = nI j := by
  refine ⟨(x &&& nI 31).toBitVec.toNat, ?_, nI_self _⟩
  have : (x &&& nI 31).toBitVec.toNat = x.toBitVec.toNat &&& 31 := by
    rw [Int32.toBitVec_and, BitVec.toNat_and]
    rfl
  rw [this]
  exact Nat.lt_succ_of_le Nat.and_le_right
theorem law_case {σ : mx_S} {L k j : Nat} (hI : INV σ) (hL : σ 2000 3 = nI L) (hL2 : L ≤ 3584) (hk : 7 * k + 7 ≤ L) (hj : j < 32) : ∃ τ, vv 12 176 33 [.ref 1003, .ref 0, .ref 23, .int (nI (7 * k))] [.int (nI j)] (shF, σ) = vv 12 176 18 [.ref 1003, .ref 0, .ref 23, .int (nI (7 * (k + 1)))] [] (shF, τ) ∧ INV τ ∧ ∀ c, 1000 ≤ c → τ c = σ c := by
  by_cases h : j < 18
  · match j, h with
    | 0, _ =>
      obtain ⟨τ, e, r⟩ := q_loss hI hL hL2 hk
      exact ⟨τ, e_La_law_33_c0.trans e, r⟩
    | 1, _ =>
      obtain ⟨τ, e, r⟩ := q_noise hI hL hL2 hk
      exact ⟨τ, e_La_law_33_c1.trans e, r⟩
    | 2, _ =>
      obtain ⟨τ, e, r⟩ := q_margin hI hL hL2 hk
      exact ⟨τ, e_La_law_33_c2.trans e, r⟩
    | 3, _ =>
      obtain ⟨τ, e, r⟩ := q_key hI hL hL2 hk
      exact ⟨τ, e_La_law_33_c3.trans e, r⟩
    | 4, _ =>
      obtain ⟨τ, e, r⟩ := q_bits hI hL hL2 hk
      exact ⟨τ, e_La_law_33_c4.trans e, r⟩
    | 5, _ =>
      obtain ⟨τ, e, r⟩ := q_speed hI hL hL2 hk
      exact ⟨τ, e_La_law_33_c5.trans e, r⟩
    | 6, _ =>
      obtain ⟨τ, e, r⟩ := q_who hI hL hL2 hk
      exact ⟨τ, e_La_law_33_c6.trans e, r⟩
    | 7, _ =>
      obtain ⟨τ, e, r⟩ := q_lasts hI hL hL2 hk
      exact ⟨τ, e_La_law_33_c7.trans e, r⟩
    | 8, _ =>
      obtain ⟨τ, e, r⟩ := q_way hI hL hL2 hk
      exact ⟨τ, e_La_law_33_c8.trans e, r⟩
    | 9, _ =>
      obtain ⟨τ, e, r⟩ := q_seed hI hL hL2 hk
      exact ⟨τ, e_La_law_33_c9.trans e, r⟩
    | 10, _ =>
      obtain ⟨τ, e, r⟩ := q_write hI hL hL2 hk
      exact ⟨τ, e_La_law_33_c10.trans e, r⟩
    | 11, _ =>
      obtain ⟨τ, e, r⟩ := q_unwrite hI hL hL2 hk
      exact ⟨τ, e_La_law_33_c11.trans e, r⟩
    | 12, _ =>
      obtain ⟨τ, e, r⟩ := q_pass hI hL hL2 hk
      exact ⟨τ, e_La_law_33_c12.trans e, r⟩
    | 13, _ =>
      obtain ⟨τ, e, r⟩ := q_ofStation hI hL hL2 hk
      exact ⟨τ, e_La_law_33_c13.trans e, r⟩
    | 14, _ =>
      obtain ⟨τ, e, r⟩ := q_flow hI hL hL2 hk
      exact ⟨τ, e_La_law_33_c14.trans e, r⟩
    | 15, _ =>
      obtain ⟨τ, e, r⟩ := q_disturbs hI hL hL2 hk
      exact ⟨τ, e_La_law_33_c15.trans e, r⟩
    | 16, _ =>
      obtain ⟨τ, e, r⟩ := q_turn hI hL hL2 hk
      exact ⟨τ, e_La_law_33_c16.trans e, r⟩
    | 17, _ =>
      obtain ⟨τ, e, r⟩ := q_many hI hL hL2 hk
      exact ⟨τ, e_La_law_33_c17.trans e, r⟩
    | n + 18, h => exact absurd h (by omega)
  · refine ⟨σ, ?_, hI, fun _ _ => rfl⟩
    rw [e_La_law_33_d (Or.inr (by rw [nI_toInt (by omega)]; omega))]
    simp (disch := first | exact fR_0 | exact fR_1 | exact fR_7 | exact fR_11 | exact fR_19 | exact fR_20 | exact fR_23 | omega) only [e_La_law_806, e_La_law_809, nI_ltI, nI_add, nI_mul, nI_clamp, mx_in_nI, show 7 * (k + 1) = 7 * k + 7 by omega]
theorem law_run {σ : mx_S} {L : Nat} (hX : XW σ) (hL : σ 2000 3 = nI L) (hL2 : L ≤ 3584) : ∃ τ, vv 12 176 0 [.ref 1003, .null, .null, .null] [] ([], σ) = some (some (.int (nI 1)), (shF, τ)) := by
  obtain ⟨τ0, e0, i0, f0⟩ := law_new σ hX
  obtain ⟨τ, e, i, f⟩ := its (F := fun k τ => vv 12 176 18 [.ref 1003, .ref 0, .ref 23, .int (nI (7 * k))] [] (shF, τ)) (I := fun _ τ => INV τ ∧ ∀ c, 1000 ≤ c → τ c = σ c) (L / 7) (fun k τ hk hI => by
    obtain ⟨i1, i2⟩ := hI
    have hk7 : 7 * k + 7 ≤ L := by omega
    have l2 : τ 2000 3 = nI L := by rw [i2 2000 (by decide)]; exact hL
    obtain ⟨j, hj, ej⟩ := and31 (τ 1003 (7 * k))
    obtain ⟨τ', e1, e2, e3⟩ := law_case i1 l2 hL2 hk7 hj
    refine ⟨τ', ?_, e2, fun c hc => by rw [e3 c hc]; exact i2 c hc⟩
    show vv _ _ _ _ _ _ = vv _ _ _ _ _ _
    rw [← e1, e_La_law_18]
    have g0 := fLX l2 (by omega)
    have hn : ¬ L - 7 < 7 * k := by omega
    simp (disch := first | exact fR_0 | exact fR_1 | exact fR_7 | exact fR_11 | exact fR_19 | exact fR_20 | exact fR_23 | omega) only [e_La_law_19, e_La_law_20, e_La_law_21, e_La_law_23, e_La_law_24, e_La_law_27, e_La_law_28, e_La_law_29, e_La_law_30, e_La_law_32, vr_v, vr_n, vr_vh, vr_nh, vg_some, nI_ltI, nI_add, nI_mul, nI_clamp, mx_in_nI, l2, pk_sub, hn, g0, if_true, if_false, ej]) τ0 ⟨i0, f0⟩
  refine ⟨τ, ?_⟩
  obtain ⟨i1, i2⟩ := (⟨i, f⟩ : INV τ ∧ ∀ c, 1000 ≤ c → τ c = σ c)
  have l2 : τ 2000 3 = nI L := by rw [i2 2000 (by decide)]; exact hL
  have hlt : nI L - nI 7 < nI (7 * (L / 7)) := by
    rw [Int32.lt_iff_toInt_lt, pk_sub_toInt (by omega) (by omega), nI_toInt (by omega)]
    omega
  refine e0.trans (Eq.trans ?_ (e.trans ?_))
  · rfl
  · simp (disch := first | exact fR_0 | exact fR_1 | exact fR_7 | exact fR_11 | exact fR_19 | exact fR_20 | exact fR_23 | omega) only [e_La_law_18, e_La_law_19, e_La_law_20, e_La_law_21, e_La_law_23, e_La_law_24, e_La_law_812, e_La_law_813_1, vr_v, vr_n, vr_vh, vr_nh, vg_some, l2, hlt, if_true]
