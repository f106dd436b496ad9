/-! promise 18: turn -/
def FNM (D : Nat → Nat → Bool) (N : Nat → Nat) (m n : Nat) (A : Nat → Nat) : Prop := prN D N m n A ∧ ∀ B, prN D N m n B → val n A m ≤ val n B m
theorem pow_46 {n m : Nat} (hn : n ≤ 6) (hm : m ≤ 6) : n ^ m ≤ 46656 := by
  have h2 : n ^ m ≤ 6 ^ m := Nat.pow_le_pow_left hn m
  have h3 : (6 : Nat) ^ m ≤ 6 ^ 6 := Nat.pow_le_pow_right (by decide) hm
  have h4 : (6 : Nat) ^ 6 = 46656 := by decide
  omega
theorem l_rows {D : Nat → Nat → Bool} {N : Nat → Nat} {m n : Nat} (hm : m ≤ 6) (hn0 : 0 < n) (hn : n ≤ 6) (hN : ∀ j, j < m → N j < 6) : ∀ s r, r + s = n ^ m → ∀ τ, MB D N m τ → (∀ B, prN D N m n B → ¬ val n B m < r) → ∃ τ' f l4, vv 2 169 38 [.ref 23, .int (nI n), .int (nI 0), .int (nI (n ^ m)), .int (nI r)] [] (shF, τ) = vv 2 169 62 [.ref 23, .int (nI n), .int (bI f), .int (nI (n ^ m)), l4] [] (shF, τ') ∧ (∀ c, ¬ c = 43 → τ' c = τ c) ∧ ((f = true ∧ ∃ A, FNM D N m n A ∧ ∀ i, i < m → τ' 43 i = nI (A i)) ∨ (f = false ∧ ∀ B, prN D N m n B → False)) := by
  have hp := pow_46 hn hm
  intro s
  induction s with
  | zero =>
    intro r hr τ hM hno
    have : r = n ^ m := by omega
    subst this
    refine ⟨τ, false, .int (nI (n ^ m)), ?_, fun _ _ => rfl, Or.inr ⟨rfl, fun B hB => hno B hB (val_b m hB.1)⟩⟩
    simp (disch := first | exact fR_0 | exact fR_1 | exact fR_7 | exact fR_11 | exact fR_19 | exact fR_20 | exact fR_23 | omega) only [e_Mo_findTurns_38, e_Mo_findTurns_40, e_Mo_findTurns_41, nI_ltI, nI_add, nI_mul, nI_clamp, mx_in_nI, Nat.lt_irrefl, if_false, bI_f]
  | succ s ih =>
    intro r hr τ hM hno
    have hlt : r < n ^ m := by omega
    obtain ⟨A, a1, a2⟩ := val_ex hn0 m r hlt
    obtain ⟨τ1, e1, f1, f2⟩ := c_Mo_mayBe hm hn0 hn hN a1 hM
    rw [a2] at e1
    cases hb : anN (fun k => anN (fun x => bad D N A k x) k) m with
    | false =>
      rw [hb] at e1
      have hpA : prN D N m n A := ⟨a1, okN_bad.mp hb⟩
      refine ⟨τ1, true, .int (nI (r + 1)), ?_, f1, Or.inl ⟨rfl, A, ⟨hpA, fun B hB => ?_⟩, f2⟩⟩
      · have s1 : vv 2 169 38 [.ref 23, .int (nI n), .int (nI 0), .int (nI (n ^ m)), .int (nI r)] [] (shF, τ) = vv 2 169 38 [.ref 23, .int (nI n), .int (nI 1), .int (nI (n ^ m)), .int (nI (r + 1))] [] (shF, τ1) := by
          rw [e_Mo_findTurns_38]
          simp (disch := first | exact fR_0 | exact fR_1 | exact fR_7 | exact fR_11 | exact fR_19 | exact fR_20 | exact fR_23 | omega) only [e_Mo_findTurns_40, e_Mo_findTurns_41, e_Mo_findTurns_44, e_Mo_findTurns_45, e_Mo_findTurns_48, e_Mo_findTurns_49, e_Mo_findTurns_51, e_Mo_findTurns_52, e_Mo_findTurns_55, e_Mo_findTurns_56, e_Mo_findTurns_59, vr_v, vr_n, vr_vh, vr_nh, vg_some, fF_23_0, fF_23_1, fF_23_2, fF_23_3, fI_23_3, fF_23_4, fF_23_5, fF_23_6, fI_23_6, fF_23_7, fF_23_8, fF_23_9, fF_23_10, fF_23_11, fF_23_12, fF_23_13, fF_23_14, fF_23_15, fF_23_16, fF_23_17, fF_23_18, fF_23_19, fI_23_19, fF_23_20, fI_23_20, fF_23_21, fI_23_21, fF_23_22, fI_23_22, fF_23_23, fI_23_23, fF_23_24, fI_23_24, fF_23_25, fI_23_25, fF_23_26, fI_23_26, fF_23_27, fI_23_27, fF_23_28, fI_23_28, fF_23_29, fF_23_30, fF_23_31, fR_23, fL_24, fW_24, fL_25, fW_25, fL_26, fW_26, fL_27, fW_27, fL_28, fW_28, fL_29, fW_29, fL_30, fW_30, fL_31, fW_31, fL_32, fW_32, fL_33, fW_33, fL_34, fW_34, fL_35, fW_35, fL_36, fW_36, fW_37, fL_38, fW_38, fL_39, fW_39, fL_40, fW_40, fL_41, fW_41, fL_42, fW_42, fL_43, fW_43, nI_ltI, nI_add, nI_mul, nI_clamp, mx_in_nI, hlt, if_true, n0z, e1, Bool.not_false, bI_t]
        rw [s1]
        by_cases h2 : r + 1 < n ^ m
        · simp (disch := first | exact fR_0 | exact fR_1 | exact fR_7 | exact fR_11 | exact fR_19 | exact fR_20 | exact fR_23 | omega) only [e_Mo_findTurns_38, e_Mo_findTurns_40, e_Mo_findTurns_41, e_Mo_findTurns_44, e_Mo_findTurns_45, nI_ltI, nI_add, nI_mul, nI_clamp, mx_in_nI, h2, if_true, if_false, n1z, bI_t]
        · simp (disch := first | exact fR_0 | exact fR_1 | exact fR_7 | exact fR_11 | exact fR_19 | exact fR_20 | exact fR_23 | omega) only [e_Mo_findTurns_38, e_Mo_findTurns_40, e_Mo_findTurns_41, nI_ltI, nI_add, nI_mul, nI_clamp, mx_in_nI, h2, if_false, bI_t]
      · have := hno B hB
        rw [a2]
        omega
    | true =>
      rw [hb] at e1
      obtain ⟨τ', f, l4, e2, g1, g2⟩ := ih (r + 1) (by omega) τ1 (hM.mv f1) (fun B hB hv => by
        have h0 := hno B hB
        have he : val n B m = val n A m := by omega
        have hab := val_inj m hB.1 a1 he
        have : okN D N m A := fun k hk x hx hd => by
          rw [← hab k hk, ← hab x (by omega)]
          exact hB.2 k hk x hx hd
        rw [okN_bad.mpr this] at hb
        cases hb)
      refine ⟨τ', f, l4, ?_, fun c hc => by rw [g1 c hc, f1 c hc], g2⟩
      rw [← e2, e_Mo_findTurns_38]
      simp (disch := first | exact fR_0 | exact fR_1 | exact fR_7 | exact fR_11 | exact fR_19 | exact fR_20 | exact fR_23 | omega) only [e_Mo_findTurns_40, e_Mo_findTurns_41, e_Mo_findTurns_44, e_Mo_findTurns_45, e_Mo_findTurns_48, e_Mo_findTurns_49, e_Mo_findTurns_51, e_Mo_findTurns_52, e_Mo_findTurns_55, e_Mo_findTurns_56, e_Mo_findTurns_59, vr_v, vr_n, vr_vh, vr_nh, vg_some, fF_23_0, fF_23_1, fF_23_2, fF_23_3, fI_23_3, fF_23_4, fF_23_5, fF_23_6, fI_23_6, fF_23_7, fF_23_8, fF_23_9, fF_23_10, fF_23_11, fF_23_12, fF_23_13, fF_23_14, fF_23_15, fF_23_16, fF_23_17, fF_23_18, fF_23_19, fI_23_19, fF_23_20, fI_23_20, fF_23_21, fI_23_21, fF_23_22, fI_23_22, fF_23_23, fI_23_23, fF_23_24, fI_23_24, fF_23_25, fI_23_25, fF_23_26, fI_23_26, fF_23_27, fI_23_27, fF_23_28, fI_23_28, fF_23_29, fF_23_30, fF_23_31, fR_23, fL_24, fW_24, fL_25, fW_25, fL_26, fW_26, fL_27, fW_27, fL_28, fW_28, fL_29, fW_29, fL_30, fW_30, fL_31, fW_31, fL_32, fW_32, fL_33, fW_33, fL_34, fW_34, fL_35, fW_35, fL_36, fW_36, fW_37, fL_38, fW_38, fL_39, fW_39, fL_40, fW_40, fL_41, fW_41, fL_42, fW_42, fL_43, fW_43, nI_ltI, nI_add, nI_mul, nI_clamp, mx_in_nI, hlt, if_true, n0z, e1, Bool.not_true, bI_f]
theorem c_Mo_findTurns {D : Nat → Nat → Bool} {N : Nat → Nat} {m : Nat} (hm0 : 0 < m) (hm : m ≤ 6) (hN : ∀ j, j < m → N j < 6) {τ : mx_S} (hM : MB D N m τ) : ∃ n A τ', vv 2 169 0 [.ref 23, .null, .null, .null, .null] [] (shF, τ) = some (some (.int (nI n)), (shF, τ')) ∧ 0 < n ∧ n ≤ 6 ∧ (∀ c, ¬ c = 43 → τ' c = τ c) ∧ FNM D N m n A ∧ (∀ i, i < m → τ' 43 i = nI (A i)) ∧ ∀ n' B, n' < n → prN D N m n' B → False := by
  have lp : ∀ t n, n + t = 6 → ∀ τ l3 l4, MB D N m τ → (∀ n' B, n' ≤ n → prN D N m n' B → False) → ∃ n2 A τ', vv 2 169 4 [.ref 23, .int (nI n), .int (nI 0), l3, l4] [] (shF, τ) = some (some (.int (nI n2)), (shF, τ')) ∧ 0 < n2 ∧ n2 ≤ 6 ∧ (∀ c, ¬ c = 43 → τ' c = τ c) ∧ FNM D N m n2 A ∧ (∀ i, i < m → τ' 43 i = nI (A i)) ∧ ∀ n' B, n' < n2 → prN D N m n' B → False := by
    intro t
    induction t with
    | zero =>
      intro n hn τ l3 l4 hM hno
      exact (hno 6 _ (by omega) (pr_id hm)).elim
    | succ t ih =>
      intro n hn τ l3 l4 hM hno
      have hp := pow_46 (n := n + 1) (m := m) (by omega) hm
      have s0 : vv 2 169 4 [.ref 23, .int (nI n), .int (nI 0), l3, l4] [] (shF, τ) = vv 2 169 16 [.ref 23, .int (nI (n + 1)), .int (nI 0), .int (nI ((n + 1) ^ 0)), .int (nI 0)] [] (shF, τ) := by
        simp (disch := first | exact fR_0 | exact fR_1 | exact fR_7 | exact fR_11 | exact fR_19 | exact fR_20 | exact fR_23 | omega) only [e_Mo_findTurns_4, e_Mo_findTurns_5, e_Mo_findTurns_8, e_Mo_findTurns_11, e_Mo_findTurns_12, e_Mo_findTurns_13, e_Mo_findTurns_14, nI_ltI, nI_add, nI_mul, nI_clamp, mx_in_nI, n0z, if_true, Nat.pow_zero]
      have s1 := it (F := fun k => vv 2 169 16 [.ref 23, .int (nI (n + 1)), .int (nI 0), .int (nI ((n + 1) ^ k)), .int (nI k)] [] (shF, τ)) m (fun k hk => by
        show vv _ _ _ _ _ _ = vv _ _ _ _ _ _
        rw [e_Mo_findTurns_16]
        simp (disch := first | exact fR_0 | exact fR_1 | exact fR_7 | exact fR_11 | exact fR_19 | exact fR_20 | exact fR_23 | omega) only [e_Mo_findTurns_18, e_Mo_findTurns_19, e_Mo_findTurns_22, e_Mo_findTurns_25, e_Mo_findTurns_26, e_Mo_findTurns_27, e_Mo_findTurns_28, e_Mo_findTurns_29, e_Mo_findTurns_32, vr_v, vr_n, vr_vh, vr_nh, vg_some, fF_23_0, fF_23_1, fF_23_2, fF_23_3, fI_23_3, fF_23_4, fF_23_5, fF_23_6, fI_23_6, fF_23_7, fF_23_8, fF_23_9, fF_23_10, fF_23_11, fF_23_12, fF_23_13, fF_23_14, fF_23_15, fF_23_16, fF_23_17, fF_23_18, fF_23_19, fI_23_19, fF_23_20, fI_23_20, fF_23_21, fI_23_21, fF_23_22, fI_23_22, fF_23_23, fI_23_23, fF_23_24, fI_23_24, fF_23_25, fI_23_25, fF_23_26, fI_23_26, fF_23_27, fI_23_27, fF_23_28, fI_23_28, fF_23_29, fF_23_30, fF_23_31, fR_23, fL_24, fW_24, fL_25, fW_25, fL_26, fW_26, fL_27, fW_27, fL_28, fW_28, fL_29, fW_29, fL_30, fW_30, fL_31, fW_31, fL_32, fW_32, fL_33, fW_33, fL_34, fW_34, fL_35, fW_35, fL_36, fW_36, fW_37, fL_38, fW_38, fL_39, fW_39, fL_40, fW_40, fL_41, fW_41, fL_42, fW_42, fL_43, fW_43, nI_ltI, nI_add, nI_mul, nI_clamp, mx_in_nI, hM.1, hk, if_true, Nat.pow_succ])
      have s2 : vv 2 169 16 [.ref 23, .int (nI (n + 1)), .int (nI 0), .int (nI ((n + 1) ^ m)), .int (nI m)] [] (shF, τ) = vv 2 169 38 [.ref 23, .int (nI (n + 1)), .int (nI 0), .int (nI ((n + 1) ^ m)), .int (nI 0)] [] (shF, τ) := by
        simp (disch := first | exact fR_0 | exact fR_1 | exact fR_7 | exact fR_11 | exact fR_19 | exact fR_20 | exact fR_23 | omega) only [e_Mo_findTurns_16, e_Mo_findTurns_18, e_Mo_findTurns_19, e_Mo_findTurns_22, e_Mo_findTurns_35, e_Mo_findTurns_36, vr_v, vr_n, vr_vh, vr_nh, vg_some, fF_23_0, fF_23_1, fF_23_2, fF_23_3, fI_23_3, fF_23_4, fF_23_5, fF_23_6, fI_23_6, fF_23_7, fF_23_8, fF_23_9, fF_23_10, fF_23_11, fF_23_12, fF_23_13, fF_23_14, fF_23_15, fF_23_16, fF_23_17, fF_23_18, fF_23_19, fI_23_19, fF_23_20, fI_23_20, fF_23_21, fI_23_21, fF_23_22, fI_23_22, fF_23_23, fI_23_23, fF_23_24, fI_23_24, fF_23_25, fI_23_25, fF_23_26, fI_23_26, fF_23_27, fI_23_27, fF_23_28, fI_23_28, fF_23_29, fF_23_30, fF_23_31, fR_23, fL_24, fW_24, fL_25, fW_25, fL_26, fW_26, fL_27, fW_27, fL_28, fW_28, fL_29, fW_29, fL_30, fW_30, fL_31, fW_31, fL_32, fW_32, fL_33, fW_33, fL_34, fW_34, fL_35, fW_35, fL_36, fW_36, fW_37, fL_38, fW_38, fL_39, fW_39, fL_40, fW_40, fL_41, fW_41, fL_42, fW_42, fL_43, fW_43, nI_ltI, nI_add, nI_mul, nI_clamp, mx_in_nI, hM.1, Nat.lt_irrefl, if_false]
      obtain ⟨τ1, f, l, e1, f1, r1⟩ := l_rows hm (show 0 < n + 1 by omega) (show n + 1 ≤ 6 by omega) hN ((n + 1) ^ m) 0 (by omega) τ hM (fun B _ => by omega)
      rw [s0, show vv 2 169 16 [.ref 23, .int (nI (n + 1)), .int (nI 0), .int (nI ((n + 1) ^ 0)), .int (nI 0)] [] (shF, τ) = _ from s1, s2, e1, e_Mo_findTurns_62]
      rcases r1 with ⟨rfl, A, a1, a2⟩ | ⟨rfl, hno1⟩
      · refine ⟨n + 1, A, τ1, ?_, by omega, by omega, f1, a1, a2, fun n' B hlt hB => hno n' B (by omega) hB⟩
        simp (disch := first | exact fR_0 | exact fR_1 | exact fR_7 | exact fR_11 | exact fR_19 | exact fR_20 | exact fR_23 | omega) only [e_Mo_findTurns_4, e_Mo_findTurns_5, e_Mo_findTurns_65, e_Mo_findTurns_66, nI_ltI, nI_add, nI_mul, nI_clamp, mx_in_nI, bI_t, n1z, if_false]
      · obtain ⟨n2, A, τ', e2, q1, q2, q3, q4, q5, q6⟩ := ih (n + 1) (by omega) τ1 (.int (nI ((n + 1) ^ m))) l (hM.mv f1) (fun n' B hle hB => by
          by_cases en : n' = n + 1
          · subst en; exact hno1 B hB
          · exact hno n' B (by omega) hB)
        exact ⟨n2, A, τ', e2, q1, q2, fun c hc => by rw [q3 c hc, f1 c hc], q4, q5, q6⟩
  obtain ⟨n, A, τ', e, r⟩ := lp 6 0 (by decide) τ .null .null hM (fun n' B hle hB => by have := hB.1 0 hm0; omega)
  refine ⟨n, A, τ', ?_, r⟩
  rw [← e]
  simp (disch := first | exact fR_0 | exact fR_1 | exact fR_7 | exact fR_11 | exact fR_19 | exact fR_20 | exact fR_23 | omega) only [e_Mo_findTurns_0, e_Mo_findTurns_1, e_Mo_findTurns_2, e_Mo_findTurns_3]
/-- what the reference does -/
theorem c_Mo_turn {σ : mx_S} (hI : INV σ) : ∃ n A τ N, NL (th σ) N ∧ 0 < n ∧ n ≤ 6 ∧ FNM (DD σ) N (cnt (th σ) 6) n A ∧ (∀ n' B, n' < n → prN (DD σ) N (cnt (th σ) 6) n' B → False) ∧ INV τ ∧ (∀ c, 1000 ≤ c → τ c = σ c) ∧ vv 7 170 0 [.ref 23, .int (-1), .null, .null] [] (shF, σ) = some (some (.int (nI n)), (shF, τ)) ∧ ∀ k, k < 6 → th σ k = true → vv 7 170 0 [.ref 23, .int (nI k), .null, .null] [] (shF, σ) = some (some (.int (nI (A (cnt (th σ) k)))), (shF, τ)) := by
  obtain ⟨τ1, e1, r1⟩ := c_Mo_findNetworks hI
  obtain ⟨N, hN⟩ := NL_ex (th σ)
  have hM : MB (DD σ) N (cnt (th σ) 6) τ1 := ⟨r1.2.2.1, fun j hj => by
    obtain ⟨a, b, c⟩ := hN j hj
    have := r1.2.2.2.1 (N j) a b
    rw [c] at this
    exact this, fun i hi => r1.2.2.2.2 i hi⟩
  have hm0 : 0 < cnt (th σ) 6 := by
    have k0 := CW_kn hI.2.1 (show 0 < 6 by decide)
    have t0 : th σ (kn σ 0) = true := (anN_iff 6).mpr ⟨0, by decide, by simp⟩
    have := cnt_lt k0.1 t0
    omega
  obtain ⟨n, A, τ, e2, q1, q2, q3, q4, q5, q6⟩ := c_Mo_findTurns hm0 (cnt_le 6) (fun j hj => (hN j hj).1) hM
  have hI1 := r1.inv hI
  have hI2 : INV τ := INV_of hI1 (fun c hc => q3 c (by omega)) (fun k _ => by rw [q3 23 (by decide)])
  refine ⟨n, A, τ, N, hN, q1, q2, q4, q6, hI2, fun c hc => by rw [q3 c (by omega), r1.1 c (by omega) (by omega) (by omega)], ?_, fun k hk hkt => ?_⟩
  · simp (disch := first | exact fR_0 | exact fR_1 | exact fR_7 | exact fR_11 | exact fR_19 | exact fR_20 | exact fR_23 | omega) only [e_Mo_turn_0, e_Mo_turn_1, e_Mo_turn_2, e_Mo_turn_15, e_Mo_turn_16, e_Mo_turn_19, e_Mo_turn_20, e_Mo_turn_23, e_Mo_turn_24, e_Mo_turn_25, e_Mo_turn_28, e_Mo_turn_29, vr_v, vr_n, vr_vh, vr_nh, vg_some, e1, e2, if_true]
    rw [if_neg (by decide)]
  · obtain ⟨c1, c2⟩ := hN.at hk hkt
    have cle := cnt_le (p := th σ) 6
    have kneg : (nI k = -1) = False := by
      have : ∀ k : Fin 6, ¬ nI k.val = -1 := by decide +kernel
      simp [this ⟨k, hk⟩]
    have s0 : vv 7 170 0 [.ref 23, .int (nI k), .null, .null] [] (shF, σ) = vv 7 170 32 [.ref 23, .int (nI k), .int (nI n), .int (nI 0)] [] (shF, τ) := by
      simp (disch := first | exact fR_0 | exact fR_1 | exact fR_7 | exact fR_11 | exact fR_19 | exact fR_20 | exact fR_23 | omega) only [e_Mo_turn_0, e_Mo_turn_1, e_Mo_turn_2, e_Mo_turn_5, e_Mo_turn_6, e_Mo_turn_7, e_Mo_turn_10, e_Mo_turn_15, e_Mo_turn_16, e_Mo_turn_19, e_Mo_turn_20, e_Mo_turn_23, e_Mo_turn_24, e_Mo_turn_25, e_Mo_turn_30, e_Mo_turn_31, vr_v, vr_n, vr_vh, vr_nh, vg_some, c_Mo_isNetwork, isN_th hI.2.1 hk, hkt, kneg, bI_0, tf, if_false, e1, e2, nI_ng (show k < 2 ^ 31 by omega), if_true]
    have s1 := it (F := fun j => vv 7 170 32 [.ref 23, .int (nI k), .int (nI n), .int (nI j)] [] (shF, τ)) (cnt (th σ) k) (fun j hj => by
      show vv _ _ _ _ _ _ = vv _ _ _ _ _ _
      obtain ⟨a, b, c⟩ := hN j (by omega)
      have nj : τ 41 j = nI (N j) := by rw [q3 41 (by decide)]; exact hM.2.1 j (by omega)
      have ne : ¬ N j = k := fun z => by rw [z] at c; omega
      rw [e_Mo_turn_32]
      simp (disch := first | exact fR_0 | exact fR_1 | exact fR_7 | exact fR_11 | exact fR_19 | exact fR_20 | exact fR_23 | omega) only [e_Mo_turn_33, e_Mo_turn_36, e_Mo_turn_37, e_Mo_turn_38, e_Mo_turn_39, e_Mo_turn_42, e_Mo_turn_45, vr_v, vr_n, vr_vh, vr_nh, vg_some, fF_23_0, fF_23_1, fF_23_2, fF_23_3, fI_23_3, fF_23_4, fF_23_5, fF_23_6, fI_23_6, fF_23_7, fF_23_8, fF_23_9, fF_23_10, fF_23_11, fF_23_12, fF_23_13, fF_23_14, fF_23_15, fF_23_16, fF_23_17, fF_23_18, fF_23_19, fI_23_19, fF_23_20, fI_23_20, fF_23_21, fI_23_21, fF_23_22, fI_23_22, fF_23_23, fI_23_23, fF_23_24, fI_23_24, fF_23_25, fI_23_25, fF_23_26, fI_23_26, fF_23_27, fI_23_27, fF_23_28, fI_23_28, fF_23_29, fF_23_30, fF_23_31, fR_23, fL_24, fW_24, fL_25, fW_25, fL_26, fW_26, fL_27, fW_27, fL_28, fW_28, fL_29, fW_29, fL_30, fW_30, fL_31, fW_31, fL_32, fW_32, fL_33, fW_33, fL_34, fW_34, fL_35, fW_35, fL_36, fW_36, fW_37, fL_38, fW_38, fL_39, fW_39, fL_40, fW_40, fL_41, fW_41, fL_42, fW_42, fL_43, fW_43, nI_ltI, nI_add, nI_mul, nI_clamp, mx_in_nI, nj, nI_eq, ne, if_true, if_false])
    have nk : τ 41 (cnt (th σ) k) = nI k := by
      have := hM.2.1 _ c1
      rw [c2] at this
      rw [q3 41 (by decide)]
      exact this
    have tk := q5 _ c1
    rw [s0]
    refine Eq.trans s1 ?_
    simp (disch := first | exact fR_0 | exact fR_1 | exact fR_7 | exact fR_11 | exact fR_19 | exact fR_20 | exact fR_23 | omega) only [e_Mo_turn_32, e_Mo_turn_33, e_Mo_turn_36, e_Mo_turn_37, e_Mo_turn_38, e_Mo_turn_39, e_Mo_turn_48, e_Mo_turn_49, e_Mo_turn_52, e_Mo_turn_53, e_Mo_turn_54, vr_v, vr_n, vr_vh, vr_nh, vg_some, fF_23_0, fF_23_1, fF_23_2, fF_23_3, fI_23_3, fF_23_4, fF_23_5, fF_23_6, fI_23_6, fF_23_7, fF_23_8, fF_23_9, fF_23_10, fF_23_11, fF_23_12, fF_23_13, fF_23_14, fF_23_15, fF_23_16, fF_23_17, fF_23_18, fF_23_19, fI_23_19, fF_23_20, fI_23_20, fF_23_21, fI_23_21, fF_23_22, fI_23_22, fF_23_23, fI_23_23, fF_23_24, fI_23_24, fF_23_25, fI_23_25, fF_23_26, fI_23_26, fF_23_27, fI_23_27, fF_23_28, fI_23_28, fF_23_29, fF_23_30, fF_23_31, fR_23, fL_24, fW_24, fL_25, fW_25, fL_26, fW_26, fL_27, fW_27, fL_28, fW_28, fL_29, fW_29, fL_30, fW_30, fL_31, fW_31, fL_32, fW_32, fL_33, fW_33, fL_34, fW_34, fL_35, fW_35, fL_36, fW_36, fW_37, fL_38, fW_38, fL_39, fW_39, fL_40, fW_40, fL_41, fW_41, fL_42, fW_42, fL_43, fW_43, nI_ltI, nI_add, nI_mul, nI_clamp, mx_in_nI, nk, tk, if_true]
theorem p_turn {σ : mx_S} (hI : INV σ) (s : Int32) : PR σ (fun σ => vv 11 104 0 [.ref 0, .int s, .null] [] (shF, σ)) (fun σ => vv 7 170 0 [.ref 23, .int s, .null, .null] [] (shF, σ)) := by
  obtain ⟨n, T, σ1, e, h1, h6, tr, x1, x2, x3⟩ := c_Ne_giveTurns hI.2.1
  have fr : ∀ c, ¬ c = 21 → ¬ c = 22 → σ1 c = σ c := fun c z1 z2 => by rw [tr.1 c z2, dst_nn z1]
  have hI1 : INV σ1 := INV_of hI (fun c hc => fr c (by omega) (by omega)) (fun k _ => by rw [fr 23 (by decide) (by decide)])
  obtain ⟨n', A, σ2, N, hN, p1, p2, p3, p4, p5, p6, p7, p8⟩ := c_Mo_turn hI1
  have et : th σ1 = th σ := th_of (fr 4 (by decide) (by decide))
  have ed : DD σ1 = DD σ := DD_of (fr 4 (by decide) (by decide)) (fr 6 (by decide) (by decide))
  rw [et] at hN p3 p4 p8
  rw [ed] at p3 p4
  obtain ⟨en, eT⟩ := turn_eq hN (fun x y h => DD_th h) h1 p1 x1 x2 x3 p3.1 p3.2 p4
  subst en
  have fin : ∀ c, 1000 ≤ c → σ2 c = σ c := fun c hc => by rw [p6 c hc, fr c (by omega) (by omega)]
  by_cases hs : s = -1
  · subst hs
    refine ⟨nI n, σ1, σ2, ?_, p7, p5, fin⟩
    simp (disch := first | exact fR_0 | exact fR_1 | exact fR_7 | exact fR_11 | exact fR_19 | exact fR_20 | exact fR_23 | omega) only [e_Ml_turn_0, e_Ml_turn_1, e_Ml_turn_2, e_Ml_turn_25, e_Ml_turn_26, e_Ml_turn_29, e_Ml_turn_32, e_Ml_turn_33, e_Ml_turn_34, e_Ml_turn_35, e_Ml_turn_38, e_Ml_turn_39, e_Ml_turn_50, vr_v, vr_n, vr_vh, vr_nh, vg_some, fF_0_0, fF_0_1, fF_0_2, fF_0_3, fF_0_4, e, if_true]
  · cases w : wi s (nI 0) (nI 5) with
    | false => exact PR.same hI (-1) (by simp only [e_Ml_turn_0, e_Ml_turn_1, e_Ml_turn_2, e_Ml_turn_5, e_Ml_turn_6, e_Ml_turn_9, e_Ml_turn_12, e_Ml_turn_13, e_Ml_turn_16, e_Ml_turn_17, e_Ml_turn_20, e_Ml_turn_23, e_Ml_turn_24, e_Ml_turn_25, e_Ml_turn_26, e_Ml_turn_29, e_Ml_turn_32, e_Ml_turn_33, e_Ml_turn_34, e_Ml_turn_35, e_Ml_turn_38, e_Ml_turn_39, e_Ml_turn_42, e_Ml_turn_43, e_Ml_turn_46, e_Ml_turn_47, e_Ml_turn_50, vr_v, vr_n, vr_vh, vr_nh, vg_some, c_Ml_isWithin, c_Ml_isStation, c_Ml_areTwo, c_Ml_isTone, c_Ml_isHalf, c_Ml_isKey, c_Mo_within, c_Mo_isStation, c_Mo_areTwo, c_Mo_isTone, c_Mo_isHalf, bI_0, if_true, if_false, Bool.false_eq_true, eq_self, tf, hs, w]) (by simp (disch := first | exact fR_0 | exact fR_1 | exact fR_7 | exact fR_11 | exact fR_19 | exact fR_20 | exact fR_23 | omega) only [e_Mo_turn_0, e_Mo_turn_1, e_Mo_turn_2, e_Mo_turn_5, e_Mo_turn_6, e_Mo_turn_7, e_Mo_turn_10, e_Mo_turn_13, e_Mo_turn_14, e_Mo_turn_15, e_Mo_turn_16, e_Mo_turn_19, e_Mo_turn_20, e_Mo_turn_23, e_Mo_turn_24, e_Mo_turn_25, e_Mo_turn_28, e_Mo_turn_29, e_Mo_turn_30, e_Mo_turn_31, e_Mo_turn_32, e_Mo_turn_33, e_Mo_turn_36, e_Mo_turn_37, e_Mo_turn_38, e_Mo_turn_39, e_Mo_turn_42, e_Mo_turn_45, e_Mo_turn_48, e_Mo_turn_49, e_Mo_turn_52, e_Mo_turn_53, e_Mo_turn_54, vr_v, vr_n, vr_vh, vr_nh, vg_some, c_Ml_isWithin, c_Ml_isStation, c_Ml_areTwo, c_Ml_isTone, c_Ml_isHalf, c_Ml_isKey, c_Mo_within, c_Mo_isStation, c_Mo_areTwo, c_Mo_isTone, c_Mo_isHalf, bI_0, if_true, if_false, Bool.false_eq_true, eq_self, tf, hs, c_Mo_isNetwork, isN_no hI.2.1 w])
    | true =>
      obtain ⟨k, hk, rfl⟩ := wi_of (by decide) w
      have hk : k < 6 := by omega
      cases h2 : th σ k with
      | false => exact PR.same hI (-1) (by simp (disch := first | exact fR_0 | exact fR_1 | exact fR_7 | exact fR_11 | exact fR_19 | exact fR_20 | exact fR_23 | omega) only [e_Ml_turn_0, e_Ml_turn_1, e_Ml_turn_2, e_Ml_turn_5, e_Ml_turn_6, e_Ml_turn_9, e_Ml_turn_12, e_Ml_turn_13, e_Ml_turn_16, e_Ml_turn_17, e_Ml_turn_20, e_Ml_turn_23, e_Ml_turn_24, vr_v, vr_n, vr_vh, vr_nh, vg_some, c_Ml_isWithin, c_Ml_isStation, c_Ml_areTwo, c_Ml_isTone, c_Ml_isHalf, c_Ml_isKey, c_Mo_within, c_Mo_isStation, c_Mo_areTwo, c_Mo_isTone, c_Mo_isHalf, bI_0, if_true, if_false, Bool.false_eq_true, eq_self, tf, fF_0_0, fF_0_1, fF_0_2, fF_0_3, fF_0_4, hs, w, c_Ne_isThere hI.2.1 hk, h2]) (by simp (disch := first | exact fR_0 | exact fR_1 | exact fR_7 | exact fR_11 | exact fR_19 | exact fR_20 | exact fR_23 | omega) only [e_Mo_turn_0, e_Mo_turn_1, e_Mo_turn_2, e_Mo_turn_5, e_Mo_turn_6, e_Mo_turn_7, e_Mo_turn_10, e_Mo_turn_13, e_Mo_turn_14, vr_v, vr_n, vr_vh, vr_nh, vg_some, c_Ml_isWithin, c_Ml_isStation, c_Ml_areTwo, c_Ml_isTone, c_Ml_isHalf, c_Ml_isKey, c_Mo_within, c_Mo_isStation, c_Mo_areTwo, c_Mo_isTone, c_Mo_isHalf, bI_0, if_true, if_false, Bool.false_eq_true, eq_self, tf, hs, c_Mo_isNetwork, isN_th hI.2.1 hk, h2])
      | true =>
        refine ⟨nI (T k), σ1, σ2, ?_, ?_, p5, fin⟩
        · simp (disch := first | exact fR_0 | exact fR_1 | exact fR_7 | exact fR_11 | exact fR_19 | exact fR_20 | exact fR_23 | omega) only [e_Ml_turn_0, e_Ml_turn_1, e_Ml_turn_2, e_Ml_turn_5, e_Ml_turn_6, e_Ml_turn_9, e_Ml_turn_12, e_Ml_turn_13, e_Ml_turn_16, e_Ml_turn_17, e_Ml_turn_20, e_Ml_turn_25, e_Ml_turn_26, e_Ml_turn_29, e_Ml_turn_32, e_Ml_turn_33, e_Ml_turn_34, e_Ml_turn_35, e_Ml_turn_42, e_Ml_turn_43, e_Ml_turn_46, e_Ml_turn_47, e_Ml_turn_50, e_Ne_turnOf_0, e_Ne_turnOf_1, e_Ne_turnOf_4, e_Ne_turnOf_5, e_Ne_turnOf_6, vr_v, vr_n, vr_vh, vr_nh, vg_some, c_Ml_isWithin, c_Ml_isStation, c_Ml_areTwo, c_Ml_isTone, c_Ml_isHalf, c_Ml_isKey, c_Mo_within, c_Mo_isStation, c_Mo_areTwo, c_Mo_isTone, c_Mo_isHalf, bI_0, if_true, if_false, Bool.false_eq_true, eq_self, tf, fF_0_0, fF_0_1, fF_0_2, fF_0_3, fF_0_4, nI_ltI, nI_add, nI_mul, nI_clamp, mx_in_nI, hs, w, c_Ne_isThere hI.2.1 hk, h2, e, fF_20_2, fL_22, tr.2 k hk]
        · rw [eT k hk h2]
          exact p8 k hk h2
