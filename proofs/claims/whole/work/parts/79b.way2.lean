/-! nearest ways: the class's row, and what it finds -/
theorem c_Wa_nextOf {τ : mx_S} {C : Nat → Nat → Nat} {z : Nat → Nat} (h8 : ∀ s t, s < 6 → t < 6 → τ 8 (s * 6 + t) = nI (C s t)) (h9 : ∀ i, i < 6 → τ 9 i = nI (z i)) (hC : ∀ s t, C s t ≤ 100000000) (hz : ∀ i, z i ≤ 100000000) {s : Nat} (hs : s < 6) (he : ∃ t, t < 6 ∧ C s t + z t = z s) : vv 1 58 0 [.ref 7, .int (nI s), .null] [] (shF, τ) = some (some (.int (nI (nxt C z s))), (shF, τ)) := by
  rw [e_Wa_nextOf_0, e_Wa_nextOf_1]
  have key : ∀ f k, k + f = 6 → (∃ t, k ≤ t ∧ t < 6 ∧ C s t + z t = z s) → vv 1 58 2 [.ref 7, .int (nI s), .int (nI k)] [] (shF, τ) = some (some (.int (nI (nx (fun t => decide (C s t + z t = z s)) f k))), (shF, τ)) := by
    intro f
    induction f with
    | zero => rintro k hk ⟨t, h1, h2, -⟩; omega
    | succ f ih =>
      rintro k hk ⟨t, h1, h2, h3⟩
      have k6 : k < 6 := by omega
      have b1 := hC s k
      have b2 := hz k
      have b3 := hz s
      have hth := c_Wa_through hs k6 (h8 s k hs k6) (h9 k k6)
      rw [e_Wa_nextOf_2, nx]
      by_cases e : C s k + z k = z s
      · rw [if_pos (by simp [e])]
        simp (disch := first | exact fR_0 | exact fR_1 | exact fR_7 | exact fR_11 | exact fR_19 | exact fR_20 | exact fR_23 | omega) only [e_Wa_nextOf_3, e_Wa_nextOf_5, e_Wa_nextOf_8, e_Wa_nextOf_9, e_Wa_nextOf_10, e_Wa_nextOf_11, e_Wa_nextOf_14, e_Wa_nextOf_15, e_Wa_nextOf_18, e_Wa_nextOf_19, e_Wa_nextOf_20, e_Wa_nextOf_23, e_Wa_nextOf_24, vr_v, vr_n, vr_vh, vr_nh, vg_some, fF_7_2, fL_9, nI_ltI, nI_add, nI_mul, nI_clamp, mx_in_nI, k6, hs, if_true, hth, h9 s hs, e, eq_self]
      · rw [if_neg (by simp [e])]
        have ih' := ih (k + 1) (by omega) ⟨t, by
          by_cases q : t = k
          · subst q; exact (e h3).elim
          · omega, h2, h3⟩
        rw [← ih']
        simp (disch := first | exact fR_0 | exact fR_1 | exact fR_7 | exact fR_11 | exact fR_19 | exact fR_20 | exact fR_23 | omega) only [e_Wa_nextOf_3, e_Wa_nextOf_5, e_Wa_nextOf_8, e_Wa_nextOf_9, e_Wa_nextOf_10, e_Wa_nextOf_11, e_Wa_nextOf_14, e_Wa_nextOf_15, e_Wa_nextOf_18, e_Wa_nextOf_19, e_Wa_nextOf_20, e_Wa_nextOf_25, e_Wa_nextOf_28, vr_v, vr_n, vr_vh, vr_nh, vg_some, fF_7_2, fL_9, nI_ltI, nI_add, nI_mul, nI_clamp, mx_in_nI, k6, hs, if_true, if_false, hth, h9 s hs, nI_eq, e]
  obtain ⟨t, h1, h2⟩ := he
  exact key 6 0 rfl ⟨t, Nat.zero_le t, h1, h2⟩
theorem c_Wa_follow {S : mx_S} {f : Nat → Nat} {a b m : Nat} (hb : b < 6) (hm : m ≤ 5) (e1 : pv f a m = b) (e2 : ∀ i, i < m → ¬ pv f a i = b) (e3 : ∀ i, i ≤ m → pv f a i < 6) (hn : ∀ τ : mx_S, τ 8 = S 8 → τ 9 = S 9 → ∀ i, i < m → vv 1 58 0 [.ref 7, .int (nI (pv f a i)), .null] [] (shF, τ) = some (some (.int (nI (pv f a (i + 1)))), (shF, τ))) : ∃ τ, vv 2 57 0 [.ref 7, .int (nI a), .int (nI b), .null, .null] [] (shF, S) = some (none, (shF, τ)) ∧ (∀ c, ¬ c = 7 → ¬ c = 10 → τ c = S c) ∧ (∀ i, i ≤ m → τ 10 i = nI (pv f a i)) ∧ τ 7 4 = nI (m + 1) ∧ τ 7 5 = S 7 5 := by
  obtain ⟨τ, e, i1, i2, i3⟩ := its (F := fun i τ => vv 2 57 5 [.ref 7, .int (nI a), .int (nI b), .int (nI (pv f a i)), .int (nI i)] [] (shF, τ)) (I := fun i τ => (∀ c, ¬ c = 7 → ¬ c = 10 → τ c = S c) ∧ (∀ j, j < i → τ 10 j = nI (pv f a j)) ∧ τ 7 5 = S 7 5) m (fun i τ hi hI => by
    obtain ⟨j1, j2, j3⟩ := hI
    have i6 : i < 6 := by omega
    have p6 := e3 i (by omega)
    have pn := e2 i hi
    refine ⟨mx_up (mx_up τ 10 i (nI (pv f a i))) 7 4 (nI (i + 1)), ?_, fun c h7 h10 => by rw [mx_up_nn h7, mx_up_nn h10]; exact j1 c h7 h10, fun j hj => ?_, ?_⟩
    · show vv _ _ _ _ _ _ = vv _ _ _ _ _ _
      rw [e_Wa_follow_5]
      have hq := hn (mx_up (mx_up τ 10 i (nI (pv f a i))) 7 4 (nI (i + 1))) (by rw [mx_up_nn (by decide), mx_up_nn (by decide)]; exact j1 8 (by decide) (by decide)) (by rw [mx_up_nn (by decide), mx_up_nn (by decide)]; exact j1 9 (by decide) (by decide)) i hi
      simp (disch := first | exact fR_0 | exact fR_1 | exact fR_7 | exact fR_11 | exact fR_19 | exact fR_20 | exact fR_23 | omega) only [e_Wa_follow_7, e_Wa_follow_9, e_Wa_follow_12, e_Wa_follow_13, e_Wa_follow_16, e_Wa_follow_18, e_Wa_follow_19, e_Wa_follow_20, e_Wa_follow_21, e_Wa_follow_23, e_Wa_follow_24, e_Wa_follow_25, e_Wa_follow_28, e_Wa_follow_29, e_Wa_follow_30, e_Wa_follow_34, e_Wa_follow_35, e_Wa_follow_36, e_Wa_follow_39, e_Wa_follow_40, e_Wa_follow_43, vr_v, vr_n, vr_vh, vr_nh, vg_some, fF_7_3, fI_7_4, fL_10, fW_10, nI_ltI, nI_add, nI_mul, nI_clamp, mx_in_nI, i6, if_true, if_false, nI_eq, pn, hq]
    · rw [mx_up_nn (by decide), mx_up_ap, if_pos rfl]
      by_cases e : j = i
      · rw [if_pos e, e]
      · rw [if_neg e]; exact j2 j (by omega)
    · rw [mx_up_ap, if_pos rfl, if_neg (by decide), mx_up_nn (by decide)]; exact j3) S ⟨fun _ _ _ => rfl, fun j hj => by omega, rfl⟩
  have m6 : m < 6 := by omega
  refine ⟨mx_up (mx_up τ 10 m (nI (pv f a m))) 7 4 (nI (m + 1)), ?_, fun c h7 h10 => by rw [mx_up_nn h7, mx_up_nn h10]; exact i1 c h7 h10, fun j hj => ?_, ?_, ?_⟩
  · refine Eq.trans ?_ (e.trans ?_)
    · simp (disch := first | exact fR_0 | exact fR_1 | exact fR_7 | exact fR_11 | exact fR_19 | exact fR_20 | exact fR_23 | omega) only [e_Wa_follow_0, e_Wa_follow_1, e_Wa_follow_2, e_Wa_follow_3, pv]
    · rw [e_Wa_follow_5]
      simp (disch := first | exact fR_0 | exact fR_1 | exact fR_7 | exact fR_11 | exact fR_19 | exact fR_20 | exact fR_23 | omega) only [e_Wa_follow_7, e_Wa_follow_9, e_Wa_follow_12, e_Wa_follow_13, e_Wa_follow_16, e_Wa_follow_18, e_Wa_follow_19, e_Wa_follow_20, e_Wa_follow_21, e_Wa_follow_23, e_Wa_follow_24, e_Wa_follow_25, e_Wa_follow_28, e_Wa_follow_29, e_Wa_follow_30, e_Wa_follow_33, vr_v, vr_n, vr_vh, vr_nh, vg_some, fF_7_3, fI_7_4, fL_10, fW_10, nI_ltI, nI_add, nI_mul, nI_clamp, mx_in_nI, m6, if_true, e1, eq_self]
  · rw [mx_up_nn (by decide), mx_up_ap, if_pos rfl]
    by_cases e : j = m
    · rw [if_pos e, e]
    · rw [if_neg e]; exact i2 j (by omega)
  · rw [mx_up_ap, if_pos rfl, if_pos rfl]
  · rw [mx_up_ap, if_pos rfl, if_neg (by decide), mx_up_nn (by decide)]; exact i3
theorem x0_sup {C : Nat → Nat → Nat} {b : Nat} : sup C 100000000 b (x0 b) := fun s _ hb h => by
  unfold x0 at h
  rw [if_neg hb] at h
  omega
/-- what both find: distances, and a row along them -/
theorem way_pack (σ : mx_S) {N b : Nat} (hN : 0 < N) (hN2 : N ≤ 2000) : ∃ z : Nat → Nat, (∀ i, i < 6 → rn (CN σ N) (x0 b) 5 i = z i ∧ rn (CN σ N) (x0 b) 6 i = z i) ∧ (∀ i, z i ≤ 100000000) ∧ (∀ s, s < 6 → ¬ s = b → z s < 100000000 → ∃ t, t < 6 ∧ CN σ N s t + z t = z s) ∧ ∀ a, a < 6 → z a < 100000000 → ∃ m, m ≤ 5 ∧ pv (nxt (CN σ N) z) a m = b ∧ (∀ i, i < m → ¬ pv (nxt (CN σ N) z) a i = b) ∧ (∀ i, i ≤ m → pv (nxt (CN σ N) z) a i < 6 ∧ z (pv (nxt (CN σ N) z) a i) < 100000000) ∧ z a % 8 = m := by
  obtain ⟨z, h1, h2, h3, h4⟩ := rn_fix (C := CN σ N) (F := 100000000) (b := b) (x := x0 b) CN_pos x0_sup (by unfold x0; rw [if_pos rfl]) x0_le
  refine ⟨z, h1, h3, h4, fun a ha hF => ?_⟩
  obtain ⟨m, m1, m2, m3, m4, m5⟩ := way_ex (C := CN σ N) (F := 100000000) CN_pos CN_8 h2 h4 5 a ha (rk_le ha) hF
  exact ⟨m, m1, m2, m3, m4, by rw [m5]; omega⟩
theorem D9_congr {S : mx_S} {x y : Nat → Nat} (h : ∀ i, i < 6 → x i = y i) : D9 S x = D9 S y := by
  funext c i
  by_cases e : c = 9
  · subst e
    unfold D9 rw1
    rw [if_pos rfl, if_pos rfl]
    by_cases e2 : i < 6
    · rw [if_pos e2, if_pos e2]
      exact congrArg nI (h i e2)
    · rw [if_neg e2, if_neg e2]
  · rw [D9_nn e, D9_nn e]
theorem c_Wa_findBest {σ : mx_S} (hI : INV σ) {N a b : Nat} (hN : 0 < N) (hN2 : N ≤ 2000) (ha : a < 6) (hb : b < 6) {z : Nat → Nat} (hz5 : ∀ i, i < 6 → rn (CN σ N) (x0 b) 5 i = z i) (hzF : ∀ i, z i ≤ 100000000) (hzn : ∀ s, s < 6 → ¬ s = b → z s < 100000000 → ∃ t, t < 6 ∧ CN σ N s t + z t = z s) : (¬ z a < 100000000 → ∃ τ, vv 4 49 0 [.ref 7, .int (nI a), .int (nI b), .int (nI N)] [] (shF, σ) = some (some (.int (nI 0)), (shF, τ)) ∧ ∀ c, ¬ (7 ≤ c ∧ c ≤ 10) → τ c = σ c) ∧ ∀ m, z a < 100000000 → m ≤ 5 → pv (nxt (CN σ N) z) a m = b → (∀ i, i < m → ¬ pv (nxt (CN σ N) z) a i = b) → (∀ i, i ≤ m → pv (nxt (CN σ N) z) a i < 6 ∧ z (pv (nxt (CN σ N) z) a i) < 100000000) → ∃ τ, vv 4 49 0 [.ref 7, .int (nI a), .int (nI b), .int (nI N)] [] (shF, σ) = some (some (.int (nI 1)), (shF, τ)) ∧ (∀ c, ¬ (7 ≤ c ∧ c ≤ 10) → τ c = σ c) ∧ τ 7 5 = nI (z a / 8) ∧ τ 7 4 = nI (m + 1) ∧ ∀ i, i ≤ m → τ 10 i = nI (pv (nxt (CN σ N) z) a i) := by
  have w8 : ∀ s t, s < 6 → t < 6 → rw1 σ 8 (WF σ N) 36 8 (s * 6 + t) = nI (CN σ N s t) := fun s t hs ht => by rw [rw1_at (by omega)]; exact WF_at ht
  have hm := c_Wa_measureTo w8 (CN_le hN hN2) hb
  rw [D9_congr hz5] at hm
  have hza := hzF a
  refine ⟨fun hF => ?_, fun m hF m1 m2 m3 m4 => ?_⟩
  · refine ⟨D9 (rw1 σ 8 (WF σ N) 36) z, ?_, fun c hc => by rw [D9_nn (by omega), rw1_nn (by omega)]⟩
    simp (disch := first | exact fR_0 | exact fR_1 | exact fR_7 | exact fR_11 | exact fR_19 | exact fR_20 | exact fR_23 | omega) only [e_Wa_findBest_0, e_Wa_findBest_1, e_Wa_findBest_2, e_Wa_findBest_5, e_Wa_findBest_6, e_Wa_findBest_7, e_Wa_findBest_10, e_Wa_findBest_11, e_Wa_findBest_14, e_Wa_findBest_15, e_Wa_findBest_16, e_Wa_findBest_18, e_Wa_findBest_21, e_Wa_findBest_22_0, vr_v, vr_n, vr_vh, vr_nh, vg_some, fF_7_2, fL_9, nI_ltI, nI_add, nI_mul, nI_clamp, mx_in_nI, ha, if_true, if_false, c_Wa_weighSteps hI hN hN2, hm, D9_at ha, hF]
  · obtain ⟨τ, e, f1, f2, f3, f4⟩ := c_Wa_follow (S := mx_up (D9 (rw1 σ 8 (WF σ N) 36) z) 7 5 (nI (z a / 8))) (f := nxt (CN σ N) z) (a := a) hb m1 m2 m3 (fun i hi => (m4 i hi).1) (fun τ t8 t9 i hi => by
      have h8 : ∀ s t, s < 6 → t < 6 → τ 8 (s * 6 + t) = nI (CN σ N s t) := fun s t hs ht => by rw [t8, mx_up_nn (by decide), D9_nn (by decide)]; exact w8 s t hs ht
      have h9 : ∀ i, i < 6 → τ 9 i = nI (z i) := fun i hi => by rw [t9, mx_up_nn (by decide)]; exact D9_at hi
      have q := m4 i (by omega)
      exact c_Wa_nextOf h8 h9 (CN_le hN hN2) hzF q.1 (hzn _ q.1 (m3 i hi) q.2))
    refine ⟨τ, ?_, fun c hc => by rw [f1 c (by omega) (by omega), mx_up_nn (by omega), D9_nn (by omega), rw1_nn (by omega)], ?_, f3, f2⟩
    · simp (disch := first | exact fR_0 | exact fR_1 | exact fR_7 | exact fR_11 | exact fR_19 | exact fR_20 | exact fR_23 | omega) only [e_Wa_findBest_0, e_Wa_findBest_1, e_Wa_findBest_2, e_Wa_findBest_5, e_Wa_findBest_6, e_Wa_findBest_7, e_Wa_findBest_10, e_Wa_findBest_11, e_Wa_findBest_14, e_Wa_findBest_15, e_Wa_findBest_16, e_Wa_findBest_18, e_Wa_findBest_23, e_Wa_findBest_24, e_Wa_findBest_25, e_Wa_findBest_28, e_Wa_findBest_29, e_Wa_findBest_30, e_Wa_findBest_32, e_Wa_findBest_33, e_Wa_findBest_36, e_Wa_findBest_37, e_Wa_findBest_38, e_Wa_findBest_39, e_Wa_findBest_42, e_Wa_findBest_43_1, vr_v, vr_n, vr_vh, vr_nh, vg_some, fF_7_2, fI_7_5, fL_9, nI_ltI, nI_add, nI_mul, nI_clamp, mx_in_nI, ha, if_true, if_false, c_Wa_weighSteps hI hN hN2, hm, D9_at ha, hF, neq0, show ¬ (8 : Nat) = 0 by decide, pk_div, e]
    · rw [f4, mx_up_ap, if_pos rfl, if_pos rfl]
