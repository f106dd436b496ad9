/-! turns, as the reference finds them -/
def NR (σ τ : mx_S) (K : Nat) : Prop := (∀ c, ¬ c = 23 → ¬ c = 41 → ¬ c = 42 → τ c = σ c) ∧ (∀ k, ¬ k = 28 → τ 23 k = σ 23 k) ∧ τ 23 28 = nI (cnt (th σ) K) ∧ (∀ i, i < K → th σ i = true → τ 41 (cnt (th σ) i) = nI i) ∧ (∀ i, i < K → τ 42 i = mk (DD σ i) 6)
theorem NR.inv {σ τ : mx_S} {K : Nat} (h : NR σ τ K) (hI : INV σ) : INV τ := INV_of hI (fun c hc => h.1 c (by omega) (by omega) (by omega)) (fun k hk => h.2.1 k (by omega))
theorem c_Mo_findNetworks {σ : mx_S} (hI : INV σ) : ∃ τ, vv 6 167 0 [.ref 23, .null] [] (shF, σ) = some (none, (shF, τ)) ∧ NR σ τ 6 := by
  have h0 : NR σ (mx_up σ 23 28 (nI 0)) 0 := ⟨fun c h1 _ _ => mx_up_nn h1, fun k hk => by rw [mx_up_ap, if_pos rfl, if_neg hk], by rw [mx_up_ap, if_pos rfl, if_pos rfl]; rfl, fun i hi => by omega, fun i hi => by omega⟩
  obtain ⟨τ, e, r⟩ := its (F := fun K τ => vv 6 167 7 [.ref 23, .int (nI K)] [] (shF, τ)) (I := fun K τ => NR σ τ K) 6 (fun K τ hK hN => by
    have hT := hN.inv hI
    have t4 : τ 4 = σ 4 := hN.1 4 (by decide) (by decide) (by decide)
    have t6 : τ 6 = σ 6 := hN.1 6 (by decide) (by decide) (by decide)
    have et : th τ = th σ := th_of t4
    have ed : DD τ = DD σ := DD_of t4 t6
    have cl := cnt_le (p := th σ) K
    cases h : th σ K with
    | false =>
      have h' : th τ K = false := by rw [et]; exact h
      refine ⟨mx_up τ 42 K (nI 0), ?_, ?_⟩
      · show vv _ _ _ _ _ _ = vv _ _ _ _ _ _
        rw [e_Mo_findNetworks_7]
        simp (disch := first | exact fR_0 | exact fR_1 | exact fR_7 | exact fR_11 | exact fR_19 | exact fR_20 | exact fR_23 | omega) only [e_Mo_findNetworks_0, e_Mo_findNetworks_1, e_Mo_findNetworks_2, e_Mo_findNetworks_5, e_Mo_findNetworks_6, e_Mo_findNetworks_8, e_Mo_findNetworks_10, e_Mo_findNetworks_13, e_Mo_findNetworks_14, e_Mo_findNetworks_15, e_Mo_findNetworks_18, e_Mo_findNetworks_21, e_Mo_findNetworks_22, e_Mo_findNetworks_25, e_Mo_findNetworks_26, e_Mo_findNetworks_29, e_Mo_findNetworks_30, e_Mo_findNetworks_31, e_Mo_findNetworks_32, e_Mo_findNetworks_33, e_Mo_findNetworks_36, e_Mo_findNetworks_37, e_Mo_findNetworks_38, e_Mo_findNetworks_41, e_Mo_findNetworks_42, e_Mo_findNetworks_45, e_Mo_findNetworks_46, e_Mo_findNetworks_47, e_Mo_findNetworks_48, e_Mo_findNetworks_51, e_Mo_findNetworks_54, e_Mo_findNetworks_55, e_Mo_findNetworks_56, e_Mo_findNetworks_59, e_Mo_findNetworks_62, e_Mo_findNetworks_63, e_Mo_findNetworks_64, e_Mo_findNetworks_67, e_Mo_findNetworks_70, vr_v, vr_n, vr_vh, vr_nh, vg_some, fF_23_0, fF_23_1, fF_23_2, fF_23_3, fI_23_3, fF_23_4, fF_23_5, fF_23_6, fI_23_6, fF_23_7, fF_23_8, fF_23_9, fF_23_10, fF_23_11, fF_23_12, fF_23_13, fF_23_14, fF_23_15, fF_23_16, fF_23_17, fF_23_18, fF_23_19, fI_23_19, fF_23_20, fI_23_20, fF_23_21, fI_23_21, fF_23_22, fI_23_22, fF_23_23, fI_23_23, fF_23_24, fI_23_24, fF_23_25, fI_23_25, fF_23_26, fI_23_26, fF_23_27, fI_23_27, fF_23_28, fI_23_28, fF_23_29, fF_23_30, fF_23_31, fR_23, fL_24, fW_24, fL_25, fW_25, fL_26, fW_26, fL_27, fW_27, fL_28, fW_28, fL_29, fW_29, fL_30, fW_30, fL_31, fW_31, fL_32, fW_32, fL_33, fW_33, fL_34, fW_34, fL_35, fW_35, fL_36, fW_36, fW_37, fL_38, fW_38, fL_39, fW_39, fL_40, fW_40, fL_41, fW_41, fL_42, fW_42, fL_43, fW_43, nI_ltI, nI_add, nI_mul, nI_clamp, mx_in_nI, hK, if_true, c_Mo_isNetwork, isN_th hT.2.1 hK, h', bI_0]
      · have ek : cnt (th σ) (K + 1) = cnt (th σ) K := by rw [cnt, h]; rfl
        have dz : mk (DD σ K) 6 = nI 0 := by
          rw [← mk_no]
          refine mk_congr 6 (fun y _ => ?_)
          cases hd : DD σ K y with
          | false => rfl
          | true => rw [(DD_th hd).1] at h; cases h
        refine ⟨fun c h1 h2 h3 => by rw [mx_up_nn h3]; exact hN.1 c h1 h2 h3, fun k hk => by rw [mx_up_nn (by decide)]; exact hN.2.1 k hk, by rw [mx_up_nn (by decide), ek]; exact hN.2.2.1, fun i hi hi2 => ?_, fun i hi => ?_⟩
        · rw [mx_up_nn (by decide)]
          by_cases e : i = K
          · subst e; rw [h] at hi2; cases hi2
          · exact hN.2.2.2.1 i (by omega) hi2
        · rw [mx_up_ap, if_pos rfl]
          by_cases e : i = K
          · rw [if_pos e, e, dz]
          · rw [if_neg e]; exact hN.2.2.2.2 i (by omega)
    | true =>
      have h' : th τ K = true := by rw [et]; exact h
      have ek : cnt (th σ) (K + 1) = cnt (th σ) K + 1 := by rw [cnt, h]; rfl
      have hI2 : INV (mx_up (mx_up τ 41 (cnt (th σ) K) (nI K)) 23 28 (nI (cnt (th σ) K + 1))) := INV_of hT (fun c hc => by rw [mx_up_nn (by omega), mx_up_nn (by omega)]) (fun k hk => by rw [mx_up_ap, if_pos rfl, if_neg (by omega), mx_up_nn (by decide)])
      have q4 : mx_up (mx_up τ 41 (cnt (th σ) K) (nI K)) 23 28 (nI (cnt (th σ) K + 1)) 4 = σ 4 := by rw [mx_up_nn (by decide), mx_up_nn (by decide)]; exact t4
      have q6 : mx_up (mx_up τ 41 (cnt (th σ) K) (nI K)) 23 28 (nI (cnt (th σ) K + 1)) 6 = σ 6 := by rw [mx_up_nn (by decide), mx_up_nn (by decide)]; exact t6
      have h2 : th (mx_up (mx_up τ 41 (cnt (th σ) K) (nI K)) 23 28 (nI (cnt (th σ) K + 1))) K = true := by rw [th_of q4]; exact h
      have d2 : mk (dM (mx_up (mx_up τ 41 (cnt (th σ) K) (nI K)) 23 28 (nI (cnt (th σ) K + 1))) K) 6 = mk (DD σ K) 6 := mk_congr 6 (fun y _ => by rw [dM_DD, DD_of q4 q6])
      have q28 : mx_up τ 41 (cnt (th σ) K) (nI K) 23 28 = nI (cnt (th σ) K) := by rw [mx_up_nn (by decide)]; exact hN.2.2.1
      have b28 := hN.2.2.1
      refine ⟨mx_up (mx_up (mx_up τ 41 (cnt (th σ) K) (nI K)) 23 28 (nI (cnt (th σ) K + 1))) 42 K (mk (DD σ K) 6), ?_, ?_⟩
      · show vv _ _ _ _ _ _ = vv _ _ _ _ _ _
        rw [e_Mo_findNetworks_7]
        simp (disch := first | exact fR_0 | exact fR_1 | exact fR_7 | exact fR_11 | exact fR_19 | exact fR_20 | exact fR_23 | omega) only [e_Mo_findNetworks_0, e_Mo_findNetworks_1, e_Mo_findNetworks_2, e_Mo_findNetworks_5, e_Mo_findNetworks_6, e_Mo_findNetworks_8, e_Mo_findNetworks_10, e_Mo_findNetworks_13, e_Mo_findNetworks_14, e_Mo_findNetworks_15, e_Mo_findNetworks_18, e_Mo_findNetworks_21, e_Mo_findNetworks_22, e_Mo_findNetworks_25, e_Mo_findNetworks_26, e_Mo_findNetworks_29, e_Mo_findNetworks_30, e_Mo_findNetworks_31, e_Mo_findNetworks_32, e_Mo_findNetworks_33, e_Mo_findNetworks_36, e_Mo_findNetworks_37, e_Mo_findNetworks_38, e_Mo_findNetworks_41, e_Mo_findNetworks_42, e_Mo_findNetworks_45, e_Mo_findNetworks_46, e_Mo_findNetworks_47, e_Mo_findNetworks_48, e_Mo_findNetworks_51, e_Mo_findNetworks_54, e_Mo_findNetworks_55, e_Mo_findNetworks_56, e_Mo_findNetworks_59, e_Mo_findNetworks_62, e_Mo_findNetworks_63, e_Mo_findNetworks_64, e_Mo_findNetworks_67, e_Mo_findNetworks_70, vr_v, vr_n, vr_vh, vr_nh, vg_some, fF_23_0, fF_23_1, fF_23_2, fF_23_3, fI_23_3, fF_23_4, fF_23_5, fF_23_6, fI_23_6, fF_23_7, fF_23_8, fF_23_9, fF_23_10, fF_23_11, fF_23_12, fF_23_13, fF_23_14, fF_23_15, fF_23_16, fF_23_17, fF_23_18, fF_23_19, fI_23_19, fF_23_20, fI_23_20, fF_23_21, fI_23_21, fF_23_22, fI_23_22, fF_23_23, fI_23_23, fF_23_24, fI_23_24, fF_23_25, fI_23_25, fF_23_26, fI_23_26, fF_23_27, fI_23_27, fF_23_28, fI_23_28, fF_23_29, fF_23_30, fF_23_31, fR_23, fL_24, fW_24, fL_25, fW_25, fL_26, fW_26, fL_27, fW_27, fL_28, fW_28, fL_29, fW_29, fL_30, fW_30, fL_31, fW_31, fL_32, fW_32, fL_33, fW_33, fL_34, fW_34, fL_35, fW_35, fL_36, fW_36, fW_37, fL_38, fW_38, fL_39, fW_39, fL_40, fW_40, fL_41, fW_41, fL_42, fW_42, fL_43, fW_43, nI_ltI, nI_add, nI_mul, nI_clamp, mx_in_nI, hK, if_true, if_false, c_Mo_isNetwork, isN_th hT.2.1 hK, isN_th hI2.2.1 hK, h', h2, bI_0, tf, b28, q28, c_Mo_disturbed hI2.1 hI2.2.1 hK, d2]
      · refine ⟨fun c h1 h2 h3 => by rw [mx_up_nn h3, mx_up_nn h1, mx_up_nn h2]; exact hN.1 c h1 h2 h3, fun k hk => by rw [mx_up_nn (by decide), mx_up_ap, if_pos rfl, if_neg hk, mx_up_nn (by decide)]; exact hN.2.1 k hk, by rw [mx_up_nn (by decide), mx_up_ap, if_pos rfl, if_pos rfl, ek], fun i hi hi2 => ?_, fun i hi => ?_⟩
        · rw [mx_up_nn (by decide), mx_up_nn (by decide), mx_up_ap, if_pos rfl]
          by_cases e : i = K
          · rw [if_pos (by rw [e]), e]
          · rw [if_neg (fun z => e (cnt_inj hi2 h z))]
            exact hN.2.2.2.1 i (by omega) hi2
        · rw [mx_up_ap, if_pos rfl]
          by_cases e : i = K
          · rw [if_pos e, e]
          · rw [if_neg e, mx_up_nn (by decide), mx_up_nn (by decide)]; exact hN.2.2.2.2 i (by omega)) _ h0
  refine ⟨τ, ?_, r⟩
  refine Eq.trans ?_ (e.trans ?_)
  · simp (disch := first | exact fR_0 | exact fR_1 | exact fR_7 | exact fR_11 | exact fR_19 | exact fR_20 | exact fR_23 | omega) only [e_Mo_findNetworks_0, e_Mo_findNetworks_1, e_Mo_findNetworks_2, e_Mo_findNetworks_5, e_Mo_findNetworks_6, fF_23_0, fF_23_1, fF_23_2, fF_23_3, fI_23_3, fF_23_4, fF_23_5, fF_23_6, fI_23_6, fF_23_7, fF_23_8, fF_23_9, fF_23_10, fF_23_11, fF_23_12, fF_23_13, fF_23_14, fF_23_15, fF_23_16, fF_23_17, fF_23_18, fF_23_19, fI_23_19, fF_23_20, fI_23_20, fF_23_21, fI_23_21, fF_23_22, fI_23_22, fF_23_23, fI_23_23, fF_23_24, fI_23_24, fF_23_25, fI_23_25, fF_23_26, fI_23_26, fF_23_27, fI_23_27, fF_23_28, fI_23_28, fF_23_29, fF_23_30, fF_23_31, fR_23, fL_24, fW_24, fL_25, fW_25, fL_26, fW_26, fL_27, fW_27, fL_28, fW_28, fL_29, fW_29, fL_30, fW_30, fL_31, fW_31, fL_32, fW_32, fL_33, fW_33, fL_34, fW_34, fL_35, fW_35, fL_36, fW_36, fW_37, fL_38, fW_38, fL_39, fW_39, fL_40, fW_40, fL_41, fW_41, fL_42, fW_42, fL_43, fW_43, if_true]
  · simp (disch := first | exact fR_0 | exact fR_1 | exact fR_7 | exact fR_11 | exact fR_19 | exact fR_20 | exact fR_23 | omega) only [e_Mo_findNetworks_7, e_Mo_findNetworks_8, e_Mo_findNetworks_10, e_Mo_findNetworks_70, nI_ltI, nI_add, nI_mul, nI_clamp, mx_in_nI, Nat.lt_irrefl, if_false]
def dn (k : Nat) : Int32 := if k = 0 then -1 else nI (k - 1)
theorem dn_s {k : Nat} : dn (k + 1) = nI k := rfl
theorem dn_0 : dn 0 < 0 := by decide
theorem dn_sub {k : Nat} (h : k ≤ 6) : nI k - nI 1 = dn k := by
  revert h
  revert k
  have : ∀ k : Fin 7, nI k.val - nI 1 = dn k.val := by decide +kernel
  exact fun {k} h => this ⟨k, by omega⟩
theorem dn_dec {k : Nat} (h : k < 6) : nI k + (-1) = dn k := by
  have : ∀ k : Fin 6, nI k.val + (-1) = dn k.val := by decide +kernel
  exact this ⟨k, h⟩
theorem nlt0 {k : Nat} (h : k < 2 ^ 31) : (nI k < 0) = False := by simp [nI_pos h]
theorem val_46 {n : Nat} {A : Nat → Nat} {k : Nat} (hn : n ≤ 6) (hk : k ≤ 6) (h : ∀ i, i < k → A i < n) : val n A k < 46656 := by
  have h1 := val_b k h
  have h2 : n ^ k ≤ 6 ^ k := Nat.pow_le_pow_left hn k
  have h3 : (6 : Nat) ^ k ≤ 6 ^ 6 := Nat.pow_le_pow_right (by decide) hk
  have h4 : (6 : Nat) ^ 6 = 46656 := by decide
  omega
def bad (D : Nat → Nat → Bool) (N A : Nat → Nat) (k x : Nat) : Bool := decide (A k = A x) && D (N k) (N x)
theorem okN_bad {D : Nat → Nat → Bool} {N A : Nat → Nat} {m : Nat} : anN (fun k => anN (fun x => bad D N A k x) k) m = false ↔ okN D N m A := by
  constructor
  · intro h k hk x hx hd e
    have : anN (fun k => anN (fun x => bad D N A k x) k) m = true := (anN_iff m).mpr ⟨k, hk, (anN_iff k).mpr ⟨x, hx, by simp [bad, hd, e]⟩⟩
    rw [h] at this
    cases this
  · intro h
    cases hb : anN (fun k => anN (fun x => bad D N A k x) k) m with
    | false => rfl
    | true =>
      obtain ⟨k, hk, hb⟩ := (anN_iff m).mp hb
      obtain ⟨x, hx, hb⟩ := (anN_iff k).mp hb
      simp only [bad, Bool.and_eq_true, decide_eq_true_eq] at hb
      exact (h k hk x hx hb.2 hb.1).elim
def MB (D : Nat → Nat → Bool) (N : Nat → Nat) (m : Nat) (τ : mx_S) : Prop := τ 23 28 = nI m ∧ (∀ j, j < m → τ 41 j = nI (N j)) ∧ (∀ i, i < 6 → τ 42 i = mk (D i) 6)
theorem MB.mv {D : Nat → Nat → Bool} {N : Nat → Nat} {m : Nat} {τ τ' : mx_S} (h : MB D N m τ) (hf : ∀ c, ¬ c = 43 → τ' c = τ c) : MB D N m τ' := by
  refine ⟨by rw [hf 23 (by decide)]; exact h.1, fun j hj => by rw [hf 41 (by decide)]; exact h.2.1 j hj, fun i hi => by rw [hf 42 (by decide)]; exact h.2.2 i hi⟩
theorem c_Mo_mayBe {τ : mx_S} {D : Nat → Nat → Bool} {N A : Nat → Nat} {m n : Nat} (hm : m ≤ 6) (hn0 : 0 < n) (hn : n ≤ 6) (hN : ∀ j, j < m → N j < 6) (hA : ∀ k, k < m → A k < n) (hM : MB D N m τ) : ∃ τ', vv 1 168 0 [.ref 23, .int (nI (val n A m)), .int (nI n), .null, .null, .null, .null] [] (shF, τ) = some (some (.int (bI (!(anN (fun k => anN (fun x => bad D N A k x) k) m)))), (shF, τ')) ∧ (∀ c, ¬ c = 43 → τ' c = τ c) ∧ ∀ i, i < m → τ' 43 i = nI (A i) := by
  have nz : ¬ n = 0 := by omega
  have lp : ∀ k, k ≤ m → ∀ τ : mx_S, ∃ τ', vv 1 168 10 [.ref 23, .int (nI (val n A m)), .int (nI n), .int (nI (val n A k)), .int (dn k), .null, .null] [] (shF, τ) = vv 1 168 35 [.ref 23, .int (nI (val n A m)), .int (nI n), .int (nI 0), .int (dn 0), .null, .null] [] (shF, τ') ∧ (∀ c, ¬ c = 43 → τ' c = τ c) ∧ (∀ i, i < k → τ' 43 i = nI (A i)) ∧ (∀ i, k ≤ i → τ' 43 i = τ 43 i) := by
    intro k
    induction k with
    | zero =>
      intro _ τ
      refine ⟨τ, ?_, fun _ _ => rfl, fun i hi => by omega, fun _ _ => rfl⟩
      simp (disch := first | exact fR_0 | exact fR_1 | exact fR_7 | exact fR_11 | exact fR_19 | exact fR_20 | exact fR_23 | omega) only [e_Mo_mayBe_10, e_Mo_mayBe_12, dn_0, if_true, val]
    | succ k ih =>
      intro hk τ
      have hv := val_46 (n := n) (A := A) (k := k + 1) hn (by omega) (fun i hi => hA i (by omega))
      have hv1 := val_46 (n := n) (A := A) (k := k) hn (by omega) (fun i hi => hA i (by omega))
      have ha := hA k (by omega)
      have qd : val n A (k + 1) / n = val n A k := by
        rw [val, Nat.add_comm, Nat.add_mul_div_right _ _ hn0, Nat.div_eq_of_lt ha, Nat.zero_add]
      have qm : val n A (k + 1) - val n A k * n = A k := by rw [val]; omega
      have ql : val n A k * n ≤ val n A (k + 1) := by rw [val]; omega
      obtain ⟨τ', e, f1, f2, f3⟩ := ih (by omega) (mx_up τ 43 k (nI (A k)))
      refine ⟨τ', ?_, fun c hc => by rw [f1 c hc, mx_up_nn hc], fun i hi => ?_, fun i hi => by rw [f3 i (by omega), mx_up_ap, if_pos rfl, if_neg (by omega)]⟩
      · rw [← e, e_Mo_mayBe_10]
        have k31 : k < 2 ^ 31 := by omega
        simp (disch := first | exact fR_0 | exact fR_1 | exact fR_7 | exact fR_11 | exact fR_19 | exact fR_20 | exact fR_23 | omega) only [e_Mo_mayBe_12, e_Mo_mayBe_15, e_Mo_mayBe_16, e_Mo_mayBe_19, e_Mo_mayBe_21, e_Mo_mayBe_22, e_Mo_mayBe_23, e_Mo_mayBe_24, e_Mo_mayBe_25, e_Mo_mayBe_26, e_Mo_mayBe_27, e_Mo_mayBe_28, e_Mo_mayBe_29, e_Mo_mayBe_32, vr_v, vr_n, vr_vh, vr_nh, vg_some, fF_23_0, fF_23_1, fF_23_2, fF_23_3, fI_23_3, fF_23_4, fF_23_5, fF_23_6, fI_23_6, fF_23_7, fF_23_8, fF_23_9, fF_23_10, fF_23_11, fF_23_12, fF_23_13, fF_23_14, fF_23_15, fF_23_16, fF_23_17, fF_23_18, fF_23_19, fI_23_19, fF_23_20, fI_23_20, fF_23_21, fI_23_21, fF_23_22, fI_23_22, fF_23_23, fI_23_23, fF_23_24, fI_23_24, fF_23_25, fI_23_25, fF_23_26, fI_23_26, fF_23_27, fI_23_27, fF_23_28, fI_23_28, fF_23_29, fF_23_30, fF_23_31, fR_23, fL_24, fW_24, fL_25, fW_25, fL_26, fW_26, fL_27, fW_27, fL_28, fW_28, fL_29, fW_29, fL_30, fW_30, fL_31, fW_31, fL_32, fW_32, fL_33, fW_33, fL_34, fW_34, fL_35, fW_35, fL_36, fW_36, fW_37, fL_38, fW_38, fL_39, fW_39, fL_40, fW_40, fL_41, fW_41, fL_42, fW_42, fL_43, fW_43, nI_ltI, nI_add, nI_mul, nI_clamp, mx_in_nI, dn_s, nlt0 k31, if_false, if_true, neq0, nz, pk_div, qd, pk_sub, qm, dn_dec (show k < 6 by omega)]
      · by_cases e : i = k
        · subst e; rw [f3 i (Nat.le_refl i), mx_up_ap, if_pos rfl, if_pos rfl]
        · exact f2 i (by omega)
  obtain ⟨τ1, e1, f1, f2, -⟩ := lp m (Nat.le_refl m) τ
  have hM1 := hM.mv f1
  refine ⟨τ1, ?_, f1, f2⟩
  have s0 : vv 1 168 0 [.ref 23, .int (nI (val n A m)), .int (nI n), .null, .null, .null, .null] [] (shF, τ) = vv 1 168 10 [.ref 23, .int (nI (val n A m)), .int (nI n), .int (nI (val n A m)), .int (dn m), .null, .null] [] (shF, τ) := by
    simp (disch := first | exact fR_0 | exact fR_1 | exact fR_7 | exact fR_11 | exact fR_19 | exact fR_20 | exact fR_23 | omega) only [e_Mo_mayBe_0, e_Mo_mayBe_1, e_Mo_mayBe_2, e_Mo_mayBe_3, e_Mo_mayBe_6, e_Mo_mayBe_7, e_Mo_mayBe_8, vr_v, vr_n, vr_vh, vr_nh, vg_some, fF_23_0, fF_23_1, fF_23_2, fF_23_3, fI_23_3, fF_23_4, fF_23_5, fF_23_6, fI_23_6, fF_23_7, fF_23_8, fF_23_9, fF_23_10, fF_23_11, fF_23_12, fF_23_13, fF_23_14, fF_23_15, fF_23_16, fF_23_17, fF_23_18, fF_23_19, fI_23_19, fF_23_20, fI_23_20, fF_23_21, fI_23_21, fF_23_22, fI_23_22, fF_23_23, fI_23_23, fF_23_24, fI_23_24, fF_23_25, fI_23_25, fF_23_26, fI_23_26, fF_23_27, fI_23_27, fF_23_28, fI_23_28, fF_23_29, fF_23_30, fF_23_31, fR_23, fL_24, fW_24, fL_25, fW_25, fL_26, fW_26, fL_27, fW_27, fL_28, fW_28, fL_29, fW_29, fL_30, fW_30, fL_31, fW_31, fL_32, fW_32, fL_33, fW_33, fL_34, fW_34, fL_35, fW_35, fL_36, fW_36, fW_37, fL_38, fW_38, fL_39, fW_39, fL_40, fW_40, fL_41, fW_41, fL_42, fW_42, fL_43, fW_43, hM.1, dn_sub hm]
  rw [s0, e1]
  obtain ⟨x', e, -⟩ := itx (F := fun k (z : Value) => vv 1 168 41 [.ref 23, .int (nI (val n A m)), .int (nI n), .int (nI 0), .int (bI (!(anN (fun k => anN (fun x => bad D N A k x) k) k))), .int (nI k), z] [] (shF, τ1)) (I := fun _ _ => True) m (fun k z hk _ => by
    refine ⟨.int (nI k), ?_, trivial⟩
    have a0 : vv 1 168 41 [.ref 23, .int (nI (val n A m)), .int (nI n), .int (nI 0), .int (bI (!(anN (fun k => anN (fun x => bad D N A k x) k) k))), .int (nI k), z] [] (shF, τ1) = vv 1 168 53 [.ref 23, .int (nI (val n A m)), .int (nI n), .int (nI 0), .int (bI (!(anN (fun k => anN (fun x => bad D N A k x) k) k || anN (fun x => bad D N A k x) 0))), .int (nI k), .int (nI 0)] [] (shF, τ1) := by
      simp (disch := first | exact fR_0 | exact fR_1 | exact fR_7 | exact fR_11 | exact fR_19 | exact fR_20 | exact fR_23 | omega) only [e_Mo_mayBe_41, e_Mo_mayBe_43, e_Mo_mayBe_44, e_Mo_mayBe_47, e_Mo_mayBe_50, e_Mo_mayBe_51, vr_v, vr_n, vr_vh, vr_nh, vg_some, fF_23_0, fF_23_1, fF_23_2, fF_23_3, fI_23_3, fF_23_4, fF_23_5, fF_23_6, fI_23_6, fF_23_7, fF_23_8, fF_23_9, fF_23_10, fF_23_11, fF_23_12, fF_23_13, fF_23_14, fF_23_15, fF_23_16, fF_23_17, fF_23_18, fF_23_19, fI_23_19, fF_23_20, fI_23_20, fF_23_21, fI_23_21, fF_23_22, fI_23_22, fF_23_23, fI_23_23, fF_23_24, fI_23_24, fF_23_25, fI_23_25, fF_23_26, fI_23_26, fF_23_27, fI_23_27, fF_23_28, fI_23_28, fF_23_29, fF_23_30, fF_23_31, fR_23, fL_24, fW_24, fL_25, fW_25, fL_26, fW_26, fL_27, fW_27, fL_28, fW_28, fL_29, fW_29, fL_30, fW_30, fL_31, fW_31, fL_32, fW_32, fL_33, fW_33, fL_34, fW_34, fL_35, fW_35, fL_36, fW_36, fW_37, fL_38, fW_38, fL_39, fW_39, fL_40, fW_40, fL_41, fW_41, fL_42, fW_42, fL_43, fW_43, nI_ltI, nI_add, nI_mul, nI_clamp, mx_in_nI, hM1.1, hk, if_true, anN, Bool.or_false]
    have a1 := it (F := fun x => vv 1 168 53 [.ref 23, .int (nI (val n A m)), .int (nI n), .int (nI 0), .int (bI (!(anN (fun k => anN (fun x => bad D N A k x) k) k || anN (fun x => bad D N A k x) x))), .int (nI k), .int (nI x)] [] (shF, τ1)) k (fun x hx => by
      show vv _ _ _ _ _ _ = vv _ _ _ _ _ _
      rw [e_Mo_mayBe_53]
      rw [anN.eq_2 (fun x => bad D N A k x), ← Bool.or_assoc]
      have tk := f2 k hk
      have tx := f2 x (by omega)
      have ak := hA k hk
      have ax := hA x (by omega)
      have nk := hM1.2.1 k hk
      have nx := hM1.2.1 x (by omega)
      have k6 := hN k hk
      have x6 := hN x (by omega)
      have dk := hM1.2.2 (N k) k6
      cases h : (anN (fun k => anN (fun x => bad D N A k x) k) k || anN (fun x => bad D N A k x) x) with
      | true => simp (disch := first | exact fR_0 | exact fR_1 | exact fR_7 | exact fR_11 | exact fR_19 | exact fR_20 | exact fR_23 | omega) only [e_Mo_mayBe_55, e_Mo_mayBe_57, e_Mo_mayBe_60, e_Mo_mayBe_62, e_Mo_mayBe_111, e_Mo_mayBe_112, e_Mo_mayBe_114, e_Mo_mayBe_117, vr_v, vr_n, vr_vh, vr_nh, vg_some, fF_23_0, fF_23_1, fF_23_2, fF_23_3, fI_23_3, fF_23_4, fF_23_5, fF_23_6, fI_23_6, fF_23_7, fF_23_8, fF_23_9, fF_23_10, fF_23_11, fF_23_12, fF_23_13, fF_23_14, fF_23_15, fF_23_16, fF_23_17, fF_23_18, fF_23_19, fI_23_19, fF_23_20, fI_23_20, fF_23_21, fI_23_21, fF_23_22, fI_23_22, fF_23_23, fI_23_23, fF_23_24, fI_23_24, fF_23_25, fI_23_25, fF_23_26, fI_23_26, fF_23_27, fI_23_27, fF_23_28, fI_23_28, fF_23_29, fF_23_30, fF_23_31, fR_23, fL_24, fW_24, fL_25, fW_25, fL_26, fW_26, fL_27, fW_27, fL_28, fW_28, fL_29, fW_29, fL_30, fW_30, fL_31, fW_31, fL_32, fW_32, fL_33, fW_33, fL_34, fW_34, fL_35, fW_35, fL_36, fW_36, fW_37, fL_38, fW_38, fL_39, fW_39, fL_40, fW_40, fL_41, fW_41, fL_42, fW_42, fL_43, fW_43, nI_ltI, nI_add, nI_mul, nI_clamp, mx_in_nI, hx, if_true, if_false, Bool.not_true, bI_f, n0z, Bool.true_or]
      | false =>
        simp (disch := first | exact fR_0 | exact fR_1 | exact fR_7 | exact fR_11 | exact fR_19 | exact fR_20 | exact fR_23 | omega) only [e_Mo_mayBe_55, e_Mo_mayBe_57, e_Mo_mayBe_60, e_Mo_mayBe_62, e_Mo_mayBe_65, e_Mo_mayBe_66, e_Mo_mayBe_69, e_Mo_mayBe_71, e_Mo_mayBe_72, e_Mo_mayBe_73, e_Mo_mayBe_76, e_Mo_mayBe_78, e_Mo_mayBe_79, e_Mo_mayBe_82, e_Mo_mayBe_83, e_Mo_mayBe_86, e_Mo_mayBe_87, e_Mo_mayBe_90, e_Mo_mayBe_92, e_Mo_mayBe_93, e_Mo_mayBe_94, e_Mo_mayBe_95, e_Mo_mayBe_98, e_Mo_mayBe_100, e_Mo_mayBe_101, e_Mo_mayBe_104, e_Mo_mayBe_107, e_Mo_mayBe_108, e_Mo_mayBe_111, e_Mo_mayBe_112, e_Mo_mayBe_114, e_Mo_mayBe_117, vr_v, vr_n, vr_vh, vr_nh, vg_some, fF_23_0, fF_23_1, fF_23_2, fF_23_3, fI_23_3, fF_23_4, fF_23_5, fF_23_6, fI_23_6, fF_23_7, fF_23_8, fF_23_9, fF_23_10, fF_23_11, fF_23_12, fF_23_13, fF_23_14, fF_23_15, fF_23_16, fF_23_17, fF_23_18, fF_23_19, fI_23_19, fF_23_20, fI_23_20, fF_23_21, fI_23_21, fF_23_22, fI_23_22, fF_23_23, fI_23_23, fF_23_24, fI_23_24, fF_23_25, fI_23_25, fF_23_26, fI_23_26, fF_23_27, fI_23_27, fF_23_28, fI_23_28, fF_23_29, fF_23_30, fF_23_31, fR_23, fL_24, fW_24, fL_25, fW_25, fL_26, fW_26, fL_27, fW_27, fL_28, fW_28, fL_29, fW_29, fL_30, fW_30, fL_31, fW_31, fL_32, fW_32, fL_33, fW_33, fL_34, fW_34, fL_35, fW_35, fL_36, fW_36, fW_37, fL_38, fW_38, fL_39, fW_39, fL_40, fW_40, fL_41, fW_41, fL_42, fW_42, fL_43, fW_43, nI_ltI, nI_add, nI_mul, nI_clamp, mx_in_nI, hx, if_true, if_false, Bool.not_false, bI_t, n1z, Bool.false_or, tk, tx, nk, nx, dk, nI_eq, c_Mo_isIn, mk_has x6, bI_0, bad]
        by_cases e1 : A k = A x
        · cases D (N k) (N x) <;> simp [e1, bI]
        · simp [e1, bI])
    have a2 : vv 1 168 53 [.ref 23, .int (nI (val n A m)), .int (nI n), .int (nI 0), .int (bI (!(anN (fun k => anN (fun x => bad D N A k x) k) k || anN (fun x => bad D N A k x) k))), .int (nI k), .int (nI k)] [] (shF, τ1) = vv 1 168 41 [.ref 23, .int (nI (val n A m)), .int (nI n), .int (nI 0), .int (bI (!(anN (fun k => anN (fun x => bad D N A k x) k) (k + 1)))), .int (nI (k + 1)), .int (nI k)] [] (shF, τ1) := by
      rw [anN.eq_2 (fun k => anN (fun x => bad D N A k x) k)]
      simp (disch := first | exact fR_0 | exact fR_1 | exact fR_7 | exact fR_11 | exact fR_19 | exact fR_20 | exact fR_23 | omega) only [e_Mo_mayBe_53, e_Mo_mayBe_55, e_Mo_mayBe_57, e_Mo_mayBe_120, e_Mo_mayBe_123, nI_ltI, nI_add, nI_mul, nI_clamp, mx_in_nI, Nat.lt_irrefl, if_false]
    exact a0.trans (a1.trans a2)) .null trivial
  refine Eq.trans ?_ (e.trans ?_)
  · simp (disch := first | exact fR_0 | exact fR_1 | exact fR_7 | exact fR_11 | exact fR_19 | exact fR_20 | exact fR_23 | omega) only [e_Mo_mayBe_35, e_Mo_mayBe_36, e_Mo_mayBe_38, e_Mo_mayBe_39, anN, Bool.not_false, bI_t]
  · simp (disch := first | exact fR_0 | exact fR_1 | exact fR_7 | exact fR_11 | exact fR_19 | exact fR_20 | exact fR_23 | omega) only [e_Mo_mayBe_41, e_Mo_mayBe_43, e_Mo_mayBe_44, e_Mo_mayBe_47, e_Mo_mayBe_126, e_Mo_mayBe_128_b, vr_v, vr_n, vr_vh, vr_nh, vg_some, fF_23_0, fF_23_1, fF_23_2, fF_23_3, fI_23_3, fF_23_4, fF_23_5, fF_23_6, fI_23_6, fF_23_7, fF_23_8, fF_23_9, fF_23_10, fF_23_11, fF_23_12, fF_23_13, fF_23_14, fF_23_15, fF_23_16, fF_23_17, fF_23_18, fF_23_19, fI_23_19, fF_23_20, fI_23_20, fF_23_21, fI_23_21, fF_23_22, fI_23_22, fF_23_23, fI_23_23, fF_23_24, fI_23_24, fF_23_25, fI_23_25, fF_23_26, fI_23_26, fF_23_27, fI_23_27, fF_23_28, fI_23_28, fF_23_29, fF_23_30, fF_23_31, fR_23, fL_24, fW_24, fL_25, fW_25, fL_26, fW_26, fL_27, fW_27, fL_28, fW_28, fL_29, fW_29, fL_30, fW_30, fL_31, fW_31, fL_32, fW_32, fL_33, fW_33, fL_34, fW_34, fL_35, fW_35, fL_36, fW_36, fW_37, fL_38, fW_38, fL_39, fW_39, fL_40, fW_40, fL_41, fW_41, fL_42, fW_42, fL_43, fW_43, nI_ltI, nI_add, nI_mul, nI_clamp, mx_in_nI, hM1.1, Nat.lt_irrefl, if_false]
