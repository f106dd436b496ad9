/-! turns, as the class finds them -/
theorem ite1 {R : Type} {F : Nat → R} {p : Nat → Bool} {r : R} : ∀ n, (∀ k, k < n → p k = false → F k = F (k + 1)) → (∀ k, k < n → p k = true → F k = r) → F 0 = if anN p n = true then r else F n := by
  intro n
  induction n with
  | zero => intro _ _; simp [anN]
  | succ n ih =>
    intro h1 h2
    rw [ih (fun k hk => h1 k (by omega)) (fun k hk => h2 k (by omega)), anN]
    cases h : anN p n with
    | true => simp
    | false =>
      cases h' : p n with
      | true => simp [h2 n (by omega) h']
      | false => simp [h1 n (by omega) h']
def TR (σ τ : mx_S) (T : Nat → Nat) (m : Nat) : Prop := (∀ c, ¬ c = 22 → τ c = σ c) ∧ ∀ i, i < m → τ 22 i = nI (T i)
def okT (D : Nat → Nat → Bool) (T : Nat → Nat) (m : Nat) : Prop := ∀ k, k < m → ∀ x, x < k → D k x = true → ¬ T k = T x
def lexle (T U : Nat → Nat) : Prop := (∀ i, i < 6 → T i = U i) ∨ ∃ j, j < 6 ∧ (∀ i, i < j → T i = U i) ∧ T j < U j
theorem c_Ne_isFree {σ τ : mx_S} {T : Nat → Nat} {D : Nat → Nat → Bool} {key v : Nat} (hD : ∀ k, k < 6 → σ 21 k = mk (D k) 6) (hT : TR σ τ T key) (hT6 : ∀ i, i < key → T i < 6) (hk : key < 6) (hv : v < 6) : vv 1 44 0 [.ref 21, .ref 22, .int (nI key), .int (nI v), .null] [] (shF, τ) = some (some (.int (bI (!(anN (fun o => D key o && decide (T o = v)) key)))), (shF, τ)) := by
  rw [e_Ne_isFree_0, e_Ne_isFree_1]
  have d21 : τ 21 key = mk (D key) 6 := by rw [hT.1 21 (by decide)]; exact hD key hk
  refine (ite1 (F := fun k => vv 1 44 3 [.ref 21, .ref 22, .int (nI key), .int (nI v), .int (nI k)] [] (shF, τ)) (p := fun o => D key o && decide (T o = v)) (r := some (some (.int (nI 0)), (shF, τ))) key (fun k hk' hp => ?_) (fun k hk' hp => ?_)).trans ?_
  · rw [e_Ne_isFree_3]
    have t := hT.2 k hk'
    have t6 := hT6 k hk'
    have k6 : k < 6 := by omega
    cases h : D key k with
    | false => simp (disch := first | exact fR_0 | exact fR_1 | exact fR_7 | exact fR_11 | exact fR_19 | exact fR_20 | exact fR_23 | omega) only [e_Ne_isFree_0, e_Ne_isFree_1, e_Ne_isFree_5, e_Ne_isFree_6, e_Ne_isFree_9, e_Ne_isFree_10, e_Ne_isFree_11, e_Ne_isFree_12, e_Ne_isFree_14, e_Ne_isFree_17, e_Ne_isFree_20, e_Ne_isFree_21, e_Ne_isFree_23, e_Ne_isFree_24, e_Ne_isFree_25, e_Ne_isFree_28, e_Ne_isFree_29_0, e_Ne_isFree_29_1, e_Ne_isFree_29_b, e_Ne_isFree_30, e_Ne_isFree_33, e_Ne_isFree_36, e_Ne_isFree_37_0, e_Ne_isFree_37_1, e_Ne_isFree_37_b, vr_v, vr_n, vr_vh, vr_nh, vg_some, fL_21, fL_22, nI_ltI, nI_add, nI_mul, nI_clamp, mx_in_nI, hk', if_true, d21, c_Se_has, mk_has k6, h, bI_0]
    | true =>
      have h' : ¬ T k = v := by simpa [h] using hp
      simp (disch := first | exact fR_0 | exact fR_1 | exact fR_7 | exact fR_11 | exact fR_19 | exact fR_20 | exact fR_23 | omega) only [e_Ne_isFree_0, e_Ne_isFree_1, e_Ne_isFree_5, e_Ne_isFree_6, e_Ne_isFree_9, e_Ne_isFree_10, e_Ne_isFree_11, e_Ne_isFree_12, e_Ne_isFree_14, e_Ne_isFree_17, e_Ne_isFree_20, e_Ne_isFree_21, e_Ne_isFree_23, e_Ne_isFree_24, e_Ne_isFree_25, e_Ne_isFree_28, e_Ne_isFree_29_0, e_Ne_isFree_29_1, e_Ne_isFree_29_b, e_Ne_isFree_30, e_Ne_isFree_33, e_Ne_isFree_36, e_Ne_isFree_37_0, e_Ne_isFree_37_1, e_Ne_isFree_37_b, vr_v, vr_n, vr_vh, vr_nh, vg_some, fL_21, fL_22, nI_ltI, nI_add, nI_mul, nI_clamp, mx_in_nI, hk', if_true, if_false, d21, c_Se_has, mk_has k6, h, bI_0, tf, t, nI_eq, h']
  · have t := hT.2 k hk'
    have t6 := hT6 k hk'
    have k6 : k < 6 := by omega
    simp only [Bool.and_eq_true, decide_eq_true_eq] at hp
    simp (disch := first | exact fR_0 | exact fR_1 | exact fR_7 | exact fR_11 | exact fR_19 | exact fR_20 | exact fR_23 | omega) only [e_Ne_isFree_3, e_Ne_isFree_5, e_Ne_isFree_6, e_Ne_isFree_9, e_Ne_isFree_10, e_Ne_isFree_11, e_Ne_isFree_12, e_Ne_isFree_14, e_Ne_isFree_17, e_Ne_isFree_20, e_Ne_isFree_21, e_Ne_isFree_23, e_Ne_isFree_24, e_Ne_isFree_25, e_Ne_isFree_28, e_Ne_isFree_29_0, vr_v, vr_n, vr_vh, vr_nh, vg_some, fL_21, fL_22, nI_ltI, nI_add, nI_mul, nI_clamp, mx_in_nI, hk', if_true, if_false, d21, c_Se_has, mk_has k6, hp.1, bI_0, tf, t, nI_eq, hp.2, eq_self]
  · cases anN (fun o => D key o && decide (T o = v)) key with
    | true => simp [bI]
    | false =>
      simp (disch := first | exact fR_0 | exact fR_1 | exact fR_7 | exact fR_11 | exact fR_19 | exact fR_20 | exact fR_23 | omega) only [e_Ne_isFree_3, e_Ne_isFree_5, e_Ne_isFree_6, e_Ne_isFree_36, e_Ne_isFree_37_1, nI_ltI, nI_add, nI_mul, nI_clamp, mx_in_nI, Nat.lt_irrefl, if_false, Bool.false_eq_true]
      rfl
theorem TR.put {σ τ : mx_S} {T : Nat → Nat} {key v : Nat} (h : TR σ τ T key) : TR σ (mx_up τ 22 key (nI v)) (fun i => if i = key then v else T i) (key + 1) := by
  refine ⟨fun c hc => by rw [mx_up_nn hc]; exact h.1 c hc, fun i hi => ?_⟩
  rw [mx_up_ap, if_pos rfl]
  show _ = nI (if i = key then v else T i)
  by_cases e : i = key
  · rw [if_pos e, if_pos e]
  · rw [if_neg e, if_neg e]
    exact h.2 i (by omega)
/-- a row that keeps T's first ones and fits -/
def ext (D : Nat → Nat → Bool) (n : Nat) (T : Nat → Nat) (key : Nat) (U : Nat → Nat) : Prop := (∀ i, i < key → U i = T i) ∧ (∀ i, i < 6 → U i < n) ∧ okT D U 6
def RES (σ : mx_S) (D : Nat → Nat → Bool) (n : Nat) (T : Nat → Nat) (key : Nat) (b : Bool) (τ' : mx_S) : Prop := (b = true ∧ ∃ T', TR σ τ' T' 6 ∧ ext D n T key T' ∧ ∀ U, ext D n T key U → lexle T' U) ∨ (b = false ∧ TR σ τ' T key ∧ ∀ U, ext D n T key U → False)
theorem c_Ne_number {σ : mx_S} {D : Nat → Nat → Bool} {n : Nat} (hn : n ≤ 6) (hD : ∀ k, k < 6 → σ 21 k = mk (D k) 6) : ∀ d key, key + d = 6 → ∀ (τ : mx_S) (T : Nat → Nat), TR σ τ T key → (∀ i, i < key → T i < n) → okT D T key → ∃ τ' b, vv (d + 3) 43 0 [.ref 21, .ref 22, .int (nI key), .int (nI n), .null] [] (shF, τ) = some (some (.int (bI b)), (shF, τ')) ∧ RES σ D n T key b τ' := by
  intro d
  induction d with
  | zero =>
    intro key hk τ T hT hTn hok
    have : key = 6 := by omega
    subst this
    refine ⟨τ, true, ?_, Or.inl ⟨rfl, T, hT, ⟨fun _ _ => rfl, hTn, hok⟩, fun U hU => Or.inl (fun i hi => (hU.1 i hi).symm)⟩⟩
    simp (disch := first | exact fR_0 | exact fR_1 | exact fR_7 | exact fR_11 | exact fR_19 | exact fR_20 | exact fR_23 | omega) only [e_Ne_number_0, e_Ne_number_1, e_Ne_number_3, e_Ne_number_6, e_Ne_number_7_1, nI_ltI, nI_add, nI_mul, nI_clamp, mx_in_nI, Nat.lt_irrefl, if_false, bI_t]
  | succ d ih =>
    intro key hk τ T hT hTn hok
    have hk6 : key < 6 := by omega
    have lp : ∀ m v, v + m = n → ∀ τ, TR σ τ T key → (∀ U, ext D n T key U → U key < v → False) → ∃ τ' b, vv (d + 1 + 3) 43 11 [.ref 21, .ref 22, .int (nI key), .int (nI n), .int (nI v)] [] (shF, τ) = some (some (.int (bI b)), (shF, τ')) ∧ RES σ D n T key b τ' := by
      intro m
      induction m with
      | zero =>
        intro v hv τ hT hU
        have : v = n := by omega
        subst this
        refine ⟨τ, false, ?_, Or.inr ⟨rfl, hT, fun U h => hU U h (h.2.1 key hk6)⟩⟩
        simp (disch := first | exact fR_0 | exact fR_1 | exact fR_7 | exact fR_11 | exact fR_19 | exact fR_20 | exact fR_23 | omega) only [e_Ne_number_11, e_Ne_number_13, e_Ne_number_14, e_Ne_number_56, e_Ne_number_57_0, nI_ltI, nI_add, nI_mul, nI_clamp, mx_in_nI, Nat.lt_irrefl, if_false, bI_f]
      | succ m ihm =>
        intro v hv τ hT hU
        have hvn : v < n := by omega
        have cf := c_Ne_isFree hD hT (fun i hi => by have := hTn i hi; omega) hk6 (show v < 6 by omega)
        cases hf : anN (fun o => D key o && decide (T o = v)) key with
        | true =>
          obtain ⟨o, ho, e⟩ := (anN_iff key).mp hf
          simp only [Bool.and_eq_true, decide_eq_true_eq] at e
          obtain ⟨τ', b, e1, r⟩ := ihm (v + 1) (by omega) τ hT (fun U hX hlt => by
            by_cases ev : U key = v
            · exact hX.2.2 key hk6 o ho e.1 (by rw [ev, hX.1 o ho, e.2])
            · exact hU U hX (by omega))
          refine ⟨τ', b, ?_, r⟩
          rw [← e1]
          simp (disch := first | exact fR_0 | exact fR_1 | exact fR_7 | exact fR_11 | exact fR_19 | exact fR_20 | exact fR_23 | omega) only [e_Ne_number_11, e_Ne_number_13, e_Ne_number_14, e_Ne_number_17, e_Ne_number_18, e_Ne_number_19, e_Ne_number_20, e_Ne_number_22, e_Ne_number_25, e_Ne_number_28, e_Ne_number_50, e_Ne_number_53, vr_v, vr_n, vr_vh, vr_nh, vg_some, nI_ltI, nI_add, nI_mul, nI_clamp, mx_in_nI, hvn, if_true, cf, hf, Bool.not_true, bI_0]
        | false =>
          have hT1 := hT.put (v := v)
          have ok1 : okT D (fun i => if i = key then v else T i) (key + 1) := by
            intro k hk1 x hx hd
            show ¬ (if k = key then v else T k) = (if x = key then v else T x)
            have hxk : ¬ x = key := by omega
            rw [if_neg hxk]
            by_cases ek : k = key
            · subst ek
              rw [if_pos rfl]
              intro z
              have : anN (fun o => D k o && decide (T o = v)) k = true := (anN_iff k).mpr ⟨x, hx, by simp [hd, z]⟩
              rw [hf] at this
              exact Bool.false_ne_true this
            · rw [if_neg ek]
              exact hok k (by omega) x hx hd
          obtain ⟨τ2, b, e2, r2⟩ := ih (key + 1) (by omega) _ _ hT1 (fun i hi => by
            show (if i = key then v else T i) < n
            by_cases ei : i = key
            · rw [if_pos ei]; exact hvn
            · rw [if_neg ei]; exact hTn i (by omega)) ok1
          have up1 : ∀ U, ext D n T key U → U key = v → ext D n (fun i => if i = key then v else T i) (key + 1) U := fun U hX ev => ⟨fun i hi => by
            show U i = if i = key then v else T i
            by_cases ei : i = key
            · rw [if_pos ei, ei, ev]
            · rw [if_neg ei]; exact hX.1 i (by omega), hX.2.1, hX.2.2⟩
          rcases r2 with ⟨rfl, T', t1, t2, t3⟩ | ⟨rfl, t1, t2⟩
          · have tk : T' key = v := by have := t2.1 key (by omega); simpa using this
            have ti : ∀ i, i < key → T' i = T i := fun i hi => by have := t2.1 i (by omega); rw [this]; show (if i = key then v else T i) = T i; rw [if_neg (by omega)]
            refine ⟨τ2, true, ?_, Or.inl ⟨rfl, T', t1, ⟨ti, t2.2.1, t2.2.2⟩, fun U hX => ?_⟩⟩
            · simp (disch := first | exact fR_0 | exact fR_1 | exact fR_7 | exact fR_11 | exact fR_19 | exact fR_20 | exact fR_23 | omega) only [e_Ne_number_11, e_Ne_number_13, e_Ne_number_14, e_Ne_number_17, e_Ne_number_18, e_Ne_number_19, e_Ne_number_20, e_Ne_number_22, e_Ne_number_25, e_Ne_number_31, e_Ne_number_32, e_Ne_number_33, e_Ne_number_35, e_Ne_number_36, e_Ne_number_37, e_Ne_number_38, e_Ne_number_39, e_Ne_number_40, e_Ne_number_41, e_Ne_number_42, e_Ne_number_45, e_Ne_number_48, e_Ne_number_49_1, vr_v, vr_n, vr_vh, vr_nh, vg_some, fW_22, nI_ltI, nI_add, nI_mul, nI_clamp, mx_in_nI, hvn, if_true, if_false, cf, hf, Bool.not_false, bI_0, tf, e2, bI_t, n1z]
            · by_cases ev : U key = v
              · exact t3 U (up1 U hX ev)
              · have : ¬ U key < v := fun z => hU U hX z
                exact Or.inr ⟨key, hk6, fun i hi => by rw [ti i hi, hX.1 i hi], by omega⟩
          · have hT2 : TR σ τ2 T key := ⟨t1.1, fun i hi => by have := t1.2 i (by omega); rw [this]; show nI (if i = key then v else T i) = _; rw [if_neg (by omega)]⟩
            obtain ⟨τ', b, e1, r⟩ := ihm (v + 1) (by omega) τ2 hT2 (fun U hX hlt => by
              by_cases ev : U key = v
              · exact t2 U (up1 U hX ev)
              · exact hU U hX (by omega))
            refine ⟨τ', b, ?_, r⟩
            rw [← e1]
            simp (disch := first | exact fR_0 | exact fR_1 | exact fR_7 | exact fR_11 | exact fR_19 | exact fR_20 | exact fR_23 | omega) only [e_Ne_number_11, e_Ne_number_13, e_Ne_number_14, e_Ne_number_17, e_Ne_number_18, e_Ne_number_19, e_Ne_number_20, e_Ne_number_22, e_Ne_number_25, e_Ne_number_31, e_Ne_number_32, e_Ne_number_33, e_Ne_number_35, e_Ne_number_36, e_Ne_number_37, e_Ne_number_38, e_Ne_number_39, e_Ne_number_40, e_Ne_number_41, e_Ne_number_42, e_Ne_number_45, e_Ne_number_50, e_Ne_number_53, vr_v, vr_n, vr_vh, vr_nh, vg_some, fW_22, nI_ltI, nI_add, nI_mul, nI_clamp, mx_in_nI, hvn, if_true, if_false, cf, hf, Bool.not_false, bI_0, tf, e2, bI_f, n0z]
    obtain ⟨τ', b, e1, r⟩ := lp n 0 (by omega) τ hT (fun U _ h => by omega)
    refine ⟨τ', b, ?_, r⟩
    rw [← e1]
    simp (disch := first | exact fR_0 | exact fR_1 | exact fR_7 | exact fR_11 | exact fR_19 | exact fR_20 | exact fR_23 | omega) only [e_Ne_number_0, e_Ne_number_1, e_Ne_number_3, e_Ne_number_8, e_Ne_number_9, nI_ltI, nI_add, nI_mul, nI_clamp, mx_in_nI, hk6, if_true]
/-- what the class finds: n turns, the first row of all, and none with less -/
def FND (σ : mx_S) (D : Nat → Nat → Bool) (n : Nat) (T : Nat → Nat) (τ : mx_S) : Prop := 1 ≤ n ∧ n ≤ 6 ∧ TR σ τ T 6 ∧ ext D n T 0 T ∧ (∀ U, ext D n U 0 U → lexle T U) ∧ ∀ n' U, n' < n → ext D n' U 0 U → False
theorem ext0 {D : Nat → Nat → Bool} {n : Nat} {T U : Nat → Nat} (h : ext D n U 0 U) : ext D n T 0 U := ⟨fun i hi => by omega, h.2.1, h.2.2⟩
theorem ext0' {D : Nat → Nat → Bool} {n : Nat} {T U : Nat → Nat} (h : ext D n T 0 U) : ext D n U 0 U := ⟨fun i hi => rfl, h.2.1, h.2.2⟩
theorem ext_id {D : Nat → Nat → Bool} : ext D 6 (fun i => i) 0 (fun i => i) := ⟨fun _ _ => rfl, fun i hi => hi, fun k _ x hx _ => by show ¬ k = x; omega⟩
theorem c_Ne_giveTurns {σ : mx_S} (hc : CW σ) : ∃ n T τ, vv 10 41 0 [.ref 20, .null] [] (shF, σ) = some (some (.int (nI n)), (shF, τ)) ∧ FND (dst σ (DD σ)) (DD σ) n T τ := by
  have hD : ∀ k, k < 6 → dst σ (DD σ) 21 k = mk (DD σ k) 6 := fun k hk => dst_21 hk
  have lp : ∀ m n, n + m = 6 → 1 ≤ n → ∀ τ, TR (dst σ (DD σ)) τ (fun _ => 0) 0 → (∀ n' U, n' < n → ext (DD σ) n' U 0 U → False) → ∃ n2 T τ', vv 10 41 6 [.ref 20, .int (nI n)] [] (shF, τ) = some (some (.int (nI n2)), (shF, τ')) ∧ FND (dst σ (DD σ)) (DD σ) n2 T τ' := by
    intro m
    induction m with
    | zero =>
      intro n hn h1 τ hT hno
      have : n = 6 := by omega
      subst this
      obtain ⟨τ', b, e, r⟩ := c_Ne_number (n := 6) (by decide) hD 6 0 rfl τ (fun _ => 0) hT (fun i hi => by omega) (fun k hk => by omega)
      rcases r with ⟨rfl, T', t1, t2, t3⟩ | ⟨rfl, t1, t2⟩
      · refine ⟨6, T', τ', ?_, by decide, by decide, t1, ext0' t2, fun U hU => t3 U (ext0 hU), hno⟩
        simp (disch := first | exact fR_0 | exact fR_1 | exact fR_7 | exact fR_11 | exact fR_19 | exact fR_20 | exact fR_23 | omega) only [e_Ne_giveTurns_6, e_Ne_giveTurns_7, e_Ne_giveTurns_9, e_Ne_giveTurns_36, e_Ne_giveTurns_37, e_Ne_giveTurns_40, e_Ne_giveTurns_41, e_Ne_giveTurns_44, e_Ne_giveTurns_45, e_Ne_giveTurns_47, e_Ne_giveTurns_50, e_Ne_giveTurns_51, e_Ne_giveTurns_53, vr_v, vr_n, vr_vh, vr_nh, vg_some, fF_20_1, fF_20_2, nI_ltI, nI_add, nI_mul, nI_clamp, mx_in_nI, Nat.lt_irrefl, if_false, e]
      · exact (t2 _ (ext0 ext_id)).elim
    | succ m ih =>
      intro n hn h1 τ hT hno
      have hn6 : n < 6 := by omega
      obtain ⟨τ', b, e, r⟩ := c_Ne_number (n := n) (by omega) hD 6 0 rfl τ (fun _ => 0) hT (fun i hi => by omega) (fun k hk => by omega)
      rcases r with ⟨rfl, T', t1, t2, t3⟩ | ⟨rfl, t1, t2⟩
      · refine ⟨n, T', τ', ?_, h1, by omega, t1, ext0' t2, fun U hU => t3 U (ext0 hU), hno⟩
        simp (disch := first | exact fR_0 | exact fR_1 | exact fR_7 | exact fR_11 | exact fR_19 | exact fR_20 | exact fR_23 | omega) only [e_Ne_giveTurns_6, e_Ne_giveTurns_7, e_Ne_giveTurns_9, e_Ne_giveTurns_12, e_Ne_giveTurns_13, e_Ne_giveTurns_16, e_Ne_giveTurns_17, e_Ne_giveTurns_20, e_Ne_giveTurns_21, e_Ne_giveTurns_22, e_Ne_giveTurns_25, e_Ne_giveTurns_28, e_Ne_giveTurns_29, vr_v, vr_n, vr_vh, vr_nh, vg_some, fF_20_1, fF_20_2, nI_ltI, nI_add, nI_mul, nI_clamp, mx_in_nI, hn6, if_true, if_false, e, bI_0, tf]
      · obtain ⟨n2, T2, τ2, e2, r2⟩ := ih (n + 1) (by omega) (by omega) τ' t1 (fun n' U hlt hU => by
          by_cases en : n' = n
          · subst en; exact t2 U (ext0 hU)
          · exact hno n' U (by omega) hU)
        refine ⟨n2, T2, τ2, ?_, r2⟩
        rw [← e2]
        rw [e_Ne_giveTurns_6]
        simp (disch := first | exact fR_0 | exact fR_1 | exact fR_7 | exact fR_11 | exact fR_19 | exact fR_20 | exact fR_23 | omega) only [e_Ne_giveTurns_7, e_Ne_giveTurns_9, e_Ne_giveTurns_12, e_Ne_giveTurns_13, e_Ne_giveTurns_16, e_Ne_giveTurns_17, e_Ne_giveTurns_20, e_Ne_giveTurns_21, e_Ne_giveTurns_22, e_Ne_giveTurns_25, e_Ne_giveTurns_30, e_Ne_giveTurns_33, vr_v, vr_n, vr_vh, vr_nh, vg_some, fF_20_1, fF_20_2, nI_ltI, nI_add, nI_mul, nI_clamp, mx_in_nI, hn6, if_true, if_false, e, bI_0, tf]
  obtain ⟨n, T, τ', e, r⟩ := lp 5 1 (by decide) (by decide) (dst σ (DD σ)) ⟨fun _ _ => rfl, fun i hi => by omega⟩ (fun n' U hlt hU => by have := hU.2.1 0 (by decide); omega)
  refine ⟨n, T, τ', ?_, r⟩
  rw [← e]
  simp (disch := first | exact fR_0 | exact fR_1 | exact fR_7 | exact fR_11 | exact fR_19 | exact fR_20 | exact fR_23 | omega) only [e_Ne_giveTurns_0, e_Ne_giveTurns_1, e_Ne_giveTurns_4, e_Ne_giveTurns_5, vr_v, vr_n, vr_vh, vr_nh, vg_some, c_Ne_meet hc]
