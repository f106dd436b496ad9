/-! nearest ways: the class -/
def rw1 (σ : mx_S) (c : Nat) (f : Nat → Int32) (n : Nat) : mx_S := fun c' => if c' = c then (fun i => if i < n then f i else σ c i) else σ c'
theorem rw1_nn {σ : mx_S} {c c' n : Nat} {f : Nat → Int32} (h : ¬ c' = c) : rw1 σ c f n c' = σ c' := by unfold rw1; rw [if_neg h]
theorem rw1_at {σ : mx_S} {c i n : Nat} {f : Nat → Int32} (h : i < n) : rw1 σ c f n c i = f i := by unfold rw1; rw [if_pos rfl, if_pos h]
theorem rw1_0 {σ : mx_S} {c : Nat} {f : Nat → Int32} : rw1 σ c f 0 = σ := by
  funext c' i
  unfold rw1
  by_cases h : c' = c
  · subst h; rw [if_pos rfl, if_neg (Nat.not_lt_zero i)]
  · rw [if_neg h]
theorem rw1_up {σ : mx_S} {c n : Nat} {f : Nat → Int32} : mx_up (rw1 σ c f n) c n (f n) = rw1 σ c f (n + 1) := by
  funext c' i
  rw [mx_up_ap]
  by_cases h : c' = c
  · subst h
    unfold rw1
    rw [if_pos rfl, if_pos rfl, if_pos rfl]
    by_cases e : i = n
    · subst e; rw [if_pos rfl, if_pos (Nat.lt_succ_self i)]
    · rw [if_neg e]
      by_cases e2 : i < n
      · rw [if_pos e2, if_pos (by omega)]
      · rw [if_neg e2, if_neg (by omega)]
  · rw [if_neg h, rw1_nn h, rw1_nn h]
theorem rw1_set {σ : mx_S} {c k n : Nat} {f g : Nat → Int32} {x : Int32} (hk : k < n) (hg : ∀ i, i < n → g i = if i = k then x else f i) : mx_up (rw1 σ c f n) c k x = rw1 σ c g n := by
  funext c' i
  rw [mx_up_ap]
  by_cases h : c' = c
  · subst h
    unfold rw1
    rw [if_pos rfl, if_pos rfl, if_pos rfl]
    by_cases e2 : i < n
    · rw [if_pos e2, if_pos e2, hg i e2]
    · rw [if_neg e2, if_neg e2, if_neg (by omega)]
  · rw [if_neg h, rw1_nn h, rw1_nn h]
theorem rw1_upc {σ : mx_S} {c c' k n : Nat} {f : Nat → Int32} {x : Int32} (h : ¬ c = c') : mx_up (rw1 σ c f n) c' k x = rw1 (mx_up σ c' k x) c f n := by
  funext d i
  rw [mx_up_ap]
  by_cases e : d = c'
  · subst e
    rw [if_pos rfl, rw1_nn (fun z => h z.symm), rw1_nn (fun z => h z.symm), mx_up_ap, if_pos rfl]
  · rw [if_neg e]
    by_cases e2 : d = c
    · subst e2
      unfold rw1
      rw [if_pos rfl, if_pos rfl, mx_up_nn e]
    · rw [rw1_nn e2, rw1_nn e2, mx_up_nn e]
theorem rw1_comm {σ : mx_S} {c c' n n' : Nat} {f g : Nat → Int32} (h : ¬ c = c') : rw1 (rw1 σ c f n) c' g n' = rw1 (rw1 σ c' g n') c f n := by
  funext d i
  by_cases e : d = c'
  · subst e
    have h' : ¬ d = c := fun z => h z.symm
    simp [rw1, h']
  · rw [rw1_nn e]
    by_cases e2 : d = c
    · subst e2
      simp [rw1, h]
    · rw [rw1_nn e2, rw1_nn e2, rw1_nn e]
def sN (σ : mx_S) (N s t : Nat) : Nat := symN (spd σ s t 0).toNatClampNeg (spd σ s t 1).toNatClampNeg N
def CN (σ : mx_S) (N s t : Nat) : Nat := if rch σ s t = true then sN σ N s t * 8 + 1 else 100000000
theorem symN_b {F G N : Nat} (hF : F ≤ 80) (hG : G ≤ 80) (hN : 0 < N) (hN2 : N ≤ 2000) : symN F G N ≤ 33670 := by
  by_cases h0 : 0 < F + G
  · obtain ⟨l1, l2, -⟩ := lef_b h0 hN
    have q : (8 * N - 1) / (10 * (F + G)) ≤ (8 * N - 1) / 10 := Nat.div_le_div_left (by omega) (by decide)
    have q2 : (8 * N - 1) / 10 ≤ 1599 := by omega
    have a1 : qup (lef F G N - 10 * F) G ≤ lef F G N - 10 * F + G - 1 := Nat.div_le_self _ _
    have a2 : qup (lef F G N) F ≤ lef F G N + F - 1 := Nat.div_le_self _ _
    unfold symN
    split <;> omega
  · have f0 : F = 0 := by omega
    have g0 : G = 0 := by omega
    subst f0
    subst g0
    unfold symN qup
    split
    · simp
    · simp
theorem sN_b {σ : mx_S} {N s t : Nat} (hN : 0 < N) (hN2 : N ≤ 2000) : sN σ N s t ≤ 33670 := by
  unfold sN
  obtain ⟨F, hF, e1⟩ := spd_n σ s t 0
  obtain ⟨G, hG, e2⟩ := spd_n σ s t 1
  rw [e1, e2, nI_clamp (by omega), nI_clamp (by omega)]
  exact symN_b hF hG hN hN2
theorem rch_c {σ : mx_S} (hI : INV σ) {a b N : Nat} (ha : a < 6) (hb : b < 6) (h : rch σ a b = true) (hN : 0 < N) (hN2 : N ≤ 2000) : vv 1 85 0 [.ref 1, .int (nI a), .int (nI b), .int (nI N), .null, .null, .null, .null, .null, .null, .null] [] (shF, σ) = some (some (.int (nI (sN σ N a b))), (shF, σ)) ∧ vv 3 135 0 [.ref 23, .int (nI a), .int (nI b), .int (nI N), .null, .null, .null, .null, .null] [] (shF, σ) = some (some (.int (nI (sN σ N a b))), (shF, σ)) := by
  obtain ⟨hij, F, G, hF, hG, h0, e1, e2, e3, e4⟩ := rch_n hI ha hb h
  have : sN σ N a b = symN F G N := by unfold sN; rw [e1, e2, nI_clamp (by omega), nI_clamp (by omega)]
  rw [this]
  exact ⟨c_Wi_symbolsFor WI_F ha hb e3 e4 hF hG h0 hN hN2, c_Mo_lastsOf hI.2.1 ha hb hij e1 e2 hF hG h0 hN hN2⟩
theorem rch_of {σ σ' : mx_S} {a b : Nat} (h4 : σ' 4 = σ 4) (h6 : σ' 6 = σ 6) : rch σ' a b = rch σ a b := by unfold rch hx; rw [h4, h6]
theorem sN_of {σ σ' : mx_S} {N a b : Nat} (h1 : σ' 1 = σ 1) (h2 : σ' 2 = σ 2) (h3 : σ' 3 = σ 3) : sN σ' N a b = sN σ N a b := by
  have e : ∀ k, spd σ' a b k = spd σ a b k := fun k => spd_of (fun t _ => bC_of (by rw [h1]) (by rw [h2]) (by rw [h3]))
  unfold sN
  rw [e, e]
theorem CN_of {σ σ' : mx_S} (h : ∀ c, c ≤ 6 → σ' c = σ c) (N : Nat) : CN σ' N = CN σ N := by
  funext a b
  unfold CN
  rw [rch_of (h 4 (by decide)) (h 6 (by decide)), sN_of (h 1 (by decide)) (h 2 (by decide)) (h 3 (by decide))]
theorem CN_pos {σ : mx_S} {N : Nat} : ∀ s t, 0 < CN σ N s t := fun s t => by unfold CN; split <;> omega
theorem CN_le {σ : mx_S} {N : Nat} (hN : 0 < N) (hN2 : N ≤ 2000) : ∀ s t, CN σ N s t ≤ 100000000 := fun s t => by
  have := sN_b (σ := σ) (s := s) (t := t) hN hN2
  unfold CN; split <;> omega
theorem CN_M {σ : mx_S} {N : Nat} (hN : 0 < N) (hN2 : N ≤ 2000) : ∀ s t, CN σ N s t < 100000000 → CN σ N s t ≤ 269361 := fun s t h => by
  have := sN_b (σ := σ) (s := s) (t := t) hN hN2
  unfold CN at h ⊢
  split
  · omega
  · rename_i z; rw [if_neg z] at h; omega
theorem CN_8 {σ : mx_S} {N : Nat} : ∀ s t, CN σ N s t < 100000000 → CN σ N s t % 8 = 1 := fun s t h => by
  unfold CN at h ⊢
  split
  · omega
  · rename_i z; rw [if_neg z] at h; omega
def WF (σ : mx_S) (N : Nat) : Nat → Int32 := fun e => nI (CN σ N (e / 6) (e % 6))
theorem WF_at {σ : mx_S} {N a b : Nat} (hb : b < 6) : WF σ N (a * 6 + b) = nI (CN σ N a b) := by
  unfold WF
  rw [show (a * 6 + b) / 6 = a by omega, show (a * 6 + b) % 6 = b by omega]
theorem INV_rw {σ : mx_S} (hI : INV σ) {c n : Nat} {f : Nat → Int32} (hc : (7 ≤ c ∧ c ≤ 10) ∨ (27 ≤ c ∧ c ≤ 28)) : INV (rw1 σ c f n) := INV_of hI (fun d hd => rw1_nn (by omega)) (fun k _ => by rw [rw1_nn (by omega)])
theorem c_Wa_weighSteps {σ : mx_S} (hI : INV σ) {N : Nat} (hN : 0 < N) (hN2 : N ≤ 2000) : vv 3 53 0 [.ref 7, .int (nI N), .null, .null, .null] [] (shF, σ) = some (none, (shF, rw1 σ 8 (WF σ N) 36)) := by
  rw [e_Wa_weighSteps_0, e_Wa_weighSteps_1]
  obtain ⟨x', e, -⟩ := itx (F := fun a (x : Value × Value) => vv 3 53 2 [.ref 7, .int (nI N), .int (nI a), x.1, x.2] [] (shF, rw1 σ 8 (WF σ N) (a * 6))) (I := fun _ _ => True) 6 (fun a x ha _ => by
    obtain ⟨y', e1, -⟩ := itx (F := fun b (y : Value) => vv 3 53 10 [.ref 7, .int (nI N), .int (nI a), .int (nI b), y] [] (shF, rw1 σ 8 (WF σ N) (a * 6 + b))) (I := fun _ _ => True) 6 (fun b y hb _ => by
      refine ⟨.int (bI (rch σ a b)), ?_, trivial⟩
      show vv _ _ _ _ _ _ = vv _ _ _ _ _ _
      rw [e_Wa_weighSteps_10]
      have hJ : INV (rw1 σ 8 (WF σ N) (a * 6 + b)) := INV_rw hI (Or.inl (by decide))
      have hr : rch (rw1 σ 8 (WF σ N) (a * 6 + b)) a b = rch σ a b := rch_of (rw1_nn (by decide)) (rw1_nn (by decide))
      have hq : sN (rw1 σ 8 (WF σ N) (a * 6 + b)) N a b = sN σ N a b := sN_of (rw1_nn (by decide)) (rw1_nn (by decide)) (rw1_nn (by decide))
      have k36 : a * 6 + b < 36 := by omega
      have hu : mx_up (rw1 σ 8 (WF σ N) (a * 6 + b)) 8 (a * 6 + b) (nI (CN σ N a b)) = rw1 σ 8 (WF σ N) (a * 6 + (b + 1)) := by
        rw [← WF_at hb]
        exact rw1_up
      cases h : rch σ a b with
      | false =>
        have hc : CN σ N a b = 100000000 := by unfold CN; rw [h]; rfl
        rw [hc] at hu
        simp (disch := first | exact fR_0 | exact fR_1 | exact fR_7 | exact fR_11 | exact fR_19 | exact fR_20 | exact fR_23 | omega) only [e_Wa_weighSteps_11, e_Wa_weighSteps_13, e_Wa_weighSteps_16, e_Wa_weighSteps_17, e_Wa_weighSteps_20, e_Wa_weighSteps_21, e_Wa_weighSteps_22, e_Wa_weighSteps_25, e_Wa_weighSteps_27, e_Wa_weighSteps_28, e_Wa_weighSteps_31, e_Wa_weighSteps_32, e_Wa_weighSteps_34, e_Wa_weighSteps_35, e_Wa_weighSteps_36, e_Wa_weighSteps_37, e_Wa_weighSteps_39, e_Wa_weighSteps_60, e_Wa_weighSteps_62, e_Wa_weighSteps_63, e_Wa_weighSteps_66, vr_v, vr_n, vr_vh, vr_nh, vg_some, fF_7_0, fF_7_1, fL_8, fW_8, nI_ltI, nI_add, nI_mul, nI_clamp, mx_in_nI, hb, k36, if_true, if_false, c_Wi_reaches WI_F ha hb, hr, h, bI_0, tf, hu]
      | true =>
        have hc : CN σ N a b = sN σ N a b * 8 + 1 := by unfold CN; rw [h]; rfl
        rw [hc] at hu
        have hs := (rch_c hJ ha hb (by rw [hr]; exact h) hN hN2).1
        rw [hq] at hs
        simp (disch := first | exact fR_0 | exact fR_1 | exact fR_7 | exact fR_11 | exact fR_19 | exact fR_20 | exact fR_23 | omega) only [e_Wa_weighSteps_11, e_Wa_weighSteps_13, e_Wa_weighSteps_16, e_Wa_weighSteps_17, e_Wa_weighSteps_20, e_Wa_weighSteps_21, e_Wa_weighSteps_22, e_Wa_weighSteps_25, e_Wa_weighSteps_27, e_Wa_weighSteps_28, e_Wa_weighSteps_31, e_Wa_weighSteps_32, e_Wa_weighSteps_34, e_Wa_weighSteps_35, e_Wa_weighSteps_36, e_Wa_weighSteps_37, e_Wa_weighSteps_39, e_Wa_weighSteps_42, e_Wa_weighSteps_43, e_Wa_weighSteps_46, e_Wa_weighSteps_47, e_Wa_weighSteps_48, e_Wa_weighSteps_49, e_Wa_weighSteps_52, e_Wa_weighSteps_54, e_Wa_weighSteps_55, e_Wa_weighSteps_56, e_Wa_weighSteps_57, e_Wa_weighSteps_62, e_Wa_weighSteps_63, e_Wa_weighSteps_66, vr_v, vr_n, vr_vh, vr_nh, vg_some, fF_7_0, fF_7_1, fL_8, fW_8, nI_ltI, nI_add, nI_mul, nI_clamp, mx_in_nI, hb, k36, if_true, if_false, c_Wi_reaches WI_F ha hb, hr, h, bI_0, tf, hs, hu]) x.2 trivial
    refine ⟨(.int (nI 6), y'), ?_, trivial⟩
    show vv _ _ _ _ _ _ = vv _ _ _ _ _ _
    have s0 : vv 3 53 2 [.ref 7, .int (nI N), .int (nI a), x.1, x.2] [] (shF, rw1 σ 8 (WF σ N) (a * 6)) = vv 3 53 10 [.ref 7, .int (nI N), .int (nI a), .int (nI 0), x.2] [] (shF, rw1 σ 8 (WF σ N) (a * 6 + 0)) := by
      simp (disch := first | exact fR_0 | exact fR_1 | exact fR_7 | exact fR_11 | exact fR_19 | exact fR_20 | exact fR_23 | omega) only [e_Wa_weighSteps_2, e_Wa_weighSteps_3, e_Wa_weighSteps_5, e_Wa_weighSteps_8, e_Wa_weighSteps_9, nI_ltI, nI_add, nI_mul, nI_clamp, mx_in_nI, ha, if_true, Nat.add_zero]
    refine s0.trans (e1.trans ?_)
    rw [e_Wa_weighSteps_10]
    simp (disch := first | exact fR_0 | exact fR_1 | exact fR_7 | exact fR_11 | exact fR_19 | exact fR_20 | exact fR_23 | omega) only [e_Wa_weighSteps_11, e_Wa_weighSteps_13, e_Wa_weighSteps_69, e_Wa_weighSteps_72, nI_ltI, nI_add, nI_mul, nI_clamp, mx_in_nI, Nat.lt_irrefl, if_false, show (a + 1) * 6 = a * 6 + 6 by omega]) (.null, .null) trivial
  simp only [Nat.zero_mul, rw1_0] at e
  refine e.trans ?_
  simp (disch := first | exact fR_0 | exact fR_1 | exact fR_7 | exact fR_11 | exact fR_19 | exact fR_20 | exact fR_23 | omega) only [e_Wa_weighSteps_2, e_Wa_weighSteps_3, e_Wa_weighSteps_5, e_Wa_weighSteps_75, nI_ltI, nI_add, nI_mul, nI_clamp, mx_in_nI, Nat.lt_irrefl, if_false]
def D9 (S : mx_S) (x : Nat → Nat) : mx_S := rw1 S 9 (fun i => nI (x i)) 6
theorem D9_at {S : mx_S} {x : Nat → Nat} {i : Nat} (h : i < 6) : D9 S x 9 i = nI (x i) := rw1_at h
theorem D9_nn {S : mx_S} {x : Nat → Nat} {c : Nat} (h : ¬ c = 9) : D9 S x c = S c := rw1_nn h
theorem D9_up {S : mx_S} {x y : Nat → Nat} {k v : Nat} (hk : k < 6) (hy : ∀ i, i < 6 → y i = if i = k then v else x i) : mx_up (D9 S x) 9 k (nI v) = D9 S y := rw1_set hk (fun i hi => by
  show nI (y i) = _
  rw [hy i hi]
  split <;> rfl)
theorem c_Wa_through {τ : mx_S} {s t c d : Nat} (hs : s < 6) (ht : t < 6) (h8 : τ 8 (s * 6 + t) = nI c) (h9 : τ 9 t = nI d) : vv 0 56 0 [.ref 7, .int (nI s), .int (nI t)] [] (shF, τ) = some (some (.int (nI (c + d))), (shF, τ)) := by
  have k36 : s * 6 + t < 36 := by omega
  simp (disch := first | exact fR_0 | exact fR_1 | exact fR_7 | exact fR_11 | exact fR_19 | exact fR_20 | exact fR_23 | omega) only [e_Wa_through_0, e_Wa_through_1, e_Wa_through_4, e_Wa_through_5, e_Wa_through_7, e_Wa_through_8, e_Wa_through_9, e_Wa_through_10, e_Wa_through_11, e_Wa_through_12, e_Wa_through_15, e_Wa_through_16, e_Wa_through_17, e_Wa_through_18, vr_v, vr_n, vr_vh, vr_nh, vg_some, fF_7_1, fF_7_2, fL_8, fL_9, nI_ltI, nI_add, nI_mul, nI_clamp, mx_in_nI, k36, ht, if_true, h8, h9]
theorem mm0 {a b : Nat} (ha : a < 2 ^ 31) (hb : b < 2 ^ 31) : mx_mm 0 (nI a) (nI b) = nI (if b < a then b else a) := by
  unfold mx_mm
  rw [if_pos rfl]
  by_cases h : b < a
  · rw [if_pos ((nI_ltI hb ha).mpr h), if_pos h]
  · rw [if_neg (fun z => h ((nI_ltI hb ha).mp z)), if_neg h]
section WY
variable {S : mx_S} {C : Nat → Nat → Nat} {x : Nat → Nat}
theorem lin_s {s t : Nat} (ht : t < 6) : lin C x (s * 6 + (t + 1)) = rl C (lin C x (s * 6 + t)) s t := by
  show lin C x (s * 6 + t + 1) = _
  rw [lin, show (s * 6 + t) / 6 = s by omega, show (s * 6 + t) % 6 = t by omega]
theorem c_Wa_shorten (h8 : ∀ s t, s < 6 → t < 6 → S 8 (s * 6 + t) = nI (C s t)) (hC : ∀ s t, C s t ≤ 100000000) (hx : ∀ i, x i ≤ 100000000) {s : Nat} (hs : s < 6) : vv 1 55 0 [.ref 7, .int (nI s), .null] [] (shF, D9 S (lin C x (s * 6))) = some (none, (shF, D9 S (lin C x (s * 6 + 6)))) := by
  rw [e_Wa_shorten_0, e_Wa_shorten_1]
  refine (it (F := fun t => vv 1 55 2 [.ref 7, .int (nI s), .int (nI t)] [] (shF, D9 S (lin C x (s * 6 + t)))) 6 (fun t ht => ?_)).trans ?_
  · show vv _ _ _ _ _ _ = vv _ _ _ _ _ _
    rw [e_Wa_shorten_2]
    have b1 : lin C x (s * 6 + t) s ≤ 100000000 := Nat.le_trans (lin_le (d := 0) _ (Nat.zero_le _)) (hx s)
    have b2 : lin C x (s * 6 + t) t ≤ 100000000 := Nat.le_trans (lin_le (d := 0) _ (Nat.zero_le _)) (hx t)
    have b3 := hC s t
    have hth := c_Wa_through (τ := D9 S (lin C x (s * 6 + t))) hs ht (by rw [D9_nn (by decide)]; exact h8 s t hs ht) (D9_at ht)
    have hu : mx_up (D9 S (lin C x (s * 6 + t))) 9 s (nI (if C s t + lin C x (s * 6 + t) t < lin C x (s * 6 + t) s then C s t + lin C x (s * 6 + t) t else lin C x (s * 6 + t) s)) = D9 S (lin C x (s * 6 + (t + 1))) := D9_up hs (fun i _ => by rw [lin_s ht]; rfl)
    simp (disch := first | exact fR_0 | exact fR_1 | exact fR_7 | exact fR_11 | exact fR_19 | exact fR_20 | exact fR_23 | omega) only [e_Wa_shorten_3, e_Wa_shorten_5, e_Wa_shorten_8, e_Wa_shorten_9, e_Wa_shorten_12, e_Wa_shorten_13, e_Wa_shorten_14, e_Wa_shorten_17, e_Wa_shorten_18, e_Wa_shorten_19, e_Wa_shorten_20, e_Wa_shorten_21, e_Wa_shorten_22, e_Wa_shorten_25, e_Wa_shorten_28, e_Wa_shorten_29, e_Wa_shorten_32, vr_v, vr_n, vr_vh, vr_nh, vg_some, fF_7_2, fL_9, fW_9, nI_ltI, nI_add, nI_mul, nI_clamp, mx_in_nI, ht, hs, if_true, D9_at hs, hth, mm0, hu]
  · simp (disch := first | exact fR_0 | exact fR_1 | exact fR_7 | exact fR_11 | exact fR_19 | exact fR_20 | exact fR_23 | omega) only [e_Wa_shorten_2, e_Wa_shorten_3, e_Wa_shorten_5, e_Wa_shorten_35, nI_ltI, nI_add, nI_mul, nI_clamp, mx_in_nI, Nat.lt_irrefl, if_false]
def x0 (b : Nat) : Nat → Nat := fun i => if i = b then 0 else 100000000
theorem x0_le {b : Nat} : ∀ i, x0 b i ≤ 100000000 := fun i => by unfold x0; split <;> omega
theorem c_Wa_measureTo (h8 : ∀ s t, s < 6 → t < 6 → S 8 (s * 6 + t) = nI (C s t)) (hC : ∀ s t, C s t ≤ 100000000) {b : Nat} (hb : b < 6) : vv 2 54 0 [.ref 7, .int (nI b), .null, .null] [] (shF, S) = some (none, (shF, D9 S (rn C (x0 b) 5))) := by
  rw [e_Wa_measureTo_0, e_Wa_measureTo_1]
  have l1 : vv 2 54 2 [.ref 7, .int (nI b), .int (nI 0), .null] [] (shF, S) = vv 2 54 2 [.ref 7, .int (nI b), .int (nI 6), .null] [] (shF, D9 S (x0 b)) := by
    have := it (F := fun k => vv 2 54 2 [.ref 7, .int (nI b), .int (nI k), .null] [] (shF, rw1 S 9 (fun i => nI (x0 b i)) k)) 6 (fun k hk => by
      show vv _ _ _ _ _ _ = vv _ _ _ _ _ _
      rw [e_Wa_measureTo_2]
      have hu := rw1_up (σ := S) (c := 9) (n := k) (f := fun i => nI (x0 b i))
      by_cases e : k = b
      · subst e
        have hx : x0 k k = 0 := by unfold x0; rw [if_pos rfl]
        rw [hx] at hu
        simp (disch := first | exact fR_0 | exact fR_1 | exact fR_7 | exact fR_11 | exact fR_19 | exact fR_20 | exact fR_23 | omega) only [e_Wa_measureTo_3, e_Wa_measureTo_5, e_Wa_measureTo_8, e_Wa_measureTo_9, e_Wa_measureTo_12, e_Wa_measureTo_13, e_Wa_measureTo_14, e_Wa_measureTo_15, e_Wa_measureTo_18, e_Wa_measureTo_19, e_Wa_measureTo_24, e_Wa_measureTo_25, e_Wa_measureTo_28, vr_v, vr_n, vr_vh, vr_nh, vg_some, fF_7_2, fL_9, fW_9, nI_ltI, nI_add, nI_mul, nI_clamp, mx_in_nI, hk, if_true, eq_self, hu]
      · have hx : x0 b k = 100000000 := by unfold x0; rw [if_neg e]
        rw [hx] at hu
        simp (disch := first | exact fR_0 | exact fR_1 | exact fR_7 | exact fR_11 | exact fR_19 | exact fR_20 | exact fR_23 | omega) only [e_Wa_measureTo_3, e_Wa_measureTo_5, e_Wa_measureTo_8, e_Wa_measureTo_9, e_Wa_measureTo_12, e_Wa_measureTo_13, e_Wa_measureTo_14, e_Wa_measureTo_15, e_Wa_measureTo_22, e_Wa_measureTo_24, e_Wa_measureTo_25, e_Wa_measureTo_28, vr_v, vr_n, vr_vh, vr_nh, vg_some, fF_7_2, fL_9, fW_9, nI_ltI, nI_add, nI_mul, nI_clamp, mx_in_nI, hk, if_true, if_false, nI_eq, e, hu])
    simp only [rw1_0] at this
    exact this
  rw [l1]
  simp (disch := first | exact fR_0 | exact fR_1 | exact fR_7 | exact fR_11 | exact fR_19 | exact fR_20 | exact fR_23 | omega) only [e_Wa_measureTo_2, e_Wa_measureTo_3, e_Wa_measureTo_5, e_Wa_measureTo_31, e_Wa_measureTo_32, nI_ltI, nI_add, nI_mul, nI_clamp, mx_in_nI, Nat.lt_irrefl, if_false]
  obtain ⟨x', e, -⟩ := itx (F := fun r (x : Value) => vv 2 54 33 [.ref 7, .int (nI b), .int (nI (r + 1)), x] [] (shF, D9 S (rn C (x0 b) r))) (I := fun _ _ => True) 5 (fun r x hr _ => by
    refine ⟨.int (nI 6), ?_, trivial⟩
    show vv _ _ _ _ _ _ = vv _ _ _ _ _ _
    have hr6 : r + 1 < 6 := by omega
    have hx : ∀ i, rn C (x0 b) r i ≤ 100000000 := fun i => Nat.le_trans (rn_le (d := 0) r (Nat.zero_le _)) (x0_le i)
    have s0 : vv 2 54 33 [.ref 7, .int (nI b), .int (nI (r + 1)), x] [] (shF, D9 S (rn C (x0 b) r)) = vv 2 54 41 [.ref 7, .int (nI b), .int (nI (r + 1)), .int (nI 0)] [] (shF, D9 S (lin C (rn C (x0 b) r) (0 * 6))) := by
      simp (disch := first | exact fR_0 | exact fR_1 | exact fR_7 | exact fR_11 | exact fR_19 | exact fR_20 | exact fR_23 | omega) only [e_Wa_measureTo_33, e_Wa_measureTo_34, e_Wa_measureTo_36, e_Wa_measureTo_39, e_Wa_measureTo_40, nI_ltI, nI_add, nI_mul, nI_clamp, mx_in_nI, hr6, if_true, Nat.zero_mul, lin]
    have s1 := it (F := fun s => vv 2 54 41 [.ref 7, .int (nI b), .int (nI (r + 1)), .int (nI s)] [] (shF, D9 S (lin C (rn C (x0 b) r) (s * 6)))) 6 (fun s hs => by
      show vv _ _ _ _ _ _ = vv _ _ _ _ _ _
      rw [e_Wa_measureTo_41]
      simp (disch := first | exact fR_0 | exact fR_1 | exact fR_7 | exact fR_11 | exact fR_19 | exact fR_20 | exact fR_23 | omega) only [e_Wa_measureTo_42, e_Wa_measureTo_44, e_Wa_measureTo_47, e_Wa_measureTo_48, e_Wa_measureTo_49, e_Wa_measureTo_52, e_Wa_measureTo_55, vr_v, vr_n, vr_vh, vr_nh, vg_some, nI_ltI, nI_add, nI_mul, nI_clamp, mx_in_nI, hs, if_true, c_Wa_shorten h8 hC hx hs, show (s + 1) * 6 = s * 6 + 6 by omega])
    refine s0.trans (s1.trans ?_)
    rw [e_Wa_measureTo_41]
    simp (disch := first | exact fR_0 | exact fR_1 | exact fR_7 | exact fR_11 | exact fR_19 | exact fR_20 | exact fR_23 | omega) only [e_Wa_measureTo_42, e_Wa_measureTo_44, e_Wa_measureTo_58, e_Wa_measureTo_61, nI_ltI, nI_add, nI_mul, nI_clamp, mx_in_nI, Nat.lt_irrefl, if_false, rn]) .null trivial
  refine e.trans ?_
  simp (disch := first | exact fR_0 | exact fR_1 | exact fR_7 | exact fR_11 | exact fR_19 | exact fR_20 | exact fR_23 | omega) only [e_Wa_measureTo_33, e_Wa_measureTo_34, e_Wa_measureTo_36, e_Wa_measureTo_64, nI_ltI, nI_add, nI_mul, nI_clamp, mx_in_nI, Nat.lt_irrefl, if_false]
end WY
