/-! the wire: setters, sets -/
theorem lix_inj {a b t x y u : Nat} (ha : a < 6) (hb : b < 6) (ht : t < 8) (hx : x < 6) (hy : y < 6) (hu : u < 8) (h : lix x y u = lix a b t) : u = t ∧ ((x = a ∧ y = b) ∨ (x = b ∧ y = a)) := by
  unfold lix at h
  split at h <;> split at h <;> omega
theorem nix_inj {s t k y u l : Nat} (ht : t < 8) (hk : k < 2) (hu : u < 8) (hl : l < 2) (h : nix y u l = nix s t k) : y = s := by
  unfold nix at h
  omega
theorem c_Wi_setLoss {sh : List mx_C} {σ : mx_S} (hw : WI sh) {a b t : Nat} (ha : a < 6) (hb : b < 6) (hab : ¬ a = b) (ht : t < 8) {v : Int32} (hW : WOK σ) : ∃ σ', vv 3 60 0 [.ref 1, .int (nI a), .int (nI b), .int (nI t), .int v, .null, .null] [] (sh, σ) = some (some (.int (σ 2 (lix a b t))), (sh, σ')) ∧ WOK σ' ∧ ∀ c, ¬ c = 5 → ¬ c = 6 → σ' c = mx_up σ 2 (lix a b t) v c := by
  have h1 := lix_lt ha hb ht
  refine ⟨tn (tn (mx_up σ 2 (lix a b t) v) a b) b a, ?_, ?_, fun c h5 h6 => by rw [tn_c h5 h6, tn_c h5 h6]⟩
  · simp (disch := first | exact wR hw | omega) only [e_Wi_setLoss_0, e_Wi_setLoss_1, e_Wi_setLoss_2, e_Wi_setLoss_3, e_Wi_setLoss_6, e_Wi_setLoss_8, e_Wi_setLoss_9, e_Wi_setLoss_12, e_Wi_setLoss_14, e_Wi_setLoss_15, e_Wi_setLoss_17, e_Wi_setLoss_18, e_Wi_setLoss_21, e_Wi_setLoss_23, e_Wi_setLoss_25, e_Wi_setLoss_26, e_Wi_setLoss_27, e_Wi_setLoss_28, e_Wi_setLoss_29, e_Wi_setLoss_32, e_Wi_setLoss_33, e_Wi_setLoss_34, e_Wi_setLoss_35, e_Wi_setLoss_38, e_Wi_setLoss_40, vr_v, vr_n, vr_vh, vr_nh, vg_some, wF_0 hw, wF_1 hw, wF_2 hw, wF_3 hw, wF_4 hw, wF_5 hw, wI_5 hw, wR hw, wL_2 hw, wL_3 hw, wL_4 hw, wL_5 hw, wL_6 hw, wW_4 hw, wW_2 hw, wW_3 hw, wW_5 hw, wW_6 hw, nI_ltI, nI_add, nI_mul, nI_clamp, mx_in_nI, if_true, c_Wi_lossAt ha hb, c_Wi_tune hw ha hb, c_Wi_tune hw hb ha]
  · have hq : WQ (mx_up σ 2 (lix a b t) v) (fun x y => ¬ ((x = a ∧ y = b) ∨ (x = b ∧ y = a))) := hW.wq.move (mx_up_nn (by decide)) (mx_up_nn (by decide)) (fun x y hx hy hxy hg => ⟨trivial, fun k hk => spd_of (fun u hu => bC_of (by rw [mx_up_nn (by decide)]) (by
      rw [mx_up_ap, if_pos rfl, if_neg (fun z => hg (lix_inj ha hb ht hx hy hu z).2)]) (by rw [mx_up_nn (by decide)]))⟩)
    refine ((hq.tune ha hb hab).tune hb ha (Ne.symm hab)).all (fun x y hx hy hxy => ?_)
    by_cases e1 : x = a ∧ y = b
    · exact Or.inl (Or.inr e1)
    · by_cases e2 : x = b ∧ y = a
      · exact Or.inr e2
      · exact Or.inl (Or.inl (fun z => z.elim e1 e2))
theorem c_Wi_setNoise {sh : List mx_C} {σ : mx_S} (hw : WI sh) {s t k : Nat} (hs : s < 6) (ht : t < 8) (hk : k < 2) {v : Int32} (hW : WOK σ) : ∃ σ', vv 4 61 0 [.ref 1, .int (nI s), .int (nI t), .int (nI k), .int v, .null, .null] [] (sh, σ) = some (some (.int (σ 3 (nix s t k))), (sh, σ')) ∧ WOK σ' ∧ ∀ c, ¬ c = 5 → ¬ c = 6 → σ' c = mx_up σ 3 (nix s t k) v c := by
  have h1 := nix_lt hs ht hk
  have hq : WQ (mx_up σ 3 (nix s t k) v) (fun x y => ¬ y = s) := hW.wq.move (mx_up_nn (by decide)) (mx_up_nn (by decide)) (fun x y hx hy hxy hg => ⟨trivial, fun l hl => spd_of (fun u hu => bC_of (by rw [mx_up_nn (by decide)]) (by rw [mx_up_nn (by decide)]) (by
      rw [mx_up_ap, if_pos rfl, if_neg (fun z => hg (nix_inj ht hk hu hl z))]))⟩)
  obtain ⟨σ', e, i1, i2⟩ := c_Wi_tuneTo hw hs hq
  refine ⟨σ', ?_, i1.all (fun x y _ _ _ => ?_), i2⟩
  · simp (disch := first | exact wR hw | omega) only [e_Wi_setNoise_0, e_Wi_setNoise_1, e_Wi_setNoise_2, e_Wi_setNoise_3, e_Wi_setNoise_6, e_Wi_setNoise_8, e_Wi_setNoise_9, e_Wi_setNoise_12, e_Wi_setNoise_14, e_Wi_setNoise_15, e_Wi_setNoise_17, e_Wi_setNoise_18, e_Wi_setNoise_21, e_Wi_setNoise_23, e_Wi_setNoise_25, e_Wi_setNoise_26, e_Wi_setNoise_27, e_Wi_setNoise_28, e_Wi_setNoise_31, e_Wi_setNoise_33, vr_v, vr_n, vr_vh, vr_nh, vg_some, wF_0 hw, wF_1 hw, wF_2 hw, wF_3 hw, wF_4 hw, wF_5 hw, wI_5 hw, wR hw, wL_2 hw, wL_3 hw, wL_4 hw, wL_5 hw, wL_6 hw, wW_4 hw, wW_2 hw, wW_3 hw, wW_5 hw, wW_6 hw, nI_ltI, nI_add, nI_mul, nI_clamp, mx_in_nI, if_true, c_Wi_noiseAt, e]
  · by_cases e : y = s
    · exact Or.inr e
    · exact Or.inl e
theorem c_Wi_setMargin {sh : List mx_C} {σ : mx_S} (hw : WI sh) {v : Int32} (hW : WOK σ) : ∃ σ', vv 5 62 0 [.ref 1, .int v, .null] [] (sh, σ) = some (some (.int (σ 1 5)), (sh, σ')) ∧ WOK σ' ∧ ∀ c, ¬ c = 5 → ¬ c = 6 → σ' c = mx_up σ 1 5 v c := by
  have hq : WQ (mx_up σ 1 5 v) (fun x y => False) := hW.wq.move (mx_up_nn (by decide)) (mx_up_nn (by decide)) (fun x y hx hy hxy hg => hg.elim)
  obtain ⟨σ', e, i1, i2⟩ := c_Wi_tuneAll hw hq
  refine ⟨σ', ?_, i1, i2⟩
  simp (disch := first | exact wR hw | omega) only [e_Wi_setMargin_0, e_Wi_setMargin_1, e_Wi_setMargin_4, e_Wi_setMargin_5, e_Wi_setMargin_6, e_Wi_setMargin_7, e_Wi_setMargin_10, e_Wi_setMargin_11, e_Wi_setMargin_14, e_Wi_setMargin_15, vr_v, vr_n, vr_vh, vr_nh, vg_some, wF_0 hw, wF_1 hw, wF_2 hw, wF_3 hw, wF_4 hw, wF_5 hw, wI_5 hw, wR hw, wL_2 hw, wL_3 hw, wL_4 hw, wL_5 hw, wL_6 hw, wW_4 hw, wW_2 hw, wW_3 hw, wW_5 hw, wW_6 hw, nI_ltI, nI_add, nI_mul, nI_clamp, mx_in_nI, if_true, e]
theorem ob_or {s : Int32} {b : Bool} {i : Nat} : s ||| ob b i = if b = false then s else s ||| (nI 1 <<< (nI i &&& 31)) := by
  cases b with
  | false =>
    show s ||| nI 0 = s
    rw [nI_0]
    simp
  | true => simp [ob]
/-- who hears whom, by the sets -/
def hx (σ : mx_S) (b a : Nat) : Bool := hs (σ 6 b) (nI a)
def rch (σ : mx_S) (a b : Nat) : Bool := decide (¬ a = b) && decide (σ 4 a = σ 4 b) && hx σ b a
theorem c_Wi_hearersOf {sh : List mx_C} {σ : mx_S} (hw : WI sh) {s : Nat} : vv 2 77 0 [.ref 1, .int (nI s), .null, .null] [] (sh, σ) = some (some (.int (mk (fun b => hx σ b s) 6)), (sh, σ)) := by
  rw [e_Wi_hearersOf_0, e_Wi_hearersOf_1, e_Wi_hearersOf_2, e_Wi_hearersOf_3]
  refine (it (F := fun k => vv 2 77 4 [.ref 1, .int (nI s), .int (mk (fun b => hx σ b s) k), .int (nI k)] [] (sh, σ)) 6 (fun k hk => ?_)).trans ?_
  · rw [e_Wi_hearersOf_4]
    simp (disch := first | exact wR hw | omega) only [e_Wi_hearersOf_0, e_Wi_hearersOf_1, e_Wi_hearersOf_2, e_Wi_hearersOf_3, e_Wi_hearersOf_5, e_Wi_hearersOf_7, e_Wi_hearersOf_10, e_Wi_hearersOf_11, e_Wi_hearersOf_12, e_Wi_hearersOf_13, e_Wi_hearersOf_16, e_Wi_hearersOf_19, e_Wi_hearersOf_20, e_Wi_hearersOf_21, e_Wi_hearersOf_24, e_Wi_hearersOf_25, e_Wi_hearersOf_26, e_Wi_hearersOf_29, e_Wi_hearersOf_32, e_Wi_hearersOf_33, vr_v, vr_n, vr_vh, vr_nh, vg_some, wF_0 hw, wF_1 hw, wF_2 hw, wF_3 hw, wF_4 hw, wF_5 hw, wI_5 hw, wR hw, wL_2 hw, wL_3 hw, wL_4 hw, wL_5 hw, wL_6 hw, wW_4 hw, wW_2 hw, wW_3 hw, wW_5 hw, wW_6 hw, nI_ltI, nI_add, nI_mul, nI_clamp, mx_in_nI, hk, if_true, c_Wi_hears hw hk, c_Se_of, bI_0, mk, ob_or, hx]
    split <;> rfl
  · simp (disch := first | exact wR hw | omega) only [e_Wi_hearersOf_4, e_Wi_hearersOf_5, e_Wi_hearersOf_7, e_Wi_hearersOf_32, e_Wi_hearersOf_33, nI_ltI, nI_add, nI_mul, nI_clamp, mx_in_nI, Nat.lt_irrefl, if_false]
theorem c_Wi_reaches {sh : List mx_C} {σ : mx_S} (hw : WI sh) {a b : Nat} (ha : a < 6) (hb : b < 6) : vv 2 78 0 [.ref 1, .int (nI a), .int (nI b)] [] (sh, σ) = some (some (.int (bI (rch σ a b))), (sh, σ)) := by
  simp (disch := first | exact wR hw | omega) only [e_Wi_reaches_0, e_Wi_reaches_1, e_Wi_reaches_2, e_Wi_reaches_5, e_Wi_reaches_6, e_Wi_reaches_9, e_Wi_reaches_10, e_Wi_reaches_11, e_Wi_reaches_12, e_Wi_reaches_15, e_Wi_reaches_16, e_Wi_reaches_17, e_Wi_reaches_20, e_Wi_reaches_21, e_Wi_reaches_22, e_Wi_reaches_23, e_Wi_reaches_26, e_Wi_reaches_29, e_Wi_reaches_30, e_Wi_reaches_33, e_Wi_reaches_34_0, e_Wi_reaches_34_1, e_Wi_reaches_34_b, vr_v, vr_n, vr_vh, vr_nh, vg_some, wF_0 hw, wF_1 hw, wF_2 hw, wF_3 hw, wF_4 hw, wF_5 hw, wI_5 hw, wR hw, wL_2 hw, wL_3 hw, wL_4 hw, wL_5 hw, wL_6 hw, wW_4 hw, wW_2 hw, wW_3 hw, wW_5 hw, wW_6 hw, nI_ltI, nI_add, nI_mul, nI_clamp, mx_in_nI, if_true, c_Wi_hears hw hb, bI_0, nI_eq, rch, hx]
  (repeat' split) <;> simp_all [bI]
theorem c_Wi_reachedBy {sh : List mx_C} {σ : mx_S} (hw : WI sh) {s : Nat} (hs : s < 6) : vv 3 79 0 [.ref 1, .int (nI s), .null, .null] [] (sh, σ) = some (some (.int (mk (fun b => rch σ s b) 6)), (sh, σ)) := by
  rw [e_Wi_reachedBy_0, e_Wi_reachedBy_1, e_Wi_reachedBy_2, e_Wi_reachedBy_3]
  refine (it (F := fun k => vv 3 79 4 [.ref 1, .int (nI s), .int (mk (fun b => rch σ s b) k), .int (nI k)] [] (sh, σ)) 6 (fun k hk => ?_)).trans ?_
  · rw [e_Wi_reachedBy_4]
    simp (disch := first | exact wR hw | omega) only [e_Wi_reachedBy_0, e_Wi_reachedBy_1, e_Wi_reachedBy_2, e_Wi_reachedBy_3, e_Wi_reachedBy_5, e_Wi_reachedBy_7, e_Wi_reachedBy_10, e_Wi_reachedBy_11, e_Wi_reachedBy_12, e_Wi_reachedBy_13, e_Wi_reachedBy_16, e_Wi_reachedBy_19, e_Wi_reachedBy_20, e_Wi_reachedBy_21, e_Wi_reachedBy_24, e_Wi_reachedBy_25, e_Wi_reachedBy_26, e_Wi_reachedBy_29, e_Wi_reachedBy_32, e_Wi_reachedBy_33, vr_v, vr_n, vr_vh, vr_nh, vg_some, wF_0 hw, wF_1 hw, wF_2 hw, wF_3 hw, wF_4 hw, wF_5 hw, wI_5 hw, wR hw, wL_2 hw, wL_3 hw, wL_4 hw, wL_5 hw, wL_6 hw, wW_4 hw, wW_2 hw, wW_3 hw, wW_5 hw, wW_6 hw, nI_ltI, nI_add, nI_mul, nI_clamp, mx_in_nI, hk, if_true, c_Wi_reaches hw hs hk, c_Se_of, bI_0, mk, ob_or]
    split <;> rfl
  · simp (disch := first | exact wR hw | omega) only [e_Wi_reachedBy_4, e_Wi_reachedBy_5, e_Wi_reachedBy_7, e_Wi_reachedBy_32, e_Wi_reachedBy_33, nI_ltI, nI_add, nI_mul, nI_clamp, mx_in_nI, Nat.lt_irrefl, if_false]
def shb (σ : mx_S) (s t : Nat) : Nat → Bool
  | 0 => false
  | n + 1 => shb σ s t n || (hx σ n s && hx σ n t)
theorem c_Wi_someHearsBoth {sh : List mx_C} {σ : mx_S} (hw : WI sh) {s t : Nat} : vv 2 82 0 [.ref 1, .int (nI s), .int (nI t), .null] [] (sh, σ) = some (some (.int (bI (shb σ s t 6))), (sh, σ)) := by
  rw [e_Wi_someHearsBoth_0, e_Wi_someHearsBoth_1]
  have key := it (F := fun k => if shb σ s t k = true then some (some (.int (nI 1)), (sh, σ)) else vv 2 82 2 [.ref 1, .int (nI s), .int (nI t), .int (nI k)] [] (sh, σ)) 6 (fun k hk => by
    by_cases h : shb σ s t k = true
    · simp [shb, h]
    · have h : shb σ s t k = false := by simpa using h
      rw [if_neg (by simp [h]), e_Wi_someHearsBoth_2]
      simp (disch := first | exact wR hw | omega) only [e_Wi_someHearsBoth_0, e_Wi_someHearsBoth_1, e_Wi_someHearsBoth_3, e_Wi_someHearsBoth_5, e_Wi_someHearsBoth_8, e_Wi_someHearsBoth_9, e_Wi_someHearsBoth_10, e_Wi_someHearsBoth_11, e_Wi_someHearsBoth_14, e_Wi_someHearsBoth_17, e_Wi_someHearsBoth_18, e_Wi_someHearsBoth_19, e_Wi_someHearsBoth_20, e_Wi_someHearsBoth_23, e_Wi_someHearsBoth_26, e_Wi_someHearsBoth_27_0, e_Wi_someHearsBoth_27_1, e_Wi_someHearsBoth_27_b, e_Wi_someHearsBoth_28, e_Wi_someHearsBoth_31, e_Wi_someHearsBoth_34, e_Wi_someHearsBoth_35_0, e_Wi_someHearsBoth_35_1, e_Wi_someHearsBoth_35_b, vr_v, vr_n, vr_vh, vr_nh, vg_some, wF_0 hw, wF_1 hw, wF_2 hw, wF_3 hw, wF_4 hw, wF_5 hw, wI_5 hw, wR hw, wL_2 hw, wL_3 hw, wL_4 hw, wL_5 hw, wL_6 hw, wW_4 hw, wW_2 hw, wW_3 hw, wW_5 hw, wW_6 hw, nI_ltI, nI_add, nI_mul, nI_clamp, mx_in_nI, hk, if_true, c_Wi_hears hw hk, bI_0, shb, h, Bool.false_or, hx]
      cases hs (σ 6 k) (nI s) <;> cases hs (σ 6 k) (nI t) <;> simp)
  have key : vv 2 82 2 [.ref 1, .int (nI s), .int (nI t), .int (nI 0)] [] (sh, σ) = if shb σ s t 6 = true then some (some (.int (nI 1)), (sh, σ)) else vv 2 82 2 [.ref 1, .int (nI s), .int (nI t), .int (nI 6)] [] (sh, σ) := by simpa [shb] using key
  rw [key]
  by_cases h : shb σ s t 6 = true
  · rw [if_pos h, h]; rfl
  · have h : shb σ s t 6 = false := by simpa using h
    rw [h]
    simp (disch := first | exact wR hw | omega) only [e_Wi_someHearsBoth_2, e_Wi_someHearsBoth_3, e_Wi_someHearsBoth_5, e_Wi_someHearsBoth_34, e_Wi_someHearsBoth_35_0, nI_ltI, nI_add, nI_mul, nI_clamp, mx_in_nI, Nat.lt_irrefl, if_false, Bool.false_eq_true]
    rfl
def hid (σ : mx_S) (s t : Nat) : Bool := decide (¬ s = t) && !(hx σ s t) && !(hx σ t s) && shb σ s t 6
theorem c_Wi_areHidden {sh : List mx_C} {σ : mx_S} (hw : WI sh) {s t : Nat} (hs : s < 6) (ht : t < 6) : vv 3 81 0 [.ref 1, .int (nI s), .int (nI t)] [] (sh, σ) = some (some (.int (bI (hid σ s t))), (sh, σ)) := by
  simp (disch := first | exact wR hw | omega) only [e_Wi_areHidden_0, e_Wi_areHidden_1, e_Wi_areHidden_2, e_Wi_areHidden_5, e_Wi_areHidden_6, e_Wi_areHidden_7, e_Wi_areHidden_8, e_Wi_areHidden_11, e_Wi_areHidden_14, e_Wi_areHidden_15, e_Wi_areHidden_16, e_Wi_areHidden_17, e_Wi_areHidden_20, e_Wi_areHidden_23, e_Wi_areHidden_24, e_Wi_areHidden_25, e_Wi_areHidden_26, e_Wi_areHidden_29, e_Wi_areHidden_32, e_Wi_areHidden_33, e_Wi_areHidden_36, e_Wi_areHidden_37_0, e_Wi_areHidden_37_1, e_Wi_areHidden_37_b, vr_v, vr_n, vr_vh, vr_nh, vg_some, wF_0 hw, wF_1 hw, wF_2 hw, wF_3 hw, wF_4 hw, wF_5 hw, wI_5 hw, wR hw, wL_2 hw, wL_3 hw, wL_4 hw, wL_5 hw, wL_6 hw, wW_4 hw, wW_2 hw, wW_3 hw, wW_5 hw, wW_6 hw, nI_ltI, nI_add, nI_mul, nI_clamp, mx_in_nI, if_true, c_Wi_hears hw hs, c_Wi_hears hw ht, c_Wi_someHearsBoth hw, bI_0, nI_eq, hid, hx]
  (repeat' split) <;> simp_all [bI]
theorem c_Wi_hiddenFrom {sh : List mx_C} {σ : mx_S} (hw : WI sh) {s : Nat} (hs : s < 6) : vv 4 80 0 [.ref 1, .int (nI s), .null, .null] [] (sh, σ) = some (some (.int (mk (fun b => hid σ s b) 6)), (sh, σ)) := by
  rw [e_Wi_hiddenFrom_0, e_Wi_hiddenFrom_1, e_Wi_hiddenFrom_2, e_Wi_hiddenFrom_3]
  refine (it (F := fun k => vv 4 80 4 [.ref 1, .int (nI s), .int (mk (fun b => hid σ s b) k), .int (nI k)] [] (sh, σ)) 6 (fun k hk => ?_)).trans ?_
  · rw [e_Wi_hiddenFrom_4]
    simp (disch := first | exact wR hw | omega) only [e_Wi_hiddenFrom_0, e_Wi_hiddenFrom_1, e_Wi_hiddenFrom_2, e_Wi_hiddenFrom_3, e_Wi_hiddenFrom_5, e_Wi_hiddenFrom_7, e_Wi_hiddenFrom_10, e_Wi_hiddenFrom_11, e_Wi_hiddenFrom_12, e_Wi_hiddenFrom_13, e_Wi_hiddenFrom_16, e_Wi_hiddenFrom_19, e_Wi_hiddenFrom_20, e_Wi_hiddenFrom_21, e_Wi_hiddenFrom_24, e_Wi_hiddenFrom_25, e_Wi_hiddenFrom_26, e_Wi_hiddenFrom_29, e_Wi_hiddenFrom_32, e_Wi_hiddenFrom_33, vr_v, vr_n, vr_vh, vr_nh, vg_some, wF_0 hw, wF_1 hw, wF_2 hw, wF_3 hw, wF_4 hw, wF_5 hw, wI_5 hw, wR hw, wL_2 hw, wL_3 hw, wL_4 hw, wL_5 hw, wL_6 hw, wW_4 hw, wW_2 hw, wW_3 hw, wW_5 hw, wW_6 hw, nI_ltI, nI_add, nI_mul, nI_clamp, mx_in_nI, hk, if_true, c_Wi_areHidden hw hs hk, c_Se_of, bI_0, mk, ob_or]
    split <;> rfl
  · simp (disch := first | exact wR hw | omega) only [e_Wi_hiddenFrom_4, e_Wi_hiddenFrom_5, e_Wi_hiddenFrom_7, e_Wi_hiddenFrom_32, e_Wi_hiddenFrom_33, nI_ltI, nI_add, nI_mul, nI_clamp, mx_in_nI, Nat.lt_irrefl, if_false]
