/-! setters of the wire keep speeds and who is heard right -/
def hrp (σ : mx_S) (a b : Nat) : Bool := decide (¬ a = b) && !(decide (spd σ a b 0 ≤ 0) && decide (spd σ a b 1 ≤ 0))
def WQ (σ : mx_S) (G : Nat → Nat → Prop) : Prop := ∃ q : Nat → Nat → Bool, (∀ b, b < 6 → σ 6 b = mk (q b) 6) ∧ (∀ b, b < 6 → q b b = false) ∧ ∀ a b, a < 6 → b < 6 → ¬ a = b → G a b → (∀ k, k < 2 → σ 5 (six a b k) = spd σ a b k) ∧ q b a = hrp σ a b
def WOK (σ : mx_S) : Prop := (∀ a b k, a < 6 → b < 6 → ¬ a = b → k < 2 → σ 5 (six a b k) = spd σ a b k) ∧ (∀ b, b < 6 → σ 6 b = mk (fun a => hrp σ a b) 6)
theorem WQ.all {σ : mx_S} {G : Nat → Nat → Prop} (h : WQ σ G) (hG : ∀ a b, a < 6 → b < 6 → ¬ a = b → G a b) : WOK σ := by
  obtain ⟨q, h1, h2, h3⟩ := h
  refine ⟨fun a b k ha hb hab hk => (h3 a b ha hb hab (hG a b ha hb hab)).1 k hk, fun b hb => ?_⟩
  rw [h1 b hb]
  refine mk_congr 6 (fun a ha => ?_)
  by_cases e : a = b
  · subst e
    rw [h2 a hb]
    simp [hrp]
  · exact (h3 a b ha hb e (hG a b ha hb e)).2
theorem WOK.wq {σ : mx_S} (h : WOK σ) : WQ σ (fun _ _ => True) := ⟨fun b a => hrp σ a b, fun b hb => h.2 b hb, fun b hb => by simp [hrp], fun a b ha hb hab _ => ⟨fun k hk => h.1 a b k ha hb hab hk, rfl⟩⟩
theorem hrp_of {σ σ' : mx_S} {a b : Nat} (h : ∀ k, k < 2 → spd σ' a b k = spd σ a b k) : hrp σ' a b = hrp σ a b := by
  simp only [hrp, h 0 (by decide), h 1 (by decide)]
/-- another store: pairs whose levels stay are good still -/
theorem WQ.move {σ σ' : mx_S} {G G' : Nat → Nat → Prop} (h : WQ σ G) (h5 : σ' 5 = σ 5) (h6 : σ' 6 = σ 6) (hG : ∀ a b, a < 6 → b < 6 → ¬ a = b → G' a b → G a b ∧ ∀ k, k < 2 → spd σ' a b k = spd σ a b k) : WQ σ' G' := by
  obtain ⟨q, h1, h2, h3⟩ := h
  refine ⟨q, fun b hb => by rw [h6]; exact h1 b hb, h2, fun a b ha hb hab hg => ?_⟩
  obtain ⟨g1, g2⟩ := hG a b ha hb hab hg
  obtain ⟨g3, g4⟩ := h3 a b ha hb hab g1
  exact ⟨fun k hk => by rw [h5, g3 k hk, g2 k hk], by rw [g4, hrp_of g2]⟩
theorem six_inj {a b a' b' k k' : Nat} (hb : b < 6) (hb' : b' < 6) (hk : k < 2) (hk' : k' < 2) (h : six a b k = six a' b' k') : a = a' ∧ b = b' ∧ k = k' := by
  unfold six at h
  omega
theorem mx_up_nn {σ : mx_S} {c k c' : Nat} {x : Int32} (h : ¬ c' = c) : mx_up σ c k x c' = σ c' := by unfold mx_up; rw [if_neg h]
theorem tn_c {σ : mx_S} {a b c : Nat} (h5 : ¬ c = 5) (h6 : ¬ c = 6) : tn σ a b c = σ c := by
  unfold tn
  rw [mx_up_nn h6, mx_up_nn h5, mx_up_nn h5]
theorem tn_spd {σ : mx_S} {a b x y k : Nat} : spd (tn σ a b) x y k = spd σ x y k := spd_of (fun t _ => bC_of (by rw [tn_c (by decide) (by decide)]) (by rw [tn_c (by decide) (by decide)]) (by rw [tn_c (by decide) (by decide)]))
theorem tn_5 {σ : mx_S} {a b i : Nat} : tn σ a b 5 i = if i = six a b 1 then spd σ a b 1 else if i = six a b 0 then spd σ a b 0 else σ 5 i := by
  simp [tn, mx_up_ap]
theorem tn_6 {σ : mx_S} {a b i : Nat} : tn σ a b 6 i = if i = b then (if spd σ a b 0 ≤ 0 ∧ spd σ a b 1 ≤ 0 then σ 6 b &&& ((nI 1 <<< (nI a &&& 31)) ^^^ (-1)) else σ 6 b ||| (nI 1 <<< (nI a &&& 31))) else σ 6 i := by
  simp [tn, mx_up_ap]
theorem WQ.tune {σ : mx_S} {G : Nat → Nat → Prop} (h : WQ σ G) {a b : Nat} (ha : a < 6) (hb : b < 6) (hab : ¬ a = b) : WQ (tn σ a b) (fun x y => G x y ∨ (x = a ∧ y = b)) := by
  obtain ⟨q, h1, h2, h3⟩ := h
  refine ⟨fun y => if y = b then (fun i => if i = a then hrp σ a b else q b i) else q y, fun y hy => ?_, fun y hy => ?_, fun x y hx hy hxy hg => ?_⟩
  · rw [tn_6]
    dsimp only
    by_cases e : y = b
    · subst e
      rw [if_pos rfl, if_pos rfl, h1 y hb]
      by_cases hc : spd σ a y 0 ≤ 0 ∧ spd σ a y 1 ≤ 0
      · rw [if_pos hc, mk_clr ha]
        refine mk_congr 6 (fun i _ => ?_)
        by_cases hi : i = a
        · rw [if_pos hi, if_pos hi]
          simp [hrp, hc.1, hc.2]
        · rw [if_neg hi, if_neg hi]
      · rw [if_neg hc, mk_set ha]
        refine mk_congr 6 (fun i _ => ?_)
        by_cases hi : i = a
        · rw [if_pos hi, if_pos hi]
          have : ¬ (spd σ a y 0 ≤ 0 ∧ spd σ a y 1 ≤ 0) := hc
          simp only [hrp, decide_not, hab, decide_false, Bool.not_false, Bool.true_and]
          by_cases z0 : spd σ a y 0 ≤ 0
          · have z1 : ¬ spd σ a y 1 ≤ 0 := fun z => hc ⟨z0, z⟩
            simp [z0, z1]
          · simp [z0]
        · rw [if_neg hi, if_neg hi]
    · rw [if_neg e, if_neg e]
      exact h1 y hy
  · by_cases e : y = b
    · subst e
      simp only [if_true, if_neg (Ne.symm hab)]
      exact h2 y hy
    · simp only [if_neg e]
      exact h2 y hy
  · have hsp : ∀ k, k < 2 → spd (tn σ a b) x y k = spd σ x y k := fun k _ => tn_spd
    rw [hrp_of hsp]
    by_cases e : x = a ∧ y = b
    · obtain ⟨rfl, rfl⟩ := e
      refine ⟨fun k hk => ?_, by simp⟩
      rw [tn_spd, tn_5]
      match k, hk with
      | 0, _ =>
        rw [if_neg (fun z => by have := six_inj hb hb (by decide) (by decide) z; omega), if_pos rfl]
      | 1, _ => rw [if_pos rfl]
    · have hg' : G x y := hg.resolve_right e
      obtain ⟨g1, g2⟩ := h3 x y hx hy hxy hg'
      refine ⟨fun k hk => ?_, ?_⟩
      · rw [tn_spd, tn_5, if_neg (fun z => e (by have := six_inj hy hb hk (by decide) z; exact ⟨this.1, this.2.1⟩)), if_neg (fun z => e (by have := six_inj hy hb hk (by decide) z; exact ⟨this.1, this.2.1⟩))]
        exact g1 k hk
      · by_cases ey : y = b
        · subst ey
          simp only [if_true]
          rw [if_neg (fun z => e ⟨z, rfl⟩)]
          exact g2
        · simp only [if_neg ey]
          exact g2
theorem WQ.mono {σ : mx_S} {G G' : Nat → Nat → Prop} (h : WQ σ G) (hG : ∀ a b, a < 6 → b < 6 → ¬ a = b → G' a b → G a b) : WQ σ G' := by
  obtain ⟨q, h1, h2, h3⟩ := h
  exact ⟨q, h1, h2, fun a b ha hb hab hg => h3 a b ha hb hab (hG a b ha hb hab hg)⟩
/-- a loop whose store moves on -/
theorem its {R : Type} {F : Nat → mx_S → R} {I : Nat → mx_S → Prop} : ∀ (n : Nat), (∀ k σ, k < n → I k σ → ∃ σ', F k σ = F (k + 1) σ' ∧ I (k + 1) σ') → ∀ σ, I 0 σ → ∃ σ', F 0 σ = F n σ' ∧ I n σ' := by
  intro n
  induction n with
  | zero => intro _ σ h; exact ⟨σ, rfl, h⟩
  | succ n ih =>
    intro h σ h0
    obtain ⟨σ1, e1, i1⟩ := ih (fun k σ hk hI => h k σ (by omega) hI) σ h0
    obtain ⟨σ2, e2, i2⟩ := h n σ1 (by omega) i1
    exact ⟨σ2, e1.trans e2, i2⟩
theorem c_Wi_tuneTo {sh : List mx_C} {σ : mx_S} (hw : WI sh) {b : Nat} (hb : b < 6) {G : Nat → Nat → Prop} (hG : WQ σ G) : ∃ σ', vv 3 67 0 [.ref 1, .int (nI b), .null] [] (sh, σ) = some (none, (sh, σ')) ∧ WQ σ' (fun x y => G x y ∨ y = b) ∧ ∀ c, ¬ c = 5 → ¬ c = 6 → σ' c = σ c := by
  obtain ⟨σ', e, i1, i2⟩ := its (F := fun k σ => vv 3 67 2 [.ref 1, .int (nI b), .int (nI k)] [] (sh, σ)) (I := fun k σ' => WQ σ' (fun x y => G x y ∨ (x < k ∧ y = b)) ∧ ∀ c, ¬ c = 5 → ¬ c = 6 → σ' c = σ c) 6 (fun k σ1 hk hI => by
    obtain ⟨j1, j2⟩ := hI
    by_cases e : k = b
    · refine ⟨σ1, ?_, j1.mono (fun x y _ _ hxy hg => hg.elim Or.inl (fun z => Or.inr ⟨by omega, z.2⟩)), j2⟩
      rw [e_Wi_tuneTo_2]
      simp (disch := first | exact wR hw | omega) only [e_Wi_tuneTo_0, e_Wi_tuneTo_1, e_Wi_tuneTo_3, e_Wi_tuneTo_5, e_Wi_tuneTo_8, e_Wi_tuneTo_9, e_Wi_tuneTo_10, e_Wi_tuneTo_13, e_Wi_tuneTo_14, e_Wi_tuneTo_15, e_Wi_tuneTo_16, e_Wi_tuneTo_19, e_Wi_tuneTo_22, e_Wi_tuneTo_25, vr_v, vr_n, vr_vh, vr_nh, vg_some, wF_0 hw, wF_1 hw, wF_2 hw, wF_3 hw, wF_4 hw, wF_5 hw, wI_5 hw, wR hw, wL_2 hw, wL_3 hw, wL_4 hw, wL_5 hw, wL_6 hw, wW_4 hw, wW_2 hw, wW_3 hw, wW_5 hw, wW_6 hw, nI_ltI, nI_add, nI_mul, nI_clamp, mx_in_nI, hk, if_true, nI_eq, e, hb]
    · refine ⟨tn σ1 k b, ?_, (j1.tune hk hb e).mono (fun x y _ _ hxy hg => ?_), fun c h5 h6 => by rw [tn_c h5 h6]; exact j2 c h5 h6⟩
      · rw [e_Wi_tuneTo_2]
        simp (disch := first | exact wR hw | omega) only [e_Wi_tuneTo_0, e_Wi_tuneTo_1, e_Wi_tuneTo_3, e_Wi_tuneTo_5, e_Wi_tuneTo_8, e_Wi_tuneTo_9, e_Wi_tuneTo_10, e_Wi_tuneTo_13, e_Wi_tuneTo_14, e_Wi_tuneTo_15, e_Wi_tuneTo_16, e_Wi_tuneTo_19, e_Wi_tuneTo_22, e_Wi_tuneTo_25, vr_v, vr_n, vr_vh, vr_nh, vg_some, wF_0 hw, wF_1 hw, wF_2 hw, wF_3 hw, wF_4 hw, wF_5 hw, wI_5 hw, wR hw, wL_2 hw, wL_3 hw, wL_4 hw, wL_5 hw, wL_6 hw, wW_4 hw, wW_2 hw, wW_3 hw, wW_5 hw, wW_6 hw, nI_ltI, nI_add, nI_mul, nI_clamp, mx_in_nI, hk, if_true, if_false, nI_eq, e, c_Wi_tune hw hk hb]
      · rcases hg with z | ⟨z1, z2⟩
        · exact Or.inl (Or.inl z)
        · by_cases ex : x = k
          · exact Or.inr ⟨ex, z2⟩
          · exact Or.inl (Or.inr ⟨by omega, z2⟩)) σ ⟨hG.mono (fun _ _ _ _ _ z => z.elim id (fun w => absurd w.1 (by omega))), fun _ _ _ => rfl⟩
  refine ⟨σ', ?_, i1.mono (fun x y hx _ _ z => z.elim Or.inl (fun w => Or.inr ⟨hx, w⟩)), i2⟩
  rw [e_Wi_tuneTo_0, e_Wi_tuneTo_1, e]
  simp (disch := first | exact wR hw | omega) only [e_Wi_tuneTo_2, e_Wi_tuneTo_3, e_Wi_tuneTo_5, e_Wi_tuneTo_25, nI_ltI, nI_add, nI_mul, nI_clamp, mx_in_nI, Nat.lt_irrefl, if_false]
theorem c_Wi_tuneAll {sh : List mx_C} {σ : mx_S} (hw : WI sh) {G : Nat → Nat → Prop} (hG : WQ σ G) : ∃ σ', vv 4 66 0 [.ref 1, .null] [] (sh, σ) = some (none, (sh, σ')) ∧ WOK σ' ∧ ∀ c, ¬ c = 5 → ¬ c = 6 → σ' c = σ c := by
  obtain ⟨σ', e, i1, i2⟩ := its (F := fun k σ => vv 4 66 2 [.ref 1, .int (nI k)] [] (sh, σ)) (I := fun k σ' => WQ σ' (fun x y => G x y ∨ y < k) ∧ ∀ c, ¬ c = 5 → ¬ c = 6 → σ' c = σ c) 6 (fun k σ1 hk hI => by
    obtain ⟨j1, j2⟩ := hI
    obtain ⟨σ2, e2, i1, i2⟩ := c_Wi_tuneTo hw hk j1
    refine ⟨σ2, ?_, i1.mono (fun x y _ _ _ z => ?_), fun c h5 h6 => by rw [i2 c h5 h6]; exact j2 c h5 h6⟩
    · rw [e_Wi_tuneAll_2]
      simp (disch := first | exact wR hw | omega) only [e_Wi_tuneAll_0, e_Wi_tuneAll_1, e_Wi_tuneAll_3, e_Wi_tuneAll_5, e_Wi_tuneAll_8, e_Wi_tuneAll_9, e_Wi_tuneAll_10, e_Wi_tuneAll_13, e_Wi_tuneAll_16, e_Wi_tuneAll_19, vr_v, vr_n, vr_vh, vr_nh, vg_some, wF_0 hw, wF_1 hw, wF_2 hw, wF_3 hw, wF_4 hw, wF_5 hw, wI_5 hw, wR hw, wL_2 hw, wL_3 hw, wL_4 hw, wL_5 hw, wL_6 hw, wW_4 hw, wW_2 hw, wW_3 hw, wW_5 hw, wW_6 hw, nI_ltI, nI_add, nI_mul, nI_clamp, mx_in_nI, hk, if_true, e2]
    · rcases z with z | z
      · exact Or.inl (Or.inl z)
      · by_cases ey : y = k
        · exact Or.inr ey
        · exact Or.inl (Or.inr (by omega))) σ ⟨hG.mono (fun _ _ _ _ _ z => z.elim id (fun w => absurd w (by omega))), fun _ _ _ => rfl⟩
  refine ⟨σ', ?_, i1.all (fun x y hx hy _ => Or.inr hy), i2⟩
  rw [e_Wi_tuneAll_0, e_Wi_tuneAll_1, e]
  simp (disch := first | exact wR hw | omega) only [e_Wi_tuneAll_2, e_Wi_tuneAll_3, e_Wi_tuneAll_5, e_Wi_tuneAll_19, nI_ltI, nI_add, nI_mul, nI_clamp, mx_in_nI, Nat.lt_irrefl, if_false]
