/-! contention: the state in words of its own: A f i = field f of station i; A 12 k: seed, dropped, arrived, collided -/
def RC (σ A : mx_S) : Prop := (∀ f i, f < 12 → i < 6 → σ (13 + i) f = A f i) ∧ σ 11 2 = A 12 0 ∧ σ 11 5 = A 12 1 ∧ σ 11 4 = A 12 2 ∧ σ 11 6 = A 12 3
def RM (σ A : mx_S) : Prop := (∀ f i, f < 12 → i < 6 → σ (29 + f) i = A f i) ∧ σ 23 6 = A 12 0 ∧ σ 23 20 = A 12 1
def FC (σ σ' : mx_S) : Prop := (∀ c, ¬ c = 11 → ¬ (13 ≤ c ∧ c ≤ 18) → σ' c = σ c) ∧ σ' 11 3 = σ 11 3
def FM (σ σ' : mx_S) : Prop := (∀ c, ¬ c = 23 → ¬ (29 ≤ c ∧ c ≤ 40) → σ' c = σ c) ∧ ∀ k, ¬ k = 6 → ¬ k = 20 → σ' 23 k = σ 23 k
theorem FC.rf {σ : mx_S} : FC σ σ := ⟨fun _ _ _ => rfl, rfl⟩
theorem FM.rf {σ : mx_S} : FM σ σ := ⟨fun _ _ _ => rfl, fun _ _ _ => rfl⟩
theorem FC.tr {a b c : mx_S} (h1 : FC a b) (h2 : FC b c) : FC a c := ⟨fun x z1 z2 => (h2.1 x z1 z2).trans (h1.1 x z1 z2), h2.2.trans h1.2⟩
theorem FM.tr {a b c : mx_S} (h1 : FM a b) (h2 : FM b c) : FM a c := ⟨fun x z1 z2 => (h2.1 x z1 z2).trans (h1.1 x z1 z2), fun k z1 z2 => (h2.2 k z1 z2).trans (h1.2 k z1 z2)⟩
theorem FC.st {σ σ' : mx_S} {i f : Nat} {x : Int32} (h : FC σ σ') (hi : i < 6) : FC σ (mx_up σ' (13 + i) f x) := ⟨fun c z1 z2 => by rw [mx_up_nn (by omega)]; exact h.1 c z1 z2, by rw [mx_up_nn (by omega)]; exact h.2⟩
theorem FC.s {σ σ' : mx_S} {k : Nat} {x : Int32} (h : FC σ σ') (hk : ¬ k = 3) : FC σ (mx_up σ' 11 k x) := ⟨fun c z1 z2 => by rw [mx_up_nn z1]; exact h.1 c z1 z2, by rw [mx_up_ap, if_pos rfl, if_neg (Ne.symm hk)]; exact h.2⟩
theorem FM.st {σ σ' : mx_S} {f i : Nat} {x : Int32} (h : FM σ σ') (hf : f < 12) : FM σ (mx_up σ' (29 + f) i x) := ⟨fun c z1 z2 => by rw [mx_up_nn (by omega)]; exact h.1 c z1 z2, fun k z1 z2 => by rw [mx_up_nn (by omega)]; exact h.2 k z1 z2⟩
theorem FM.s {σ σ' : mx_S} {k : Nat} {x : Int32} (h : FM σ σ') (hk : k = 6 ∨ k = 20) : FM σ (mx_up σ' 23 k x) := ⟨fun c z1 z2 => by rw [mx_up_nn z1]; exact h.1 c z1 z2, fun l z1 z2 => by rw [mx_up_ap, if_pos rfl, if_neg (by omega)]; exact h.2 l z1 z2⟩
theorem RC.put {σ A : mx_S} (h : RC σ A) {f i : Nat} {x : Int32} (hi : i < 6) (hf : f < 12) : RC (mx_up σ (13 + i) f x) (mx_up A f i x) := by
  refine ⟨fun f' i' hf' hi' => ?_, ?_, ?_, ?_, ?_⟩
  · rw [mx_up_ap, mx_up_ap]
    by_cases e1 : i' = i
    · subst e1
      rw [if_pos rfl]
      by_cases e2 : f' = f
      · subst e2
        rw [if_pos rfl, if_pos rfl, if_pos rfl]
      · rw [if_neg e2, if_neg e2]
        exact h.1 f' i' hf' hi'
    · rw [if_neg (by omega), h.1 f' i' hf' hi']
      by_cases e2 : f' = f
      · subst e2
        rw [if_pos rfl, if_neg e1]
      · rw [if_neg e2]
  · rw [mx_up_nn (by omega), mx_up_nn (by omega)]; exact h.2.1
  · rw [mx_up_nn (by omega), mx_up_nn (by omega)]; exact h.2.2.1
  · rw [mx_up_nn (by omega), mx_up_nn (by omega)]; exact h.2.2.2.1
  · rw [mx_up_nn (by omega), mx_up_nn (by omega)]; exact h.2.2.2.2
theorem RC.s {σ A : mx_S} (h : RC σ A) {k l : Nat} {x : Int32} (hk : (k = 2 ∧ l = 0) ∨ (k = 5 ∧ l = 1) ∨ (k = 4 ∧ l = 2) ∨ (k = 6 ∧ l = 3)) : RC (mx_up σ 11 k x) (mx_up A 12 l x) := by
  refine ⟨fun f' i' hf' hi' => ?_, ?_⟩
  · rw [mx_up_nn (by omega), mx_up_nn (by omega)]; exact h.1 f' i' hf' hi'
  · obtain ⟨-, h0, h1, h2, h3⟩ := h
    rcases hk with ⟨rfl, rfl⟩ | ⟨rfl, rfl⟩ | ⟨rfl, rfl⟩ | ⟨rfl, rfl⟩ <;> simp [mx_up_ap, h0, h1, h2, h3]
theorem RM.put {σ A : mx_S} (h : RM σ A) {f i : Nat} {x : Int32} (hf : f < 12) : RM (mx_up σ (29 + f) i x) (mx_up A f i x) := by
  refine ⟨fun f' i' hf' hi' => ?_, ?_, ?_⟩
  · rw [mx_up_ap, mx_up_ap]
    by_cases e2 : f' = f
    · subst e2
      rw [if_pos rfl, if_pos rfl]
      by_cases e1 : i' = i
      · rw [if_pos e1, if_pos e1]
      · rw [if_neg e1, if_neg e1]
        exact h.1 f' i' hf' hi'
    · rw [if_neg (by omega), if_neg e2]
      exact h.1 f' i' hf' hi'
  · rw [mx_up_nn (by omega), mx_up_nn (by omega)]; exact h.2.1
  · rw [mx_up_nn (by omega), mx_up_nn (by omega)]; exact h.2.2
theorem RM.s {σ A : mx_S} (h : RM σ A) {k l : Nat} {x : Int32} (hk : (k = 6 ∧ l = 0) ∨ (k = 20 ∧ l = 1)) : RM (mx_up σ 23 k x) (mx_up A 12 l x) := by
  refine ⟨fun f' i' hf' hi' => ?_, ?_⟩
  · rw [mx_up_nn (by omega), mx_up_nn (by omega)]; exact h.1 f' i' hf' hi'
  · obtain ⟨-, h0, h1⟩ := h
    rcases hk with ⟨rfl, rfl⟩ | ⟨rfl, rfl⟩ <;> simp [mx_up_ap, h0, h1]
/-- the model never looks at the totals -/
theorem RM.tot {σ A : mx_S} (h : RM σ A) {l : Nat} {x : Int32} (hl : 2 ≤ l) : RM σ (mx_up A 12 l x) := by
  refine ⟨fun f' i' hf' hi' => ?_, ?_, ?_⟩
  · rw [mx_up_nn (by omega)]; exact h.1 f' i' hf' hi'
  · rw [mx_up_ap, if_pos rfl, if_neg (by omega)]; exact h.2.1
  · rw [mx_up_ap, if_pos rfl, if_neg (by omega)]; exact h.2.2
def wid (r g : Nat) : Nat := if r < 2 then (if g = 0 then 8 else if g = 1 then 16 else if g = 2 then 32 else 64) else (if g = 0 then 8 else if g = 3 then 32 else 16)
def dfn (g : Nat) : Nat := if g = 0 then 0 else if g = 1 then 1 else if g = 2 then 3 else 15
def mn3 (g : Nat) : Nat := if 3 < g then 3 else g
theorem mn3_lt (g : Nat) : mn3 g < 4 := by unfold mn3; split <;> omega
theorem wid_pos (r g : Nat) : 0 < wid r g ∧ wid r g ≤ 64 := by unfold wid; (repeat' split) <;> omega
/-- a draw by a stage, as the class does it: the letter waits -/
def wt (A : mx_S) (i r g : Nat) : mx_S := mx_up (mx_up (mx_up (mx_up (mx_up A 0 i (nI 1)) 4 i (nI (mn3 g))) 12 0 (sdB (A 12 0))) 5 i (lfB (sdB (A 12 0)) (nI (wid r (mn3 g))))) 6 i (nI (dfn (mn3 g)))
