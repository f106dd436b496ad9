/-! turns: rows as numbers, networks as a list -/
def cnt (p : Nat → Bool) : Nat → Nat
  | 0 => 0
  | n + 1 => cnt p n + (if p n = true then 1 else 0)
theorem cnt_le {p : Nat → Bool} (n : Nat) : cnt p n ≤ n := by
  induction n with
  | zero => exact Nat.le_refl 0
  | succ n ih => rw [cnt]; split <;> omega
theorem cnt_mono {p : Nat → Bool} {i : Nat} : ∀ j, i ≤ j → cnt p i ≤ cnt p j := by
  intro j
  induction j with
  | zero => intro h; have : i = 0 := by omega
            subst this; exact Nat.le_refl _
  | succ j ih =>
    intro h
    by_cases e : i = j + 1
    · subst e; exact Nat.le_refl _
    · have := ih (by omega)
      rw [cnt]
      omega
theorem cnt_lt {p : Nat → Bool} {i j : Nat} (h : i < j) (hp : p i = true) : cnt p i < cnt p j := by
  have := cnt_mono (p := p) (i := i + 1) j (by omega)
  rw [cnt, if_pos hp] at this
  omega
theorem cnt_sur {p : Nat → Bool} {j : Nat} : ∀ n, j < cnt p n → ∃ i, i < n ∧ p i = true ∧ cnt p i = j := by
  intro n
  induction n with
  | zero => intro h; exact absurd h (by simp [cnt])
  | succ n ih =>
    intro h
    by_cases h1 : j < cnt p n
    · obtain ⟨i, a, b, c⟩ := ih h1
      exact ⟨i, by omega, b, c⟩
    · rw [cnt] at h
      by_cases hp : p n = true
      · rw [if_pos hp] at h
        exact ⟨n, by omega, hp, by omega⟩
      · rw [if_neg hp] at h
        omega
theorem cnt_inj {p : Nat → Bool} {i j : Nat} (hi : p i = true) (hj : p j = true) (h : cnt p i = cnt p j) : i = j := by
  rcases Nat.lt_trichotomy i j with h1 | h1 | h1
  · have := cnt_lt h1 hi; omega
  · exact h1
  · have := cnt_lt h1 hj; omega
/-- the list of networks -/
def NL (p : Nat → Bool) (N : Nat → Nat) : Prop := ∀ j, j < cnt p 6 → N j < 6 ∧ p (N j) = true ∧ cnt p (N j) = j
theorem NL_ex (p : Nat → Bool) : ∃ N, NL p N := by
  have h : ∀ j, ∃ i, j < cnt p 6 → i < 6 ∧ p i = true ∧ cnt p i = j := fun j => by
    by_cases hj : j < cnt p 6
    · obtain ⟨i, a, b, c⟩ := cnt_sur 6 hj
      exact ⟨i, fun _ => ⟨a, b, c⟩⟩
    · exact ⟨0, fun z => absurd z hj⟩
  exact ⟨fun j => Classical.choose (h j), fun j hj => Classical.choose_spec (h j) hj⟩
theorem NL.at {p : Nat → Bool} {N : Nat → Nat} (h : NL p N) {i : Nat} (hi : i < 6) (hp : p i = true) : cnt p i < cnt p 6 ∧ N (cnt p i) = i := by
  have h1 : cnt p i < cnt p 6 := cnt_lt hi hp
  obtain ⟨a, b, c⟩ := h _ h1
  exact ⟨h1, cnt_inj b hp c⟩
theorem NL.mono {p : Nat → Bool} {N : Nat → Nat} (h : NL p N) {j k : Nat} (hjk : j < k) (hk : k < cnt p 6) : N j < N k := by
  obtain ⟨a1, b1, c1⟩ := h j (by omega)
  obtain ⟨a2, b2, c2⟩ := h k hk
  rcases Nat.lt_or_ge (N j) (N k) with z | z
  · exact z
  · have := cnt_mono (p := p) (N j) z
    omega
def val (n : Nat) (A : Nat → Nat) : Nat → Nat
  | 0 => 0
  | k + 1 => val n A k * n + A k
theorem val_congr {n : Nat} {A B : Nat → Nat} : ∀ k, (∀ i, i < k → A i = B i) → val n A k = val n B k := by
  intro k
  induction k with
  | zero => intro _; rfl
  | succ k ih => intro h; rw [val, val, ih (fun i hi => h i (by omega)), h k (by omega)]
theorem val_lt {n : Nat} {A B : Nat → Nat} {j : Nat} (h1 : ∀ i, i < j → A i = B i) (h2 : A j < B j) : ∀ k, j < k → (∀ i, i < k → A i < n) → val n A k < val n B k := by
  intro k
  induction k with
  | zero => intro h; omega
  | succ k ih =>
    intro h hn
    rw [val, val]
    by_cases e : j = k
    · subst e
      rw [val_congr j h1]
      omega
    · have h3 := ih (by omega) (fun i hi => hn i (by omega))
      have h4 : (val n A k + 1) * n ≤ val n B k * n := Nat.mul_le_mul_right n h3
      rw [Nat.add_mul, Nat.one_mul] at h4
      have := hn k (by omega)
      omega
theorem val_b {n : Nat} {A : Nat → Nat} : ∀ k, (∀ i, i < k → A i < n) → val n A k < n ^ k := by
  intro k
  induction k with
  | zero => intro _; simp [val]
  | succ k ih =>
    intro h
    have h1 := ih (fun i hi => h i (by omega))
    have h4 : (val n A k + 1) * n ≤ n ^ k * n := Nat.mul_le_mul_right n h1
    rw [Nat.add_mul, Nat.one_mul] at h4
    have := h k (by omega)
    rw [val, Nat.pow_succ]
    omega
theorem val_ex {n : Nat} (hn : 0 < n) : ∀ k r, r < n ^ k → ∃ A, (∀ i, i < k → A i < n) ∧ val n A k = r := by
  intro k
  induction k with
  | zero => intro r h; exact ⟨fun _ => 0, fun i hi => by omega, by simp at h; simp [val, h]⟩
  | succ k ih =>
    intro r h
    rw [Nat.pow_succ] at h
    obtain ⟨A, a1, a2⟩ := ih (r / n) (Nat.div_lt_of_lt_mul (by rw [Nat.mul_comm]; exact h))
    refine ⟨fun i => if i = k then r % n else A i, fun i hi => ?_, ?_⟩
    · show (if i = k then r % n else A i) < n
      by_cases e : i = k
      · rw [if_pos e]; exact Nat.mod_lt _ hn
      · rw [if_neg e]; exact a1 i (by omega)
    · rw [val, val_congr (B := A) k (fun i hi => by show (if i = k then _ else _) = _; rw [if_neg (by omega)]), a2]
      show r / n * n + (if k = k then r % n else A k) = r
      rw [if_pos rfl, Nat.mul_comm]
      exact Nat.div_add_mod r n
theorem val_inj {n : Nat} {A B : Nat → Nat} : ∀ k, (∀ i, i < k → A i < n) → (∀ i, i < k → B i < n) → val n A k = val n B k → ∀ i, i < k → A i = B i := by
  intro k hA hB h i
  rcases Nat.lt_or_ge i k with hi | hi
  · intro _
    -- the first that differs
    have key : ∀ j, j ≤ k → ∀ i, i < j → A i = B i := by
      intro j
      induction j with
      | zero => intro _ i hi; omega
      | succ j ih =>
        intro hj i hi
        have ih := ih (by omega)
        by_cases e : i = j
        · subst e
          rcases Nat.lt_trichotomy (A i) (B i) with z | z | z
          · have := val_lt ih z k (by omega) hA; omega
          · exact z
          · have := val_lt (fun i hi => (ih i hi).symm) z k (by omega) hB; omega
        · exact ih i (by omega)
    exact key k (Nat.le_refl k) i hi
  · intro z; omega
/-- a row of the networks that fits -/
def okN (D : Nat → Nat → Bool) (N : Nat → Nat) (m : Nat) (A : Nat → Nat) : Prop := ∀ k, k < m → ∀ x, x < k → D (N k) (N x) = true → ¬ A k = A x
def prN (D : Nat → Nat → Bool) (N : Nat → Nat) (m n : Nat) (A : Nat → Nat) : Prop := (∀ k, k < m → A k < n) ∧ okN D N m A
theorem pr_of_ext {D : Nat → Nat → Bool} {p : Nat → Bool} {N : Nat → Nat} (hN : NL p N) {n : Nat} {U : Nat → Nat} (h : ext D n U 0 U) : prN D N (cnt p 6) n (fun k => U (N k)) := by
  refine ⟨fun k hk => h.2.1 (N k) (hN k hk).1, fun k hk x hx hd => ?_⟩
  exact h.2.2 (N k) (hN k hk).1 (N x) (hN.mono hx hk) hd
theorem ext_of_pr {D : Nat → Nat → Bool} {p : Nat → Bool} {N : Nat → Nat} (hN : NL p N) (hD : ∀ x y, D x y = true → p x = true ∧ p y = true) {n : Nat} (hn : 0 < n) {A : Nat → Nat} (h : prN D N (cnt p 6) n A) : ext D n (fun i => if p i = true then A (cnt p i) else 0) 0 (fun i => if p i = true then A (cnt p i) else 0) := by
  refine ⟨fun _ _ => rfl, fun i hi => ?_, fun k hk x hx hd => ?_⟩
  · show (if p i = true then A (cnt p i) else 0) < n
    by_cases e : p i = true
    · rw [if_pos e]; exact h.1 _ (hN.at hi e).1
    · rw [if_neg e]; exact hn
  · obtain ⟨pk, px⟩ := hD k x hd
    show ¬ (if p k = true then A (cnt p k) else 0) = (if p x = true then A (cnt p x) else 0)
    rw [if_pos pk, if_pos px]
    obtain ⟨k1, k2⟩ := hN.at hk pk
    obtain ⟨x1, x2⟩ := hN.at (show x < 6 by omega) px
    exact h.2 _ k1 _ (cnt_lt hx px) (by rw [k2, x2]; exact hd)
/-- both rows are the first of all -/
theorem turn_eq {D : Nat → Nat → Bool} {p : Nat → Bool} {N : Nat → Nat} (hN : NL p N) (hD : ∀ x y, D x y = true → p x = true ∧ p y = true) {n n' : Nat} {T A : Nat → Nat} (h1 : 0 < n) (h1' : 0 < n') (hT : ext D n T 0 T) (hT2 : ∀ U, ext D n U 0 U → lexle T U) (hT3 : ∀ n' U, n' < n → ext D n' U 0 U → False) (hA : prN D N (cnt p 6) n' A) (hA2 : ∀ B, prN D N (cnt p 6) n' B → val n' A (cnt p 6) ≤ val n' B (cnt p 6)) (hA3 : ∀ n B, n < n' → prN D N (cnt p 6) n B → False) : n = n' ∧ ∀ i, i < 6 → p i = true → T i = A (cnt p i) := by
  have e : n = n' := by
    rcases Nat.lt_trichotomy n n' with z | z | z
    · exact (hA3 n _ z (pr_of_ext hN hT)).elim
    · exact z
    · exact (hT3 n' _ z (ext_of_pr hN hD h1' hA)).elim
  subst e
  refine ⟨rfl, fun i hi pi => ?_⟩
  rcases hT2 _ (ext_of_pr hN hD h1' hA) with z | ⟨j, hj, z1, z2⟩
  · have z' : T i = (if p i = true then A (cnt p i) else 0) := z i hi
    rw [if_pos pi] at z'
    exact z'
  · exfalso
    have z2 : T j < (if p j = true then A (cnt p j) else 0) := z2
    by_cases pj : p j = true
    · rw [if_pos pj] at z2
      obtain ⟨j1, j2⟩ := hN.at hj pj
      have hB := pr_of_ext hN hT
      have := hA2 _ hB
      have := val_lt (n := n) (A := fun k => T (N k)) (B := A) (j := cnt p j) (fun k hk => by
        obtain ⟨a, b, c⟩ := hN k (by omega)
        have hlt : N k < j := by
          rcases Nat.lt_or_ge (N k) j with y | y
          · exact y
          · have := cnt_mono (p := p) (N k) y; omega
        have z' : T (N k) = (if p (N k) = true then A (cnt p (N k)) else 0) := z1 (N k) hlt
        rw [if_pos b, c] at z'
        exact z') (by show T (N (cnt p j)) < _; rw [j2]; exact z2) (cnt p 6) j1 hB.1
      omega
    · rw [if_neg pj] at z2
      omega
theorem pr_id {D : Nat → Nat → Bool} {N : Nat → Nat} {m : Nat} (hm : m ≤ 6) : prN D N m 6 (fun k => k) := ⟨fun k hk => by show k < 6; omega, fun k hk x hx _ => by show ¬ k = x; omega⟩
theorem DD_th {σ : mx_S} {x y : Nat} (h : DD σ x y = true) : th σ x = true ∧ th σ y = true := by
  obtain ⟨b, hb, h⟩ := (anN_iff 6).mp h
  obtain ⟨a, ha, h⟩ := (anN_iff 6).mp h
  simp only [cel, Bool.and_eq_true, Bool.or_eq_true, decide_eq_true_eq] at h
  obtain ⟨-, ⟨e1, e2⟩ | ⟨e1, e2⟩⟩ := h
  · exact ⟨(anN_iff 6).mpr ⟨a, ha, by simp [e1]⟩, (anN_iff 6).mpr ⟨b, hb, by simp [e2]⟩⟩
  · exact ⟨(anN_iff 6).mpr ⟨b, hb, by simp [e1]⟩, (anN_iff 6).mpr ⟨a, ha, by simp [e2]⟩⟩
