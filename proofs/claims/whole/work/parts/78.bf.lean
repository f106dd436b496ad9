/-! nearest ways: five rounds are enough -/
def rl (C : Nat → Nat → Nat) (x : Nat → Nat) (s t : Nat) : Nat → Nat := fun i => if i = s then (if C s t + x t < x s then C s t + x t else x s) else x i
def lin (C : Nat → Nat → Nat) (x : Nat → Nat) : Nat → Nat → Nat
  | 0 => x
  | e + 1 => rl C (lin C x e) (e / 6) (e % 6)
def rn (C : Nat → Nat → Nat) (x : Nat → Nat) : Nat → Nat → Nat
  | 0 => x
  | r + 1 => lin C (rn C x r) 36
theorem rl_le {C : Nat → Nat → Nat} {x : Nat → Nat} {s t i : Nat} : rl C x s t i ≤ x i := by
  unfold rl
  split
  · rename_i e
    subst e
    split <;> omega
  · exact Nat.le_refl _
theorem rl_at {C : Nat → Nat → Nat} {x : Nat → Nat} {s t : Nat} : rl C x s t s ≤ C s t + x t := by
  unfold rl
  rw [if_pos rfl]
  split <;> omega
theorem lin_le {C : Nat → Nat → Nat} {x : Nat → Nat} {i d : Nat} : ∀ e, d ≤ e → lin C x e i ≤ lin C x d i := by
  intro e
  induction e with
  | zero => intro h; have : d = 0 := by omega
            subst this; exact Nat.le_refl _
  | succ e ih =>
    intro h
    by_cases z : d = e + 1
    · subst z; exact Nat.le_refl _
    · exact Nat.le_trans rl_le (ih (by omega))
theorem rn_le {C : Nat → Nat → Nat} {x : Nat → Nat} {i d : Nat} : ∀ r, d ≤ r → rn C x r i ≤ rn C x d i := by
  intro r
  induction r with
  | zero => intro h; have : d = 0 := by omega
            subst this; exact Nat.le_refl _
  | succ r ih =>
    intro h
    by_cases z : d = r + 1
    · subst z; exact Nat.le_refl _
    · exact Nat.le_trans (lin_le (d := 0) 36 (by decide)) (ih (by omega))
theorem rn_rl {C : Nat → Nat → Nat} {x : Nat → Nat} {r s t : Nat} (hs : s < 6) (ht : t < 6) : rn C x (r + 1) s ≤ C s t + rn C x r t := by
  have h1 : lin C (rn C x r) 36 s ≤ lin C (rn C x r) (s * 6 + t + 1) s := lin_le 36 (by omega)
  have h2 : lin C (rn C x r) (s * 6 + t + 1) s ≤ C s t + lin C (rn C x r) (s * 6 + t) t := by
    rw [lin, show (s * 6 + t) / 6 = s by omega, show (s * 6 + t) % 6 = t by omega]
    exact rl_at
  have h3 : lin C (rn C x r) (s * 6 + t) t ≤ lin C (rn C x r) 0 t := lin_le _ (Nat.zero_le _)
  have h4 : lin C (rn C x r) 0 t = rn C x r t := rfl
  rw [rn]
  omega
/-- what is near is so by a next one -/
def sup (C : Nat → Nat → Nat) (F b : Nat) (x : Nat → Nat) : Prop := ∀ s, s < 6 → ¬ s = b → x s < F → ∃ t, t < 6 ∧ C s t + x t ≤ x s
theorem rl_sup {C : Nat → Nat → Nat} {F b : Nat} {x : Nat → Nat} {u v : Nat} (hv : v < 6) (h : sup C F b x) : sup C F b (rl C x u v) := by
  intro s hs hb hF
  have hle : ∀ t, rl C x u v t ≤ x t := fun t => rl_le
  by_cases e : s = u
  · subst e
    by_cases c : C s v + x v < x s
    · have e1 : rl C x s v s = C s v + x v := by unfold rl; rw [if_pos rfl, if_pos c]
      exact ⟨v, hv, by rw [e1]; have := hle v; omega⟩
    · have e1 : rl C x s v s = x s := by unfold rl; rw [if_pos rfl, if_neg c]
      rw [e1] at hF
      obtain ⟨t, ht, h2⟩ := h s hs hb hF
      exact ⟨t, ht, by rw [e1]; have := hle t; omega⟩
  · have e1 : rl C x u v s = x s := by unfold rl; rw [if_neg e]
    rw [e1] at hF
    obtain ⟨t, ht, h2⟩ := h s hs hb hF
    exact ⟨t, ht, by rw [e1]; have := hle t; omega⟩
theorem lin_sup {C : Nat → Nat → Nat} {F b : Nat} {x : Nat → Nat} (h : sup C F b x) (e : Nat) : sup C F b (lin C x e) := by
  induction e with
  | zero => exact h
  | succ e ih => exact rl_sup (Nat.mod_lt _ (by decide)) ih
theorem rn_sup {C : Nat → Nat → Nat} {F b : Nat} {x : Nat → Nat} (h : sup C F b x) (r : Nat) : sup C F b (rn C x r) := by
  induction r with
  | zero => exact h
  | succ r ih => exact lin_sup ih 36
def s6 (x : Nat → Nat) : Nat := x 0 + x 1 + x 2 + x 3 + x 4 + x 5
theorem rn_lim {C : Nat → Nat → Nat} {x : Nat → Nat} : ∀ N r, s6 (rn C x r) ≤ N → ∃ R, r ≤ R ∧ ∀ i, i < 6 → rn C x (R + 1) i = rn C x R i := by
  intro N
  induction N with
  | zero =>
    intro r h
    refine ⟨r, Nat.le_refl r, fun i hi => ?_⟩
    have h1 := rn_le (C := C) (x := x) (i := i) (r + 1) (Nat.le_succ r)
    have h2 : rn C x r i = 0 := by
      unfold s6 at h
      rcases (show i = 0 ∨ i = 1 ∨ i = 2 ∨ i = 3 ∨ i = 4 ∨ i = 5 by omega) with rfl | rfl | rfl | rfl | rfl | rfl <;> omega
    omega
  | succ N ih =>
    intro r h
    have l : ∀ i, rn C x (r + 1) i ≤ rn C x r i := fun i => rn_le (r + 1) (Nat.le_succ r)
    by_cases e : ∀ i, i < 6 → rn C x (r + 1) i = rn C x r i
    · exact ⟨r, Nat.le_refl r, e⟩
    · have hlt : s6 (rn C x (r + 1)) < s6 (rn C x r) := by
        have l0 := l 0
        have l1 := l 1
        have l2 := l 2
        have l3 := l 3
        have l4 := l 4
        have l5 := l 5
        rcases Nat.lt_or_ge (s6 (rn C x (r + 1))) (s6 (rn C x r)) with z | z
        · exact z
        · exfalso
          unfold s6 at z
          refine e (fun i hi => ?_)
          rcases (show i = 0 ∨ i = 1 ∨ i = 2 ∨ i = 3 ∨ i = 4 ∨ i = 5 by omega) with rfl | rfl | rfl | rfl | rfl | rfl <;> omega
      obtain ⟨R, h1, h2⟩ := ih (r + 1) (by omega)
      exact ⟨R, by omega, h2⟩
def rk (z : Nat → Nat) (v : Nat) : Nat := cnt (fun u => decide (z u < z v)) 6
theorem cnt_sub {p q : Nat → Bool} : ∀ n, (∀ i, i < n → p i = true → q i = true) → cnt p n ≤ cnt q n := by
  intro n
  induction n with
  | zero => intro _; exact Nat.le_refl _
  | succ n ih =>
    intro h
    have := ih (fun i hi => h i (by omega))
    rw [cnt, cnt]
    by_cases e : p n = true
    · rw [if_pos e, if_pos (h n (by omega) e)]; omega
    · rw [if_neg e]; omega
theorem cnt_sub_lt {p q : Nat → Bool} {j : Nat} (hj1 : p j = false) (hj2 : q j = true) : ∀ n, j < n → (∀ i, i < n → p i = true → q i = true) → cnt p n < cnt q n := by
  intro n
  induction n with
  | zero => intro h; omega
  | succ n ih =>
    intro h hs
    rw [cnt, cnt]
    by_cases e : j = n
    · subst e
      have := cnt_sub (p := p) (q := q) j (fun i hi => hs i (by omega))
      rw [hj1, hj2]
      simp
      omega
    · have := ih (by omega) (fun i hi => hs i (by omega))
      by_cases e2 : p n = true
      · rw [if_pos e2, if_pos (hs n (by omega) e2)]; omega
      · rw [if_neg e2]; omega
theorem rk_lt {z : Nat → Nat} {t v : Nat} (ht : t < 6) (h : z t < z v) : rk z t < rk z v := cnt_sub_lt (j := t) (by simp) (by simp [h]) 6 ht (fun i _ hi => by
  have : z i < z t := of_decide_eq_true hi
  exact decide_eq_true (by omega))
theorem rk_le {z : Nat → Nat} {v : Nat} (hv : v < 6) : rk z v ≤ 5 := by
  have h1 := cnt_le (p := fun u => decide (z u < z v)) 6
  have h2 : ¬ cnt (fun u => decide (z u < z v)) 6 = 6 := fun e => by
    have := (cnt_full 6).mp e v hv
    simp at this
  unfold rk
  omega
/-- five rounds, and nothing moves any more -/
theorem rn_fix {C : Nat → Nat → Nat} {F b : Nat} {x : Nat → Nat} (hC : ∀ s t, 0 < C s t) (hx : sup C F b x) (hb : x b = 0) (hF : ∀ i, x i ≤ F) : ∃ z : Nat → Nat, (∀ i, i < 6 → rn C x 5 i = z i ∧ rn C x 6 i = z i) ∧ z b = 0 ∧ (∀ i, z i ≤ F) ∧ (∀ s, s < 6 → ¬ s = b → z s < F → ∃ t, t < 6 ∧ C s t + z t = z s) := by
  obtain ⟨R, hR, hz⟩ := rn_lim (C := C) (x := x) (s6 (rn C x 6)) 6 (Nat.le_refl _)
  have zb : rn C x R b = 0 := by
    have := rn_le (C := C) (x := x) (i := b) (d := 0) R (Nat.zero_le R)
    have h0 : rn C x 0 b = 0 := hb
    omega
  have zF : ∀ i, rn C x R i ≤ F := fun i => by
    have := rn_le (C := C) (x := x) (i := i) (d := 0) R (Nat.zero_le R)
    have h0 : rn C x 0 i ≤ F := hF i
    omega
  have fx : ∀ s t, s < 6 → t < 6 → rn C x R s ≤ C s t + rn C x R t := fun s t hs ht => by
    have := rn_rl (C := C) (x := x) (r := R) hs ht
    rw [hz s hs] at this
    exact this
  have sp := rn_sup hx R
  have key : ∀ k v, v < 6 → rk (rn C x R) v ≤ k → rn C x k v ≤ rn C x R v := by
    intro k
    induction k with
    | zero =>
      intro v hv hk
      by_cases e : rn C x R v < F
      · by_cases eb : v = b
        · subst eb
          have h0 : rn C x 0 v = 0 := hb
          omega
        · obtain ⟨t, ht, h⟩ := sp v hv eb e
          have hc := hC v t
          have := rk_lt (z := rn C x R) ht (show rn C x R t < rn C x R v by omega)
          omega
      · have h0 : rn C x 0 v ≤ F := hF v
        omega
    | succ k ih =>
      intro v hv hk
      by_cases e : rn C x R v < F
      · by_cases eb : v = b
        · subst eb
          have h1 := rn_le (C := C) (x := x) (i := v) (d := 0) (k + 1) (Nat.zero_le _)
          have h0 : rn C x 0 v = 0 := hb
          omega
        · obtain ⟨t, ht, h⟩ := sp v hv eb e
          have hc := hC v t
          have hr := rk_lt (z := rn C x R) ht (show rn C x R t < rn C x R v by omega)
          have h1 := ih t ht (by omega)
          have h2 := rn_rl (C := C) (x := x) (r := k) hv ht
          omega
      · have h1 := rn_le (C := C) (x := x) (i := v) (d := 0) (k + 1) (Nat.zero_le _)
        have h0 : rn C x 0 v ≤ F := hF v
        omega
  refine ⟨rn C x R, fun i hi => ?_, zb, zF, fun s hs hb h => ?_⟩
  · have h1 := key 5 i hi (rk_le hi)
    have h2 := rn_le (C := C) (x := x) (i := i) (d := 5) R (by omega)
    have h3 := rn_le (C := C) (x := x) (i := i) (d := 6) R (by omega)
    have h4 := rn_le (C := C) (x := x) (i := i) (d := 5) 6 (by omega)
    omega
  · obtain ⟨t, ht, h1⟩ := sp s hs hb h
    have := fx s t hs ht
    exact ⟨t, ht, by omega⟩
/-- the lowest next one -/
def nx (q : Nat → Bool) : Nat → Nat → Nat
  | 0, k => k
  | f + 1, k => if q k = true then k else nx q f (k + 1)
theorem nx_ok {q : Nat → Bool} : ∀ f k, (∃ t, k ≤ t ∧ t < k + f ∧ q t = true) → nx q f k < k + f ∧ q (nx q f k) = true := by
  intro f
  induction f with
  | zero => rintro k ⟨t, h1, h2, -⟩; omega
  | succ f ih =>
    rintro k ⟨t, h1, h2, h3⟩
    rw [nx]
    by_cases e : q k = true
    · rw [if_pos e]; exact ⟨by omega, e⟩
    · rw [if_neg e]
      have : ¬ t = k := fun z => e (by rw [← z]; exact h3)
      obtain ⟨a, b⟩ := ih (k + 1) ⟨t, by omega, by omega, h3⟩
      exact ⟨by omega, b⟩
def nxt (C : Nat → Nat → Nat) (z : Nat → Nat) (s : Nat) : Nat := nx (fun t => decide (C s t + z t = z s)) 6 0
theorem nxt_ok {C : Nat → Nat → Nat} {z : Nat → Nat} {s : Nat} (h : ∃ t, t < 6 ∧ C s t + z t = z s) : nxt C z s < 6 ∧ C s (nxt C z s) + z (nxt C z s) = z s := by
  obtain ⟨t, h1, h2⟩ := h
  obtain ⟨a, b⟩ := nx_ok (q := fun t => decide (C s t + z t = z s)) 6 0 ⟨t, by omega, by omega, by simp [h2]⟩
  exact ⟨by unfold nxt; omega, of_decide_eq_true b⟩
def pv (f : Nat → Nat) (v : Nat) : Nat → Nat
  | 0 => v
  | i + 1 => f (pv f v i)
theorem pv_s {f : Nat → Nat} {v : Nat} (i : Nat) : pv f v (i + 1) = pv f (f v) i := by
  induction i with
  | zero => rfl
  | succ i ih => rw [pv, ih, pv]
theorem way_ex {C : Nat → Nat → Nat} {F b : Nat} {z : Nat → Nat} (hC : ∀ s t, 0 < C s t) (h8 : ∀ s t, C s t < F → C s t % 8 = 1) (zb : z b = 0) (hz : ∀ s, s < 6 → ¬ s = b → z s < F → ∃ t, t < 6 ∧ C s t + z t = z s) : ∀ k v, v < 6 → rk z v ≤ k → z v < F → ∃ m, m ≤ k ∧ pv (nxt C z) v m = b ∧ (∀ i, i < m → ¬ pv (nxt C z) v i = b) ∧ (∀ i, i ≤ m → pv (nxt C z) v i < 6 ∧ z (pv (nxt C z) v i) < F) ∧ z v % 8 = m % 8 := by
  intro k
  induction k with
  | zero =>
    intro v hv hk hF
    by_cases e : v = b
    · subst e
      refine ⟨0, Nat.le_refl 0, rfl, fun i hi => by omega, fun i hi => ?_, by rw [zb]⟩
      have : i = 0 := by omega
      subst this
      exact ⟨hv, hF⟩
    · obtain ⟨t, ht, h⟩ := hz v hv e hF
      have hc := hC v t
      have := rk_lt (z := z) ht (show z t < z v by omega)
      omega
  | succ k ih =>
    intro v hv hk hF
    by_cases e : v = b
    · subst e
      refine ⟨0, by omega, rfl, fun i hi => by omega, fun i hi => ?_, by rw [zb]⟩
      have : i = 0 := by omega
      subst this
      exact ⟨hv, hF⟩
    · obtain ⟨a1, a2⟩ := nxt_ok (hz v hv e hF)
      have hc := hC v (nxt C z v)
      have hr := rk_lt (z := z) a1 (show z (nxt C z v) < z v by omega)
      obtain ⟨m, m1, m2, m3, m4, m5⟩ := ih (nxt C z v) a1 (by omega) (by omega)
      refine ⟨m + 1, by omega, by rw [pv_s]; exact m2, fun i hi => ?_, fun i hi => ?_, ?_⟩
      · match i with
        | 0 => exact e
        | i + 1 => rw [pv_s]; exact m3 i (by omega)
      · match i with
        | 0 => exact ⟨hv, hF⟩
        | i + 1 => rw [pv_s]; exact m4 i (by omega)
      · have := h8 v (nxt C z v) (by omega)
        omega
theorem lin_far {C : Nat → Nat → Nat} {F M : Nat} {x : Nat → Nat} (hM : ∀ s t, C s t < F → C s t ≤ M) (hx : ∀ i, x i < F → x i = 0) (hF : ∀ i, x i ≤ F) : ∀ e i, lin C x e i < F → lin C x e i ≤ e * M := by
  intro e
  induction e with
  | zero => intro i h; have := hx i h; show x i ≤ _; omega
  | succ e ih =>
    intro i h
    rw [lin] at h ⊢
    unfold rl at h ⊢
    rw [Nat.add_mul, Nat.one_mul]
    by_cases c : i = e / 6
    · rw [if_pos c] at h ⊢
      by_cases d : C (e / 6) (e % 6) + lin C x e (e % 6) < lin C x e (e / 6)
      · rw [if_pos d] at h ⊢
        have h1 := hM (e / 6) (e % 6) (by omega)
        have h2 := ih (e % 6) (by omega)
        omega
      · rw [if_neg d] at h ⊢
        have := ih (e / 6) h
        omega
    · rw [if_neg c] at h ⊢
      have := ih i h
      omega
