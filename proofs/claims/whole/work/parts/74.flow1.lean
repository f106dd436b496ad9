/-! flows: the class's row and the reference's, as explicit rows -/
def cF (σ : mx_S) (x0 x1 x2 x3 x4 x5 x6 x7 : Int32) : mx_S := fun c => if c = 19 then (fun k => if k = 0 then x0 else if k = 1 then x1 else if k = 2 then x2 else if k = 3 then x3 else if k = 4 then x4 else if k = 5 then x5 else if k = 6 then x6 else if k = 7 then x7 else σ 19 k) else σ c
def mF (σ : mx_S) (y0 y1 y2 y3 y4 y5 y6 : Int32) : mx_S := fun c => if c = 23 then (fun k => if k = 21 then y0 else if k = 22 then y1 else if k = 23 then y2 else if k = 24 then y3 else if k = 25 then y4 else if k = 26 then y5 else if k = 27 then y6 else σ 23 k) else σ c
theorem cF_nn {σ : mx_S} {x0 x1 x2 x3 x4 x5 x6 x7 : Int32} {c : Nat} (h : ¬ c = 19) : cF σ x0 x1 x2 x3 x4 x5 x6 x7 c = σ c := by unfold cF; rw [if_neg h]
theorem cF_0 {σ : mx_S} {x0 x1 x2 x3 x4 x5 x6 x7 : Int32} : cF σ x0 x1 x2 x3 x4 x5 x6 x7 19 0 = x0 := rfl
theorem cU_0 {σ : mx_S} {x0 x1 x2 x3 x4 x5 x6 x7 v : Int32} : mx_up (cF σ x0 x1 x2 x3 x4 x5 x6 x7) 19 0 v = cF σ v x1 x2 x3 x4 x5 x6 x7 := by
  funext c i
  rw [mx_up_ap]
  by_cases hc : c = 19
  · subst hc
    simp only [cF, if_true]
    by_cases e : i = 0 <;> simp [e]
  · simp only [cF, if_neg hc]
theorem cF_1 {σ : mx_S} {x0 x1 x2 x3 x4 x5 x6 x7 : Int32} : cF σ x0 x1 x2 x3 x4 x5 x6 x7 19 1 = x1 := rfl
theorem cU_1 {σ : mx_S} {x0 x1 x2 x3 x4 x5 x6 x7 v : Int32} : mx_up (cF σ x0 x1 x2 x3 x4 x5 x6 x7) 19 1 v = cF σ x0 v x2 x3 x4 x5 x6 x7 := by
  funext c i
  rw [mx_up_ap]
  by_cases hc : c = 19
  · subst hc
    simp only [cF, if_true]
    by_cases e : i = 1 <;> simp [e]
  · simp only [cF, if_neg hc]
theorem cF_2 {σ : mx_S} {x0 x1 x2 x3 x4 x5 x6 x7 : Int32} : cF σ x0 x1 x2 x3 x4 x5 x6 x7 19 2 = x2 := rfl
theorem cU_2 {σ : mx_S} {x0 x1 x2 x3 x4 x5 x6 x7 v : Int32} : mx_up (cF σ x0 x1 x2 x3 x4 x5 x6 x7) 19 2 v = cF σ x0 x1 v x3 x4 x5 x6 x7 := by
  funext c i
  rw [mx_up_ap]
  by_cases hc : c = 19
  · subst hc
    simp only [cF, if_true]
    by_cases e : i = 2 <;> simp [e]
  · simp only [cF, if_neg hc]
theorem cF_3 {σ : mx_S} {x0 x1 x2 x3 x4 x5 x6 x7 : Int32} : cF σ x0 x1 x2 x3 x4 x5 x6 x7 19 3 = x3 := rfl
theorem cU_3 {σ : mx_S} {x0 x1 x2 x3 x4 x5 x6 x7 v : Int32} : mx_up (cF σ x0 x1 x2 x3 x4 x5 x6 x7) 19 3 v = cF σ x0 x1 x2 v x4 x5 x6 x7 := by
  funext c i
  rw [mx_up_ap]
  by_cases hc : c = 19
  · subst hc
    simp only [cF, if_true]
    by_cases e : i = 3 <;> simp [e]
  · simp only [cF, if_neg hc]
theorem cF_4 {σ : mx_S} {x0 x1 x2 x3 x4 x5 x6 x7 : Int32} : cF σ x0 x1 x2 x3 x4 x5 x6 x7 19 4 = x4 := rfl
theorem cU_4 {σ : mx_S} {x0 x1 x2 x3 x4 x5 x6 x7 v : Int32} : mx_up (cF σ x0 x1 x2 x3 x4 x5 x6 x7) 19 4 v = cF σ x0 x1 x2 x3 v x5 x6 x7 := by
  funext c i
  rw [mx_up_ap]
  by_cases hc : c = 19
  · subst hc
    simp only [cF, if_true]
    by_cases e : i = 4 <;> simp [e]
  · simp only [cF, if_neg hc]
theorem cF_5 {σ : mx_S} {x0 x1 x2 x3 x4 x5 x6 x7 : Int32} : cF σ x0 x1 x2 x3 x4 x5 x6 x7 19 5 = x5 := rfl
theorem cU_5 {σ : mx_S} {x0 x1 x2 x3 x4 x5 x6 x7 v : Int32} : mx_up (cF σ x0 x1 x2 x3 x4 x5 x6 x7) 19 5 v = cF σ x0 x1 x2 x3 x4 v x6 x7 := by
  funext c i
  rw [mx_up_ap]
  by_cases hc : c = 19
  · subst hc
    simp only [cF, if_true]
    by_cases e : i = 5 <;> simp [e]
  · simp only [cF, if_neg hc]
theorem cF_6 {σ : mx_S} {x0 x1 x2 x3 x4 x5 x6 x7 : Int32} : cF σ x0 x1 x2 x3 x4 x5 x6 x7 19 6 = x6 := rfl
theorem cU_6 {σ : mx_S} {x0 x1 x2 x3 x4 x5 x6 x7 v : Int32} : mx_up (cF σ x0 x1 x2 x3 x4 x5 x6 x7) 19 6 v = cF σ x0 x1 x2 x3 x4 x5 v x7 := by
  funext c i
  rw [mx_up_ap]
  by_cases hc : c = 19
  · subst hc
    simp only [cF, if_true]
    by_cases e : i = 6 <;> simp [e]
  · simp only [cF, if_neg hc]
theorem cF_7 {σ : mx_S} {x0 x1 x2 x3 x4 x5 x6 x7 : Int32} : cF σ x0 x1 x2 x3 x4 x5 x6 x7 19 7 = x7 := rfl
theorem cU_7 {σ : mx_S} {x0 x1 x2 x3 x4 x5 x6 x7 v : Int32} : mx_up (cF σ x0 x1 x2 x3 x4 x5 x6 x7) 19 7 v = cF σ x0 x1 x2 x3 x4 x5 x6 v := by
  funext c i
  rw [mx_up_ap]
  by_cases hc : c = 19
  · subst hc
    simp only [cF, if_true]
    by_cases e : i = 7 <;> simp [e]
  · simp only [cF, if_neg hc]
theorem cF_self {σ : mx_S} : cF σ (σ 19 0) (σ 19 1) (σ 19 2) (σ 19 3) (σ 19 4) (σ 19 5) (σ 19 6) (σ 19 7) = σ := by
  funext c i
  by_cases hc : c = 19
  · subst hc
    simp only [cF, if_true]
    (repeat' split) <;> simp_all
  · simp only [cF, if_neg hc]
theorem cF_oth {σ : mx_S} {x0 x1 x2 x3 x4 x5 x6 x7 : Int32} {k : Nat} (h : ¬ (0 ≤ k ∧ k ≤ 7)) : cF σ x0 x1 x2 x3 x4 x5 x6 x7 19 k = σ 19 k := by
  simp only [cF, if_true]
  (repeat' split) <;> first | rfl | omega
theorem mF_nn {σ : mx_S} {y0 y1 y2 y3 y4 y5 y6 : Int32} {c : Nat} (h : ¬ c = 23) : mF σ y0 y1 y2 y3 y4 y5 y6 c = σ c := by unfold mF; rw [if_neg h]
theorem mF_21 {σ : mx_S} {y0 y1 y2 y3 y4 y5 y6 : Int32} : mF σ y0 y1 y2 y3 y4 y5 y6 23 21 = y0 := rfl
theorem mU_21 {σ : mx_S} {y0 y1 y2 y3 y4 y5 y6 v : Int32} : mx_up (mF σ y0 y1 y2 y3 y4 y5 y6) 23 21 v = mF σ v y1 y2 y3 y4 y5 y6 := by
  funext c i
  rw [mx_up_ap]
  by_cases hc : c = 23
  · subst hc
    simp only [mF, if_true]
    by_cases e : i = 21 <;> simp [e]
  · simp only [mF, if_neg hc]
theorem mF_22 {σ : mx_S} {y0 y1 y2 y3 y4 y5 y6 : Int32} : mF σ y0 y1 y2 y3 y4 y5 y6 23 22 = y1 := rfl
theorem mU_22 {σ : mx_S} {y0 y1 y2 y3 y4 y5 y6 v : Int32} : mx_up (mF σ y0 y1 y2 y3 y4 y5 y6) 23 22 v = mF σ y0 v y2 y3 y4 y5 y6 := by
  funext c i
  rw [mx_up_ap]
  by_cases hc : c = 23
  · subst hc
    simp only [mF, if_true]
    by_cases e : i = 22 <;> simp [e]
  · simp only [mF, if_neg hc]
theorem mF_23 {σ : mx_S} {y0 y1 y2 y3 y4 y5 y6 : Int32} : mF σ y0 y1 y2 y3 y4 y5 y6 23 23 = y2 := rfl
theorem mU_23 {σ : mx_S} {y0 y1 y2 y3 y4 y5 y6 v : Int32} : mx_up (mF σ y0 y1 y2 y3 y4 y5 y6) 23 23 v = mF σ y0 y1 v y3 y4 y5 y6 := by
  funext c i
  rw [mx_up_ap]
  by_cases hc : c = 23
  · subst hc
    simp only [mF, if_true]
    by_cases e : i = 23 <;> simp [e]
  · simp only [mF, if_neg hc]
theorem mF_24 {σ : mx_S} {y0 y1 y2 y3 y4 y5 y6 : Int32} : mF σ y0 y1 y2 y3 y4 y5 y6 23 24 = y3 := rfl
theorem mU_24 {σ : mx_S} {y0 y1 y2 y3 y4 y5 y6 v : Int32} : mx_up (mF σ y0 y1 y2 y3 y4 y5 y6) 23 24 v = mF σ y0 y1 y2 v y4 y5 y6 := by
  funext c i
  rw [mx_up_ap]
  by_cases hc : c = 23
  · subst hc
    simp only [mF, if_true]
    by_cases e : i = 24 <;> simp [e]
  · simp only [mF, if_neg hc]
theorem mF_25 {σ : mx_S} {y0 y1 y2 y3 y4 y5 y6 : Int32} : mF σ y0 y1 y2 y3 y4 y5 y6 23 25 = y4 := rfl
theorem mU_25 {σ : mx_S} {y0 y1 y2 y3 y4 y5 y6 v : Int32} : mx_up (mF σ y0 y1 y2 y3 y4 y5 y6) 23 25 v = mF σ y0 y1 y2 y3 v y5 y6 := by
  funext c i
  rw [mx_up_ap]
  by_cases hc : c = 23
  · subst hc
    simp only [mF, if_true]
    by_cases e : i = 25 <;> simp [e]
  · simp only [mF, if_neg hc]
theorem mF_26 {σ : mx_S} {y0 y1 y2 y3 y4 y5 y6 : Int32} : mF σ y0 y1 y2 y3 y4 y5 y6 23 26 = y5 := rfl
theorem mU_26 {σ : mx_S} {y0 y1 y2 y3 y4 y5 y6 v : Int32} : mx_up (mF σ y0 y1 y2 y3 y4 y5 y6) 23 26 v = mF σ y0 y1 y2 y3 y4 v y6 := by
  funext c i
  rw [mx_up_ap]
  by_cases hc : c = 23
  · subst hc
    simp only [mF, if_true]
    by_cases e : i = 26 <;> simp [e]
  · simp only [mF, if_neg hc]
theorem mF_27 {σ : mx_S} {y0 y1 y2 y3 y4 y5 y6 : Int32} : mF σ y0 y1 y2 y3 y4 y5 y6 23 27 = y6 := rfl
theorem mU_27 {σ : mx_S} {y0 y1 y2 y3 y4 y5 y6 v : Int32} : mx_up (mF σ y0 y1 y2 y3 y4 y5 y6) 23 27 v = mF σ y0 y1 y2 y3 y4 y5 v := by
  funext c i
  rw [mx_up_ap]
  by_cases hc : c = 23
  · subst hc
    simp only [mF, if_true]
    by_cases e : i = 27 <;> simp [e]
  · simp only [mF, if_neg hc]
theorem mF_self {σ : mx_S} : mF σ (σ 23 21) (σ 23 22) (σ 23 23) (σ 23 24) (σ 23 25) (σ 23 26) (σ 23 27) = σ := by
  funext c i
  by_cases hc : c = 23
  · subst hc
    simp only [mF, if_true]
    (repeat' split) <;> simp_all
  · simp only [mF, if_neg hc]
theorem mF_oth {σ : mx_S} {y0 y1 y2 y3 y4 y5 y6 : Int32} {k : Nat} (h : ¬ (21 ≤ k ∧ k ≤ 27)) : mF σ y0 y1 y2 y3 y4 y5 y6 23 k = σ 23 k := by
  simp only [mF, if_true]
  (repeat' split) <;> first | rfl | omega
theorem nI_dec {y : Nat} : nI (y + 1) + (-1) = nI y := by
  rw [← nI_add, Int32.add_assoc, show nI 1 + (-1) = 0 by decide +kernel, Int32.add_zero]
/-- the first open ones, w at most -/
def fo (o : Nat → Bool) (w : Nat) : Nat → (Nat → Bool) × Nat
  | 0 => (fun _ => false, 0)
  | k + 1 => if (fo o w k).2 < w ∧ o k = true then (fun i => if i = k then true else (fo o w k).1 i, (fo o w k).2 + 1) else fo o w k
theorem fo_le {o : Nat → Bool} {w : Nat} (k : Nat) : (fo o w k).2 ≤ w := by
  induction k with
  | zero => exact Nat.zero_le w
  | succ k ih =>
    rw [fo]
    split
    · show (fo o w k).2 + 1 ≤ w; omega
    · exact ih
theorem fo_y {o : Nat → Bool} {w k : Nat} (h1 : (fo o w k).2 < w) (h2 : o k = true) : fo o w (k + 1) = (fun i => if i = k then true else (fo o w k).1 i, (fo o w k).2 + 1) := by rw [fo, if_pos ⟨h1, h2⟩]
theorem fo_n {o : Nat → Bool} {w k : Nat} (h2 : o k = false) : fo o w (k + 1) = fo o w k := by rw [fo, if_neg (fun z => by rw [h2] at z; cases z.2)]
theorem fo_stop {o : Nat → Bool} {w k : Nat} (h : (fo o w k).2 = w) : ∀ j, k ≤ j → fo o w j = fo o w k := by
  intro j
  induction j with
  | zero => intro hj; have : k = 0 := by omega
            subst this; rfl
  | succ j ih =>
    intro hj
    by_cases e : k = j + 1
    · subst e; rfl
    · have := ih (by omega)
      rw [fo, this, if_neg (fun z => by omega)]
theorem fo_hi {o : Nat → Bool} {w n : Nat} (h : ∀ i, n ≤ i → o i = false) : ∀ m, n ≤ m → fo o w m = fo o w n := by
  intro m
  induction m with
  | zero => intro hj; have : n = 0 := by omega
            subst this; rfl
  | succ m ih =>
    intro hj
    by_cases e : n = m + 1
    · subst e; rfl
    · rw [fo_n (h m (by omega)), ih (by omega)]
theorem fo_congr {o o' : Nat → Bool} {w : Nat} : ∀ k, (∀ i, i < k → o i = o' i) → fo o w k = fo o' w k := by
  intro k
  induction k with
  | zero => intro _; rfl
  | succ k ih => intro h; rw [fo, fo, ih (fun i hi => h i (by omega)), h k (by omega)]
theorem fo_sub {o : Nat → Bool} {w : Nat} {i : Nat} : ∀ k, (fo o w k).1 i = true → i < k ∧ o i = true := by
  intro k
  induction k with
  | zero => intro h; exact absurd h (by simp [fo])
  | succ k ih =>
    intro h
    rw [fo] at h
    split at h
    · rename_i hc
      by_cases e : i = k
      · subst e; exact ⟨by omega, hc.2⟩
      · have h : (if i = k then true else (fo o w k).1 i) = true := h
        rw [if_neg e] at h
        have := ih h
        exact ⟨by omega, this.2⟩
    · have := ih h
      exact ⟨by omega, this.2⟩
theorem fo_cnt {o : Nat → Bool} {w : Nat} (k : Nat) : cnt (fo o w k).1 k = (fo o w k).2 := by
  induction k with
  | zero => rfl
  | succ k ih =>
    rw [fo]
    split
    · show cnt (fun i => if i = k then true else (fo o w k).1 i) (k + 1) = (fo o w k).2 + 1
      rw [cnt, cnt_congr (q := (fo o w k).1) k (fun i hi => by show (if i = k then true else (fo o w k).1 i) = _; rw [if_neg (by omega)]), ih]
      simp
    · rw [cnt, ih]
      cases h : (fo o w k).1 k with
      | false => rfl
      | true => exact absurd (fo_sub k h).1 (by omega)
/-- a frame's parts, one by one: seed, those that were taken, doubles -/
def sl (fr : Nat → Bool) (bad : Int32) (X : Int32 × (Nat → Bool) × Int32) : Nat → Int32 × (Nat → Bool) × Int32
  | 0 => X
  | k + 1 => if fr k = true then (if lfB (sdB (sl fr bad X k).1) (nI 10) < bad then (sdB (sl fr bad X k).1, (sl fr bad X k).2.1, (sl fr bad X k).2.2) else (sdB (sl fr bad X k).1, (fun i => if i = k then true else (sl fr bad X k).2.1 i), (sl fr bad X k).2.2 + bI ((sl fr bad X k).2.1 k))) else sl fr bad X k
theorem sl_n {fr : Nat → Bool} {bad : Int32} {X : Int32 × (Nat → Bool) × Int32} {k : Nat} (h : fr k = false) : sl fr bad X (k + 1) = sl fr bad X k := by rw [sl, if_neg (by rw [h]; simp)]
theorem sl_hi {fr : Nat → Bool} {bad : Int32} {X : Int32 × (Nat → Bool) × Int32} {n : Nat} (h : ∀ i, n ≤ i → fr i = false) : ∀ m, n ≤ m → sl fr bad X m = sl fr bad X n := by
  intro m
  induction m with
  | zero => intro hj; have : n = 0 := by omega
            subst this; rfl
  | succ m ih =>
    intro hj
    by_cases e : n = m + 1
    · subst e; rfl
    · rw [sl_n (h m (by omega)), ih (by omega)]
def gp (t : Nat → Bool) : Nat → Nat → Nat
  | 0, k => k
  | f + 1, k => if t k = true then gp t f (k + 1) else k
theorem gp_le {t : Nat → Bool} : ∀ f k, gp t f k ≤ k + f := by
  intro f
  induction f with
  | zero => intro k; exact Nat.le_refl k
  | succ f ih => intro k; rw [gp]; split
                 · have := ih (k + 1); omega
                 · omega
def bh (t : Nat → Bool) : Int32 := many (st t >>> (nI (gp t 30 0) &&& 31))
theorem nneg_gb {x : Int32} (h : gb x 31 = false) : ¬ x < 0 := by
  intro z
  rw [Int32.lt_iff_toInt_lt] at z
  have z0 : (0 : Int32).toInt = 0 := by decide
  rw [z0] at z
  have h1 : x.toBitVec.msb = true := by
    rw [BitVec.msb_eq_toInt]
    exact decide_eq_true z
  rw [BitVec.msb_eq_getLsbD_last] at h1
  unfold gb at h
  rw [h] at h1
  cases h1
theorem bh_c {t : Nat → Bool} {g : Nat} (hg : g < 32) : bcn (st t >>> (nI g &&& 31)) = many (st t >>> (nI g &&& 31)) := by
  refine bcn_many (nneg_gb ?_)
  rw [gb_shr hg, if_pos (by decide)]
  split
  · have : g = 0 := by omega
    subst this
    rw [gb_st]; rfl
  · rw [gb_st]; rfl
theorem st_cnt {t : Nat → Bool} : bcn (st t) = nI (cnt t 30) := by
  rw [bcn_many (nneg_gb (by rw [gb_st]; rfl)), st_many]
