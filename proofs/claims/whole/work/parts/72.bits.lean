/-! sets of up to 30, bit by bit -/
def gb (x : Int32) (i : Nat) : Bool := x.toBitVec.getLsbD i
theorem gb_ext {x y : Int32} (h : ∀ i, i < 32 → gb x i = gb y i) : x = y := by
  have : x.toBitVec = y.toBitVec := BitVec.eq_of_getLsbD_eq (fun i hi => h i hi)
  exact Int32.toBitVec_inj.mp this
theorem gb_or {x y : Int32} {i : Nat} : gb (x ||| y) i = (gb x i || gb y i) := by simp [gb]
theorem gb_and {x y : Int32} {i : Nat} : gb (x &&& y) i = (gb x i && gb y i) := by simp [gb]
theorem gb_xor {x y : Int32} {i : Nat} : gb (x ^^^ y) i = (gb x i ^^ gb y i) := by simp [gb]
theorem b1_bv : ∀ i : Fin 32, (nI 1 <<< (nI i.val &&& 31)).toBitVec = BitVec.twoPow 32 i.val := by decide +kernel
theorem gb_1 {i j : Nat} (hi : i < 32) : gb (nI 1 <<< (nI i &&& 31)) j = decide (j = i) := by
  unfold gb
  rw [b1_bv ⟨i, hi⟩, BitVec.getLsbD_twoPow]
  by_cases e : i = j
  · subst e; simp [hi]
  · have e' : ¬ j = i := fun z => e z.symm
    simp [e, e']
theorem gb_0 {j : Nat} : gb (nI 0) j = false := by
  show (0#32).getLsbD j = false
  simp
theorem gb_n1 {j : Nat} (h : j < 32) : gb (-1) j = true := by
  have : ∀ j : Fin 32, gb (-1) j.val = true := by decide +kernel
  exact this ⟨j, h⟩
theorem gb_hi {x : Int32} {i : Nat} (h : 32 ≤ i) : gb x i = false := BitVec.getLsbD_of_ge _ _ h
theorem gb_mk {p : Nat → Bool} {i : Nat} : ∀ n, n ≤ 32 → gb (mk p n) i = (decide (i < n) && p i) := by
  intro n
  induction n with
  | zero => intro _; rw [mk, gb_0]; simp
  | succ n ih =>
    intro hn
    rw [mk, gb_or, ih (by omega)]
    have h1 : gb (ob (p n) n) i = (decide (i = n) && p n) := by
      cases hp : p n with
      | false => show gb (nI 0) i = _; rw [gb_0]; simp
      | true => show gb (nI 1 <<< (nI n &&& 31)) i = _; rw [gb_1 (by omega)]; simp
    rw [h1]
    by_cases e : i = n
    · subst e; simp
    · have : decide (i < n + 1) = decide (i < n) := decide_eq_decide.mpr (by omega)
      rw [this]
      simp [e]
theorem sh_bv : ∀ i : Fin 32, (nI i.val &&& 31).toBitVec.smod 32 = BitVec.ofNat 32 i.val := by decide +kernel
theorem gb_shr {x : Int32} {k i : Nat} (hk : k < 32) : gb (x >>> (nI k &&& 31)) i = if i < 32 then (if k + i < 32 then gb x (k + i) else gb x 31) else false := by
  unfold gb
  rw [Int32.toBitVec_shiftRight, sh_bv ⟨k, hk⟩]
  have h2 : x.toBitVec.sshiftRight' (BitVec.ofNat 32 k) = x.toBitVec.sshiftRight k := by
    unfold BitVec.sshiftRight'
    rw [BitVec.toNat_ofNat, Nat.mod_eq_of_lt (by omega)]
  rw [h2, BitVec.getLsbD_sshiftRight]
  by_cases h : i < 32
  · have : ¬ 32 ≤ i := by omega
    by_cases h3 : k + i < 32
    · simp [h, this, h3]
    · simp [h, this, h3, BitVec.msb_eq_getLsbD_last]
  · have : 32 ≤ i := by omega
    simp [h, this]
theorem hs_gb {x : Int32} {i : Nat} (hi : i < 32) : hs x (nI i) = gb x i := by
  unfold hs
  have e : (x >>> (nI i &&& 31)) &&& nI 1 = bI (gb x i) := by
    refine gb_ext (fun j hj => ?_)
    have g1 : gb (nI 1) j = decide (j = 0) := by
      have : ∀ j : Fin 32, gb (nI 1) j.val = decide (j.val = 0) := by decide +kernel
      exact this ⟨j, hj⟩
    rw [gb_and, g1]
    by_cases e : j = 0
    · subst e
      rw [gb_shr hi, if_pos (by decide), if_pos (by omega), Nat.add_zero]
      cases gb x i
      · show _ = gb (nI 0) 0; rw [gb_0]; simp
      · show _ = gb (nI 1) 0; rw [g1]; simp
    · cases gb x i
      · show _ = gb (nI 0) j; rw [gb_0]; simp [e]
      · show _ = gb (nI 1) j; rw [g1]; simp [e]
  rw [e]
  cases gb x i <;> decide
theorem bit_gb {x : Int32} {i : Nat} (hi : i < 32) : (x >>> (nI i &&& 31)) &&& nI 1 = bI (gb x i) := by
  refine gb_ext (fun j hj => ?_)
  have g1 : gb (nI 1) j = decide (j = 0) := by
    have : ∀ j : Fin 32, gb (nI 1) j.val = decide (j.val = 0) := by decide +kernel
    exact this ⟨j, hj⟩
  rw [gb_and, g1]
  by_cases e : j = 0
  · subst e
    rw [gb_shr hi, if_pos (by decide), if_pos (by omega), Nat.add_zero]
    cases gb x i
    · show _ = gb (nI 0) 0; rw [gb_0]; simp
    · show _ = gb (nI 1) 0; rw [g1]; simp
  · cases gb x i
    · show _ = gb (nI 0) j; rw [gb_0]; simp [e]
    · show _ = gb (nI 1) j; rw [g1]; simp [e]
theorem sm_cnt {p : Nat → Bool} : ∀ n, sm (fun i => bI (p i)) n = nI (cnt p n) := by
  intro n
  induction n with
  | zero => rfl
  | succ n ih =>
    rw [sm, ih, cnt]
    cases h : p n
    · show nI (cnt p n) + nI 0 = _; rw [nI_add]; rfl
    · show nI (cnt p n) + nI 1 = _; rw [nI_add]; rfl
theorem many_gb {x : Int32} : many x = nI (cnt (gb x) 31) := by
  unfold many
  rw [← sm_cnt]
  exact sm_congr 31 (fun i hi => bit_gb (by omega))
theorem cnt_congr {p q : Nat → Bool} : ∀ n, (∀ i, i < n → p i = q i) → cnt p n = cnt q n := by
  intro n
  induction n with
  | zero => intro _; rfl
  | succ n ih => intro h; rw [cnt, cnt, ih (fun i hi => h i (by omega)), h n (by omega)]
theorem cnt_hi {p : Nat → Bool} {n : Nat} : ∀ m, n ≤ m → (∀ i, n ≤ i → i < m → p i = false) → cnt p m = cnt p n := by
  intro m
  induction m with
  | zero => intro h _; have : n = 0 := by omega
            subst this; rfl
  | succ m ih =>
    intro h hp
    by_cases e : n = m + 1
    · subst e; rfl
    · rw [cnt, ih (by omega) (fun i h1 h2 => hp i h1 (by omega)), hp m (by omega) (by omega)]
      rfl
/-- a set of up to 30 -/
def st (p : Nat → Bool) : Int32 := mk p 30
theorem gb_st {p : Nat → Bool} {i : Nat} : gb (st p) i = (decide (i < 30) && p i) := gb_mk 30 (by decide)
theorem st_has {p : Nat → Bool} {i : Nat} (hi : i < 30) : hs (st p) (nI i) = p i := by
  rw [hs_gb (by omega), gb_st]; simp [hi]
theorem st_has30 {p : Nat → Bool} : hs (st p) (nI 30) = false := by
  rw [hs_gb (by decide), gb_st]; simp
theorem st_congr {p q : Nat → Bool} (h : ∀ i, i < 30 → p i = q i) : st p = st q := mk_congr 30 h
theorem st_set {p : Nat → Bool} {a : Nat} (ha : a < 30) : st p ||| (nI 1 <<< (nI a &&& 31)) = st (fun i => if i = a then true else p i) := by
  refine gb_ext (fun i hi => ?_)
  rw [gb_or, gb_1 (by omega), gb_st, gb_st]
  by_cases e : i = a
  · subst e; simp [ha]
  · simp [e]
theorem st_or {p q : Nat → Bool} : st p ||| st q = st (fun i => p i || q i) := by
  refine gb_ext (fun i hi => ?_)
  rw [gb_or, gb_st, gb_st, gb_st]
  cases decide (i < 30) <;> simp
theorem st_and {p q : Nat → Bool} : st p &&& st q = st (fun i => p i && q i) := by
  refine gb_ext (fun i hi => ?_)
  rw [gb_and, gb_st, gb_st, gb_st]
  cases decide (i < 30) <;> simp
theorem st_not {p q : Nat → Bool} : st p &&& (st q ^^^ (-1)) = st (fun i => p i && !(q i)) := by
  refine gb_ext (fun i hi => ?_)
  rw [gb_and, gb_xor, gb_n1 hi, gb_st, gb_st, gb_st]
  cases decide (i < 30) <;> simp
theorem st_no : st (fun _ => false) = nI 0 := by
  refine gb_ext (fun i hi => ?_)
  rw [gb_st, gb_0]
  simp
theorem st_eq {p q : Nat → Bool} : (st p = st q) ↔ ∀ i, i < 30 → p i = q i := by
  constructor
  · intro h i hi
    have := congrArg (fun x => gb x i) h
    simp only [gb_st] at this
    simpa [hi] using this
  · exact st_congr
theorem st_all : ∀ n : Fin 31, (nI 1 <<< (nI n.val &&& 31)) - nI 1 = st (fun i => decide (i < n.val)) := by decide +kernel
theorem st_many {p : Nat → Bool} : many (st p) = nI (cnt p 30) := by
  rw [many_gb, cnt_hi (n := 30) 31 (by decide) (fun i h1 h2 => by rw [gb_st]; simp; omega)]
  exact congrArg nI (cnt_congr 30 (fun i hi => by rw [gb_st]; simp [hi]))
