/-! how many: both ways of counting are one -/
theorem nI_and (a b : Nat) : nI a &&& nI b = nI (a &&& b) := by
  apply Int32.toBitVec_inj.mp
  show BitVec.ofNat 32 a &&& BitVec.ofNat 32 b = BitVec.ofNat 32 (a &&& b)
  exact BitVec.ofNat_and.symm
theorem us_n {X k : Nat} (hX : X < 2 ^ 31) (hk : k < 32) : us (nI X) k = nI (X / 2 ^ k) := by
  unfold us
  have e : ∀ k : Fin 32, (nI k.val).toUInt32 &&& Int32.toUInt32 31 = UInt32.ofNat k.val := by decide +kernel
  rw [e ⟨k, hk⟩]
  have h1 : (nI X).toUInt32 = UInt32.ofNat X := rfl
  rw [h1]
  have h2 : (UInt32.ofNat X >>> UInt32.ofNat k) = UInt32.ofNat (X / 2 ^ k) := by
    apply UInt32.toNat_inj.mp
    rw [UInt32.toNat_shiftRight, UInt32.toNat_ofNat', UInt32.toNat_ofNat', UInt32.toNat_ofNat', Nat.mod_eq_of_lt (show X < 2 ^ 32 by omega), Nat.mod_eq_of_lt (show k < 2 ^ 32 by omega), Nat.mod_eq_of_lt hk, Nat.shiftRight_eq_div_pow, Nat.mod_eq_of_lt]
    exact Nat.lt_of_le_of_lt (Nat.div_le_self _ _) (by omega)
  show (UInt32.ofNat X >>> UInt32.ofNat k).toInt32 = _
  rw [h2]
  rfl
def HF (f : Nat → Nat) : Nat → Nat
  | 0 => 0
  | n + 1 => f 0 + 16 * HF (fun i => f (i + 1)) n
def hm (m : Nat) : Nat → Nat
  | 0 => 0
  | n + 1 => m + 16 * hm m n
theorem and16 {a m y M : Nat} (ha : a < 16) (hm : m < 16) : (a + 16 * y) &&& (m + 16 * M) = (a &&& m) + 16 * (y &&& M) := by
  apply Nat.eq_of_testBit_eq
  intro i
  have e : ∀ b z, b < 16 → (b + 16 * z).testBit i = if i < 4 then b.testBit i else z.testBit (i - 4) := by
    intro b z hb
    rw [Nat.add_comm, show 16 * z = 2 ^ 4 * z from rfl, Nat.testBit_two_pow_mul_add z (show b < 2 ^ 4 from hb)]
  have hlt : a &&& m < 16 := Nat.lt_of_le_of_lt Nat.and_le_left ha
  rw [Nat.testBit_and, e _ _ ha, e _ _ hm, e _ _ hlt]
  by_cases h : i < 4
  · simp [h]
  · simp [h]
theorem HF_1 : ∀ n f, (∀ i, f i < 16) → (HF f n / 2) &&& hm 5 n = HF (fun i => (f i / 2) &&& 5) n := by
  intro n
  induction n with
  | zero => intro f _; simp [HF, hm]
  | succ n ih =>
    intro f hf
    have h0 := hf 0
    rw [HF, hm, HF, ← ih (fun i => f (i + 1)) (fun i => hf (i + 1))]
    generalize HF (fun i => f (i + 1)) n = y
    have e : (f 0 + 16 * y) / 2 = (f 0 / 2 + 8 * (y % 2)) + 16 * (y / 2) := by omega
    rw [e, and16 (by omega) (by decide)]
    have q : ∀ (a : Fin 16) (b : Fin 2), (a.val / 2 + 8 * b.val) &&& 5 = (a.val / 2) &&& 5 := by decide +kernel
    rw [q ⟨f 0, h0⟩ ⟨y % 2, by omega⟩]
theorem HF_3 : ∀ n f, (∀ i, f i < 16) → HF f n &&& hm 3 n = HF (fun i => f i &&& 3) n := by
  intro n
  induction n with
  | zero => intro f _; simp [HF, hm]
  | succ n ih =>
    intro f hf
    rw [HF, hm, HF, ← ih (fun i => f (i + 1)) (fun i => hf (i + 1)), and16 (hf 0) (by decide)]
theorem HF_34 : ∀ n f, (∀ i, f i < 16) → (HF f n / 4) &&& hm 3 n = HF (fun i => (f i / 4) &&& 3) n := by
  intro n
  induction n with
  | zero => intro f _; simp [HF, hm]
  | succ n ih =>
    intro f hf
    have h0 := hf 0
    rw [HF, hm, HF, ← ih (fun i => f (i + 1)) (fun i => hf (i + 1))]
    generalize HF (fun i => f (i + 1)) n = y
    have e : (f 0 + 16 * y) / 4 = (f 0 / 4 + 4 * (y % 4)) + 16 * (y / 4) := by omega
    rw [e, and16 (by omega) (by decide)]
    have q : ∀ (a : Fin 16) (b : Fin 4), (a.val / 4 + 4 * b.val) &&& 3 = (a.val / 4) &&& 3 := by decide +kernel
    rw [q ⟨f 0, h0⟩ ⟨y % 4, by omega⟩]
theorem HF_sub : ∀ n f g, (∀ i, g i ≤ f i) → HF g n ≤ HF f n ∧ HF f n - HF g n = HF (fun i => f i - g i) n := by
  intro n
  induction n with
  | zero => intro f g _; exact ⟨Nat.le_refl _, rfl⟩
  | succ n ih =>
    intro f g h
    obtain ⟨i1, i2⟩ := ih (fun i => f (i + 1)) (fun i => g (i + 1)) (fun i => h (i + 1))
    have h0 := h 0
    rw [HF, HF, HF, ← i2]
    omega
theorem HF_add : ∀ n f g, HF f n + HF g n = HF (fun i => f i + g i) n := by
  intro n
  induction n with
  | zero => intro f g; rfl
  | succ n ih =>
    intro f g
    rw [HF, HF, HF, ← ih (fun i => f (i + 1)) (fun i => g (i + 1))]
    omega
theorem HF_dig : ∀ n X, X < 16 ^ n → X = HF (fun i => X / 16 ^ i % 16) n := by
  intro n
  induction n with
  | zero => intro X h; simp at h; simp [HF, h]
  | succ n ih =>
    intro X h
    rw [Nat.pow_succ] at h
    have h1 : X / 16 < 16 ^ n := by omega
    have := ih (X / 16) h1
    rw [HF]
    have e : (fun i => X / 16 ^ (i + 1) % 16) = (fun i => X / 16 / 16 ^ i % 16) := by
      funext i
      rw [Nat.pow_succ, Nat.mul_comm, Nat.div_div_eq_div_mul]
    rw [e, ← this]
    simp
    omega
def pc4 (e : Nat) : Nat := e % 2 + e / 2 % 2 + e / 4 % 2 + e / 8 % 2
theorem pc4_ok {e : Nat} (h : e < 16) : ((e - ((e / 2) &&& 5)) &&& 3) + (((e - ((e / 2) &&& 5)) / 4) &&& 3) = pc4 e := by
  have : ∀ e : Fin 16, ((e.val - ((e.val / 2) &&& 5)) &&& 3) + (((e.val - ((e.val / 2) &&& 5)) / 4) &&& 3) = pc4 e.val := by decide +kernel
  exact this ⟨e, h⟩
theorem pc4_b {e : Nat} (h : e < 16) : pc4 e ≤ 4 ∧ (e / 2) &&& 5 ≤ e ∧ e - ((e / 2) &&& 5) < 16 := by
  have : ∀ e : Fin 16, pc4 e.val ≤ 4 ∧ (e.val / 2) &&& 5 ≤ e.val ∧ e.val - ((e.val / 2) &&& 5) < 16 := by decide +kernel
  exact this ⟨e, h⟩
theorem and_15 {a b y M : Nat} (ha : a < 16) (hb : b < 16) : (a + 16 * (b + 16 * y)) &&& (15 + 16 * (0 + 16 * M)) = a + 256 * (y &&& M) := by
  rw [and16 ha (by decide), and16 hb (by decide)]
  have q : ∀ (a : Fin 16), a.val &&& 15 = a.val := by decide +kernel
  have q' : a &&& 15 = a := q ⟨a, ha⟩
  rw [q', Nat.and_zero]
  omega
theorem bcn_n {X : Nat} (hX : X < 2 ^ 31) : bcn (nI X) = nI (pc4 (X / 16 ^ 0 % 16) + pc4 (X / 16 ^ 1 % 16) + pc4 (X / 16 ^ 2 % 16) + pc4 (X / 16 ^ 3 % 16) + pc4 (X / 16 ^ 4 % 16) + pc4 (X / 16 ^ 5 % 16) + pc4 (X / 16 ^ 6 % 16) + pc4 (X / 16 ^ 7 % 16)) := by
  have hd := HF_dig 8 X (by omega)
  generalize hf : (fun i => X / 16 ^ i % 16) = f at hd
  have f16 : ∀ i, f i < 16 := fun i => by rw [← hf]; exact Nat.mod_lt _ (by decide)
  have s1 : X - ((X / 2) &&& hm 5 8) = HF (fun i => f i - ((f i / 2) &&& 5)) 8 ∧ (X / 2) &&& hm 5 8 ≤ X := by
    have h1 := HF_1 8 f f16
    rw [← hd] at h1
    obtain ⟨a, b⟩ := HF_sub 8 f (fun i => (f i / 2) &&& 5) (fun i => (pc4_b (f16 i)).2.1)
    rw [← hd, ← h1] at a b
    exact ⟨b, a⟩
  have q5 : hm 5 8 = 1431655765 := by decide
  have q3 : hm 3 8 = 858993459 := by decide
  have e1 : bc1 (nI X) = nI (HF (fun i => f i - ((f i / 2) &&& 5)) 8) := by
    unfold bc1
    rw [us_n hX (by decide), nI_and, ← q5, Nat.pow_one, pk_sub s1.2, s1.1]
  generalize hg : (fun i => f i - ((f i / 2) &&& 5)) = g at e1
  have g16 : ∀ i, g i < 16 := fun i => by rw [← hg]; exact (pc4_b (f16 i)).2.2
  have Gb : HF g 8 ≤ X := by rw [← hg, ← s1.1]; omega
  have e2 : bc2 (nI (HF g 8)) = nI (HF (fun i => pc4 (f i)) 8) := by
    unfold bc2
    rw [us_n (by omega) (by decide), nI_and, nI_and, nI_add, ← q3, show (2 : Nat) ^ 2 = 4 from rfl, HF_3 8 g g16, HF_34 8 g g16, HF_add]
    have : (fun i => (g i &&& 3) + (g i / 4 &&& 3)) = fun i => pc4 (f i) := by
      funext i
      rw [← hg]
      exact pc4_ok (f16 i)
    rw [this]
  have b := fun i => (pc4_b (f16 i)).1
  have ev : ∀ i, X / 16 ^ i % 16 = f i := fun i => by rw [← hf]
  simp only [ev]
  generalize ht : (fun i => pc4 (f i)) = t at e2
  have et : ∀ i, pc4 (f i) = t i := fun i => by rw [← ht]
  simp only [et] at b ⊢
  have b0 := b 0
  have b1 := b 1
  have b2 := b 2
  have b3 := b 3
  have b4 := b 4
  have b5 := b 5
  have b6 := b 6
  have b7 := b 7
  have eH : HF t 8 = t 0 + 16 * (t 1 + 16 * (t 2 + 16 * (t 3 + 16 * (t 4 + 16 * (t 5 + 16 * (t 6 + 16 * t 7)))))) := rfl
  rw [eH] at e2
  generalize t 0 = t0 at b0 e2 ⊢
  generalize t 1 = t1 at b1 e2 ⊢
  generalize t 2 = t2 at b2 e2 ⊢
  generalize t 3 = t3 at b3 e2 ⊢
  generalize t 4 = t4 at b4 e2 ⊢
  generalize t 5 = t5 at b5 e2 ⊢
  generalize t 6 = t6 at b6 e2 ⊢
  generalize t 7 = t7 at b7 e2 ⊢
  have e3 : bc3 (nI (t0 + 16 * (t1 + 16 * (t2 + 16 * (t3 + 16 * (t4 + 16 * (t5 + 16 * (t6 + 16 * t7)))))))) = nI ((t0 + t1) + 256 * ((t2 + t3) + 256 * ((t4 + t5) + 256 * (t6 + t7)))) := by
    unfold bc3
    rw [us_n (by omega) (by decide), nI_add, nI_and]
    refine congrArg nI ?_
    have e : t0 + 16 * (t1 + 16 * (t2 + 16 * (t3 + 16 * (t4 + 16 * (t5 + 16 * (t6 + 16 * t7)))))) + (t0 + 16 * (t1 + 16 * (t2 + 16 * (t3 + 16 * (t4 + 16 * (t5 + 16 * (t6 + 16 * t7))))))) / 2 ^ 4 = (t0 + t1) + 16 * ((t1 + t2) + 16 * ((t2 + t3) + 16 * ((t3 + t4) + 16 * ((t4 + t5) + 16 * ((t5 + t6) + 16 * ((t6 + t7) + 16 * (t7 + 16 * 0))))))) := by omega
    rw [e, show 252645135 = 15 + 16 * (0 + 16 * (15 + 16 * (0 + 16 * (15 + 16 * (0 + 16 * (15 + 16 * (0 + 16 * 0))))))) from rfl]
    rw [and_15 (by omega) (by omega), and_15 (by omega) (by omega), and_15 (by omega) (by omega), and_15 (by omega) (by omega)]
    simp
  unfold bcn
  rw [e1, e2, e3]
  unfold bc5 bc4
  rw [us_n (by omega) (by decide), nI_add, us_n (by omega) (by decide), nI_add, nI_and, show 63 = 2 ^ 6 - 1 from rfl, Nat.and_two_pow_sub_one_eq_mod]
  refine congrArg nI ?_
  clear e1 e2 e3 eH b hd Gb g16 f16 s1 hf hg ht ev et
  have w1 : ((t0 + t1) + 256 * ((t2 + t3) + 256 * ((t4 + t5) + 256 * (t6 + t7)))) / 2 ^ 8 = (t2 + t3) + 256 * ((t4 + t5) + 256 * (t6 + t7)) := by omega
  rw [w1]
  have w2 : ((t0 + t1) + 256 * ((t2 + t3) + 256 * ((t4 + t5) + 256 * (t6 + t7))) + ((t2 + t3) + 256 * ((t4 + t5) + 256 * (t6 + t7)))) / 2 ^ 16 = (t4 + t5 + (t6 + t7)) + 256 * (t6 + t7) := by omega
  rw [w2]
  omega
theorem gb_n {X i : Nat} (hi : i < 32) : gb (nI X) i = decide (X / 2 ^ i % 2 = 1) := by
  unfold gb
  show (BitVec.ofNat 32 X).getLsbD i = _
  rw [BitVec.getLsbD_ofNat, Nat.testBit_eq_decide_div_mod_eq]
  simp [hi]
theorem cnt_b {X n : Nat} (hn : n ≤ 32) : cnt (gb (nI X)) n = cnt (fun i => decide (X / 2 ^ i % 2 = 1)) n := cnt_congr n (fun i hi => gb_n (by omega))
theorem if_m2 {y : Nat} : (if decide (y % 2 = 1) = true then 1 else 0) = y % 2 := by
  have : y % 2 = 0 ∨ y % 2 = 1 := by omega
  rcases this with h | h <;> simp [h]
theorem bcn_many {x : Int32} (h : ¬ x < 0) : bcn x = many x := by
  obtain ⟨X, hX, rfl⟩ := nI_of h
  rw [bcn_n hX, many_gb, cnt_b (by decide)]
  refine congrArg nI ?_
  have top : X / 2 ^ 31 % 2 = 0 := by
    rw [Nat.div_eq_of_lt hX]
  have e32 : cnt (fun i => decide (X / 2 ^ i % 2 = 1)) 31 = cnt (fun i => decide (X / 2 ^ i % 2 = 1)) 32 := by
    rw [cnt.eq_2 _ 31, if_m2, top]
    rfl
  rw [e32]
  have sp : ∀ j r, r < 4 → X / 2 ^ (4 * j + r) % 2 = X / 16 ^ j % 16 / 2 ^ r % 2 := by
    intro j r hr
    rw [Nat.pow_add, Nat.pow_mul, ← Nat.div_div_eq_div_mul, show (2 : Nat) ^ 4 = 16 from rfl]
    generalize X / 16 ^ j = q
    rcases (show r = 0 ∨ r = 1 ∨ r = 2 ∨ r = 3 by omega) with rfl | rfl | rfl | rfl <;> simp <;> omega
  have c4 : ∀ j, cnt (fun i => decide (X / 2 ^ i % 2 = 1)) (4 * j + 4) = cnt (fun i => decide (X / 2 ^ i % 2 = 1)) (4 * j) + pc4 (X / 16 ^ j % 16) := by
    intro j
    rw [show 4 * j + 4 = 4 * j + 3 + 1 from rfl, cnt, show 4 * j + 3 = 4 * j + 2 + 1 from rfl, cnt, show 4 * j + 2 = 4 * j + 1 + 1 from rfl, cnt, cnt, if_m2, if_m2, if_m2, if_m2]
    have s0 := sp j 0 (by decide)
    have s1 := sp j 1 (by decide)
    have s2 := sp j 2 (by decide)
    have s3 := sp j 3 (by decide)
    rw [Nat.add_zero] at s0
    rw [s0, s1, show 4 * j + 1 + 1 = 4 * j + 2 from rfl, s2, show 4 * j + 2 + 1 = 4 * j + 3 from rfl, s3]
    unfold pc4
    simp
    omega
  have z := c4 7
  have z6 := c4 6
  have z5 := c4 5
  have z4 := c4 4
  have z3 := c4 3
  have z2 := c4 2
  have z1 := c4 1
  have z0 := c4 0
  have zz : cnt (fun i => decide (X / 2 ^ i % 2 = 1)) 0 = 0 := rfl
  simp only [Nat.reduceMul, Nat.reduceAdd] at z z6 z5 z4 z3 z2 z1 z0
  omega
