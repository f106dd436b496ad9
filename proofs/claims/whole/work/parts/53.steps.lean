/-! the steps of a slot, in words of their own -/
def itr (f : mx_S → Nat → mx_S) (A : mx_S) : Nat → mx_S
  | 0 => A
  | n + 1 => f (itr f A n) n
def toN (A : mx_S) (i : Nat) : Nat := (A 1 i).toNatClampNeg
def rkN (A : mx_S) (i : Nat) : Nat := (A 2 i).toNatClampNeg
def byN (A : mx_S) (i : Nat) : Nat := (A 3 i).toNatClampNeg
def sgN (A : mx_S) (i : Nat) : Nat := (A 4 i).toNatClampNeg
def ARi (A : mx_S) (i : Nat) : Prop := (∃ p, p ≤ 2 ∧ A 0 i = nI p) ∧ (∃ t, t < 6 ∧ A 1 i = nI t) ∧ (∃ r, r < 4 ∧ A 2 i = nI r) ∧ (∃ n, n ≤ 400 ∧ A 3 i = nI n ∧ (¬ A 0 i = nI 0 → 0 < n)) ∧ (∃ t, t < 4 ∧ A 4 i = nI t) ∧ (∃ n, n < 65536 ∧ A 5 i = nI n) ∧ (∃ b, A 8 i = bI b)
def AR (A : mx_S) : Prop := ∀ i, i < 6 → ARi A i
theorem AR.to {A : mx_S} (h : AR A) {i : Nat} (hi : i < 6) : toN A i < 6 ∧ A 1 i = nI (toN A i) := by
  obtain ⟨-, ⟨t, ht, e⟩, -⟩ := h i hi
  unfold toN
  rw [e, nI_clamp (by omega)]
  exact ⟨ht, rfl⟩
theorem AR.rk {A : mx_S} (h : AR A) {i : Nat} (hi : i < 6) : rkN A i < 4 ∧ A 2 i = nI (rkN A i) := by
  obtain ⟨-, -, ⟨t, ht, e⟩, -⟩ := h i hi
  unfold rkN
  rw [e, nI_clamp (by omega)]
  exact ⟨ht, rfl⟩
theorem AR.by_ {A : mx_S} (h : AR A) {i : Nat} (hi : i < 6) : byN A i ≤ 400 ∧ A 3 i = nI (byN A i) ∧ (¬ A 0 i = nI 0 → 0 < byN A i) := by
  obtain ⟨-, -, -, ⟨t, ht, e, z⟩, -⟩ := h i hi
  unfold byN
  rw [e, nI_clamp (by omega)]
  exact ⟨ht, rfl, z⟩
theorem AR.sg {A : mx_S} (h : AR A) {i : Nat} (hi : i < 6) : sgN A i < 4 ∧ A 4 i = nI (sgN A i) := by
  obtain ⟨-, -, -, -, ⟨t, ht, e⟩, -⟩ := h i hi
  unfold sgN
  rw [e, nI_clamp (by omega)]
  exact ⟨ht, rfl⟩
theorem ap_ne {A : mx_S} {f i g j : Nat} {x : Int32} (h : ¬ (g = f ∧ j = i)) : mx_up A f i x g j = A g j := by
  rw [mx_up_ap]
  by_cases e : g = f
  · subst e
    rw [if_pos rfl, if_neg (fun z => h ⟨rfl, z⟩)]
  · rw [if_neg e]
theorem ap_eq {A : mx_S} {f i : Nat} {x : Int32} : mx_up A f i x f i = x := by rw [mx_up_ap, if_pos rfl, if_pos rfl]
/-- a field that ranges do not speak of -/
theorem AR.free {A : mx_S} (h : AR A) {f i : Nat} {x : Int32} (hf : f = 6 ∨ f = 7 ∨ 9 ≤ f) : AR (mx_up A f i x) := by
  intro j hj
  unfold ARi
  simp only [ap_ne (A := A) (f := f) (i := i) (x := x) (g := 0) (j := j) (by omega), ap_ne (A := A) (f := f) (i := i) (x := x) (g := 1) (j := j) (by omega), ap_ne (A := A) (f := f) (i := i) (x := x) (g := 2) (j := j) (by omega), ap_ne (A := A) (f := f) (i := i) (x := x) (g := 3) (j := j) (by omega), ap_ne (A := A) (f := f) (i := i) (x := x) (g := 4) (j := j) (by omega), ap_ne (A := A) (f := f) (i := i) (x := x) (g := 5) (j := j) (by omega), ap_ne (A := A) (f := f) (i := i) (x := x) (g := 8) (j := j) (by omega)]
  exact h j hj
theorem AR.f0 {A : mx_S} (h : AR A) {i p : Nat} (hp : p ≤ 2) (hz : p = 0 ∨ ¬ A 0 i = nI 0) : AR (mx_up A 0 i (nI p)) := by
  intro j hj
  unfold ARi
  simp only [ap_ne (A := A) (f := 0) (i := i) (x := nI p) (g := 1) (j := j) (by omega), ap_ne (A := A) (f := 0) (i := i) (x := nI p) (g := 2) (j := j) (by omega), ap_ne (A := A) (f := 0) (i := i) (x := nI p) (g := 3) (j := j) (by omega), ap_ne (A := A) (f := 0) (i := i) (x := nI p) (g := 4) (j := j) (by omega), ap_ne (A := A) (f := 0) (i := i) (x := nI p) (g := 5) (j := j) (by omega), ap_ne (A := A) (f := 0) (i := i) (x := nI p) (g := 8) (j := j) (by omega)]
  obtain ⟨h0, h1, h2, ⟨n, hn, en, zn⟩, h4⟩ := h j hj
  by_cases e : j = i
  · subst e
    rw [ap_eq]
    refine ⟨⟨p, hp, rfl⟩, h1, h2, ⟨n, hn, en, fun z => ?_⟩, h4⟩
    rcases hz with rfl | hz
    · exact absurd rfl z
    · exact zn hz
  · rw [ap_ne (by omega)]
    exact ⟨h0, h1, h2, ⟨n, hn, en, zn⟩, h4⟩
theorem AR.f4 {A : mx_S} (h : AR A) {i t : Nat} (ht : t < 4) : AR (mx_up A 4 i (nI t)) := by
  intro j hj
  unfold ARi
  simp only [ap_ne (A := A) (f := 4) (i := i) (x := nI t) (g := 1) (j := j) (by omega), ap_ne (A := A) (f := 4) (i := i) (x := nI t) (g := 2) (j := j) (by omega), ap_ne (A := A) (f := 4) (i := i) (x := nI t) (g := 3) (j := j) (by omega), ap_ne (A := A) (f := 4) (i := i) (x := nI t) (g := 0) (j := j) (by omega), ap_ne (A := A) (f := 4) (i := i) (x := nI t) (g := 5) (j := j) (by omega), ap_ne (A := A) (f := 4) (i := i) (x := nI t) (g := 8) (j := j) (by omega)]
  obtain ⟨h0, h1, h2, h3, h4, h5⟩ := h j hj
  by_cases e : j = i
  · subst e
    rw [ap_eq]
    exact ⟨h0, h1, h2, h3, ⟨t, ht, rfl⟩, h5⟩
  · rw [ap_ne (by omega)]
    exact ⟨h0, h1, h2, h3, h4, h5⟩
theorem AR.f5 {A : mx_S} (h : AR A) {i t : Nat} (ht : t < 65536) : AR (mx_up A 5 i (nI t)) := by
  intro j hj
  unfold ARi
  simp only [ap_ne (A := A) (f := 5) (i := i) (x := nI t) (g := 1) (j := j) (by omega), ap_ne (A := A) (f := 5) (i := i) (x := nI t) (g := 2) (j := j) (by omega), ap_ne (A := A) (f := 5) (i := i) (x := nI t) (g := 3) (j := j) (by omega), ap_ne (A := A) (f := 5) (i := i) (x := nI t) (g := 0) (j := j) (by omega), ap_ne (A := A) (f := 5) (i := i) (x := nI t) (g := 4) (j := j) (by omega), ap_ne (A := A) (f := 5) (i := i) (x := nI t) (g := 8) (j := j) (by omega)]
  obtain ⟨h0, h1, h2, h3, h4, h5, h6⟩ := h j hj
  by_cases e : j = i
  · subst e
    rw [ap_eq]
    exact ⟨h0, h1, h2, h3, h4, ⟨t, ht, rfl⟩, h6⟩
  · rw [ap_ne (by omega)]
    exact ⟨h0, h1, h2, h3, h4, h5, h6⟩
theorem AR.f8 {A : mx_S} (h : AR A) {i : Nat} {b : Bool} : AR (mx_up A 8 i (bI b)) := by
  intro j hj
  unfold ARi
  simp only [ap_ne (A := A) (f := 8) (i := i) (x := bI b) (g := 1) (j := j) (by omega), ap_ne (A := A) (f := 8) (i := i) (x := bI b) (g := 2) (j := j) (by omega), ap_ne (A := A) (f := 8) (i := i) (x := bI b) (g := 3) (j := j) (by omega), ap_ne (A := A) (f := 8) (i := i) (x := bI b) (g := 0) (j := j) (by omega), ap_ne (A := A) (f := 8) (i := i) (x := bI b) (g := 4) (j := j) (by omega), ap_ne (A := A) (f := 8) (i := i) (x := bI b) (g := 5) (j := j) (by omega)]
  obtain ⟨h0, h1, h2, h3, h4, h5, h6⟩ := h j hj
  by_cases e : j = i
  · subst e
    rw [ap_eq]
    exact ⟨h0, h1, h2, h3, h4, h5, ⟨b, rfl⟩⟩
  · rw [ap_ne (by omega)]
    exact ⟨h0, h1, h2, h3, h4, h5, h6⟩
theorem nI_self (x : Int32) : x = nI x.toBitVec.toNat := Int32.toBitVec_inj.mp (BitVec.eq_of_toNat_eq (pk_tn x.toBitVec.isLt).symm)
theorem up16_n (s : Int32) : ∃ m, m < 65536 ∧ up16 s = nI m := by
  have h := pk_ushr s (nI 16) 16 (by decide +kernel)
  refine ⟨_, ?_, nI_self _⟩
  unfold up16
  rw [h]
  have := s.toBitVec.isLt
  omega
theorem lfB_n (s : Int32) {w : Nat} (h0 : 0 < w) (hw : w < 1000) : ∃ m, m < 65536 ∧ lfB s (nI w) = nI m := by
  obtain ⟨m, hm, e⟩ := up16_n s
  unfold lfB
  rw [e, pk_rem (by omega) h0 (by omega)]
  exact ⟨m % w, Nat.lt_of_le_of_lt (Nat.mod_le _ _) hm, rfl⟩
theorem AR_wt {A : mx_S} (h : AR A) {i r g : Nat} (hz : ¬ A 0 i = nI 0) : AR (wt A i r g) := by
  unfold wt
  obtain ⟨m, hm, e⟩ := lfB_n (sdB (A 12 0)) (wid_pos r (mn3 g)).1 (by have := (wid_pos r (mn3 g)).2; omega)
  rw [e]
  exact ((((h.f0 (by decide) (Or.inr hz)).f4 (mn3_lt g)).free (Or.inr (Or.inr (by decide)))).f5 hm).free (Or.inl rfl)
/-- step 1 -/
def f1 (σ : mx_S) (W S : Nat → Bool) (A : mx_S) (k : Nat) : mx_S := if W k && !(held σ A W S k) then (if A 5 k = 0 then A else mx_up A 5 k (A 5 k - nI 1)) else A
def r1 (σ : mx_S) (W S : Nat → Bool) (A : mx_S) (k : Nat) : Bool := W k && !(held σ A W S k) && decide (A 5 k = 0)
/-- step 2 -/
def gov (σ A : mx_S) (k : Nat) : Int32 := nI (qup (symN (spd σ k (toN A k) 0).toNatClampNeg (spd σ k (toN A k) 1).toNatClampNeg (byN A k)) 10)
def f2 (σ : mx_S) (R : Nat → Bool) (A : mx_S) (k : Nat) : mx_S := if R k then (if rch σ k (toN A k) then mx_up (mx_up (mx_up A 0 k (nI 2)) 8 k (nI 0)) 7 k (gov σ A k) else mx_up (mx_up A 0 k (nI 0)) 12 1 (A 12 1 + nI 1)) else A
def t2 (σ : mx_S) (R : Nat → Bool) (A : mx_S) (k : Nat) : Bool := R k && rch σ k (toN A k)
/-- step 3 -/
def sp3 (σ : mx_S) (Z : Nat → Bool) (A : mx_S) (k : Nat) : Bool := Z (toN A k) || anyb (fun j => if j = k then false else hx σ (toN A k) j && Z j) 6
def f3 (σ : mx_S) (Z : Nat → Bool) (A : mx_S) (k : Nat) : mx_S := if Z k && sp3 σ Z A k then mx_up A 8 k (nI 1) else A
/-- step 4 -/
def ar4 (A : mx_S) (k : Nat) : mx_S := mx_up (mx_up (mx_up (mx_up A 0 k (nI 0)) 9 k (A 9 k + nI 1)) 11 (toN A k) (A 11 (toN A k) + nI 1)) 12 2 (A 12 2 + nI 1)
def co4 (A : mx_S) (k : Nat) : mx_S := wt (mx_up (mx_up A 10 k (A 10 k + nI 1)) 12 3 (A 12 3 + nI 1)) k (rkN A k) (sgN A k + 1)
def e4 (A : mx_S) (k : Nat) : Bool := !(decide (0 < A 7 k - nI 1))
def f4 (Z : Nat → Bool) (A : mx_S) (k : Nat) : mx_S := if Z k then (if e4 A k then (if A 8 k = 0 then ar4 (mx_up A 7 k (A 7 k - nI 1)) k else co4 (mx_up A 7 k (A 7 k - nI 1)) k) else mx_up A 7 k (A 7 k - nI 1)) else A
/-- step 5 -/
def df5 (A : mx_S) (k : Nat) : mx_S := if A 6 k = 0 then wt A k (rkN A k) (sgN A k + 1) else (if 0 < A 5 k then mx_up (mx_up A 6 k (A 6 k - nI 1)) 5 k (A 5 k - nI 1) else mx_up A 6 k (A 6 k - nI 1))
def f5 (σ : mx_S) (P T : Nat → Bool) (A : mx_S) (k : Nat) : mx_S := if P k && anyb (fun j => hx σ k j && T j) 6 then df5 A k else A
theorem AR.itr {f : mx_S → Nat → mx_S} {A : mx_S} (h : AR A) (n : Nat) (hn : n ≤ 6) (hf : ∀ B k, k < 6 → AR B → AR (f B k)) : AR (itr f A n) := by
  induction n with
  | zero => exact h
  | succ n ih => exact hf _ n (by omega) (ih (by omega))
theorem AR_f1 {σ A : mx_S} {W S : Nat → Bool} {k : Nat} (hk : k < 6) (h : AR A) : AR (f1 σ W S A k) := by
  unfold f1
  split
  · split
    · exact h
    · next hz =>
      obtain ⟨-, -, -, -, -, ⟨n, hn, e⟩, -⟩ := h k hk
      rw [e] at hz ⊢
      have hn0 : ¬ n = 0 := fun z => hz (by rw [z]; exact nI_0)
      rw [pk_sub (by omega)]
      exact h.f5 (by omega)
  · exact h
theorem AR_f2 {σ A : mx_S} {R : Nat → Bool} {k : Nat} (hk : k < 6) (hR : R k = true → ¬ A 0 k = nI 0) (h : AR A) : AR (f2 σ R A k) := by
  unfold f2
  split
  · next hr =>
    split
    · exact ((h.f0 (by decide) (Or.inr (hR hr))).f8 (b := false)).free (Or.inr (Or.inl rfl))
    · exact (h.f0 (p := 0) (by decide) (Or.inl rfl)).free (Or.inr (Or.inr (by decide)))
  · exact h
theorem AR_f3 {σ A : mx_S} {Z : Nat → Bool} {k : Nat} (h : AR A) : AR (f3 σ Z A k) := by
  unfold f3
  split
  · exact h.f8 (b := true)
  · exact h
theorem AR_f4 {A : mx_S} {Z : Nat → Bool} {k : Nat} (hZ : Z k = true → ¬ A 0 k = nI 0) (h : AR A) : AR (f4 Z A k) := by
  unfold f4
  split
  · next hz =>
    have h7 : AR (mx_up A 7 k (A 7 k - nI 1)) := h.free (Or.inr (Or.inl rfl))
    split
    · split
      · unfold ar4
        exact (((h7.f0 (p := 0) (by decide) (Or.inl rfl)).free (Or.inr (Or.inr (by decide)))).free (Or.inr (Or.inr (by decide)))).free (Or.inr (Or.inr (by decide)))
      · unfold co4
        refine AR_wt ((h7.free (Or.inr (Or.inr (by decide)))).free (Or.inr (Or.inr (by decide)))) ?_
        rw [ap_ne (by omega), ap_ne (by omega), ap_ne (by omega)]
        exact hZ hz
    · exact h7
  · exact h
theorem AR_df5 {A : mx_S} {k : Nat} (hk : k < 6) (hz : ¬ A 0 k = nI 0) (h : AR A) : AR (df5 A k) := by
  unfold df5
  split
  · exact AR_wt h hz
  · split
    · next hc =>
      obtain ⟨-, -, -, -, -, ⟨n, hn, e⟩, -⟩ := h k hk
      rw [e] at hc ⊢
      have hn0 : 0 < n := (n0lt (by omega)).mp hc
      rw [pk_sub (by omega)]
      exact (h.free (Or.inl rfl)).f5 (by omega)
    · exact h.free (Or.inl rfl)
theorem AR_f5 {σ A : mx_S} {P T : Nat → Bool} {k : Nat} (hk : k < 6) (hP : P k = true → ¬ A 0 k = nI 0) (h : AR A) : AR (f5 σ P T A k) := by
  unfold f5
  split
  · next hp =>
    simp only [Bool.and_eq_true] at hp
    exact AR_df5 hk (hP hp.1) h
  · exact h
