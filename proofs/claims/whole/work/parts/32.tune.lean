/-! sets of stations; tuning -/
theorem it {α : Type} {F : Nat → α} : ∀ (n : Nat), (∀ k, k < n → F k = F (k + 1)) → F 0 = F n := by
  intro n
  induction n with
  | zero => intro _; rfl
  | succ n ih => intro h; exact (ih (fun k hk => h k (by omega))).trans (h n (by omega))
def ob (b : Bool) (i : Nat) : Int32 := if b then nI 1 <<< (nI i &&& 31) else nI 0
def mk (p : Nat → Bool) : Nat → Int32
  | 0 => nI 0
  | n + 1 => mk p n ||| ob (p n) n
theorem mk6 (p : Nat → Bool) : mk p 6 = nI 0 ||| ob (p 0) 0 ||| ob (p 1) 1 ||| ob (p 2) 2 ||| ob (p 3) 3 ||| ob (p 4) 4 ||| ob (p 5) 5 := rfl
theorem mk_congr {p q : Nat → Bool} (n : Nat) (h : ∀ i, i < n → p i = q i) : mk p n = mk q n := by
  induction n with
  | zero => rfl
  | succ n ih =>
    show mk p n ||| ob (p n) n = mk q n ||| ob (q n) n
    rw [ih (fun i hi => h i (by omega)), h n (by omega)]
theorem c6 {P : Nat → Prop} (h0 : P 0) (h1 : P 1) (h2 : P 2) (h3 : P 3) (h4 : P 4) (h5 : P 5) : ∀ a, a < 6 → P a := by
  intro a ha
  match a, ha with
  | 0, _ => exact h0
  | 1, _ => exact h1
  | 2, _ => exact h2
  | 3, _ => exact h3
  | 4, _ => exact h4
  | 5, _ => exact h5
  | n + 6, h => exact absurd h (by omega)
def m6 (b0 b1 b2 b3 b4 b5 : Bool) : Int32 := nI 0 ||| ob b0 0 ||| ob b1 1 ||| ob b2 2 ||| ob b3 3 ||| ob b4 4 ||| ob b5 5
theorem m6_set : ∀ b0 b1 b2 b3 b4 b5 : Bool, (m6 b0 b1 b2 b3 b4 b5 ||| (nI 1 <<< (nI 0 &&& 31)) = m6 true b1 b2 b3 b4 b5) ∧ (m6 b0 b1 b2 b3 b4 b5 ||| (nI 1 <<< (nI 1 &&& 31)) = m6 b0 true b2 b3 b4 b5) ∧ (m6 b0 b1 b2 b3 b4 b5 ||| (nI 1 <<< (nI 2 &&& 31)) = m6 b0 b1 true b3 b4 b5) ∧ (m6 b0 b1 b2 b3 b4 b5 ||| (nI 1 <<< (nI 3 &&& 31)) = m6 b0 b1 b2 true b4 b5) ∧ (m6 b0 b1 b2 b3 b4 b5 ||| (nI 1 <<< (nI 4 &&& 31)) = m6 b0 b1 b2 b3 true b5) ∧ (m6 b0 b1 b2 b3 b4 b5 ||| (nI 1 <<< (nI 5 &&& 31)) = m6 b0 b1 b2 b3 b4 true) := by decide +kernel
theorem m6_clr : ∀ b0 b1 b2 b3 b4 b5 : Bool, (m6 b0 b1 b2 b3 b4 b5 &&& ((nI 1 <<< (nI 0 &&& 31)) ^^^ (-1)) = m6 false b1 b2 b3 b4 b5) ∧ (m6 b0 b1 b2 b3 b4 b5 &&& ((nI 1 <<< (nI 1 &&& 31)) ^^^ (-1)) = m6 b0 false b2 b3 b4 b5) ∧ (m6 b0 b1 b2 b3 b4 b5 &&& ((nI 1 <<< (nI 2 &&& 31)) ^^^ (-1)) = m6 b0 b1 false b3 b4 b5) ∧ (m6 b0 b1 b2 b3 b4 b5 &&& ((nI 1 <<< (nI 3 &&& 31)) ^^^ (-1)) = m6 b0 b1 b2 false b4 b5) ∧ (m6 b0 b1 b2 b3 b4 b5 &&& ((nI 1 <<< (nI 4 &&& 31)) ^^^ (-1)) = m6 b0 b1 b2 b3 false b5) ∧ (m6 b0 b1 b2 b3 b4 b5 &&& ((nI 1 <<< (nI 5 &&& 31)) ^^^ (-1)) = m6 b0 b1 b2 b3 b4 false) := by decide +kernel
theorem m6_has : ∀ b0 b1 b2 b3 b4 b5 : Bool, hs (m6 b0 b1 b2 b3 b4 b5) (nI 0) = b0 ∧ hs (m6 b0 b1 b2 b3 b4 b5) (nI 1) = b1 ∧ hs (m6 b0 b1 b2 b3 b4 b5) (nI 2) = b2 ∧ hs (m6 b0 b1 b2 b3 b4 b5) (nI 3) = b3 ∧ hs (m6 b0 b1 b2 b3 b4 b5) (nI 4) = b4 ∧ hs (m6 b0 b1 b2 b3 b4 b5) (nI 5) = b5 := by decide +kernel
theorem mk_set {p : Nat → Bool} {a : Nat} (ha : a < 6) : mk p 6 ||| (nI 1 <<< (nI a &&& 31)) = mk (fun i => if i = a then true else p i) 6 := by
  have h := m6_set (p 0) (p 1) (p 2) (p 3) (p 4) (p 5)
  exact c6 (P := fun a => mk p 6 ||| (nI 1 <<< (nI a &&& 31)) = mk (fun i => if i = a then true else p i) 6) h.1 h.2.1 h.2.2.1 h.2.2.2.1 h.2.2.2.2.1 h.2.2.2.2.2 a ha
theorem mk_clr {p : Nat → Bool} {a : Nat} (ha : a < 6) : mk p 6 &&& ((nI 1 <<< (nI a &&& 31)) ^^^ (-1)) = mk (fun i => if i = a then false else p i) 6 := by
  have h := m6_clr (p 0) (p 1) (p 2) (p 3) (p 4) (p 5)
  exact c6 (P := fun a => mk p 6 &&& ((nI 1 <<< (nI a &&& 31)) ^^^ (-1)) = mk (fun i => if i = a then false else p i) 6) h.1 h.2.1 h.2.2.1 h.2.2.2.1 h.2.2.2.2.1 h.2.2.2.2.2 a ha
theorem mk_has {p : Nat → Bool} {a : Nat} (ha : a < 6) : hs (mk p 6) (nI a) = p a := by
  have h := m6_has (p 0) (p 1) (p 2) (p 3) (p 4) (p 5)
  exact c6 (P := fun a => hs (mk p 6) (nI a) = p a) h.1 h.2.1 h.2.2.1 h.2.2.2.1 h.2.2.2.2.1 h.2.2.2.2.2 a ha
theorem lt01 : (nI 0 ||| nI 0 = nI 0) ∧ (nI 0 ||| nI 1 = nI 1) ∧ (nI 1 ||| nI 0 = nI 1) ∧ (nI 1 ||| nI 1 = nI 1) := by decide +kernel
theorem n1z : (nI 1 = 0) ↔ False := by decide +kernel
theorem n0z : (nI 0 = 0) ↔ True := by decide +kernel
theorem bC_up5 {σ : mx_S} {i a b t k : Nat} {x : Int32} : bC (mx_up σ 5 i x) a b t k = bC σ a b t k := by simp [bC, mx_up_ap]
theorem bC_up6 {σ : mx_S} {i a b t k : Nat} {x : Int32} : bC (mx_up σ 6 i x) a b t k = bC σ a b t k := by simp [bC, mx_up_ap]
theorem bC_of {σ σ' : mx_S} (h1 : σ' 1 5 = σ 1 5) {a b t k : Nat} (h2 : σ' 2 (lix a b t) = σ 2 (lix a b t)) (h3 : σ' 3 (nix b t k) = σ 3 (nix b t k)) : bC σ' a b t k = bC σ a b t k := by simp only [bC, h1, h2, h3]
theorem spd_of0 {σ σ' : mx_S} {a b k : Nat} (h : ∀ t, t < 8 → bC σ' a b t k = bC σ a b t k) : spd σ' a b k = spd σ a b k := by
  unfold spd
  exact sm_congr 8 h
theorem spd_up5 {σ : mx_S} {i a b k : Nat} {x : Int32} : spd (mx_up σ 5 i x) a b k = spd σ a b k := spd_of0 (fun t _ => bC_up5)
theorem spd_of {σ σ' : mx_S} {a b k : Nat} (h : ∀ t, t < 8 → bC σ' a b t k = bC σ a b t k) : spd σ' a b k = spd σ a b k := by
  unfold spd
  exact sm_congr 8 h
def tn (σ : mx_S) (a b : Nat) : mx_S := mx_up (mx_up (mx_up σ 5 (six a b 0) (spd σ a b 0)) 5 (six a b 1) (spd σ a b 1)) 6 b (if spd σ a b 0 ≤ 0 ∧ spd σ a b 1 ≤ 0 then σ 6 b &&& ((nI 1 <<< (nI a &&& 31)) ^^^ (-1)) else σ 6 b ||| (nI 1 <<< (nI a &&& 31)))
theorem l_tune_17 {sh : List mx_C} {σ : mx_S} (hw : WI sh) {a b k : Nat} (ha : a < 6) (hb : b < 6) (hk : k < 2) {c : Value} : vv 2 68 17 [.ref 1, .int (nI a), .int (nI b), c, .int (nI k), .int (nI 0), .int (nI 0)] [] (sh, σ) = vv 2 68 45 [.ref 1, .int (nI a), .int (nI b), c, .int (nI k), .int (spd σ a b k), .int (nI 8)] [] (sh, σ) := by
  refine (it (F := fun t => vv 2 68 17 [.ref 1, .int (nI a), .int (nI b), c, .int (nI k), .int (sm (fun t => bC σ a b t k) t), .int (nI t)] [] (sh, σ)) 8 (fun t ht => ?_)).trans ?_
  · rw [e_Wi_tune_17]
    simp (disch := first | exact wR hw | omega) only [e_Wi_tune_0, e_Wi_tune_1, e_Wi_tune_2, e_Wi_tune_3, e_Wi_tune_5, e_Wi_tune_7, e_Wi_tune_8, e_Wi_tune_11, e_Wi_tune_12, e_Wi_tune_14, e_Wi_tune_15, e_Wi_tune_19, e_Wi_tune_21, e_Wi_tune_24, e_Wi_tune_26, e_Wi_tune_27, e_Wi_tune_28, e_Wi_tune_29, e_Wi_tune_31, e_Wi_tune_33, e_Wi_tune_36, e_Wi_tune_37, e_Wi_tune_39, e_Wi_tune_42, e_Wi_tune_45, e_Wi_tune_46, e_Wi_tune_49, e_Wi_tune_50, e_Wi_tune_51, e_Wi_tune_53, e_Wi_tune_56, e_Wi_tune_58, e_Wi_tune_59, e_Wi_tune_60, e_Wi_tune_62, e_Wi_tune_65, e_Wi_tune_66, e_Wi_tune_69, e_Wi_tune_70, e_Wi_tune_71, e_Wi_tune_72, e_Wi_tune_75, e_Wi_tune_78, e_Wi_tune_79, e_Wi_tune_82, e_Wi_tune_83, e_Wi_tune_84, e_Wi_tune_87, e_Wi_tune_88, e_Wi_tune_91, e_Wi_tune_92, e_Wi_tune_93, e_Wi_tune_94, e_Wi_tune_97, e_Wi_tune_98, e_Wi_tune_101, e_Wi_tune_102, e_Wi_tune_105, e_Wi_tune_106, e_Wi_tune_107, e_Wi_tune_108, e_Wi_tune_111, e_Wi_tune_112, e_Wi_tune_113, e_Wi_tune_114, e_Wi_tune_115, vr_v, vr_n, vr_vh, vr_nh, vg_some, wF_0 hw, wF_1 hw, wF_2 hw, wF_3 hw, wF_4 hw, wF_5 hw, wI_5 hw, wR hw, wL_2 hw, wL_3 hw, wL_4 hw, wL_5 hw, wL_6 hw, wW_4 hw, wW_2 hw, wW_3 hw, wW_5 hw, wW_6 hw, c_Wi_bitsFrom hw ha hb ht hk, nI_ltI, nI_add, nI_mul, nI_clamp, mx_in_nI, ht, if_true, sm]
  · simp (disch := first | exact wR hw | omega) only [e_Wi_tune_17, e_Wi_tune_19, e_Wi_tune_21, nI_ltI, nI_add, nI_mul, nI_clamp, mx_in_nI, Nat.lt_irrefl, if_false, spd]
theorem c_Wi_tune {sh : List mx_C} {σ : mx_S} (hw : WI sh) {a b : Nat} (ha : a < 6) (hb : b < 6) : vv 2 68 0 [.ref 1, .int (nI a), .int (nI b), .null, .null, .null, .null] [] (sh, σ) = some (none, (sh, tn σ a b)) := by
  have z0 := six_lt ha hb (show 0 < 2 by decide)
  have z1 := six_lt ha hb (show 1 < 2 by decide)
  by_cases h0 : spd σ a b 0 ≤ 0 <;> by_cases h1 : spd σ a b 1 ≤ 0 <;>
    simp (disch := first | exact wR hw | omega) only [e_Wi_tune_0, e_Wi_tune_1, e_Wi_tune_2, e_Wi_tune_3, e_Wi_tune_5, e_Wi_tune_7, e_Wi_tune_8, e_Wi_tune_11, e_Wi_tune_12, e_Wi_tune_14, e_Wi_tune_15, e_Wi_tune_19, e_Wi_tune_21, e_Wi_tune_24, e_Wi_tune_26, e_Wi_tune_27, e_Wi_tune_28, e_Wi_tune_29, e_Wi_tune_31, e_Wi_tune_33, e_Wi_tune_36, e_Wi_tune_37, e_Wi_tune_39, e_Wi_tune_42, e_Wi_tune_45, e_Wi_tune_46, e_Wi_tune_49, e_Wi_tune_50, e_Wi_tune_51, e_Wi_tune_53, e_Wi_tune_56, e_Wi_tune_58, e_Wi_tune_59, e_Wi_tune_60, e_Wi_tune_62, e_Wi_tune_65, e_Wi_tune_66, e_Wi_tune_69, e_Wi_tune_70, e_Wi_tune_71, e_Wi_tune_72, e_Wi_tune_75, e_Wi_tune_78, e_Wi_tune_79, e_Wi_tune_82, e_Wi_tune_83, e_Wi_tune_84, e_Wi_tune_87, e_Wi_tune_88, e_Wi_tune_91, e_Wi_tune_92, e_Wi_tune_93, e_Wi_tune_94, e_Wi_tune_97, e_Wi_tune_98, e_Wi_tune_101, e_Wi_tune_102, e_Wi_tune_105, e_Wi_tune_106, e_Wi_tune_107, e_Wi_tune_108, e_Wi_tune_111, e_Wi_tune_112, e_Wi_tune_113, e_Wi_tune_114, e_Wi_tune_115, l_tune_17 hw ha hb, vr_v, vr_n, vr_vh, vr_nh, vg_some, wF_0 hw, wF_1 hw, wF_2 hw, wF_3 hw, wF_4 hw, wF_5 hw, wI_5 hw, wR hw, wL_2 hw, wL_3 hw, wL_4 hw, wL_5 hw, wL_6 hw, wW_4 hw, wW_2 hw, wW_3 hw, wW_5 hw, wW_6 hw, c_Wi_speedAt, c_Se_of, nI_ltI, nI_add, nI_mul, nI_clamp, mx_in_nI, if_true, if_false, spd_up5, h0, h1, lt01, n1z, n0z, mx_up_ap, tn, and_true, and_false, and_self, Nat.reduceLT, Nat.reduceAdd, Nat.reduceEqDiff]
