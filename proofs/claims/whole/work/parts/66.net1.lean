/-! networks: keys that are there, who disturbs whom -/
def anN (p : Nat → Bool) : Nat → Bool
  | 0 => false
  | n + 1 => anN p n || p n
theorem anN_iff {p : Nat → Bool} (n : Nat) : anN p n = true ↔ ∃ i, i < n ∧ p i = true := by
  induction n with
  | zero => simp [anN]
  | succ n ih =>
    rw [anN, Bool.or_eq_true, ih]
    constructor
    · rintro (⟨i, h1, h2⟩ | h)
      · exact ⟨i, by omega, h2⟩
      · exact ⟨n, by omega, h⟩
    · rintro ⟨i, h1, h2⟩
      by_cases e : i = n
      · subst e; exact Or.inr h2
      · exact Or.inl ⟨i, by omega, h2⟩
theorem anN_congr {p q : Nat → Bool} (n : Nat) (h : ∀ i, i < n → p i = q i) : anN p n = anN q n := by
  induction n with
  | zero => rfl
  | succ n ih => rw [anN, anN, ih (fun i hi => h i (by omega)), h n (by omega)]
theorem bool_iff {a b : Bool} (h : a = true ↔ b = true) : a = b := by cases a <;> cases b <;> simp_all
def kn (σ : mx_S) (s : Nat) : Nat := (σ 4 s).toNatClampNeg
theorem CW_kn {σ : mx_S} (hc : CW σ) {s : Nat} (hs : s < 6) : kn σ s < 6 ∧ σ 4 s = nI (kn σ s) ∧ σ 26 s = nI (kn σ s) := by
  obtain ⟨h1, k, hk, h2⟩ := hc.2.2.2 s hs
  have : kn σ s = k := by unfold kn; rw [h2, nI_clamp (by omega)]
  rw [this, h1]
  exact ⟨hk, h2, h2⟩
def th (σ : mx_S) (x : Nat) : Bool := anN (fun s => decide (kn σ s = x)) 6
theorem mk_no : mk (fun _ => false) 6 = nI 0 := show m6 false false false false false false = nI 0 by decide +kernel
theorem c_Ne_keysThere {σ : mx_S} (hc : CW σ) : vv 1 35 0 [.ref 20, .null, .null] [] (shF, σ) = some (some (.int (mk (th σ) 6)), (shF, σ)) := by
  rw [e_Ne_keysThere_0, e_Ne_keysThere_1, e_Ne_keysThere_2, e_Ne_keysThere_3, ← mk_no]
  refine (it (F := fun k => vv 1 35 4 [.ref 20, .int (mk (fun x => anN (fun s => decide (kn σ s = x)) k) 6), .int (nI k)] [] (shF, σ)) 6 (fun k hk => ?_)).trans ?_
  · rw [e_Ne_keysThere_4]
    have h := CW_kn hc hk
    simp (disch := first | exact fR_0 | exact fR_1 | exact fR_7 | exact fR_11 | exact fR_19 | exact fR_20 | exact fR_23 | omega) only [e_Ne_keysThere_0, e_Ne_keysThere_1, e_Ne_keysThere_2, e_Ne_keysThere_3, e_Ne_keysThere_5, e_Ne_keysThere_7, e_Ne_keysThere_10, e_Ne_keysThere_11, e_Ne_keysThere_12, e_Ne_keysThere_15, e_Ne_keysThere_16, e_Ne_keysThere_19, e_Ne_keysThere_22, e_Ne_keysThere_23, e_Ne_keysThere_24, e_Ne_keysThere_27, e_Ne_keysThere_30, e_Ne_keysThere_31, vr_v, vr_n, vr_vh, vr_nh, vg_some, fF_20_0, nI_ltI, nI_add, nI_mul, nI_clamp, mx_in_nI, hk, if_true, c_Wi_keyOf WI_F hk, h.2.1, c_Se_of, mk_set h.1]
    refine congrArg (fun z => vv 1 35 4 [.ref 20, .int z, .int (nI (k + 1))] [] (shF, σ)) (mk_congr 6 (fun x hx => ?_))
    rw [anN]
    by_cases e : x = kn σ k
    · simp [e]
    · have e' : ¬ kn σ k = x := fun z => e z.symm
      simp [e, e']
  · simp (disch := first | exact fR_0 | exact fR_1 | exact fR_7 | exact fR_11 | exact fR_19 | exact fR_20 | exact fR_23 | omega) only [e_Ne_keysThere_4, e_Ne_keysThere_5, e_Ne_keysThere_7, e_Ne_keysThere_30, e_Ne_keysThere_31, nI_ltI, nI_add, nI_mul, nI_clamp, mx_in_nI, Nat.lt_irrefl, if_false]
    rfl
theorem c_Ne_isThere {σ : mx_S} (hc : CW σ) {k : Nat} (hk : k < 6) : vv 2 36 0 [.ref 20, .int (nI k)] [] (shF, σ) = some (some (.int (bI (th σ k))), (shF, σ)) := by
  simp (disch := first | exact fR_0 | exact fR_1 | exact fR_7 | exact fR_11 | exact fR_19 | exact fR_20 | exact fR_23 | omega) only [e_Ne_isThere_0, e_Ne_isThere_1, e_Ne_isThere_4, e_Ne_isThere_5, e_Ne_isThere_8_0, e_Ne_isThere_8_1, e_Ne_isThere_8_b, vr_v, vr_n, vr_vh, vr_nh, vg_some, c_Ne_keysThere hc, c_Se_has, mk_has hk]
theorem c_Ne_howMany {σ : mx_S} (hc : CW σ) : vv 2 37 0 [.ref 20] [] (shF, σ) = some (some (.int (many (mk (th σ) 6))), (shF, σ)) := by
  simp (disch := first | exact fR_0 | exact fR_1 | exact fR_7 | exact fR_11 | exact fR_19 | exact fR_20 | exact fR_23 | omega) only [e_Ne_howMany_0, e_Ne_howMany_1, e_Ne_howMany_4, e_Ne_howMany_7, vr_v, vr_n, vr_vh, vr_nh, vg_some, c_Ne_keysThere hc, c_JI_bitCount, mk_cnt]
theorem c_Mo_isNetwork {σ : mx_S} {key : Int32} : vv 0 163 0 [.ref 23, .int key, .null, .null] [] (shF, σ) = some (some (.int (bI (anN (fun s => decide (σ 26 s = key)) 6))), (shF, σ)) := by
  rw [e_Mo_isNetwork_0, e_Mo_isNetwork_1, e_Mo_isNetwork_2, e_Mo_isNetwork_3]
  refine (it (F := fun k => vv 0 163 4 [.ref 23, .int key, .int (bI (anN (fun s => decide (σ 26 s = key)) k)), .int (nI k)] [] (shF, σ)) 6 (fun k hk => ?_)).trans ?_
  · rw [e_Mo_isNetwork_4]
    cases h : anN (fun s => decide (σ 26 s = key)) k with
    | true => simp (disch := first | exact fR_0 | exact fR_1 | exact fR_7 | exact fR_11 | exact fR_19 | exact fR_20 | exact fR_23 | omega) only [e_Mo_isNetwork_0, e_Mo_isNetwork_1, e_Mo_isNetwork_2, e_Mo_isNetwork_3, e_Mo_isNetwork_5, e_Mo_isNetwork_7, e_Mo_isNetwork_10, e_Mo_isNetwork_11, e_Mo_isNetwork_14, e_Mo_isNetwork_15, e_Mo_isNetwork_18, e_Mo_isNetwork_19, e_Mo_isNetwork_20, e_Mo_isNetwork_21, e_Mo_isNetwork_24, e_Mo_isNetwork_25, e_Mo_isNetwork_28, e_Mo_isNetwork_29, e_Mo_isNetwork_30, e_Mo_isNetwork_33, e_Mo_isNetwork_36, e_Mo_isNetwork_37_0, e_Mo_isNetwork_37_1, e_Mo_isNetwork_37_b, vr_v, vr_n, vr_vh, vr_nh, vg_some, fF_23_0, fF_23_1, fF_23_2, fF_23_3, fI_23_3, fF_23_4, fF_23_5, fF_23_6, fI_23_6, fF_23_7, fF_23_8, fF_23_9, fF_23_10, fF_23_11, fF_23_12, fF_23_13, fF_23_14, fF_23_15, fF_23_16, fF_23_17, fF_23_18, fF_23_19, fI_23_19, fF_23_20, fI_23_20, fF_23_21, fI_23_21, fF_23_22, fI_23_22, fF_23_23, fI_23_23, fF_23_24, fI_23_24, fF_23_25, fI_23_25, fF_23_26, fI_23_26, fF_23_27, fI_23_27, fF_23_28, fI_23_28, fF_23_29, fF_23_30, fF_23_31, fR_23, fL_24, fW_24, fL_25, fW_25, fL_26, fW_26, fL_27, fW_27, fL_28, fW_28, fL_29, fW_29, fL_30, fW_30, fL_31, fW_31, fL_32, fW_32, fL_33, fW_33, fL_34, fW_34, fL_35, fW_35, fL_36, fW_36, fW_37, fL_38, fW_38, fL_39, fW_39, fL_40, fW_40, fL_41, fW_41, fL_42, fW_42, fL_43, fW_43, nI_ltI, nI_add, nI_mul, nI_clamp, mx_in_nI, hk, if_true, if_false, h, anN, bI_t, n1z, Bool.true_or]
    | false =>
      simp (disch := first | exact fR_0 | exact fR_1 | exact fR_7 | exact fR_11 | exact fR_19 | exact fR_20 | exact fR_23 | omega) only [e_Mo_isNetwork_0, e_Mo_isNetwork_1, e_Mo_isNetwork_2, e_Mo_isNetwork_3, e_Mo_isNetwork_5, e_Mo_isNetwork_7, e_Mo_isNetwork_10, e_Mo_isNetwork_11, e_Mo_isNetwork_14, e_Mo_isNetwork_15, e_Mo_isNetwork_18, e_Mo_isNetwork_19, e_Mo_isNetwork_20, e_Mo_isNetwork_21, e_Mo_isNetwork_24, e_Mo_isNetwork_25, e_Mo_isNetwork_28, e_Mo_isNetwork_29, e_Mo_isNetwork_30, e_Mo_isNetwork_33, e_Mo_isNetwork_36, e_Mo_isNetwork_37_0, e_Mo_isNetwork_37_1, e_Mo_isNetwork_37_b, vr_v, vr_n, vr_vh, vr_nh, vg_some, fF_23_0, fF_23_1, fF_23_2, fF_23_3, fI_23_3, fF_23_4, fF_23_5, fF_23_6, fI_23_6, fF_23_7, fF_23_8, fF_23_9, fF_23_10, fF_23_11, fF_23_12, fF_23_13, fF_23_14, fF_23_15, fF_23_16, fF_23_17, fF_23_18, fF_23_19, fI_23_19, fF_23_20, fI_23_20, fF_23_21, fI_23_21, fF_23_22, fI_23_22, fF_23_23, fI_23_23, fF_23_24, fI_23_24, fF_23_25, fI_23_25, fF_23_26, fI_23_26, fF_23_27, fI_23_27, fF_23_28, fI_23_28, fF_23_29, fF_23_30, fF_23_31, fR_23, fL_24, fW_24, fL_25, fW_25, fL_26, fW_26, fL_27, fW_27, fL_28, fW_28, fL_29, fW_29, fL_30, fW_30, fL_31, fW_31, fL_32, fW_32, fL_33, fW_33, fL_34, fW_34, fL_35, fW_35, fL_36, fW_36, fW_37, fL_38, fW_38, fL_39, fW_39, fL_40, fW_40, fL_41, fW_41, fL_42, fW_42, fL_43, fW_43, nI_ltI, nI_add, nI_mul, nI_clamp, mx_in_nI, hk, if_true, if_false, h, anN, bI_f, n0z, Bool.false_or]
      split <;> simp_all [bI]
  · simp (disch := first | exact fR_0 | exact fR_1 | exact fR_7 | exact fR_11 | exact fR_19 | exact fR_20 | exact fR_23 | omega) only [e_Mo_isNetwork_4, e_Mo_isNetwork_5, e_Mo_isNetwork_7, e_Mo_isNetwork_36, e_Mo_isNetwork_37_b, nI_ltI, nI_add, nI_mul, nI_clamp, mx_in_nI, Nat.lt_irrefl, if_false]
theorem isN_th {σ : mx_S} (hc : CW σ) {k : Nat} (hk : k < 6) : anN (fun s => decide (σ 26 s = nI k)) 6 = th σ k := anN_congr 6 (fun s hs => by
  have h := CW_kn hc hs
  rw [h.2.2]
  exact decide_eq_decide.mpr (nI_eq (by omega) (by omega)))
theorem isN_no {σ : mx_S} (hc : CW σ) {k : Int32} (hk : wi k (nI 0) (nI 5) = false) : anN (fun s => decide (σ 26 s = k)) 6 = false := by
  cases h : anN (fun s => decide (σ 26 s = k)) 6 with
  | false => rfl
  | true =>
    obtain ⟨s, hs, e⟩ := (anN_iff 6).mp h
    have h := CW_kn hc hs
    rw [h.2.2, decide_eq_true_eq] at e
    rw [← e, wi_nI (by decide) (by omega)] at hk
    simp at hk
    omega
def dst (σ : mx_S) (D : Nat → Nat → Bool) : mx_S := fun c => if c = 21 then (fun k => if k < 6 then mk (D k) 6 else σ 21 k) else σ c
theorem dst_nn {σ : mx_S} {D : Nat → Nat → Bool} {c : Nat} (h : ¬ c = 21) : dst σ D c = σ c := by unfold dst; rw [if_neg h]
theorem dst_21 {σ : mx_S} {D : Nat → Nat → Bool} {k : Nat} (h : k < 6) : dst σ D 21 k = mk (D k) 6 := by unfold dst; rw [if_pos rfl, if_pos h]
theorem dst_up {σ : mx_S} {D : Nat → Nat → Bool} {k o : Nat} (hk : k < 6) (ho : o < 6) : mx_up (dst σ D) 21 k (mk (D k) 6 ||| (nI 1 <<< (nI o &&& 31))) = dst σ (fun x y => D x y || (decide (x = k) && decide (y = o))) := by
  funext c i
  rw [mx_up_ap]
  by_cases hc : c = 21
  · subst hc
    rw [if_pos rfl]
    by_cases hi : i = k
    · subst hi
      rw [if_pos rfl, dst_21 hk, mk_set ho]
      refine mk_congr 6 (fun y _ => ?_)
      by_cases e : y = o <;> simp [e]
    · rw [if_neg hi]
      by_cases h6 : i < 6
      · rw [dst_21 h6, dst_21 h6]
        refine mk_congr 6 (fun y _ => ?_)
        simp [hi]
      · unfold dst
        rw [if_pos rfl, if_pos rfl, if_neg h6, if_neg h6]
  · rw [if_neg hc, dst_nn hc, dst_nn hc]
def cel (σ : mx_S) (b a x y : Nat) : Bool := hx σ b a && decide (¬ kn σ a = kn σ b) && ((decide (x = kn σ a) && decide (y = kn σ b)) || (decide (x = kn σ b) && decide (y = kn σ a)))
theorem c_Ne_part {σ : mx_S} {D : Nat → Nat → Bool} {k o : Nat} (hk : k < 6) (ho : o < 6) : vv 1 40 0 [.ref 20, .int (nI k), .int (nI o)] [] (shF, dst σ D) = some (none, (shF, dst σ (fun x y => D x y || (decide (¬ k = o) && ((decide (x = k) && decide (y = o)) || (decide (x = o) && decide (y = k))))))) := by
  by_cases e : k = o
  · subst e
    simp (disch := first | exact fR_0 | exact fR_1 | exact fR_7 | exact fR_11 | exact fR_19 | exact fR_20 | exact fR_23 | omega) only [e_Ne_part_0, e_Ne_part_1, e_Ne_part_2, e_Ne_part_5, e_Ne_part_6, e_Ne_part_7, e_Ne_part_10, e_Ne_part_11, e_Ne_part_12, e_Ne_part_13, e_Ne_part_14, e_Ne_part_17, e_Ne_part_18, e_Ne_part_19, e_Ne_part_20, e_Ne_part_23, e_Ne_part_24, e_Ne_part_25, e_Ne_part_26, e_Ne_part_27, e_Ne_part_30, e_Ne_part_31, e_Ne_part_32, vr_v, vr_n, vr_vh, vr_nh, vg_some, if_true]
    simp
  · simp (disch := first | exact fR_0 | exact fR_1 | exact fR_7 | exact fR_11 | exact fR_19 | exact fR_20 | exact fR_23 | omega) only [e_Ne_part_0, e_Ne_part_1, e_Ne_part_2, e_Ne_part_5, e_Ne_part_6, e_Ne_part_7, e_Ne_part_10, e_Ne_part_11, e_Ne_part_12, e_Ne_part_13, e_Ne_part_14, e_Ne_part_17, e_Ne_part_18, e_Ne_part_19, e_Ne_part_20, e_Ne_part_23, e_Ne_part_24, e_Ne_part_25, e_Ne_part_26, e_Ne_part_27, e_Ne_part_30, e_Ne_part_31, e_Ne_part_32, vr_v, vr_n, vr_vh, vr_nh, vg_some, fF_20_1, fL_21, fW_21, nI_ltI, nI_add, nI_mul, nI_clamp, mx_in_nI, nI_eq, e, if_true, if_false, c_Se_of, dst_21 hk, dst_up hk ho]
    have h2 := dst_up (σ := σ) (D := fun x y => D x y || (decide (x = k) && decide (y = o))) ho hk
    have h3 := dst_21 (σ := σ) (D := fun x y => D x y || (decide (x = k) && decide (y = o))) ho
    rw [h3, h2]
    refine congrArg (fun z => some (none, (shF, dst σ z))) ?_
    funext x y
    simp [e, Bool.or_assoc]
def D1 (σ : mx_S) (b k : Nat) (x y : Nat) : Bool := anN (fun b' => anN (fun a => cel σ b' a x y) 6) b || anN (fun a => cel σ b a x y) k
def DD (σ : mx_S) (x y : Nat) : Bool := anN (fun b' => anN (fun a => cel σ b' a x y) 6) 6
def clr (σ : mx_S) (n : Nat) : mx_S := fun c => if c = 21 then (fun k => if k < n then nI 0 else σ 21 k) else σ c
theorem clr_up {σ : mx_S} {n : Nat} : mx_up (clr σ n) 21 n (nI 0) = clr σ (n + 1) := by
  funext c i
  rw [mx_up_ap]
  by_cases hc : c = 21
  · subst hc
    rw [if_pos rfl]
    simp only [clr, if_true]
    by_cases hi : i = n
    · rw [if_pos hi, if_pos (by omega)]
    · rw [if_neg hi]
      by_cases h : i < n
      · rw [if_pos h, if_pos (by omega)]
      · rw [if_neg h, if_neg (by omega)]
  · simp only [clr, if_neg hc]
theorem clr_0 {σ : mx_S} : clr σ 0 = σ := by
  funext c i
  by_cases hc : c = 21
  · subst hc; simp [clr]
  · simp [clr, hc]
theorem clr_6 {σ : mx_S} : clr σ 6 = dst σ (fun _ _ => false) := by
  unfold clr dst
  simp only [mk_no]
theorem c_Ne_meet {σ : mx_S} (hc : CW σ) : vv 2 39 0 [.ref 20, .null, .null] [] (shF, σ) = some (none, (shF, dst σ (DD σ))) := by
  rw [e_Ne_meet_0, e_Ne_meet_1]
  have l1 : vv 2 39 2 [.ref 20, .int (nI 0), .null] [] (shF, σ) = vv 2 39 2 [.ref 20, .int (nI 6), .null] [] (shF, dst σ (fun _ _ => false)) := by
    have := it (F := fun k => vv 2 39 2 [.ref 20, .int (nI k), .null] [] (shF, clr σ k)) 6 (fun k hk => by
      show vv _ _ _ _ _ _ = vv _ _ _ _ _ _
      rw [e_Ne_meet_2]
      simp (disch := first | exact fR_0 | exact fR_1 | exact fR_7 | exact fR_11 | exact fR_19 | exact fR_20 | exact fR_23 | omega) only [e_Ne_meet_3, e_Ne_meet_5, e_Ne_meet_8, e_Ne_meet_9, e_Ne_meet_12, e_Ne_meet_13, e_Ne_meet_14, e_Ne_meet_15, e_Ne_meet_18, vr_v, vr_n, vr_vh, vr_nh, vg_some, fF_20_1, fL_21, fW_21, nI_ltI, nI_add, nI_mul, nI_clamp, mx_in_nI, hk, if_true, clr_up])
    rw [clr_0, clr_6] at this
    exact this
  rw [l1]
  simp (disch := first | exact fR_0 | exact fR_1 | exact fR_7 | exact fR_11 | exact fR_19 | exact fR_20 | exact fR_23 | omega) only [e_Ne_meet_2, e_Ne_meet_3, e_Ne_meet_5, e_Ne_meet_21, e_Ne_meet_22, nI_ltI, nI_add, nI_mul, nI_clamp, mx_in_nI, Nat.lt_irrefl, if_false]
  obtain ⟨x', e, -⟩ := itx (F := fun k (x : Value) => vv 2 39 23 [.ref 20, .int (nI k), x] [] (shF, dst σ (D1 σ k 0))) (I := fun _ _ => True) 6 (fun k x hk _ => by
    refine ⟨.int (nI 6), ?_, trivial⟩
    have s0 : vv 2 39 23 [.ref 20, .int (nI k), x] [] (shF, dst σ (D1 σ k 0)) = vv 2 39 31 [.ref 20, .int (nI k), .int (nI 0)] [] (shF, dst σ (D1 σ k 0)) := by
      simp (disch := first | exact fR_0 | exact fR_1 | exact fR_7 | exact fR_11 | exact fR_19 | exact fR_20 | exact fR_23 | omega) only [e_Ne_meet_23, e_Ne_meet_24, e_Ne_meet_26, e_Ne_meet_29, e_Ne_meet_30, nI_ltI, nI_add, nI_mul, nI_clamp, mx_in_nI, hk, if_true]
    have s1 := it (F := fun a => vv 2 39 31 [.ref 20, .int (nI k), .int (nI a)] [] (shF, dst σ (D1 σ k a))) 6 (fun a ha => by
      show vv _ _ _ _ _ _ = vv _ _ _ _ _ _
      rw [e_Ne_meet_31]
      have ka := CW_kn hc ha
      have kb := CW_kn hc hk
      have e4 : ∀ D, dst σ D 4 = σ 4 := fun D => dst_nn (by decide)
      have e6 : ∀ D, dst σ D 6 = σ 6 := fun D => dst_nn (by decide)
      cases h : hx σ k a with
      | false =>
        have hD : D1 σ k (a + 1) = D1 σ k a := by
          funext x y
          simp [D1, anN, cel, h]
        have h' : hs (σ 6 k) (nI a) = false := h
        simp (disch := first | exact fR_0 | exact fR_1 | exact fR_7 | exact fR_11 | exact fR_19 | exact fR_20 | exact fR_23 | omega) only [e_Ne_meet_32, e_Ne_meet_34, e_Ne_meet_37, e_Ne_meet_38, e_Ne_meet_41, e_Ne_meet_42, e_Ne_meet_43, e_Ne_meet_46, e_Ne_meet_69, e_Ne_meet_72, vr_v, vr_n, vr_vh, vr_nh, vg_some, fF_20_0, nI_ltI, nI_add, nI_mul, nI_clamp, mx_in_nI, ha, if_true, c_Wi_hears WI_F hk, e6, h', bI_0, hD]
      | true =>
        have hD : D1 σ k (a + 1) = fun x y => D1 σ k a x y || (decide (¬ kn σ a = kn σ k) && ((decide (x = kn σ a) && decide (y = kn σ k)) || (decide (x = kn σ k) && decide (y = kn σ a)))) := by
          funext x y
          simp [D1, anN, cel, h, Bool.or_assoc]
        have h' : hs (σ 6 k) (nI a) = true := h
        simp (disch := first | exact fR_0 | exact fR_1 | exact fR_7 | exact fR_11 | exact fR_19 | exact fR_20 | exact fR_23 | omega) only [e_Ne_meet_32, e_Ne_meet_34, e_Ne_meet_37, e_Ne_meet_38, e_Ne_meet_41, e_Ne_meet_42, e_Ne_meet_43, e_Ne_meet_46, e_Ne_meet_49, e_Ne_meet_50, e_Ne_meet_51, e_Ne_meet_54, e_Ne_meet_55, e_Ne_meet_58, e_Ne_meet_59, e_Ne_meet_62, e_Ne_meet_63, e_Ne_meet_66, e_Ne_meet_69, e_Ne_meet_72, vr_v, vr_n, vr_vh, vr_nh, vg_some, fF_20_0, nI_ltI, nI_add, nI_mul, nI_clamp, mx_in_nI, ha, if_true, if_false, c_Wi_hears WI_F hk, c_Wi_keyOf WI_F hk, c_Wi_keyOf WI_F ha, e4, e6, ka.2.1, kb.2.1, h', bI_0, tf, c_Ne_part ka.1 kb.1, hD])
    have s2 : vv 2 39 31 [.ref 20, .int (nI k), .int (nI 6)] [] (shF, dst σ (D1 σ k 6)) = vv 2 39 23 [.ref 20, .int (nI (k + 1)), .int (nI 6)] [] (shF, dst σ (D1 σ (k + 1) 0)) := by
      have hD : D1 σ (k + 1) 0 = D1 σ k 6 := by
        funext x y
        simp [D1, anN]
      rw [hD]
      simp (disch := first | exact fR_0 | exact fR_1 | exact fR_7 | exact fR_11 | exact fR_19 | exact fR_20 | exact fR_23 | omega) only [e_Ne_meet_31, e_Ne_meet_32, e_Ne_meet_34, e_Ne_meet_75, e_Ne_meet_78, nI_ltI, nI_add, nI_mul, nI_clamp, mx_in_nI, Nat.lt_irrefl, if_false]
    exact s0.trans (s1.trans s2)) .null trivial
  have z0 : D1 σ 0 0 = fun _ _ => false := by
    funext x y
    simp [D1, anN]
  have z6 : D1 σ 6 0 = DD σ := by
    funext x y
    simp [D1, DD, anN]
  simp only [z0, z6] at e
  rw [e]
  simp (disch := first | exact fR_0 | exact fR_1 | exact fR_7 | exact fR_11 | exact fR_19 | exact fR_20 | exact fR_23 | omega) only [e_Ne_meet_23, e_Ne_meet_24, e_Ne_meet_26, e_Ne_meet_81, nI_ltI, nI_add, nI_mul, nI_clamp, mx_in_nI, Nat.lt_irrefl, if_false]
/-! the same of the reference -/
def dq (σ : mx_S) (x y a b : Nat) : Bool := decide (kn σ a = x) && decide (kn σ b = y) && (hx σ a b || hx σ b a)
def dM (σ : mx_S) (x y : Nat) : Bool := anN (fun a => anN (fun b => dq σ x y a b) 6) 6 && decide (¬ x = y)
theorem c_Mo_doDisturb {σ : mx_S} (hW : WOK σ) (hc : CW σ) {x y : Nat} (hx' : x < 6) (hy : y < 6) : vv 4 164 0 [.ref 23, .int (nI x), .int (nI y), .null, .null, .null] [] (shF, σ) = some (some (.int (bI (dM σ x y))), (shF, σ)) := by
  rw [e_Mo_doDisturb_0, e_Mo_doDisturb_1, e_Mo_doDisturb_2, e_Mo_doDisturb_3]
  obtain ⟨x', e, -⟩ := itx (F := fun a (z : Value) => vv 4 164 5 [.ref 23, .int (nI x), .int (nI y), .int (bI (anN (fun a => anN (fun b => dq σ x y a b) 6) a)), .int (nI a), z] [] (shF, σ)) (I := fun _ _ => True) 6 (fun a z ha _ => by
    refine ⟨.int (nI 6), ?_, trivial⟩
    have s0 : vv 4 164 5 [.ref 23, .int (nI x), .int (nI y), .int (bI (anN (fun a => anN (fun b => dq σ x y a b) 6) a)), .int (nI a), z] [] (shF, σ) = vv 4 164 15 [.ref 23, .int (nI x), .int (nI y), .int (bI (anN (fun a => anN (fun b => dq σ x y a b) 6) a || anN (fun b => dq σ x y a b) 0)), .int (nI a), .int (nI 0)] [] (shF, σ) := by
      simp (disch := first | exact fR_0 | exact fR_1 | exact fR_7 | exact fR_11 | exact fR_19 | exact fR_20 | exact fR_23 | omega) only [e_Mo_doDisturb_5, e_Mo_doDisturb_7, e_Mo_doDisturb_9, e_Mo_doDisturb_12, e_Mo_doDisturb_13, nI_ltI, nI_add, nI_mul, nI_clamp, mx_in_nI, ha, if_true, anN, Bool.or_false]
    have s1 := it (F := fun b => vv 4 164 15 [.ref 23, .int (nI x), .int (nI y), .int (bI (anN (fun a => anN (fun b => dq σ x y a b) 6) a || anN (fun b => dq σ x y a b) b)), .int (nI a), .int (nI b)] [] (shF, σ)) 6 (fun b hb => by
      show vv _ _ _ _ _ _ = vv _ _ _ _ _ _
      rw [e_Mo_doDisturb_15]
      have ka := CW_kn hc ha
      have kb := CW_kn hc hb
      rw [anN.eq_2 (fun b => dq σ x y a b), ← Bool.or_assoc]
      cases h : (anN (fun a => anN (fun b => dq σ x y a b) 6) a || anN (fun b => dq σ x y a b) b) with
      | true => simp (disch := first | exact fR_0 | exact fR_1 | exact fR_7 | exact fR_11 | exact fR_19 | exact fR_20 | exact fR_23 | omega) only [e_Mo_doDisturb_17, e_Mo_doDisturb_19, e_Mo_doDisturb_22, e_Mo_doDisturb_23, e_Mo_doDisturb_70, e_Mo_doDisturb_71, e_Mo_doDisturb_75, e_Mo_doDisturb_76, e_Mo_doDisturb_79, vr_v, vr_n, vr_vh, vr_nh, vg_some, fF_23_0, fF_23_1, fF_23_2, fF_23_3, fI_23_3, fF_23_4, fF_23_5, fF_23_6, fI_23_6, fF_23_7, fF_23_8, fF_23_9, fF_23_10, fF_23_11, fF_23_12, fF_23_13, fF_23_14, fF_23_15, fF_23_16, fF_23_17, fF_23_18, fF_23_19, fI_23_19, fF_23_20, fI_23_20, fF_23_21, fI_23_21, fF_23_22, fI_23_22, fF_23_23, fI_23_23, fF_23_24, fI_23_24, fF_23_25, fI_23_25, fF_23_26, fI_23_26, fF_23_27, fI_23_27, fF_23_28, fI_23_28, fF_23_29, fF_23_30, fF_23_31, fR_23, fL_24, fW_24, fL_25, fW_25, fL_26, fW_26, fL_27, fW_27, fL_28, fW_28, fL_29, fW_29, fL_30, fW_30, fL_31, fW_31, fL_32, fW_32, fL_33, fW_33, fL_34, fW_34, fL_35, fW_35, fL_36, fW_36, fW_37, fL_38, fW_38, fL_39, fW_39, fL_40, fW_40, fL_41, fW_41, fL_42, fW_42, fL_43, fW_43, nI_ltI, nI_add, nI_mul, nI_clamp, mx_in_nI, hb, if_true, if_false, bI_t, n1z, Bool.true_or]
      | false =>
        simp (disch := first | exact fR_0 | exact fR_1 | exact fR_7 | exact fR_11 | exact fR_19 | exact fR_20 | exact fR_23 | omega) only [e_Mo_doDisturb_17, e_Mo_doDisturb_19, e_Mo_doDisturb_22, e_Mo_doDisturb_23, e_Mo_doDisturb_26, e_Mo_doDisturb_27, e_Mo_doDisturb_30, e_Mo_doDisturb_32, e_Mo_doDisturb_33, e_Mo_doDisturb_34, e_Mo_doDisturb_37, e_Mo_doDisturb_38, e_Mo_doDisturb_41, e_Mo_doDisturb_43, e_Mo_doDisturb_44, e_Mo_doDisturb_45, e_Mo_doDisturb_48, e_Mo_doDisturb_49, e_Mo_doDisturb_51, e_Mo_doDisturb_53, e_Mo_doDisturb_56, e_Mo_doDisturb_59, e_Mo_doDisturb_60, e_Mo_doDisturb_62, e_Mo_doDisturb_64, e_Mo_doDisturb_67, e_Mo_doDisturb_70, e_Mo_doDisturb_71, e_Mo_doDisturb_74, e_Mo_doDisturb_75, e_Mo_doDisturb_76, e_Mo_doDisturb_79, vr_v, vr_n, vr_vh, vr_nh, vg_some, fF_23_0, fF_23_1, fF_23_2, fF_23_3, fI_23_3, fF_23_4, fF_23_5, fF_23_6, fI_23_6, fF_23_7, fF_23_8, fF_23_9, fF_23_10, fF_23_11, fF_23_12, fF_23_13, fF_23_14, fF_23_15, fF_23_16, fF_23_17, fF_23_18, fF_23_19, fI_23_19, fF_23_20, fI_23_20, fF_23_21, fI_23_21, fF_23_22, fI_23_22, fF_23_23, fI_23_23, fF_23_24, fI_23_24, fF_23_25, fI_23_25, fF_23_26, fI_23_26, fF_23_27, fI_23_27, fF_23_28, fI_23_28, fF_23_29, fF_23_30, fF_23_31, fR_23, fL_24, fW_24, fL_25, fW_25, fL_26, fW_26, fL_27, fW_27, fL_28, fW_28, fL_29, fW_29, fL_30, fW_30, fL_31, fW_31, fL_32, fW_32, fL_33, fW_33, fL_34, fW_34, fL_35, fW_35, fL_36, fW_36, fW_37, fL_38, fW_38, fL_39, fW_39, fL_40, fW_40, fL_41, fW_41, fL_42, fW_42, fL_43, fW_43, nI_ltI, nI_add, nI_mul, nI_clamp, mx_in_nI, hb, if_true, if_false, bI_f, n0z, Bool.false_or, ka.2.2, kb.2.2, nI_eq, c_Mo_hears hW hc ha hb, c_Mo_hears hW hc hb ha, bI_0, dq]
        by_cases e1 : kn σ a = x
        · by_cases e2 : kn σ b = y
          · cases hx σ a b <;> cases hx σ b a <;> simp [e1, e2, bI]
          · simp [e1, e2, bI]
        · simp [e1, bI])
    have s2 : vv 4 164 15 [.ref 23, .int (nI x), .int (nI y), .int (bI (anN (fun a => anN (fun b => dq σ x y a b) 6) a || anN (fun b => dq σ x y a b) 6)), .int (nI a), .int (nI 6)] [] (shF, σ) = vv 4 164 5 [.ref 23, .int (nI x), .int (nI y), .int (bI (anN (fun a => anN (fun b => dq σ x y a b) 6) (a + 1))), .int (nI (a + 1)), .int (nI 6)] [] (shF, σ) := by
      rw [anN.eq_2 (fun a => anN (fun b => dq σ x y a b) 6)]
      simp (disch := first | exact fR_0 | exact fR_1 | exact fR_7 | exact fR_11 | exact fR_19 | exact fR_20 | exact fR_23 | omega) only [e_Mo_doDisturb_15, e_Mo_doDisturb_17, e_Mo_doDisturb_19, e_Mo_doDisturb_82, e_Mo_doDisturb_85, nI_ltI, nI_add, nI_mul, nI_clamp, mx_in_nI, Nat.lt_irrefl, if_false]
    exact s0.trans (s1.trans s2)) .null trivial
  refine Eq.trans ?_ (e.trans ?_)
  · rfl
  · simp (disch := first | exact fR_0 | exact fR_1 | exact fR_7 | exact fR_11 | exact fR_19 | exact fR_20 | exact fR_23 | omega) only [e_Mo_doDisturb_5, e_Mo_doDisturb_7, e_Mo_doDisturb_9, e_Mo_doDisturb_88, e_Mo_doDisturb_89, e_Mo_doDisturb_92, e_Mo_doDisturb_93, e_Mo_doDisturb_94, e_Mo_doDisturb_97, e_Mo_doDisturb_98, e_Mo_doDisturb_101, e_Mo_doDisturb_102_0, e_Mo_doDisturb_102_1, nI_ltI, nI_add, nI_mul, nI_clamp, mx_in_nI, Nat.lt_irrefl, if_false, bI_0, nI_eq, dM]
    generalize anN (fun a => anN (fun b => dq σ x y a b) 6) 6 = B
    cases B <;> by_cases e : x = y <;> simp [e, bI]
theorem c_Mo_disturbed {σ : mx_S} (hW : WOK σ) (hc : CW σ) {x : Nat} (hx' : x < 6) : vv 5 165 0 [.ref 23, .int (nI x), .null, .null] [] (shF, σ) = some (some (.int (mk (dM σ x) 6)), (shF, σ)) := by
  rw [e_Mo_disturbed_0, e_Mo_disturbed_1, e_Mo_disturbed_2, e_Mo_disturbed_3]
  refine (it (F := fun k => vv 5 165 4 [.ref 23, .int (nI x), .int (mk (dM σ x) k), .int (nI k)] [] (shF, σ)) 6 (fun k hk => ?_)).trans ?_
  · rw [e_Mo_disturbed_4]
    simp (disch := first | exact fR_0 | exact fR_1 | exact fR_7 | exact fR_11 | exact fR_19 | exact fR_20 | exact fR_23 | omega) only [e_Mo_disturbed_0, e_Mo_disturbed_1, e_Mo_disturbed_2, e_Mo_disturbed_3, e_Mo_disturbed_5, e_Mo_disturbed_7, e_Mo_disturbed_10, e_Mo_disturbed_11, e_Mo_disturbed_12, e_Mo_disturbed_13, e_Mo_disturbed_14, e_Mo_disturbed_17, e_Mo_disturbed_20, e_Mo_disturbed_21, e_Mo_disturbed_22, e_Mo_disturbed_23, e_Mo_disturbed_26, e_Mo_disturbed_27, e_Mo_disturbed_28, e_Mo_disturbed_29, e_Mo_disturbed_32, e_Mo_disturbed_35, e_Mo_disturbed_36, vr_v, vr_n, vr_vh, vr_nh, vg_some, fF_23_0, fF_23_1, fF_23_2, fF_23_3, fI_23_3, fF_23_4, fF_23_5, fF_23_6, fI_23_6, fF_23_7, fF_23_8, fF_23_9, fF_23_10, fF_23_11, fF_23_12, fF_23_13, fF_23_14, fF_23_15, fF_23_16, fF_23_17, fF_23_18, fF_23_19, fI_23_19, fF_23_20, fI_23_20, fF_23_21, fI_23_21, fF_23_22, fI_23_22, fF_23_23, fI_23_23, fF_23_24, fI_23_24, fF_23_25, fI_23_25, fF_23_26, fI_23_26, fF_23_27, fI_23_27, fF_23_28, fI_23_28, fF_23_29, fF_23_30, fF_23_31, fR_23, fL_24, fW_24, fL_25, fW_25, fL_26, fW_26, fL_27, fW_27, fL_28, fW_28, fL_29, fW_29, fL_30, fW_30, fL_31, fW_31, fL_32, fW_32, fL_33, fW_33, fL_34, fW_34, fL_35, fW_35, fL_36, fW_36, fW_37, fL_38, fW_38, fL_39, fW_39, fL_40, fW_40, fL_41, fW_41, fL_42, fW_42, fL_43, fW_43, nI_ltI, nI_add, nI_mul, nI_clamp, mx_in_nI, hk, if_true, c_Mo_doDisturb hW hc hx' hk, bI_0, mk]
    cases dM σ x k <;> simp [ob]
  · simp (disch := first | exact fR_0 | exact fR_1 | exact fR_7 | exact fR_11 | exact fR_19 | exact fR_20 | exact fR_23 | omega) only [e_Mo_disturbed_4, e_Mo_disturbed_5, e_Mo_disturbed_7, e_Mo_disturbed_35, e_Mo_disturbed_36, nI_ltI, nI_add, nI_mul, nI_clamp, mx_in_nI, Nat.lt_irrefl, if_false]
theorem dM_DD {σ : mx_S} {x y : Nat} : dM σ x y = DD σ x y := by
  refine bool_iff ?_
  unfold dM DD
  rw [Bool.and_eq_true, anN_iff, anN_iff, decide_eq_true_eq]
  constructor
  · rintro ⟨⟨a, ha, h⟩, hxy⟩
    obtain ⟨b, hb, h⟩ := (anN_iff 6).mp h
    simp only [dq, Bool.and_eq_true, Bool.or_eq_true, decide_eq_true_eq] at h
    obtain ⟨⟨e1, e2⟩, h | h⟩ := h
    · refine ⟨a, ha, (anN_iff 6).mpr ⟨b, hb, ?_⟩⟩
      simp only [cel, Bool.and_eq_true, Bool.or_eq_true, decide_eq_true_eq, h, true_and]
      exact ⟨fun z => hxy (by rw [← e1, ← e2, z]), Or.inr ⟨e1.symm, e2.symm⟩⟩
    · refine ⟨b, hb, (anN_iff 6).mpr ⟨a, ha, ?_⟩⟩
      simp only [cel, Bool.and_eq_true, Bool.or_eq_true, decide_eq_true_eq, h, true_and]
      exact ⟨fun z => hxy (by rw [← e1, ← e2, z]), Or.inl ⟨e1.symm, e2.symm⟩⟩
  · rintro ⟨b, hb, h⟩
    obtain ⟨a, ha, h⟩ := (anN_iff 6).mp h
    simp only [cel, Bool.and_eq_true, Bool.or_eq_true, decide_eq_true_eq] at h
    obtain ⟨⟨h, hk⟩, ⟨e1, e2⟩ | ⟨e1, e2⟩⟩ := h
    · refine ⟨⟨a, ha, (anN_iff 6).mpr ⟨b, hb, ?_⟩⟩, fun z => hk (by rw [← e1, ← e2, z])⟩
      simp [dq, e1, e2, h]
    · refine ⟨⟨b, hb, (anN_iff 6).mpr ⟨a, ha, ?_⟩⟩, fun z => hk (by rw [← e1, ← e2, z])⟩
      simp [dq, e1, e2, h]
theorem DD_of {σ σ' : mx_S} (h4 : σ' 4 = σ 4) (h6 : σ' 6 = σ 6) : DD σ' = DD σ := by
  funext x y
  unfold DD cel hx kn
  rw [h4, h6]
theorem th_of {σ σ' : mx_S} (h4 : σ' 4 = σ 4) : th σ' = th σ := by
  funext x
  unfold th kn
  rw [h4]
theorem p_disturbs {σ : mx_S} (hI : INV σ) (s : Int32) : PR σ (fun σ => vv 4 103 0 [.ref 0, .int s] [] (shF, σ)) (fun σ => vv 6 166 0 [.ref 23, .int s] [] (shF, σ)) := by
  cases h1 : wi s (nI 0) (nI 5) with
  | false => exact PR.same hI (-1) (by simp only [e_Ml_disturbs_0, e_Ml_disturbs_1, e_Ml_disturbs_4, e_Ml_disturbs_7, e_Ml_disturbs_8, e_Ml_disturbs_11, e_Ml_disturbs_12, e_Ml_disturbs_15, e_Ml_disturbs_18, e_Ml_disturbs_19, e_Ml_disturbs_20, e_Ml_disturbs_21, e_Ml_disturbs_24, e_Ml_disturbs_25, e_Ml_disturbs_28, vr_v, vr_n, vr_vh, vr_nh, vg_some, c_Ml_isWithin, c_Ml_isStation, c_Ml_areTwo, c_Ml_isTone, c_Ml_isHalf, c_Ml_isKey, c_Mo_within, c_Mo_isStation, c_Mo_areTwo, c_Mo_isTone, c_Mo_isHalf, bI_0, if_true, if_false, Bool.false_eq_true, eq_self, tf, h1]) (by simp (disch := first | exact fR_0 | exact fR_1 | exact fR_7 | exact fR_11 | exact fR_19 | exact fR_20 | exact fR_23 | omega) only [e_Mo_disturbs_0, e_Mo_disturbs_1, e_Mo_disturbs_2, e_Mo_disturbs_5, e_Mo_disturbs_8, e_Mo_disturbs_9, e_Mo_disturbs_10, e_Mo_disturbs_13, e_Mo_disturbs_16, e_Mo_disturbs_17, vr_v, vr_n, vr_vh, vr_nh, vg_some, c_Ml_isWithin, c_Ml_isStation, c_Ml_areTwo, c_Ml_isTone, c_Ml_isHalf, c_Ml_isKey, c_Mo_within, c_Mo_isStation, c_Mo_areTwo, c_Mo_isTone, c_Mo_isHalf, bI_0, if_true, if_false, Bool.false_eq_true, eq_self, tf, c_Mo_isNetwork, isN_no hI.2.1 h1])
  | true =>
    obtain ⟨k, hk, rfl⟩ := wi_of (by decide) h1
    have hk : k < 6 := by omega
    cases h2 : th σ k with
    | false => exact PR.same hI (-1) (by simp (disch := first | exact fR_0 | exact fR_1 | exact fR_7 | exact fR_11 | exact fR_19 | exact fR_20 | exact fR_23 | omega) only [e_Ml_disturbs_0, e_Ml_disturbs_1, e_Ml_disturbs_4, e_Ml_disturbs_7, e_Ml_disturbs_8, e_Ml_disturbs_11, e_Ml_disturbs_12, e_Ml_disturbs_15, e_Ml_disturbs_18, e_Ml_disturbs_19, e_Ml_disturbs_20, e_Ml_disturbs_21, e_Ml_disturbs_24, e_Ml_disturbs_25, e_Ml_disturbs_28, vr_v, vr_n, vr_vh, vr_nh, vg_some, c_Ml_isWithin, c_Ml_isStation, c_Ml_areTwo, c_Ml_isTone, c_Ml_isHalf, c_Ml_isKey, c_Mo_within, c_Mo_isStation, c_Mo_areTwo, c_Mo_isTone, c_Mo_isHalf, bI_0, if_true, if_false, Bool.false_eq_true, eq_self, tf, fF_0_0, fF_0_1, fF_0_2, fF_0_3, fF_0_4, h1, c_Ne_isThere hI.2.1 hk, h2]) (by simp (disch := first | exact fR_0 | exact fR_1 | exact fR_7 | exact fR_11 | exact fR_19 | exact fR_20 | exact fR_23 | omega) only [e_Mo_disturbs_0, e_Mo_disturbs_1, e_Mo_disturbs_2, e_Mo_disturbs_5, e_Mo_disturbs_8, e_Mo_disturbs_9, e_Mo_disturbs_10, e_Mo_disturbs_13, e_Mo_disturbs_16, e_Mo_disturbs_17, vr_v, vr_n, vr_vh, vr_nh, vg_some, c_Ml_isWithin, c_Ml_isStation, c_Ml_areTwo, c_Ml_isTone, c_Ml_isHalf, c_Ml_isKey, c_Mo_within, c_Mo_isStation, c_Mo_areTwo, c_Mo_isTone, c_Mo_isHalf, bI_0, if_true, if_false, Bool.false_eq_true, eq_self, tf, c_Mo_isNetwork, isN_th hI.2.1 hk, h2])
    | true =>
      have hI' : INV (dst σ (DD σ)) := INV_of hI (fun c hc => dst_nn (by omega)) (fun k _ => by rw [dst_nn (by decide)])
      have t' : th (dst σ (DD σ)) k = true := by rw [th_of (dst_nn (by decide))]; exact h2
      have d' : mk (dM (dst σ (DD σ)) k) 6 = mk (DD σ k) 6 := mk_congr 6 (fun y _ => by rw [dM_DD, DD_of (dst_nn (by decide)) (dst_nn (by decide))])
      refine ⟨mk (DD σ k) 6, dst σ (DD σ), dst σ (DD σ), ?_, ?_, hI', fun c hc => dst_nn (by omega)⟩
      · simp (disch := first | exact fR_0 | exact fR_1 | exact fR_7 | exact fR_11 | exact fR_19 | exact fR_20 | exact fR_23 | omega) only [e_Ml_disturbs_0, e_Ml_disturbs_1, e_Ml_disturbs_4, e_Ml_disturbs_7, e_Ml_disturbs_8, e_Ml_disturbs_11, e_Ml_disturbs_12, e_Ml_disturbs_15, e_Ml_disturbs_18, e_Ml_disturbs_19, e_Ml_disturbs_20, e_Ml_disturbs_21, e_Ml_disturbs_24, e_Ml_disturbs_25, e_Ml_disturbs_28, e_Ne_disturbedBy_0, e_Ne_disturbedBy_1, e_Ne_disturbedBy_4, e_Ne_disturbedBy_5, e_Ne_disturbedBy_8, e_Ne_disturbedBy_9, e_Ne_disturbedBy_10, vr_v, vr_n, vr_vh, vr_nh, vg_some, c_Ml_isWithin, c_Ml_isStation, c_Ml_areTwo, c_Ml_isTone, c_Ml_isHalf, c_Ml_isKey, c_Mo_within, c_Mo_isStation, c_Mo_areTwo, c_Mo_isTone, c_Mo_isHalf, bI_0, if_true, if_false, Bool.false_eq_true, eq_self, tf, fF_0_0, fF_0_1, fF_0_2, fF_0_3, fF_0_4, nI_ltI, nI_add, nI_mul, nI_clamp, mx_in_nI, h1, c_Ne_isThere hI.2.1 hk, h2, c_Ne_meet hI.2.1, fF_20_1, fL_21, dst_21 hk]
      · simp (disch := first | exact fR_0 | exact fR_1 | exact fR_7 | exact fR_11 | exact fR_19 | exact fR_20 | exact fR_23 | omega) only [e_Mo_disturbs_0, e_Mo_disturbs_1, e_Mo_disturbs_2, e_Mo_disturbs_5, e_Mo_disturbs_8, e_Mo_disturbs_9, e_Mo_disturbs_10, e_Mo_disturbs_13, e_Mo_disturbs_16, e_Mo_disturbs_17, vr_v, vr_n, vr_vh, vr_nh, vg_some, c_Ml_isWithin, c_Ml_isStation, c_Ml_areTwo, c_Ml_isTone, c_Ml_isHalf, c_Ml_isKey, c_Mo_within, c_Mo_isStation, c_Mo_areTwo, c_Mo_isTone, c_Mo_isHalf, bI_0, if_true, if_false, Bool.false_eq_true, eq_self, tf, c_Mo_isNetwork, isN_th hI'.2.1 hk, t', c_Mo_disturbed hI'.1 hI'.2.1 hk, d']
