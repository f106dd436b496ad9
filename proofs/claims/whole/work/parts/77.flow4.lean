/-! promise 16: flow -/
def opn (n w : Nat) (a : Nat → Bool) : (Nat → Bool) × Nat := fo (fun i => decide (i < n) && !(a i)) w 30
def frm (n w : Nat) (bad deaf : Int32) : (Int32 × (Nat → Bool) × (Nat → Bool) × Nat × Int32 × Int32 × Int32) → (Int32 × (Nat → Bool) × (Nat → Bool) × Nat × Int32 × Int32 × Int32)
  | (s, t, a, f, c, d, h) => (sdB (sl (opn n w a).1 bad (s, t, d) 30).1, (sl (opn n w a).1 bad (s, t, d) 30).2.1, (fun i => a i || (!(decide (lfB (sdB (sl (opn n w a).1 bad (s, t, d) 30).1) (nI 10) < deaf)) && ((opn n w a).1 i && (sl (opn n w a).1 bad (s, t, d) 30).2.1 i))), f + 1, c + nI (opn n w a).2, (sl (opn n w a).1 bad (s, t, d) 30).2.2, bmx h (bh (sl (opn n w a).1 bad (s, t, d) 30).2.1))
def cS (σ : mx_S) (n : Nat) : (Int32 × (Nat → Bool) × (Nat → Bool) × Nat × Int32 × Int32 × Int32) → mx_S
  | (s, t, a, f, c, d, h) => cF σ s (st (fun i => decide (i < n))) (st t) (st a) (nI f) c d h
def mS (σ : mx_S) : (Int32 × (Nat → Bool) × (Nat → Bool) × Nat × Int32 × Int32 × Int32) → mx_S
  | (s, t, a, f, c, d, h) => mF σ s (nI f) c d h (st t) (st a)
def anS : (Int32 × (Nat → Bool) × (Nat → Bool) × Nat × Int32 × Int32 × Int32) → (Nat → Bool)
  | (_, _, a, _, _, _, _) => a
def frS : (Int32 × (Nat → Bool) × (Nat → Bool) × Nat × Int32 × Int32 × Int32) → Nat
  | (_, _, _, f, _, _, _) => f
def cmp (n : Nat) (S : (Int32 × (Nat → Bool) × (Nat → Bool) × Nat × Int32 × Int32 × Int32)) : Bool := decide (cnt (anS S) n = n)
def okA (n : Nat) (S : (Int32 × (Nat → Bool) × (Nat → Bool) × Nat × Int32 × Int32 × Int32)) : Prop := ∀ i, n ≤ i → anS S i = false
theorem frm_f {n w : Nat} {bad deaf : Int32} {S : (Int32 × (Nat → Bool) × (Nat → Bool) × Nat × Int32 × Int32 × Int32)} : frS (frm n w bad deaf S) = frS S + 1 := by
  obtain ⟨s, t, a, f, c, d, h⟩ := S
  rfl
theorem frm_ok {n w : Nat} {bad deaf : Int32} {S : (Int32 × (Nat → Bool) × (Nat → Bool) × Nat × Int32 × Int32 × Int32)} (hS : okA n S) : okA n (frm n w bad deaf S) := by
  obtain ⟨s, t, a, f, c, d, h⟩ := S
  intro i hi
  have h1 : a i = false := hS i hi
  have h2 : (opn n w a).1 i = false := by
    cases hh : (opn n w a).1 i with
    | false => rfl
    | true =>
      have := (fo_sub 30 hh).2
      simp at this
      omega
  show (a i || (!(decide (lfB (sdB (sl (opn n w a).1 bad (s, t, d) 30).1) (nI 10) < deaf)) && ((opn n w a).1 i && (sl (opn n w a).1 bad (s, t, d) 30).2.1 i))) = false
  rw [h1, h2]
  simp
theorem cnt_full {p : Nat → Bool} : ∀ n, cnt p n = n ↔ ∀ i, i < n → p i = true := by
  intro n
  induction n with
  | zero => simp [cnt]
  | succ n ih =>
    have hl := cnt_le (p := p) n
    rw [cnt]
    constructor
    · intro h
      have hp : p n = true := by
        cases hp : p n with
        | true => rfl
        | false => rw [hp] at h; simp at h; omega
      rw [if_pos hp] at h
      have := ih.mp (by omega)
      intro i hi
      by_cases e : i = n
      · rw [e]; exact hp
      · exact this i (by omega)
    · intro h
      rw [if_pos (h n (by omega)), ih.mpr (fun i hi => h i (by omega))]
theorem all_iff {a : Nat → Bool} {n : Nat} (hn : n ≤ 30) (ha : ∀ i, n ≤ i → a i = false) : (st a = st (fun i => decide (i < n))) ↔ cnt a n = n := by
  rw [st_eq, cnt_full]
  constructor
  · intro h i hi
    rw [h i (by omega)]
    simp [hi]
  · intro h i _
    by_cases e : i < n
    · rw [h i e]; simp [e]
    · rw [ha i (by omega)]; simp [e]
theorem cnt_30 {a : Nat → Bool} {n : Nat} (hn : n ≤ 30) (ha : ∀ i, n ≤ i → a i = false) : cnt a 30 = cnt a n := cnt_hi 30 hn (fun i h1 _ => ha i h1)
def GG (n w : Nat) (bad deaf : Int32) (S : (Int32 × (Nat → Bool) × (Nat → Bool) × Nat × Int32 × Int32 × Int32)) : Nat → (Int32 × (Nat → Bool) × (Nat → Bool) × Nat × Int32 × Int32 × Int32)
  | 0 => S
  | k + 1 => if cmp n (GG n w bad deaf S k) = true then GG n w bad deaf S k else frm n w bad deaf (GG n w bad deaf S k)
theorem GG_stop {n w : Nat} {bad deaf : Int32} {S : (Int32 × (Nat → Bool) × (Nat → Bool) × Nat × Int32 × Int32 × Int32)} {k : Nat} (h : cmp n (GG n w bad deaf S k) = true) : ∀ j, k ≤ j → GG n w bad deaf S j = GG n w bad deaf S k := by
  intro j
  induction j with
  | zero => intro hj; have : k = 0 := by omega
            subst this; rfl
  | succ j ih =>
    intro hj
    by_cases e : k = j + 1
    · subst e; rfl
    · have := ih (by omega)
      rw [GG, this, if_pos h]
theorem GG_ok {n w : Nat} {bad deaf : Int32} {S : (Int32 × (Nat → Bool) × (Nat → Bool) × Nat × Int32 × Int32 × Int32)} (hS : okA n S) (k : Nat) : okA n (GG n w bad deaf S k) := by
  induction k with
  | zero => exact hS
  | succ k ih =>
    rw [GG]
    split
    · exact ih
    · exact frm_ok ih
theorem GG_f {n w : Nat} {bad deaf : Int32} {S : (Int32 × (Nat → Bool) × (Nat → Bool) × Nat × Int32 × Int32 × Int32)} (hS : frS S = 0) : ∀ k, cmp n (GG n w bad deaf S k) = false → frS (GG n w bad deaf S k) = k := by
  intro k
  induction k with
  | zero => intro _; exact hS
  | succ k ih =>
    intro h
    cases hk : cmp n (GG n w bad deaf S k) with
    | true =>
      rw [GG, if_pos hk, hk] at h
      cases h
    | false =>
      rw [GG, if_neg (by rw [hk]; simp), frm_f, ih hk]
theorem GG_fle {n w : Nat} {bad deaf : Int32} {S : (Int32 × (Nat → Bool) × (Nat → Bool) × Nat × Int32 × Int32 × Int32)} (hS : frS S = 0) : ∀ k, frS (GG n w bad deaf S k) ≤ k := by
  intro k
  induction k with
  | zero => rw [GG, hS]; exact Nat.le_refl 0
  | succ k ih =>
    rw [GG]
    split
    · omega
    · rw [frm_f]; omega
/-- one frame of the class -/
theorem l_runC {σ : mx_S} {n w : Nat} {bad deaf : Int32} {S : (Int32 × (Nat → Bool) × (Nat → Bool) × Nat × Int32 × Int32 × Int32)} {l5 : Value} (hn : n ≤ 30) (hw : w < 100) (hS : okA n S) (hc : cmp n S = false) (hf : frS S < 200) : vv 3 27 46 [.ref 19, .int (nI n), .int (nI w), .int bad, .int deaf, l5] [] (shF, cS σ n S) = vv 3 27 46 [.ref 19, .int (nI n), .int (nI w), .int bad, .int deaf, l5] [] (shF, cS σ n (frm n w bad deaf S)) := by
  obtain ⟨s, t, a, f, c, d, h⟩ := S
  have hf : f < 200 := hf
  have hne : ¬ cnt a n = n := of_decide_eq_false hc
  have hal : ¬ st a = st (fun i => decide (i < n)) := fun z => hne ((all_iff hn hS).mp z)
  have ec := fo_cnt (o := fun i => decide (i < n) && !(a i)) (w := w) 30
  have hal' : ¬ st a = st (fun i => decide (i < n)) := hal
  rw [e_Fl_run_46]
  simp (disch := first | exact fR_0 | exact fR_1 | exact fR_7 | exact fR_11 | exact fR_19 | exact fR_20 | exact fR_23 | omega) only [e_Fl_run_47, e_Fl_run_50, e_Fl_run_53, e_Fl_run_56, e_Fl_run_57, e_Fl_run_60, e_Fl_run_61, e_Fl_run_64, e_Fl_run_67, e_Fl_run_68, e_Fl_run_69, e_Fl_run_72, e_Fl_run_73, e_Fl_run_74, e_Fl_run_77, e_Fl_run_78, e_Fl_run_79, e_Fl_run_80, e_Fl_run_83, e_Fl_run_84, e_Fl_run_86, e_Fl_run_89, vr_v, vr_n, vr_vh, vr_nh, vg_some, fF_19_0, fI_19_0, fF_19_1, fI_19_1, fF_19_2, fI_19_2, fF_19_3, fI_19_3, fF_19_4, fI_19_4, fF_19_5, fI_19_5, fF_19_6, fI_19_6, fF_19_7, fI_19_7, cF_0, cF_1, cF_2, cF_3, cF_4, cF_5, cF_6, cF_7, cU_0, cU_1, cU_2, cU_3, cU_4, cU_5, cU_6, cU_7, nI_ltI, nI_add, nI_mul, nI_clamp, mx_in_nI, cS, hf, hal', if_true, if_false, c_Fl_firstOpen hw, c_Fl_sendFrame trivial, ec]
  rfl
theorem l_runC0 {σ : mx_S} {n w : Nat} {bad deaf : Int32} {S : (Int32 × (Nat → Bool) × (Nat → Bool) × Nat × Int32 × Int32 × Int32)} {l5 : Value} (hn : n ≤ 30) (hS : okA n S) (hf2 : frS S ≤ 200) (hc : cmp n S = true ∨ frS S = 200) : vv 3 27 46 [.ref 19, .int (nI n), .int (nI w), .int bad, .int deaf, l5] [] (shF, cS σ n S) = some (none, (shF, cS σ n S)) := by
  obtain ⟨s, t, a, f, c, d, h⟩ := S
  have hf2 : f ≤ 200 := hf2
  by_cases hf : f < 200
  · have he : cnt a n = n := by
      rcases hc with hc | hc
      · exact of_decide_eq_true hc
      · have : f = 200 := hc
        omega
    have hal : st a = st (fun i => decide (i < n)) := (all_iff hn hS).mpr he
    simp (disch := first | exact fR_0 | exact fR_1 | exact fR_7 | exact fR_11 | exact fR_19 | exact fR_20 | exact fR_23 | omega) only [e_Fl_run_46, e_Fl_run_47, e_Fl_run_50, e_Fl_run_53, e_Fl_run_56, e_Fl_run_57, e_Fl_run_60, e_Fl_run_61, e_Fl_run_64, e_Fl_run_92, vr_v, vr_n, vr_vh, vr_nh, vg_some, fF_19_0, fI_19_0, fF_19_1, fI_19_1, fF_19_2, fI_19_2, fF_19_3, fI_19_3, fF_19_4, fI_19_4, fF_19_5, fI_19_5, fF_19_6, fI_19_6, fF_19_7, fI_19_7, cF_0, cF_1, cF_2, cF_3, cF_4, cF_5, cF_6, cF_7, cU_0, cU_1, cU_2, cU_3, cU_4, cU_5, cU_6, cU_7, nI_ltI, nI_add, nI_mul, nI_clamp, mx_in_nI, cS, hf, hal, if_true]
  · simp (disch := first | exact fR_0 | exact fR_1 | exact fR_7 | exact fR_11 | exact fR_19 | exact fR_20 | exact fR_23 | omega) only [e_Fl_run_46, e_Fl_run_47, e_Fl_run_50, e_Fl_run_53, e_Fl_run_92, vr_v, vr_n, vr_vh, vr_nh, vg_some, fF_19_0, fI_19_0, fF_19_1, fI_19_1, fF_19_2, fI_19_2, fF_19_3, fI_19_3, fF_19_4, fI_19_4, fF_19_5, fI_19_5, fF_19_6, fI_19_6, fF_19_7, fI_19_7, cF_0, cF_1, cF_2, cF_3, cF_4, cF_5, cF_6, cF_7, cU_0, cU_1, cU_2, cU_3, cU_4, cU_5, cU_6, cU_7, nI_ltI, nI_add, nI_mul, nI_clamp, mx_in_nI, cS, hf, if_false]
def S0 (seed : Int32) : (Int32 × (Nat → Bool) × (Nat → Bool) × Nat × Int32 × Int32 × Int32) := (seed, (fun _ => false), (fun _ => false), 0, nI 0, nI 0, nI 0)
theorem c_Fl_run {σ : mx_S} {n w : Nat} {bad deaf seed : Int32} (hn : n ≤ 30) (hw : w < 100) : vv 3 27 0 [.ref 19, .int (nI n), .int (nI w), .int bad, .int deaf, .int seed] [] (shF, σ) = some (none, (shF, cS σ n (GG n w bad deaf (S0 seed) 200))) := by
  have ha : (nI 1 <<< (nI n &&& 31)) - nI 1 = st (fun i => decide (i < n)) := st_all ⟨n, by omega⟩
  have s0 : vv 3 27 0 [.ref 19, .int (nI n), .int (nI w), .int bad, .int deaf, .int seed] [] (shF, cF σ (σ 19 0) (σ 19 1) (σ 19 2) (σ 19 3) (σ 19 4) (σ 19 5) (σ 19 6) (σ 19 7)) = vv 3 27 46 [.ref 19, .int (nI n), .int (nI w), .int bad, .int deaf, .int seed] [] (shF, cS σ n (S0 seed)) := by
    simp (disch := first | exact fR_0 | exact fR_1 | exact fR_7 | exact fR_11 | exact fR_19 | exact fR_20 | exact fR_23 | omega) only [e_Fl_run_0, e_Fl_run_1, e_Fl_run_3, e_Fl_run_6, e_Fl_run_7, e_Fl_run_8, e_Fl_run_11, e_Fl_run_12, e_Fl_run_13, e_Fl_run_16, e_Fl_run_17, e_Fl_run_18, e_Fl_run_21, e_Fl_run_22, e_Fl_run_23, e_Fl_run_26, e_Fl_run_27, e_Fl_run_28, e_Fl_run_31, e_Fl_run_32, e_Fl_run_33, e_Fl_run_36, e_Fl_run_37, e_Fl_run_38, e_Fl_run_41, e_Fl_run_42, e_Fl_run_43, vr_v, vr_n, vr_vh, vr_nh, vg_some, fF_19_0, fI_19_0, fF_19_1, fI_19_1, fF_19_2, fI_19_2, fF_19_3, fI_19_3, fF_19_4, fI_19_4, fF_19_5, fI_19_5, fF_19_6, fI_19_6, fF_19_7, fI_19_7, cF_0, cF_1, cF_2, cF_3, cF_4, cF_5, cF_6, cF_7, cU_0, cU_1, cU_2, cU_3, cU_4, cU_5, cU_6, cU_7, c_Se_of, ha, if_true, S0, cS, st_no]
  rw [cF_self] at s0
  rw [s0]
  have ok0 : okA n (S0 seed) := fun i _ => rfl
  have f0 : frS (S0 seed) = 0 := rfl
  refine (ite1 (F := fun k => vv 3 27 46 [.ref 19, .int (nI n), .int (nI w), .int bad, .int deaf, .int seed] [] (shF, cS σ n (GG n w bad deaf (S0 seed) k))) (p := fun k => cmp n (GG n w bad deaf (S0 seed) k)) (r := some (none, (shF, cS σ n (GG n w bad deaf (S0 seed) 200)))) 200 (fun k hk hp => ?_) (fun k hk hp => ?_)).trans ?_
  · show vv _ _ _ _ _ _ = vv _ _ _ _ _ _
    rw [l_runC hn hw (GG_ok ok0 k) hp (by rw [GG_f f0 k hp]; exact hk), GG, if_neg (by rw [hp]; simp)]
  · show vv _ _ _ _ _ _ = _
    rw [l_runC0 hn (GG_ok ok0 k) (by have := GG_fle (n := n) (w := w) (bad := bad) (deaf := deaf) f0 k; omega) (Or.inl hp), GG_stop hp 200 (by omega)]
  · split
    · rfl
    · refine l_runC0 hn (GG_ok ok0 200) (GG_fle f0 200) ?_
      cases hp : cmp n (GG n w bad deaf (S0 seed) 200) with
      | true => exact Or.inl rfl
      | false => exact Or.inr (GG_f f0 200 hp)
/-- one frame of the reference -/
theorem l_runM {σ : mx_S} {n w : Nat} {bad deaf : Int32} {S : (Int32 × (Nat → Bool) × (Nat → Bool) × Nat × Int32 × Int32 × Int32)} {l5 l6 : Value} (hn : n ≤ 30) (hw : w < 100) (hS : okA n S) (hc : cmp n S = false) (hf : frS S < 200) : vv 3 162 90 [.ref 23, .int (nI n), .int (nI w), .int bad, .int deaf, l5, l6] [] (shF, mS σ S) = vv 3 162 90 [.ref 23, .int (nI n), .int (nI w), .int bad, .int deaf, l5, l6] [] (shF, mS σ (frm n w bad deaf S)) := by
  obtain ⟨s, t, a, f, c, d, h⟩ := S
  have hf : f < 200 := hf
  have hne : ¬ cnt a n = n := of_decide_eq_false hc
  have hl := cnt_le (p := a) n
  have h30 := cnt_30 hn hS
  have h30' : cnt a 30 = cnt a n := h30
  have lt : cnt a n < n := by omega
  rw [e_Mo_flow_90]
  simp (disch := first | exact fR_0 | exact fR_1 | exact fR_7 | exact fR_11 | exact fR_19 | exact fR_20 | exact fR_23 | omega) only [e_Mo_flow_91, e_Mo_flow_94, e_Mo_flow_97, e_Mo_flow_98, e_Mo_flow_101, e_Mo_flow_102, e_Mo_flow_105, e_Mo_flow_108, e_Mo_flow_111, e_Mo_flow_112, e_Mo_flow_113, e_Mo_flow_114, e_Mo_flow_115, e_Mo_flow_117, e_Mo_flow_120, vr_v, vr_n, vr_vh, vr_nh, vg_some, fF_23_0, fF_23_1, fF_23_2, fF_23_3, fI_23_3, fF_23_4, fF_23_5, fF_23_6, fI_23_6, fF_23_7, fF_23_8, fF_23_9, fF_23_10, fF_23_11, fF_23_12, fF_23_13, fF_23_14, fF_23_15, fF_23_16, fF_23_17, fF_23_18, fF_23_19, fI_23_19, fF_23_20, fI_23_20, fF_23_21, fI_23_21, fF_23_22, fI_23_22, fF_23_23, fI_23_23, fF_23_24, fI_23_24, fF_23_25, fI_23_25, fF_23_26, fI_23_26, fF_23_27, fI_23_27, fF_23_28, fI_23_28, fF_23_29, fF_23_30, fF_23_31, fR_23, fL_24, fW_24, fL_25, fW_25, fL_26, fW_26, fL_27, fW_27, fL_28, fW_28, fL_29, fW_29, fL_30, fW_30, fL_31, fW_31, fL_32, fW_32, fL_33, fW_33, fL_34, fW_34, fL_35, fW_35, fL_36, fW_36, fW_37, fL_38, fW_38, fL_39, fW_39, fL_40, fW_40, fL_41, fW_41, fL_42, fW_42, fL_43, fW_43, mF_21, mF_22, mF_23, mF_24, mF_25, mF_26, mF_27, mU_21, mU_22, mU_23, mU_24, mU_25, mU_26, mU_27, nI_ltI, nI_add, nI_mul, nI_clamp, mx_in_nI, mS, c_Mo_manyOf, st_many, h30', lt, hf, if_true, c_Mo_goesFrame hn hw]
  rfl
theorem l_runM0 {σ : mx_S} {n w : Nat} {bad deaf : Int32} {S : (Int32 × (Nat → Bool) × (Nat → Bool) × Nat × Int32 × Int32 × Int32)} {l5 l6 : Value} (hn : n ≤ 30) (hS : okA n S) (hf2 : frS S ≤ 200) (hc : cmp n S = true ∨ frS S = 200) : vv 3 162 90 [.ref 23, .int (nI n), .int (nI w), .int bad, .int deaf, l5, l6] [] (shF, mS σ S) = vv 3 162 123 [.ref 23, .int (nI n), .int (nI w), .int bad, .int deaf, l5, l6] [] (shF, mS σ S) := by
  obtain ⟨s, t, a, f, c, d, h⟩ := S
  have hf2 : f ≤ 200 := hf2
  have hl := cnt_le (p := a) n
  have h30 : cnt a 30 = cnt a n := cnt_30 hn hS
  by_cases lt : cnt a n < n
  · have hf : ¬ f < 200 := by
      rcases hc with hc | hc
      · have : cnt a n = n := of_decide_eq_true hc
        omega
      · have : f = 200 := hc
        omega
    simp (disch := first | exact fR_0 | exact fR_1 | exact fR_7 | exact fR_11 | exact fR_19 | exact fR_20 | exact fR_23 | omega) only [e_Mo_flow_90, e_Mo_flow_91, e_Mo_flow_94, e_Mo_flow_97, e_Mo_flow_98, e_Mo_flow_101, e_Mo_flow_102, e_Mo_flow_105, e_Mo_flow_108, vr_v, vr_n, vr_vh, vr_nh, vg_some, fF_23_0, fF_23_1, fF_23_2, fF_23_3, fI_23_3, fF_23_4, fF_23_5, fF_23_6, fI_23_6, fF_23_7, fF_23_8, fF_23_9, fF_23_10, fF_23_11, fF_23_12, fF_23_13, fF_23_14, fF_23_15, fF_23_16, fF_23_17, fF_23_18, fF_23_19, fI_23_19, fF_23_20, fI_23_20, fF_23_21, fI_23_21, fF_23_22, fI_23_22, fF_23_23, fI_23_23, fF_23_24, fI_23_24, fF_23_25, fI_23_25, fF_23_26, fI_23_26, fF_23_27, fI_23_27, fF_23_28, fI_23_28, fF_23_29, fF_23_30, fF_23_31, fR_23, fL_24, fW_24, fL_25, fW_25, fL_26, fW_26, fL_27, fW_27, fL_28, fW_28, fL_29, fW_29, fL_30, fW_30, fL_31, fW_31, fL_32, fW_32, fL_33, fW_33, fL_34, fW_34, fL_35, fW_35, fL_36, fW_36, fW_37, fL_38, fW_38, fL_39, fW_39, fL_40, fW_40, fL_41, fW_41, fL_42, fW_42, fL_43, fW_43, mF_21, mF_22, mF_23, mF_24, mF_25, mF_26, mF_27, mU_21, mU_22, mU_23, mU_24, mU_25, mU_26, mU_27, nI_ltI, nI_add, nI_mul, nI_clamp, mx_in_nI, mS, c_Mo_manyOf, st_many, h30, lt, hf, if_true, if_false]
  · simp (disch := first | exact fR_0 | exact fR_1 | exact fR_7 | exact fR_11 | exact fR_19 | exact fR_20 | exact fR_23 | omega) only [e_Mo_flow_90, e_Mo_flow_91, e_Mo_flow_94, e_Mo_flow_97, e_Mo_flow_98, vr_v, vr_n, vr_vh, vr_nh, vg_some, fF_23_0, fF_23_1, fF_23_2, fF_23_3, fI_23_3, fF_23_4, fF_23_5, fF_23_6, fI_23_6, fF_23_7, fF_23_8, fF_23_9, fF_23_10, fF_23_11, fF_23_12, fF_23_13, fF_23_14, fF_23_15, fF_23_16, fF_23_17, fF_23_18, fF_23_19, fI_23_19, fF_23_20, fI_23_20, fF_23_21, fI_23_21, fF_23_22, fI_23_22, fF_23_23, fI_23_23, fF_23_24, fI_23_24, fF_23_25, fI_23_25, fF_23_26, fI_23_26, fF_23_27, fI_23_27, fF_23_28, fI_23_28, fF_23_29, fF_23_30, fF_23_31, fR_23, fL_24, fW_24, fL_25, fW_25, fL_26, fW_26, fL_27, fW_27, fL_28, fW_28, fL_29, fW_29, fL_30, fW_30, fL_31, fW_31, fL_32, fW_32, fL_33, fW_33, fL_34, fW_34, fL_35, fW_35, fL_36, fW_36, fW_37, fL_38, fW_38, fL_39, fW_39, fL_40, fW_40, fL_41, fW_41, fL_42, fW_42, fL_43, fW_43, mF_21, mF_22, mF_23, mF_24, mF_25, mF_26, mF_27, mU_21, mU_22, mU_23, mU_24, mU_25, mU_26, mU_27, nI_ltI, nI_add, nI_mul, nI_clamp, mx_in_nI, mS, c_Mo_manyOf, st_many, h30, lt, if_false]
theorem l_flowM {σ : mx_S} {n w : Nat} {bad deaf seed : Int32} {l5 l6 : Value} (hn : n ≤ 30) (hw : w < 100) : vv 3 162 90 [.ref 23, .int (nI n), .int (nI w), .int bad, .int deaf, l5, l6] [] (shF, mS σ (S0 seed)) = vv 3 162 123 [.ref 23, .int (nI n), .int (nI w), .int bad, .int deaf, l5, l6] [] (shF, mS σ (GG n w bad deaf (S0 seed) 200)) := by
  have ok0 : okA n (S0 seed) := fun i _ => rfl
  have f0 : frS (S0 seed) = 0 := rfl
  refine (ite1 (F := fun k => vv 3 162 90 [.ref 23, .int (nI n), .int (nI w), .int bad, .int deaf, l5, l6] [] (shF, mS σ (GG n w bad deaf (S0 seed) k))) (p := fun k => cmp n (GG n w bad deaf (S0 seed) k)) (r := vv 3 162 123 [.ref 23, .int (nI n), .int (nI w), .int bad, .int deaf, l5, l6] [] (shF, mS σ (GG n w bad deaf (S0 seed) 200))) 200 (fun k hk hp => ?_) (fun k hk hp => ?_)).trans ?_
  · show vv _ _ _ _ _ _ = vv _ _ _ _ _ _
    rw [l_runM hn hw (GG_ok ok0 k) hp (by rw [GG_f f0 k hp]; exact hk), GG, if_neg (by rw [hp]; simp)]
  · show vv _ _ _ _ _ _ = _
    rw [l_runM0 hn (GG_ok ok0 k) (by have := GG_fle (n := n) (w := w) (bad := bad) (deaf := deaf) f0 k; omega) (Or.inl hp), GG_stop hp 200 (by omega)]
  · split
    · rfl
    · refine l_runM0 hn (GG_ok ok0 200) (GG_fle f0 200) ?_
      cases hp : cmp n (GG n w bad deaf (S0 seed) 200) with
      | true => exact Or.inl rfl
      | false => exact Or.inr (GG_f f0 200 hp)
def tlF : Nat → (Int32 × (Nat → Bool) × (Nat → Bool) × Nat × Int32 × Int32 × Int32) → Int32
  | 0, (_, _, _, f, _, _, _) => nI f
  | 1, (_, _, _, _, c, _, _) => c
  | 2, (_, _, _, _, _, d, _) => d
  | 3, (_, _, _, _, _, _, h) => h
  | 4, (_, t, _, _, _, _, _) => nI (cnt t 30)
  | _, (_, _, a, _, _, _, _) => nI (cnt a 30)
theorem c_Fl_tell {σ : mx_S} {n k : Nat} {S : (Int32 × (Nat → Bool) × (Nat → Bool) × Nat × Int32 × Int32 × Int32)} (hk : k < 6) : vv 1 33 0 [.ref 19, .int (nI k)] [] (shF, cS σ n S) = some (some (.int (tlF k S)), (shF, cS σ n S)) := by
  obtain ⟨s, t, a, f, c, d, h⟩ := S
  match k, hk with
  | 0, _ => simp (disch := first | exact fR_0 | exact fR_1 | exact fR_7 | exact fR_11 | exact fR_19 | exact fR_20 | exact fR_23 | omega) only [e_Fl_tell_0, e_Fl_tell_1_c0, e_Fl_tell_1_c1, e_Fl_tell_1_c2, e_Fl_tell_1_c3, e_Fl_tell_1_c4, e_Fl_tell_1_c5, e_Fl_tell_40, e_Fl_tell_41, e_Fl_tell_44, e_Fl_tell_45, e_Fl_tell_46, e_Fl_tell_49, e_Fl_tell_50, e_Fl_tell_51, e_Fl_tell_54, e_Fl_tell_55, e_Fl_tell_56, e_Fl_tell_59, e_Fl_tell_60, e_Fl_tell_61, e_Fl_tell_64, e_Fl_tell_67, e_Fl_tell_68, e_Fl_tell_69, e_Fl_tell_72, e_Fl_tell_75, e_Fl_tell_76, e_Fl_tell_78, vr_v, vr_n, vr_vh, vr_nh, vg_some, fF_19_0, fI_19_0, fF_19_1, fI_19_1, fF_19_2, fI_19_2, fF_19_3, fI_19_3, fF_19_4, fI_19_4, fF_19_5, fI_19_5, fF_19_6, fI_19_6, fF_19_7, fI_19_7, cF_0, cF_1, cF_2, cF_3, cF_4, cF_5, cF_6, cF_7, cU_0, cU_1, cU_2, cU_3, cU_4, cU_5, cU_6, cU_7, cS, tlF]
  | 1, _ => simp (disch := first | exact fR_0 | exact fR_1 | exact fR_7 | exact fR_11 | exact fR_19 | exact fR_20 | exact fR_23 | omega) only [e_Fl_tell_0, e_Fl_tell_1_c0, e_Fl_tell_1_c1, e_Fl_tell_1_c2, e_Fl_tell_1_c3, e_Fl_tell_1_c4, e_Fl_tell_1_c5, e_Fl_tell_40, e_Fl_tell_41, e_Fl_tell_44, e_Fl_tell_45, e_Fl_tell_46, e_Fl_tell_49, e_Fl_tell_50, e_Fl_tell_51, e_Fl_tell_54, e_Fl_tell_55, e_Fl_tell_56, e_Fl_tell_59, e_Fl_tell_60, e_Fl_tell_61, e_Fl_tell_64, e_Fl_tell_67, e_Fl_tell_68, e_Fl_tell_69, e_Fl_tell_72, e_Fl_tell_75, e_Fl_tell_76, e_Fl_tell_78, vr_v, vr_n, vr_vh, vr_nh, vg_some, fF_19_0, fI_19_0, fF_19_1, fI_19_1, fF_19_2, fI_19_2, fF_19_3, fI_19_3, fF_19_4, fI_19_4, fF_19_5, fI_19_5, fF_19_6, fI_19_6, fF_19_7, fI_19_7, cF_0, cF_1, cF_2, cF_3, cF_4, cF_5, cF_6, cF_7, cU_0, cU_1, cU_2, cU_3, cU_4, cU_5, cU_6, cU_7, cS, tlF]
  | 2, _ => simp (disch := first | exact fR_0 | exact fR_1 | exact fR_7 | exact fR_11 | exact fR_19 | exact fR_20 | exact fR_23 | omega) only [e_Fl_tell_0, e_Fl_tell_1_c0, e_Fl_tell_1_c1, e_Fl_tell_1_c2, e_Fl_tell_1_c3, e_Fl_tell_1_c4, e_Fl_tell_1_c5, e_Fl_tell_40, e_Fl_tell_41, e_Fl_tell_44, e_Fl_tell_45, e_Fl_tell_46, e_Fl_tell_49, e_Fl_tell_50, e_Fl_tell_51, e_Fl_tell_54, e_Fl_tell_55, e_Fl_tell_56, e_Fl_tell_59, e_Fl_tell_60, e_Fl_tell_61, e_Fl_tell_64, e_Fl_tell_67, e_Fl_tell_68, e_Fl_tell_69, e_Fl_tell_72, e_Fl_tell_75, e_Fl_tell_76, e_Fl_tell_78, vr_v, vr_n, vr_vh, vr_nh, vg_some, fF_19_0, fI_19_0, fF_19_1, fI_19_1, fF_19_2, fI_19_2, fF_19_3, fI_19_3, fF_19_4, fI_19_4, fF_19_5, fI_19_5, fF_19_6, fI_19_6, fF_19_7, fI_19_7, cF_0, cF_1, cF_2, cF_3, cF_4, cF_5, cF_6, cF_7, cU_0, cU_1, cU_2, cU_3, cU_4, cU_5, cU_6, cU_7, cS, tlF]
  | 3, _ => simp (disch := first | exact fR_0 | exact fR_1 | exact fR_7 | exact fR_11 | exact fR_19 | exact fR_20 | exact fR_23 | omega) only [e_Fl_tell_0, e_Fl_tell_1_c0, e_Fl_tell_1_c1, e_Fl_tell_1_c2, e_Fl_tell_1_c3, e_Fl_tell_1_c4, e_Fl_tell_1_c5, e_Fl_tell_40, e_Fl_tell_41, e_Fl_tell_44, e_Fl_tell_45, e_Fl_tell_46, e_Fl_tell_49, e_Fl_tell_50, e_Fl_tell_51, e_Fl_tell_54, e_Fl_tell_55, e_Fl_tell_56, e_Fl_tell_59, e_Fl_tell_60, e_Fl_tell_61, e_Fl_tell_64, e_Fl_tell_67, e_Fl_tell_68, e_Fl_tell_69, e_Fl_tell_72, e_Fl_tell_75, e_Fl_tell_76, e_Fl_tell_78, vr_v, vr_n, vr_vh, vr_nh, vg_some, fF_19_0, fI_19_0, fF_19_1, fI_19_1, fF_19_2, fI_19_2, fF_19_3, fI_19_3, fF_19_4, fI_19_4, fF_19_5, fI_19_5, fF_19_6, fI_19_6, fF_19_7, fI_19_7, cF_0, cF_1, cF_2, cF_3, cF_4, cF_5, cF_6, cF_7, cU_0, cU_1, cU_2, cU_3, cU_4, cU_5, cU_6, cU_7, cS, tlF]
  | 4, _ => simp (disch := first | exact fR_0 | exact fR_1 | exact fR_7 | exact fR_11 | exact fR_19 | exact fR_20 | exact fR_23 | omega) only [e_Fl_tell_0, e_Fl_tell_1_c0, e_Fl_tell_1_c1, e_Fl_tell_1_c2, e_Fl_tell_1_c3, e_Fl_tell_1_c4, e_Fl_tell_1_c5, e_Fl_tell_40, e_Fl_tell_41, e_Fl_tell_44, e_Fl_tell_45, e_Fl_tell_46, e_Fl_tell_49, e_Fl_tell_50, e_Fl_tell_51, e_Fl_tell_54, e_Fl_tell_55, e_Fl_tell_56, e_Fl_tell_59, e_Fl_tell_60, e_Fl_tell_61, e_Fl_tell_64, e_Fl_tell_67, e_Fl_tell_68, e_Fl_tell_69, e_Fl_tell_72, e_Fl_tell_75, e_Fl_tell_76, e_Fl_tell_78, vr_v, vr_n, vr_vh, vr_nh, vg_some, fF_19_0, fI_19_0, fF_19_1, fI_19_1, fF_19_2, fI_19_2, fF_19_3, fI_19_3, fF_19_4, fI_19_4, fF_19_5, fI_19_5, fF_19_6, fI_19_6, fF_19_7, fI_19_7, cF_0, cF_1, cF_2, cF_3, cF_4, cF_5, cF_6, cF_7, cU_0, cU_1, cU_2, cU_3, cU_4, cU_5, cU_6, cU_7, cS, tlF, c_JI_bitCount, st_cnt]
  | 5, _ => simp (disch := first | exact fR_0 | exact fR_1 | exact fR_7 | exact fR_11 | exact fR_19 | exact fR_20 | exact fR_23 | omega) only [e_Fl_tell_0, e_Fl_tell_1_c0, e_Fl_tell_1_c1, e_Fl_tell_1_c2, e_Fl_tell_1_c3, e_Fl_tell_1_c4, e_Fl_tell_1_c5, e_Fl_tell_40, e_Fl_tell_41, e_Fl_tell_44, e_Fl_tell_45, e_Fl_tell_46, e_Fl_tell_49, e_Fl_tell_50, e_Fl_tell_51, e_Fl_tell_54, e_Fl_tell_55, e_Fl_tell_56, e_Fl_tell_59, e_Fl_tell_60, e_Fl_tell_61, e_Fl_tell_64, e_Fl_tell_67, e_Fl_tell_68, e_Fl_tell_69, e_Fl_tell_72, e_Fl_tell_75, e_Fl_tell_76, e_Fl_tell_78, vr_v, vr_n, vr_vh, vr_nh, vg_some, fF_19_0, fI_19_0, fF_19_1, fI_19_1, fF_19_2, fI_19_2, fF_19_3, fI_19_3, fF_19_4, fI_19_4, fF_19_5, fI_19_5, fF_19_6, fI_19_6, fF_19_7, fI_19_7, cF_0, cF_1, cF_2, cF_3, cF_4, cF_5, cF_6, cF_7, cU_0, cU_1, cU_2, cU_3, cU_4, cU_5, cU_6, cU_7, cS, tlF, c_JI_bitCount, st_cnt]
theorem l_tellM {σ : mx_S} {k : Nat} {S : (Int32 × (Nat → Bool) × (Nat → Bool) × Nat × Int32 × Int32 × Int32)} {l1 l2 l3 l4 l5 : Value} (hk : k < 6) : vv 3 162 123 [.ref 23, l1, l2, l3, l4, l5, .int (nI k)] [] (shF, mS σ S) = some (some (.int (tlF k S)), (shF, mS σ S)) := by
  obtain ⟨s, t, a, f, c, d, h⟩ := S
  rw [e_Mo_flow_123]
  match k, hk with
  | 0, _ => simp (disch := first | exact fR_0 | exact fR_1 | exact fR_7 | exact fR_11 | exact fR_19 | exact fR_20 | exact fR_23 | omega) only [e_Mo_flow_125_c0, e_Mo_flow_160, e_Mo_flow_161, e_Mo_flow_164, vr_v, vr_n, vr_vh, vr_nh, vg_some, fF_23_0, fF_23_1, fF_23_2, fF_23_3, fI_23_3, fF_23_4, fF_23_5, fF_23_6, fI_23_6, fF_23_7, fF_23_8, fF_23_9, fF_23_10, fF_23_11, fF_23_12, fF_23_13, fF_23_14, fF_23_15, fF_23_16, fF_23_17, fF_23_18, fF_23_19, fI_23_19, fF_23_20, fI_23_20, fF_23_21, fI_23_21, fF_23_22, fI_23_22, fF_23_23, fI_23_23, fF_23_24, fI_23_24, fF_23_25, fI_23_25, fF_23_26, fI_23_26, fF_23_27, fI_23_27, fF_23_28, fI_23_28, fF_23_29, fF_23_30, fF_23_31, fR_23, fL_24, fW_24, fL_25, fW_25, fL_26, fW_26, fL_27, fW_27, fL_28, fW_28, fL_29, fW_29, fL_30, fW_30, fL_31, fW_31, fL_32, fW_32, fL_33, fW_33, fL_34, fW_34, fL_35, fW_35, fL_36, fW_36, fW_37, fL_38, fW_38, fL_39, fW_39, fL_40, fW_40, fL_41, fW_41, fL_42, fW_42, fL_43, fW_43, mF_21, mF_22, mF_23, mF_24, mF_25, mF_26, mF_27, mU_21, mU_22, mU_23, mU_24, mU_25, mU_26, mU_27, mS, tlF]
  | 1, _ => simp (disch := first | exact fR_0 | exact fR_1 | exact fR_7 | exact fR_11 | exact fR_19 | exact fR_20 | exact fR_23 | omega) only [e_Mo_flow_125_c1, e_Mo_flow_165, e_Mo_flow_166, e_Mo_flow_169, vr_v, vr_n, vr_vh, vr_nh, vg_some, fF_23_0, fF_23_1, fF_23_2, fF_23_3, fI_23_3, fF_23_4, fF_23_5, fF_23_6, fI_23_6, fF_23_7, fF_23_8, fF_23_9, fF_23_10, fF_23_11, fF_23_12, fF_23_13, fF_23_14, fF_23_15, fF_23_16, fF_23_17, fF_23_18, fF_23_19, fI_23_19, fF_23_20, fI_23_20, fF_23_21, fI_23_21, fF_23_22, fI_23_22, fF_23_23, fI_23_23, fF_23_24, fI_23_24, fF_23_25, fI_23_25, fF_23_26, fI_23_26, fF_23_27, fI_23_27, fF_23_28, fI_23_28, fF_23_29, fF_23_30, fF_23_31, fR_23, fL_24, fW_24, fL_25, fW_25, fL_26, fW_26, fL_27, fW_27, fL_28, fW_28, fL_29, fW_29, fL_30, fW_30, fL_31, fW_31, fL_32, fW_32, fL_33, fW_33, fL_34, fW_34, fL_35, fW_35, fL_36, fW_36, fW_37, fL_38, fW_38, fL_39, fW_39, fL_40, fW_40, fL_41, fW_41, fL_42, fW_42, fL_43, fW_43, mF_21, mF_22, mF_23, mF_24, mF_25, mF_26, mF_27, mU_21, mU_22, mU_23, mU_24, mU_25, mU_26, mU_27, mS, tlF]
  | 2, _ => simp (disch := first | exact fR_0 | exact fR_1 | exact fR_7 | exact fR_11 | exact fR_19 | exact fR_20 | exact fR_23 | omega) only [e_Mo_flow_125_c2, e_Mo_flow_170, e_Mo_flow_171, e_Mo_flow_174, vr_v, vr_n, vr_vh, vr_nh, vg_some, fF_23_0, fF_23_1, fF_23_2, fF_23_3, fI_23_3, fF_23_4, fF_23_5, fF_23_6, fI_23_6, fF_23_7, fF_23_8, fF_23_9, fF_23_10, fF_23_11, fF_23_12, fF_23_13, fF_23_14, fF_23_15, fF_23_16, fF_23_17, fF_23_18, fF_23_19, fI_23_19, fF_23_20, fI_23_20, fF_23_21, fI_23_21, fF_23_22, fI_23_22, fF_23_23, fI_23_23, fF_23_24, fI_23_24, fF_23_25, fI_23_25, fF_23_26, fI_23_26, fF_23_27, fI_23_27, fF_23_28, fI_23_28, fF_23_29, fF_23_30, fF_23_31, fR_23, fL_24, fW_24, fL_25, fW_25, fL_26, fW_26, fL_27, fW_27, fL_28, fW_28, fL_29, fW_29, fL_30, fW_30, fL_31, fW_31, fL_32, fW_32, fL_33, fW_33, fL_34, fW_34, fL_35, fW_35, fL_36, fW_36, fW_37, fL_38, fW_38, fL_39, fW_39, fL_40, fW_40, fL_41, fW_41, fL_42, fW_42, fL_43, fW_43, mF_21, mF_22, mF_23, mF_24, mF_25, mF_26, mF_27, mU_21, mU_22, mU_23, mU_24, mU_25, mU_26, mU_27, mS, tlF]
  | 3, _ => simp (disch := first | exact fR_0 | exact fR_1 | exact fR_7 | exact fR_11 | exact fR_19 | exact fR_20 | exact fR_23 | omega) only [e_Mo_flow_125_c3, e_Mo_flow_175, e_Mo_flow_176, e_Mo_flow_179, vr_v, vr_n, vr_vh, vr_nh, vg_some, fF_23_0, fF_23_1, fF_23_2, fF_23_3, fI_23_3, fF_23_4, fF_23_5, fF_23_6, fI_23_6, fF_23_7, fF_23_8, fF_23_9, fF_23_10, fF_23_11, fF_23_12, fF_23_13, fF_23_14, fF_23_15, fF_23_16, fF_23_17, fF_23_18, fF_23_19, fI_23_19, fF_23_20, fI_23_20, fF_23_21, fI_23_21, fF_23_22, fI_23_22, fF_23_23, fI_23_23, fF_23_24, fI_23_24, fF_23_25, fI_23_25, fF_23_26, fI_23_26, fF_23_27, fI_23_27, fF_23_28, fI_23_28, fF_23_29, fF_23_30, fF_23_31, fR_23, fL_24, fW_24, fL_25, fW_25, fL_26, fW_26, fL_27, fW_27, fL_28, fW_28, fL_29, fW_29, fL_30, fW_30, fL_31, fW_31, fL_32, fW_32, fL_33, fW_33, fL_34, fW_34, fL_35, fW_35, fL_36, fW_36, fW_37, fL_38, fW_38, fL_39, fW_39, fL_40, fW_40, fL_41, fW_41, fL_42, fW_42, fL_43, fW_43, mF_21, mF_22, mF_23, mF_24, mF_25, mF_26, mF_27, mU_21, mU_22, mU_23, mU_24, mU_25, mU_26, mU_27, mS, tlF]
  | 4, _ => simp (disch := first | exact fR_0 | exact fR_1 | exact fR_7 | exact fR_11 | exact fR_19 | exact fR_20 | exact fR_23 | omega) only [e_Mo_flow_125_c4, e_Mo_flow_180, e_Mo_flow_181, e_Mo_flow_184, e_Mo_flow_187, vr_v, vr_n, vr_vh, vr_nh, vg_some, fF_23_0, fF_23_1, fF_23_2, fF_23_3, fI_23_3, fF_23_4, fF_23_5, fF_23_6, fI_23_6, fF_23_7, fF_23_8, fF_23_9, fF_23_10, fF_23_11, fF_23_12, fF_23_13, fF_23_14, fF_23_15, fF_23_16, fF_23_17, fF_23_18, fF_23_19, fI_23_19, fF_23_20, fI_23_20, fF_23_21, fI_23_21, fF_23_22, fI_23_22, fF_23_23, fI_23_23, fF_23_24, fI_23_24, fF_23_25, fI_23_25, fF_23_26, fI_23_26, fF_23_27, fI_23_27, fF_23_28, fI_23_28, fF_23_29, fF_23_30, fF_23_31, fR_23, fL_24, fW_24, fL_25, fW_25, fL_26, fW_26, fL_27, fW_27, fL_28, fW_28, fL_29, fW_29, fL_30, fW_30, fL_31, fW_31, fL_32, fW_32, fL_33, fW_33, fL_34, fW_34, fL_35, fW_35, fL_36, fW_36, fW_37, fL_38, fW_38, fL_39, fW_39, fL_40, fW_40, fL_41, fW_41, fL_42, fW_42, fL_43, fW_43, mF_21, mF_22, mF_23, mF_24, mF_25, mF_26, mF_27, mU_21, mU_22, mU_23, mU_24, mU_25, mU_26, mU_27, mS, tlF, c_Mo_manyOf, st_many]
  | 5, _ =>
    have hx : (nI 5).toInt < 0 ∨ 4 < (nI 5).toInt := by decide +kernel
    rw [e_Mo_flow_125_d hx]
    simp (disch := first | exact fR_0 | exact fR_1 | exact fR_7 | exact fR_11 | exact fR_19 | exact fR_20 | exact fR_23 | omega) only [e_Mo_flow_188, e_Mo_flow_189, e_Mo_flow_192, e_Mo_flow_195, vr_v, vr_n, vr_vh, vr_nh, vg_some, fF_23_0, fF_23_1, fF_23_2, fF_23_3, fI_23_3, fF_23_4, fF_23_5, fF_23_6, fI_23_6, fF_23_7, fF_23_8, fF_23_9, fF_23_10, fF_23_11, fF_23_12, fF_23_13, fF_23_14, fF_23_15, fF_23_16, fF_23_17, fF_23_18, fF_23_19, fI_23_19, fF_23_20, fI_23_20, fF_23_21, fI_23_21, fF_23_22, fI_23_22, fF_23_23, fI_23_23, fF_23_24, fI_23_24, fF_23_25, fI_23_25, fF_23_26, fI_23_26, fF_23_27, fI_23_27, fF_23_28, fI_23_28, fF_23_29, fF_23_30, fF_23_31, fR_23, fL_24, fW_24, fL_25, fW_25, fL_26, fW_26, fL_27, fW_27, fL_28, fW_28, fL_29, fW_29, fL_30, fW_30, fL_31, fW_31, fL_32, fW_32, fL_33, fW_33, fL_34, fW_34, fL_35, fW_35, fL_36, fW_36, fW_37, fL_38, fW_38, fL_39, fW_39, fL_40, fW_40, fL_41, fW_41, fL_42, fW_42, fL_43, fW_43, mF_21, mF_22, mF_23, mF_24, mF_25, mF_26, mF_27, mU_21, mU_22, mU_23, mU_24, mU_25, mU_26, mU_27, mS, tlF, c_Mo_manyOf, st_many]
theorem p_flow {σ : mx_S} (hI : INV σ) (n w bad deaf seed what : Int32) : PR σ (fun σ => vv 4 102 0 [.ref 0, .int n, .int w, .int bad, .int deaf, .int seed, .int what] [] (shF, σ)) (fun σ => vv 3 162 0 [.ref 23, .int n, .int w, .int bad, .int deaf, .int seed, .int what] [] (shF, σ)) := by
  cases h1 : wi n (nI 1) (nI 30) with
  | false => exact PR.same hI (-2) (by simp only [e_Ml_flow_0, e_Ml_flow_1, e_Ml_flow_2, e_Ml_flow_4, e_Ml_flow_7, e_Ml_flow_10, e_Ml_flow_11, e_Ml_flow_12, e_Ml_flow_14, e_Ml_flow_17, e_Ml_flow_20, e_Ml_flow_22, e_Ml_flow_23, e_Ml_flow_24, e_Ml_flow_25, e_Ml_flow_27, e_Ml_flow_30, e_Ml_flow_33, e_Ml_flow_35, e_Ml_flow_36, e_Ml_flow_38, e_Ml_flow_41, e_Ml_flow_44, e_Ml_flow_46, e_Ml_flow_47, e_Ml_flow_49, e_Ml_flow_50, e_Ml_flow_51, e_Ml_flow_54, e_Ml_flow_57, e_Ml_flow_59, e_Ml_flow_60, e_Ml_flow_61, e_Ml_flow_64, e_Ml_flow_65, e_Ml_flow_66, e_Ml_flow_67, e_Ml_flow_69, e_Ml_flow_71, e_Ml_flow_74, e_Ml_flow_75, e_Ml_flow_78, e_Ml_flow_80, e_Ml_flow_83, vr_v, vr_n, vr_vh, vr_nh, vg_some, c_Ml_isWithin, c_Ml_isStation, c_Ml_areTwo, c_Ml_isTone, c_Ml_isHalf, c_Ml_isKey, c_Mo_within, c_Mo_isStation, c_Mo_areTwo, c_Mo_isTone, c_Mo_isHalf, bI_0, if_true, if_false, Bool.false_eq_true, eq_self, tf, h1]) (by simp only [e_Mo_flow_0, e_Mo_flow_1, e_Mo_flow_2, e_Mo_flow_4, e_Mo_flow_7, e_Mo_flow_51, e_Mo_flow_53, vr_v, vr_n, vr_vh, vr_nh, vg_some, c_Ml_isWithin, c_Ml_isStation, c_Ml_areTwo, c_Ml_isTone, c_Ml_isHalf, c_Ml_isKey, c_Mo_within, c_Mo_isStation, c_Mo_areTwo, c_Mo_isTone, c_Mo_isHalf, bI_0, if_true, if_false, Bool.false_eq_true, eq_self, tf, h1])
  | true =>
    cases h2 : wi w (nI 1) (nI 8) with
    | false => exact PR.same hI (-2) (by simp only [e_Ml_flow_0, e_Ml_flow_1, e_Ml_flow_2, e_Ml_flow_4, e_Ml_flow_7, e_Ml_flow_10, e_Ml_flow_11, e_Ml_flow_12, e_Ml_flow_14, e_Ml_flow_17, e_Ml_flow_20, e_Ml_flow_22, e_Ml_flow_23, e_Ml_flow_24, e_Ml_flow_25, e_Ml_flow_27, e_Ml_flow_30, e_Ml_flow_33, e_Ml_flow_35, e_Ml_flow_36, e_Ml_flow_38, e_Ml_flow_41, e_Ml_flow_44, e_Ml_flow_46, e_Ml_flow_47, e_Ml_flow_49, e_Ml_flow_50, e_Ml_flow_51, e_Ml_flow_54, e_Ml_flow_57, e_Ml_flow_59, e_Ml_flow_60, e_Ml_flow_61, e_Ml_flow_64, e_Ml_flow_65, e_Ml_flow_66, e_Ml_flow_67, e_Ml_flow_69, e_Ml_flow_71, e_Ml_flow_74, e_Ml_flow_75, e_Ml_flow_78, e_Ml_flow_80, e_Ml_flow_83, vr_v, vr_n, vr_vh, vr_nh, vg_some, c_Ml_isWithin, c_Ml_isStation, c_Ml_areTwo, c_Ml_isTone, c_Ml_isHalf, c_Ml_isKey, c_Mo_within, c_Mo_isStation, c_Mo_areTwo, c_Mo_isTone, c_Mo_isHalf, bI_0, if_true, if_false, Bool.false_eq_true, eq_self, tf, h1, h2]) (by simp only [e_Mo_flow_0, e_Mo_flow_1, e_Mo_flow_2, e_Mo_flow_4, e_Mo_flow_7, e_Mo_flow_10, e_Mo_flow_11, e_Mo_flow_12, e_Mo_flow_14, e_Mo_flow_17, e_Mo_flow_51, e_Mo_flow_53, vr_v, vr_n, vr_vh, vr_nh, vg_some, c_Ml_isWithin, c_Ml_isStation, c_Ml_areTwo, c_Ml_isTone, c_Ml_isHalf, c_Ml_isKey, c_Mo_within, c_Mo_isStation, c_Mo_areTwo, c_Mo_isTone, c_Mo_isHalf, bI_0, if_true, if_false, Bool.false_eq_true, eq_self, tf, h1, h2])
    | true =>
      cases h3 : wi bad (nI 0) (nI 9) with
      | false => exact PR.same hI (-2) (by simp only [e_Ml_flow_0, e_Ml_flow_1, e_Ml_flow_2, e_Ml_flow_4, e_Ml_flow_7, e_Ml_flow_10, e_Ml_flow_11, e_Ml_flow_12, e_Ml_flow_14, e_Ml_flow_17, e_Ml_flow_20, e_Ml_flow_22, e_Ml_flow_23, e_Ml_flow_24, e_Ml_flow_25, e_Ml_flow_27, e_Ml_flow_30, e_Ml_flow_33, e_Ml_flow_35, e_Ml_flow_36, e_Ml_flow_38, e_Ml_flow_41, e_Ml_flow_44, e_Ml_flow_46, e_Ml_flow_47, e_Ml_flow_49, e_Ml_flow_50, e_Ml_flow_51, e_Ml_flow_54, e_Ml_flow_57, e_Ml_flow_59, e_Ml_flow_60, e_Ml_flow_61, e_Ml_flow_64, e_Ml_flow_65, e_Ml_flow_66, e_Ml_flow_67, e_Ml_flow_69, e_Ml_flow_71, e_Ml_flow_74, e_Ml_flow_75, e_Ml_flow_78, e_Ml_flow_80, e_Ml_flow_83, vr_v, vr_n, vr_vh, vr_nh, vg_some, c_Ml_isWithin, c_Ml_isStation, c_Ml_areTwo, c_Ml_isTone, c_Ml_isHalf, c_Ml_isKey, c_Mo_within, c_Mo_isStation, c_Mo_areTwo, c_Mo_isTone, c_Mo_isHalf, bI_0, if_true, if_false, Bool.false_eq_true, eq_self, tf, h1, h2, h3]) (by simp only [e_Mo_flow_0, e_Mo_flow_1, e_Mo_flow_2, e_Mo_flow_4, e_Mo_flow_7, e_Mo_flow_10, e_Mo_flow_11, e_Mo_flow_12, e_Mo_flow_14, e_Mo_flow_17, e_Mo_flow_20, e_Mo_flow_21, e_Mo_flow_22, e_Mo_flow_24, e_Mo_flow_27, e_Mo_flow_51, e_Mo_flow_53, vr_v, vr_n, vr_vh, vr_nh, vg_some, c_Ml_isWithin, c_Ml_isStation, c_Ml_areTwo, c_Ml_isTone, c_Ml_isHalf, c_Ml_isKey, c_Mo_within, c_Mo_isStation, c_Mo_areTwo, c_Mo_isTone, c_Mo_isHalf, bI_0, if_true, if_false, Bool.false_eq_true, eq_self, tf, h1, h2, h3])
      | true =>
        cases h4 : wi deaf (nI 0) (nI 9) with
        | false => exact PR.same hI (-2) (by simp only [e_Ml_flow_0, e_Ml_flow_1, e_Ml_flow_2, e_Ml_flow_4, e_Ml_flow_7, e_Ml_flow_10, e_Ml_flow_11, e_Ml_flow_12, e_Ml_flow_14, e_Ml_flow_17, e_Ml_flow_20, e_Ml_flow_22, e_Ml_flow_23, e_Ml_flow_24, e_Ml_flow_25, e_Ml_flow_27, e_Ml_flow_30, e_Ml_flow_33, e_Ml_flow_35, e_Ml_flow_36, e_Ml_flow_38, e_Ml_flow_41, e_Ml_flow_44, e_Ml_flow_46, e_Ml_flow_47, e_Ml_flow_49, e_Ml_flow_50, e_Ml_flow_51, e_Ml_flow_54, e_Ml_flow_57, e_Ml_flow_59, e_Ml_flow_60, e_Ml_flow_61, e_Ml_flow_64, e_Ml_flow_65, e_Ml_flow_66, e_Ml_flow_67, e_Ml_flow_69, e_Ml_flow_71, e_Ml_flow_74, e_Ml_flow_75, e_Ml_flow_78, e_Ml_flow_80, e_Ml_flow_83, vr_v, vr_n, vr_vh, vr_nh, vg_some, c_Ml_isWithin, c_Ml_isStation, c_Ml_areTwo, c_Ml_isTone, c_Ml_isHalf, c_Ml_isKey, c_Mo_within, c_Mo_isStation, c_Mo_areTwo, c_Mo_isTone, c_Mo_isHalf, bI_0, if_true, if_false, Bool.false_eq_true, eq_self, tf, h1, h2, h3, h4]) (by simp only [e_Mo_flow_0, e_Mo_flow_1, e_Mo_flow_2, e_Mo_flow_4, e_Mo_flow_7, e_Mo_flow_10, e_Mo_flow_11, e_Mo_flow_12, e_Mo_flow_14, e_Mo_flow_17, e_Mo_flow_20, e_Mo_flow_21, e_Mo_flow_22, e_Mo_flow_24, e_Mo_flow_27, e_Mo_flow_30, e_Mo_flow_32, e_Mo_flow_33, e_Mo_flow_35, e_Mo_flow_38, e_Mo_flow_51, e_Mo_flow_53, vr_v, vr_n, vr_vh, vr_nh, vg_some, c_Ml_isWithin, c_Ml_isStation, c_Ml_areTwo, c_Ml_isTone, c_Ml_isHalf, c_Ml_isKey, c_Mo_within, c_Mo_isStation, c_Mo_areTwo, c_Mo_isTone, c_Mo_isHalf, bI_0, if_true, if_false, Bool.false_eq_true, eq_self, tf, h1, h2, h3, h4])
        | true =>
          cases h5 : wi what (nI 0) (nI 5) with
          | false => exact PR.same hI (-2) (by simp only [e_Ml_flow_0, e_Ml_flow_1, e_Ml_flow_2, e_Ml_flow_4, e_Ml_flow_7, e_Ml_flow_10, e_Ml_flow_11, e_Ml_flow_12, e_Ml_flow_14, e_Ml_flow_17, e_Ml_flow_20, e_Ml_flow_22, e_Ml_flow_23, e_Ml_flow_24, e_Ml_flow_25, e_Ml_flow_27, e_Ml_flow_30, e_Ml_flow_33, e_Ml_flow_35, e_Ml_flow_36, e_Ml_flow_38, e_Ml_flow_41, e_Ml_flow_44, e_Ml_flow_46, e_Ml_flow_47, e_Ml_flow_49, e_Ml_flow_50, e_Ml_flow_51, e_Ml_flow_54, e_Ml_flow_57, e_Ml_flow_59, e_Ml_flow_60, e_Ml_flow_61, e_Ml_flow_64, e_Ml_flow_65, e_Ml_flow_66, e_Ml_flow_67, e_Ml_flow_69, e_Ml_flow_71, e_Ml_flow_74, e_Ml_flow_75, e_Ml_flow_78, e_Ml_flow_80, e_Ml_flow_83, vr_v, vr_n, vr_vh, vr_nh, vg_some, c_Ml_isWithin, c_Ml_isStation, c_Ml_areTwo, c_Ml_isTone, c_Ml_isHalf, c_Ml_isKey, c_Mo_within, c_Mo_isStation, c_Mo_areTwo, c_Mo_isTone, c_Mo_isHalf, bI_0, if_true, if_false, Bool.false_eq_true, eq_self, tf, h1, h2, h3, h4, h5]) (by simp only [e_Mo_flow_0, e_Mo_flow_1, e_Mo_flow_2, e_Mo_flow_4, e_Mo_flow_7, e_Mo_flow_10, e_Mo_flow_11, e_Mo_flow_12, e_Mo_flow_14, e_Mo_flow_17, e_Mo_flow_20, e_Mo_flow_21, e_Mo_flow_22, e_Mo_flow_24, e_Mo_flow_27, e_Mo_flow_30, e_Mo_flow_32, e_Mo_flow_33, e_Mo_flow_35, e_Mo_flow_38, e_Mo_flow_41, e_Mo_flow_43, e_Mo_flow_44, e_Mo_flow_45, e_Mo_flow_48, e_Mo_flow_51, e_Mo_flow_53, vr_v, vr_n, vr_vh, vr_nh, vg_some, c_Ml_isWithin, c_Ml_isStation, c_Ml_areTwo, c_Ml_isTone, c_Ml_isHalf, c_Ml_isKey, c_Mo_within, c_Mo_isStation, c_Mo_areTwo, c_Mo_isTone, c_Mo_isHalf, bI_0, if_true, if_false, Bool.false_eq_true, eq_self, tf, h1, h2, h3, h4, h5])
          | true =>
            obtain ⟨N, -, hN, rfl⟩ := wi_of1 (by decide) (by decide) h1
            obtain ⟨W, -, hW, rfl⟩ := wi_of1 (by decide) (by decide) h2
            obtain ⟨k, hk, rfl⟩ := wi_of (by decide) h5
            have hk : k < 6 := by omega
            have hw : W < 100 := by omega
            have cr : ∀ σ, vv 3 27 0 [.ref 19, .int (nI N), .int (nI W), .int bad, .int deaf, .int seed] [] (shF, σ) = some (none, (shF, cS σ N (GG N W bad deaf (S0 seed) 200))) := fun σ => c_Fl_run hN hw
            have ft : ∀ σ, vv 1 33 0 [.ref 19, .int (nI k)] [] (shF, cS σ N (GG N W bad deaf (S0 seed) 200)) = some (some (.int (tlF k (GG N W bad deaf (S0 seed) 200))), (shF, cS σ N (GG N W bad deaf (S0 seed) 200))) := fun σ => c_Fl_tell hk
            have md : ∀ σ, vv 3 162 0 [.ref 23, .int (nI N), .int (nI W), .int bad, .int deaf, .int seed, .int (nI k)] [] (shF, σ) = some (some (.int (tlF k (GG N W bad deaf (S0 seed) 200))), (shF, mS σ (GG N W bad deaf (S0 seed) 200))) := by
              intro σ
              have s0 : vv 3 162 0 [.ref 23, .int (nI N), .int (nI W), .int bad, .int deaf, .int seed, .int (nI k)] [] (shF, mF σ (σ 23 21) (σ 23 22) (σ 23 23) (σ 23 24) (σ 23 25) (σ 23 26) (σ 23 27)) = vv 3 162 90 [.ref 23, .int (nI N), .int (nI W), .int bad, .int deaf, .int seed, .int (nI k)] [] (shF, mS σ (S0 seed)) := by
                simp (disch := first | exact fR_0 | exact fR_1 | exact fR_7 | exact fR_11 | exact fR_19 | exact fR_20 | exact fR_23 | omega) only [e_Mo_flow_0, e_Mo_flow_1, e_Mo_flow_2, e_Mo_flow_4, e_Mo_flow_7, e_Mo_flow_10, e_Mo_flow_11, e_Mo_flow_12, e_Mo_flow_14, e_Mo_flow_17, e_Mo_flow_20, e_Mo_flow_21, e_Mo_flow_22, e_Mo_flow_24, e_Mo_flow_27, e_Mo_flow_30, e_Mo_flow_32, e_Mo_flow_33, e_Mo_flow_35, e_Mo_flow_38, e_Mo_flow_41, e_Mo_flow_43, e_Mo_flow_44, e_Mo_flow_45, e_Mo_flow_48, e_Mo_flow_54, e_Mo_flow_55, e_Mo_flow_57, e_Mo_flow_60, e_Mo_flow_61, e_Mo_flow_62, e_Mo_flow_65, e_Mo_flow_66, e_Mo_flow_67, e_Mo_flow_70, e_Mo_flow_71, e_Mo_flow_72, e_Mo_flow_75, e_Mo_flow_76, e_Mo_flow_77, e_Mo_flow_80, e_Mo_flow_81, e_Mo_flow_82, e_Mo_flow_85, e_Mo_flow_86, e_Mo_flow_87, vr_v, vr_n, vr_vh, vr_nh, vg_some, c_Ml_isWithin, c_Ml_isStation, c_Ml_areTwo, c_Ml_isTone, c_Ml_isHalf, c_Ml_isKey, c_Mo_within, c_Mo_isStation, c_Mo_areTwo, c_Mo_isTone, c_Mo_isHalf, bI_0, if_true, if_false, Bool.false_eq_true, eq_self, tf, fF_23_0, fF_23_1, fF_23_2, fF_23_3, fI_23_3, fF_23_4, fF_23_5, fF_23_6, fI_23_6, fF_23_7, fF_23_8, fF_23_9, fF_23_10, fF_23_11, fF_23_12, fF_23_13, fF_23_14, fF_23_15, fF_23_16, fF_23_17, fF_23_18, fF_23_19, fI_23_19, fF_23_20, fI_23_20, fF_23_21, fI_23_21, fF_23_22, fI_23_22, fF_23_23, fI_23_23, fF_23_24, fI_23_24, fF_23_25, fI_23_25, fF_23_26, fI_23_26, fF_23_27, fI_23_27, fF_23_28, fI_23_28, fF_23_29, fF_23_30, fF_23_31, fR_23, fL_24, fW_24, fL_25, fW_25, fL_26, fW_26, fL_27, fW_27, fL_28, fW_28, fL_29, fW_29, fL_30, fW_30, fL_31, fW_31, fL_32, fW_32, fL_33, fW_33, fL_34, fW_34, fL_35, fW_35, fL_36, fW_36, fW_37, fL_38, fW_38, fL_39, fW_39, fL_40, fW_40, fL_41, fW_41, fL_42, fW_42, fL_43, fW_43, mF_21, mF_22, mF_23, mF_24, mF_25, mF_26, mF_27, mU_21, mU_22, mU_23, mU_24, mU_25, mU_26, mU_27, h1, h2, h3, h4, h5, S0, mS, st_no]
              rw [mF_self] at s0
              rw [s0, l_flowM hN hw, l_tellM hk]
            generalize GG N W bad deaf (S0 seed) 200 = S at cr ft md
            obtain ⟨s, t, a, f, c, d, h⟩ := S
            have i1 : INV (cS σ N (s, t, a, f, c, d, h)) := INV_of hI (fun c hc => cF_nn (by omega)) (fun k _ => by
              show cF σ _ _ _ _ _ _ _ _ 23 k = _
              rw [cF_nn (by decide)])
            refine ⟨tlF k (s, t, a, f, c, d, h), cS σ N (s, t, a, f, c, d, h), mS (cS σ N (s, t, a, f, c, d, h)) (s, t, a, f, c, d, h), ?_, md _, INV_of i1 (fun c hc => mF_nn (by omega)) (fun k hk => mF_oth (by omega)), fun c hc => ?_⟩
            · simp (disch := first | exact fR_0 | exact fR_1 | exact fR_7 | exact fR_11 | exact fR_19 | exact fR_20 | exact fR_23 | omega) only [e_Ml_flow_0, e_Ml_flow_1, e_Ml_flow_2, e_Ml_flow_4, e_Ml_flow_7, e_Ml_flow_10, e_Ml_flow_11, e_Ml_flow_12, e_Ml_flow_14, e_Ml_flow_17, e_Ml_flow_23, e_Ml_flow_24, e_Ml_flow_25, e_Ml_flow_27, e_Ml_flow_30, e_Ml_flow_33, e_Ml_flow_35, e_Ml_flow_36, e_Ml_flow_38, e_Ml_flow_41, e_Ml_flow_47, e_Ml_flow_49, e_Ml_flow_50, e_Ml_flow_51, e_Ml_flow_54, e_Ml_flow_60, e_Ml_flow_61, e_Ml_flow_64, e_Ml_flow_65, e_Ml_flow_66, e_Ml_flow_67, e_Ml_flow_69, e_Ml_flow_71, e_Ml_flow_74, e_Ml_flow_75, e_Ml_flow_78, e_Ml_flow_80, e_Ml_flow_83, vr_v, vr_n, vr_vh, vr_nh, vg_some, c_Ml_isWithin, c_Ml_isStation, c_Ml_areTwo, c_Ml_isTone, c_Ml_isHalf, c_Ml_isKey, c_Mo_within, c_Mo_isStation, c_Mo_areTwo, c_Mo_isTone, c_Mo_isHalf, bI_0, if_true, if_false, Bool.false_eq_true, eq_self, tf, fF_0_0, fF_0_1, fF_0_2, fF_0_3, fF_0_4, h1, h2, h3, h4, h5, cr, ft]
            · show mF _ _ _ _ _ _ _ _ c = _
              rw [mF_nn (by omega)]
              exact cF_nn (by omega)
