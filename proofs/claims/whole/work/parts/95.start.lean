/-! the claim: the machine of the claim follows mine (begun with the kit's skeleton) -/
/-! THE CLAIM OUT OF ONE WALK OF THE LAW'S BODY. Your part is whole_start (and what it stands on); all else here is the same for every law, but numbers. -/
def R_law : String := "MainsLettersLaw"
def lw_P (b : Addr) (xs : List Int32) (args : Array Value) (s : State) : Prop := args = #[.ref b] ∧ s.IntsAt b xs ∧ xs.length ≤ 3584 ∧ (Jvm.Cond.and given_1 narrow_1).before args s = true
def lw_Q (_ : Array Value) (s : State) (o : Outcome) (t : State) : Prop := o = .returned (some (.int 1)) ∧ Framed s o t [] 600000 7302250
def lw_Z (below : List Frame) (a : Array Value) (s : State) : State → Prop := fun t => ∃ o, t.status = .running ∧ Ended t below o ∧ lw_Q a s o t
/-- the law's own end, with 1 on the stack, nothing written that was there before, its room as the claim has it -/
theorem lw_ret {p : Program} {l : Launch} {e : Env} {s : State} {m : MethodId} {below : List Frame} {meth : Method} {c : Code} {b : Nat} (hx : p.tables.exec = Jvm.exec) (hb : c.code = code) (hr : meth.sig.returnType = ret) (hlocks : meth.locks = false) {pc : Nat} {H : Heap} {ls : Array Slot} (hdg : decode code pc = .ok (.ireturn, 1)) : W p l e room_1 s m #[Value.ref b] below meth c H [] 600000 7302250 (lw_Z below #[Value.ref b] s) (F0 m pc ls [.int 1]) := by
  intro T hT X
  obtain ⟨fs, hret, hrun, hended, hW, hframe⟩ := X.leave (v := some (.int 1)) (hlocks := hlocks) (fun h => by rw [hr] at h; cases h)
  have hmeth' : T.vm.method? m = some meth := X.method'
  refine ⟨T.setFrames fs, ?_, .returned (some (.int 1)), hrun, hended, rfl, ⟨_, rfl⟩, hW, hframe⟩
  jvm_step X.here [X.here.top, hx, hb, hdg, hmeth', hr, ret, narrow_b1]
  (try refine ⟨rfl, ?_⟩); (try refine ⟨rfl, ?_⟩)
  first | (intro acts; rw [hret _ acts rfl rfl rfl]) | rw [hret _ _ rfl rfl rfl]
  exact Steps.refl _
/-- what holds at the law's entry: the machine, the code, the tables' words (any of lw_tbl by 'hts w (by decide +kernel)'), the script of L ints xs at the cell b, what the Statement gives of the start (any of its parts by flat_of_before) -/
def lw_At (p : Program) (s : State) (m : MethodId) (meth : Method) (c : Code) (b L : Nat) (xs : Nat → Int32) : Prop :=
  p.tables.exec = Jvm.exec ∧ c.code = code ∧ meth.sig.returnType = ret ∧ c.maxLocals = 4 ∧ s.vm.findClass R_law = some m.cls ∧ (∀ w ∈ lw_tbl, w.before #[Value.ref b] s = true) ∧ va_X b L xs s s.heap ∧ b < s.heap.size ∧ meth.locks = false ∧ (Jvm.Cond.and given_1 narrow_1).before #[Value.ref b] s = true
theorem st_tab {args : Array Value} {s : State} {C n d : String} {w : Nat → Int32} (hl : (Cond.laysStatic C n d).before args s = true) (hi : (Cond.initialized C).before args s = true) (ha : (Cond.arrayOf (.static C n d) .int).before args s = true) (hn : (Cond.eq (.length (.static C n d)) (.int 4)).before args s = true) (h0 : (Cond.eq (.elem (.static C n d) (.int 0)) (.int (w 0))).before args s = true) (h1 : (Cond.eq (.elem (.static C n d) (.int 1)) (.int (w 1))).before args s = true) (h2 : (Cond.eq (.elem (.static C n d) (.int 2)) (.int (w 2))).before args s = true) (h3 : (Cond.eq (.elem (.static C n d) (.int 3)) (.int (w 3))).before args s = true) : ∃ t : Nat, va_T .int t 4 (fun j => .int (w j)) (fun q : Nat => s.heap.size ≤ q) s s.heap ∧ va_Z C n d (.ref t) (fun q : Nat => s.heap.size ≤ q) s s.heap := by
  have hA : ∀ a : Nat, a < s.heap.size → ¬ (fun q : Nat => s.heap.size ≤ q) a := fun a h => Nat.not_le.mpr h
  obtain ⟨t, e, hT⟩ := va_Tof (tm := .static C n d) (ty := .int) (N := 4) (f := fun j => .int (w j)) (A := fun q : Nat => s.heap.size ≤ q) (by decide) ha (va_eqt hn) (fun j hj => by
    match j, hj with
    | 0, _ => exact va_eqt h0
    | 1, _ => exact va_eqt h1
    | 2, _ => exact va_eqt h2
    | 3, _ => exact va_eqt h3
    | k + 4, h => exact absurd h (by omega)) hA
  exact ⟨t, hT, va_Zref hl hi e hA⟩
def tw0 : Nat → Int32 := fun j => if j = 0 then nI 8 else if j = 1 then nI 16 else if j = 2 then nI 32 else nI 64
def tw1 : Nat → Int32 := fun j => if j = 0 then nI 8 else if j = 1 then nI 16 else if j = 2 then nI 16 else nI 32
def tw2 : Nat → Int32 := fun j => if j = 0 then nI 0 else if j = 1 then nI 1 else if j = 2 then nI 3 else nI 15
/-- the store at the law's entry -/
def sg0 (L : Nat) (xs : Nat → Int32) : mx_S := fun c => if c = 1000 then tw0 else if c = 1001 then tw1 else if c = 1002 then tw2 else if c = 1003 then xs else if c = 2000 then (fun k => if k = 3 then nI L else nI 4) else fun _ => 0
theorem sg0_X {L : Nat} {xs : Nat → Int32} : XW (sg0 L xs) := ⟨⟨rfl, rfl, rfl⟩, ⟨rfl, rfl, rfl, rfl⟩, ⟨rfl, rfl, rfl, rfl⟩, ⟨rfl, rfl, rfl, rfl⟩⟩
def ad0 (t0 t1 t2 b : Nat) : Nat → Nat := fun i => if i = 1000 then t0 else if i = 1001 then t1 else if i = 1002 then t2 else b
theorem st_arr {args : Array Value} {s : State} {ty : FieldType} (hp : ∀ C, ty ≠ .object C) (h : (Cond.arrayClass ty).before args s = true) : ∃ cA, ArrOfT s cA ty ∧ va_RA s cA ty := by
  obtain ⟨cA, kA, comp, h1, h2, h3⟩ := Cond.arrayClass_spec h
  refine ⟨cA, fun n z => ⟨fun k h => (by cases h), kA, h2, comp, h3⟩, ?_⟩
  cases ty <;> first | exact h1 | exact absurd rfl (hp _)
theorem st_arrS {args : Array Value} {s : State} {C : String} (h : (Cond.arrayOver (.object C)).before args s = true) : ∃ cA, ArrOfT s cA (.object C) ∧ va_RA s cA (.object C) := by
  obtain ⟨comp, cA, kA, h1, h2, h3, h4, h5⟩ := Cond.arrayOver_spec h
  exact ⟨cA, fun n z => ⟨fun k h => (by cases h), kA, h3, comp, h4⟩, kA, comp, h3, h4, h1, h5⟩
theorem st_hd : mx_hd[176]? = some mh_176 := rfl
theorem st_in : ∀ w ∈ mx_WS, w ∈ lw_tbl := fun w hw => (List.mem_filter.mp hw).1
/-- from the entry, for every script of at most 3584 ints, the law comes to its end with true -/
theorem whole_start {p : Program} {e : Env} {s : State} {m : MethodId} {below : List Frame} {meth : Method} {c : Code} (l : Launch) {b L : Nat} {xs : Nat → Int32} (hL : L ≤ 3584) (hnm : meth.name = "law") (C0 : lw_At p s m meth c b L xs) : W p l e room_1 s m #[Value.ref b] below meth c s.heap [] 0 0 (lw_Z below #[Value.ref b] s) (entryFrame m ([Value.ref b] : List Value).toArray 4) := by
  obtain ⟨hx, hb, hr, hml, hown, hts, hX, hbl, hlocks, hgv⟩ := id C0
  have hs := flat_of_before _ hgv
  have hini := hts (.initialized "MainsLetters$Contention") (by decide +kernel)
  obtain ⟨t0, T0, Z0⟩ := st_tab (w := tw0) (hts (.laysStatic "MainsLetters$Contention" "WIDTHS" "[I") (by decide +kernel)) hini (hs _ (by decide +kernel)) (hs _ (by decide +kernel)) (hs _ (by decide +kernel)) (hs _ (by decide +kernel)) (hs _ (by decide +kernel)) (hs _ (by decide +kernel))
  obtain ⟨t1, T1, Z1⟩ := st_tab (w := tw1) (hts (.laysStatic "MainsLetters$Contention" "NARROW_WIDTHS" "[I") (by decide +kernel)) hini (hs _ (by decide +kernel)) (hs _ (by decide +kernel)) (hs _ (by decide +kernel)) (hs _ (by decide +kernel)) (hs _ (by decide +kernel)) (hs _ (by decide +kernel))
  obtain ⟨t2, T2, Z2⟩ := st_tab (w := tw2) (hts (.laysStatic "MainsLetters$Contention" "DEFERS" "[I") (by decide +kernel)) hini (hs _ (by decide +kernel)) (hs _ (by decide +kernel)) (hs _ (by decide +kernel)) (hs _ (by decide +kernel)) (hs _ (by decide +kernel)) (hs _ (by decide +kernel))
  have hbA : ¬ (fun q : Nat => s.heap.size ≤ q) b := Nat.not_le.mpr hbl
  have T3 : va_T .int b L (fun j => .int (xs j)) (fun q : Nat => s.heap.size ≤ q) s s.heap := by
    obtain ⟨scr, h1, h2, h3, h4, h5⟩ := hX
    exact ⟨scr, h1, h2, h3, Nat.le_of_eq h4.symm, congrArg Nat.toInt32 h4, h5, hbA⟩
  have hXX : mx_X (ad0 t0 t1 t2 b) (sg0 L xs) (fun q : Nat => s.heap.size ≤ q) s s.heap := by
    refine ⟨fun k hk => ?_, fun k hk => ?_⟩
    · match k, hk with
      | 0, _ => exact ⟨4, rfl, by decide, T0⟩
      | 1, _ => exact ⟨4, rfl, by decide, T1⟩
      | 2, _ => exact ⟨4, rfl, by decide, T2⟩
      | 3, _ => exact ⟨L, rfl, by omega, T3⟩
      | n + 4, h => exact absurd h (by omega)
    · match k, hk with
      | 0, _ => exact Z0
      | 1, _ => exact Z1
      | 2, _ => exact Z2
      | n + 3, h => exact absurd h (by omega)
  have hws : ∀ w ∈ mx_WS, w.before #[Value.ref b] s = true := fun w hw => hts w (st_in w hw)
  obtain ⟨gI, gI1⟩ := st_arr (ty := .int) (fun _ h => by cases h) (hts (.arrayClass .int) (by decide +kernel))
  obtain ⟨gZ, gZ1⟩ := st_arr (ty := .boolean) (fun _ h => by cases h) (hts (.arrayClass .boolean) (by decide +kernel))
  obtain ⟨gS, gS1⟩ := st_arrS (hts (.arrayOver (.object "MainsLetters$Station")) (by decide +kernel))
  obtain ⟨c0, i0, K0⟩ := u_known (C := RX0) (T := TX0) (N := 7) (n := 7) hws mx_uw0 (hts (.instantiable RX0 7) (by decide +kernel))
  obtain ⟨c1, i1, K1⟩ := u_known (C := RX2) (T := TX2) (N := 8) (n := 8) hws mx_uw1 (hts (.instantiable RX2 8) (by decide +kernel))
  obtain ⟨c2, i2, K2⟩ := u_known (C := RX3) (T := TX3) (N := 3) (n := 3) hws mx_uw2 (hts (.instantiable RX3 3) (by decide +kernel))
  obtain ⟨c3, i3, K3⟩ := u_known (C := RX5) (T := TX5) (N := 12) (n := 12) hws mx_uw3 (hts (.instantiable RX5 12) (by decide +kernel))
  obtain ⟨c4, i4, K4⟩ := u_known (C := RX6) (T := TX6) (N := 6) (n := 6) hws mx_uw4 (hts (.instantiable RX6 6) (by decide +kernel))
  obtain ⟨c5, i5, K5⟩ := u_known (C := RX7) (T := TX7) (N := 6) (n := 6) hws mx_uw5 (hts (.instantiable RX7 6) (by decide +kernel))
  obtain ⟨c6, i6, K6⟩ := u_known (C := RX8) (T := TX8) (N := 5) (n := 5) hws mx_uw6 (hts (.instantiable RX8 5) (by decide +kernel))
  obtain ⟨c7, i7, K7⟩ := u_known (C := RX9) (T := TX9) (N := 32) (n := 32) hws mx_uw7 (hts (.instantiable RX9 32) (by decide +kernel))
  obtain ⟨dC, dI, hKc⟩ : ∃ (dC : Nat → ClassId) (dI : Nat → Nat → Nat), ∀ (k : Nat) (q : vw_C), vwCl[k]? = some q → u_Kn s q.1 q.2.1 q.2.2 (dC k) (dI k) := by
    refine ⟨fun k => match k with | 0 => c0 | 1 => c1 | 2 => c2 | 3 => c3 | 4 => c4 | 5 => c5 | 6 => c6 | _ => c7, fun k => match k with | 0 => i0 | 1 => i1 | 2 => i2 | 3 => i3 | 4 => i4 | 5 => i5 | 6 => i6 | _ => i7, ?_⟩
    intro k q hq
    match k, hq with
    | 0, hq => cases hq; exact K0
    | 1, hq => cases hq; exact K1
    | 2, hq => cases hq; exact K2
    | 3, hq => cases hq; exact K3
    | 4, hq => cases hq; exact K4
    | 5, hq => cases hq; exact K5
    | 6, hq => cases hq; exact K6
    | 7, hq => cases hq; exact K7
    | k + 8, hq => simp [vwCl] at hq
  have hK : va_K (dC, dI) vwCl (mx_ty (gI, gZ, gS)) s := ⟨hKc, fun k q h => by
    match k, h with
    | 0, h => cases h; exact gI1
    | 1, h => cases h; exact gZ1
    | 2, h => cases h; exact gS1
    | k + 3, h => simp [mx_ty] at h⟩
  have hY : mx_Y s := ⟨fun w hw hn => va_Nw.of (by cases w <;> first | rfl | cases hn) (hts w hw), va_AO.of (hts (.arrayOver (.object "MainsLetters$Station")) (by decide +kernel))⟩
  obtain ⟨τ, hv⟩ := law_run (σ := sg0 L xs) (L := L) sg0_X rfl hL
  obtain ⟨n, hn⟩ := vv_iff.mp hv
  have hT : mx_T p room_1 s m #[Value.ref b] meth c (fun q : Nat => s.heap.size ≤ q) (dC, dI) (gI, gZ, gS) mh_176 (ad0 t0 t1 t2 b) (sg0 L xs) 44 (mx_sz shF) 12 := ⟨⟨hx, hb, hml, hown, hnm, hws⟩, ⟨hK, hY, fun _ h => h, hXX⟩, by decide +kernel, by decide +kernel, by decide +kernel, by decide +kernel⟩
  have hRet : mx_Ret p l e room_1 s m #[Value.ref b] below meth c (lw_Z below #[Value.ref b] s) (fun q : Nat => s.heap.size ≤ q) (dC, dI) (gI, gZ, gS) mh_176 (ad0 t0 t1 t2 b) (sg0 L xs) 0 44 (mx_sz shF) (shF, τ) (some (.int (nI 1))) := by
    intro pc ls ad H locs hdec hrok hag hσ hP' hD' hS'
    refine va_forget (fun q hq => hS'.2.2 q hq) ?_
    refine W.widen (k := 600000) (n := 7302250) (by decide +kernel) (by decide +kernel) ?_
    exact lw_ret hx hb hr hlocks hdec
  have hG := mx_sound l (dC, dI) (gI, gZ, gS) n 12 176 0 _ [] ([], sg0 L xs) _ (shF, τ) hn st_hd hT hRet
  have hl := lv_entry ([Value.ref b]) (n := 4) (Nat.le_of_ble_eq_true rfl)
  rw [lg_entry_eq]
  exact hG (ad0 t0 t1 t2 b) s.heap [] 0 0 _ (fun _ _ => rfl) (Nat.le_refl _) (show 0 < 1000 by decide) (fun _ _ => rfl) (fun k q h => by simp [mx_ws] at h) ⟨fun i j p q h => by simp [mx_ws] at h, fun k q h => by simp [mx_ws] at h⟩ va_S.rf (mx_entry (as := [Value.ref 1003]) (m := 3) hl) rfl (show 0 + (shF.length - 0) = 44 by decide +kernel) (show 0 + (mx_sz shF - mx_sz []) = mx_sz shF by decide +kernel)
