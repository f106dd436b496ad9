/-! a step that goes on, over the machine of the claim; printed by wip/whole/gen8.py -/
def mx_nw (w : Cond) : Bool := match w with
  | .fieldLinkNest .. => true
  | .methodLinkNest .. => true
  | _ => false
def mx_WS : List Cond := lw_tbl.filter goodWord
def mx_wl (q : mx_HD) : List Cond := Cond.code q.1 q.2.1 q.2.2.1 q.2.2.2.1 :: mx_WS
theorem mx_wm {pl : Nat} {w : Cond} (h : mx_w pl w = true) : w ∈ lw_tbl := List.mem_of_getElem? (of_decide_eq_true h)
theorem mx_wW {pl : Nat} {w : Cond} (h : mx_w pl w = true) (hg : goodWord w = true) : w ∈ mx_WS := List.mem_filter.mpr ⟨mx_wm h, hg⟩
/-- the arrays that lie outside: tables and the script; static fields that hold them -/
def mx_X (ad : Nat → Nat) (σ : mx_S) (A : Nat → Prop) (U : State) (H : Heap) : Prop :=
  (∀ k, k < 4 → ∃ N : Nat, σ 2000 k = Int32.ofNat N ∧ N < 2 ^ 31 ∧ va_T .int (ad (1000 + k)) N (fun j => .int (σ (1000 + k) j)) A U H) ∧
  (∀ k, k < 3 → va_Z (mx_sf k).1 (mx_sf k).2.1 (mx_sf k).2.2 (.ref (ad (1000 + k))) A U H)
def mx_Y (U : State) : Prop := (∀ w ∈ lw_tbl, mx_nw w = true → va_Nw w U) ∧ va_AO "MainsLetters$Station" U
def mx_T (p : Program) (R : Room) (s : State) (m : MethodId) (args : Array Value) (meth : Method) (c : Code) (A : Nat → Prop) (D : va_G) (g : ClassId × ClassId × ClassId) (q : mx_HD) (ad0 : Nat → Nat) (σ0 : mx_S) (mc ms d : Nat) : Prop :=
  (p.tables.exec = Jvm.exec ∧ c.code = q.2.1 ∧ c.maxLocals = q.2.2.1 ∧ s.vm.findClass q.1.cls = some m.cls ∧ meth.name = q.1.name ∧ (∀ w ∈ mx_WS, w.before args s = true)) ∧ (va_K D vwCl (mx_ty g) s ∧ mx_Y s ∧ (∀ x, s.heap.size ≤ x → A x) ∧ mx_X ad0 σ0 A s s.heap) ∧ (d + 1 ≤ R.frames ∧ 60 * (d + 1) ≤ R.locals ∧ mc ≤ R.cells ∧ ms ≤ R.slots)
def mx_G (p : Program) (l : Launch) (e : Env) (R : Room) (s : State) (m : MethodId) (args : Array Value) (below : List Frame) (meth : Method) (c : Code) (Q : State → Prop) (A : Nat → Prop) (D : va_G) (g : ClassId × ClassId × ClassId) (q : mx_HD) (ad0 : Nat → Nat) (σ0 : mx_S) (n0 mc ms : Nat) (h2 : mx_H) (pc : Nat) (L st : List Value) (h : mx_H) : Prop :=
  ∀ (ad : Nat → Nat) (H : Heap) (locs : List Loc) (cells slots : Nat) (ls : Array Slot), (∀ i, ¬ (n0 ≤ i ∧ i < h.1.length) → ad i = ad0 i) → n0 ≤ h.1.length → h.1.length < 1000 → (∀ x, 1000 ≤ x → h.2 x = σ0 x) → va_P D vwCl (mx_ws g ad h) H → va_D A (mx_ws g ad h) → va_S A s.heap H locs → lv_has ls q.2.2.1 (mx_lv ad L) → L.length = q.2.2.1 → cells + (h2.1.length - h.1.length) = mc → slots + (mx_sz h2.1 - mx_sz h.1) = ms → W p l e R s m args below meth c H locs cells slots Q (F0 m pc ls (st.map (mx_cv ad)))
theorem mx_lift {p : Program} {l : Launch} {e : Env} {R : Room} {s : State} {m : MethodId} {args : Array Value} {below : List Frame} {meth : Method} {c : Code} {Q : State → Prop} {A : Nat → Prop} {D : va_G} {g : ClassId × ClassId × ClassId} {q : mx_HD} {ad0 : Nat → Nat} {σ0 : mx_S} {n0 mc ms : Nat} {h2 : mx_H} {pc pc' : Nat} {L st st' : List Value} {h : mx_H} (f : ∀ (ad : Nat → Nat) (H : Heap) (locs : List Loc) (cells slots : Nat) (ls : Array Slot), lv_has ls q.2.2.1 (mx_lv ad L) → W p l e R s m args below meth c H locs cells slots Q (F0 m pc' ls (st'.map (mx_cv ad))) → W p l e R s m args below meth c H locs cells slots Q (F0 m pc ls (st.map (mx_cv ad)))) (k : mx_G p l e R s m args below meth c Q A D g q ad0 σ0 n0 mc ms h2 pc' L st' h) : mx_G p l e R s m args below meth c Q A D g q ad0 σ0 n0 mc ms h2 pc L st h :=
  fun ad H locs cells slots ls hag hn0 hlt hσ hP hD hS hl hLn hcc hss => f ad H locs cells slots ls hl (k ad H locs cells slots ls hag hn0 hlt hσ hP hD hS hl hLn hcc hss)
def mx_tyF (ci : Nat) : Nat → FieldType := match ci with
  | 0 => tyX0
  | 1 => tyX2
  | 2 => tyX3
  | 3 => tyX5
  | 4 => tyX6
  | 5 => tyX7
  | 6 => tyX8
  | _ => tyX9
def mx_dv (ci : Nat) : List Value := (mx_df ci).map (fun o => match o with
  | none => .int 0
  | _ => .null)
theorem mx_deG (ad : Nat → Nat) {l : List (Option (Option Nat))} (h : ∀ o ∈ l, o = none ∨ o = some none) : l.mapIdx (mx_fv ad (fun _ => 0)) = l.map (fun o => match o with
  | none => .int 0
  | _ => .null) := by
  apply List.ext_getElem?
  intro i
  rw [List.getElem?_mapIdx, List.getElem?_map]
  cases hi : l[i]? with
  | none => rfl
  | some o =>
    rcases h o (List.mem_of_getElem? hi) with rfl | rfl
    · rfl
    · rfl
theorem mx_uw0 : ∀ w ∈ u_ws RX0 TX0 7, w ∈ mx_WS := by decide +kernel
theorem mx_dv0 : ∀ j, j < 7 → defaultValue (tyX0 j) = vp_V (mx_dv 0) j := by decide +kernel
theorem mx_de0 (ad : Nat → Nat) : (mx_df 0).mapIdx (mx_fv ad (fun _ => 0)) = mx_dv 0 := mx_deG ad (by decide +kernel)
theorem mx_uw1 : ∀ w ∈ u_ws RX2 TX2 8, w ∈ mx_WS := by decide +kernel
theorem mx_dv1 : ∀ j, j < 8 → defaultValue (tyX2 j) = vp_V (mx_dv 1) j := by decide +kernel
theorem mx_de1 (ad : Nat → Nat) : (mx_df 1).mapIdx (mx_fv ad (fun _ => 0)) = mx_dv 1 := mx_deG ad (by decide +kernel)
theorem mx_uw2 : ∀ w ∈ u_ws RX3 TX3 3, w ∈ mx_WS := by decide +kernel
theorem mx_dv2 : ∀ j, j < 3 → defaultValue (tyX3 j) = vp_V (mx_dv 2) j := by decide +kernel
theorem mx_de2 (ad : Nat → Nat) : (mx_df 2).mapIdx (mx_fv ad (fun _ => 0)) = mx_dv 2 := mx_deG ad (by decide +kernel)
theorem mx_uw3 : ∀ w ∈ u_ws RX5 TX5 12, w ∈ mx_WS := by decide +kernel
theorem mx_dv3 : ∀ j, j < 12 → defaultValue (tyX5 j) = vp_V (mx_dv 3) j := by decide +kernel
theorem mx_de3 (ad : Nat → Nat) : (mx_df 3).mapIdx (mx_fv ad (fun _ => 0)) = mx_dv 3 := mx_deG ad (by decide +kernel)
theorem mx_uw4 : ∀ w ∈ u_ws RX6 TX6 6, w ∈ mx_WS := by decide +kernel
theorem mx_dv4 : ∀ j, j < 6 → defaultValue (tyX6 j) = vp_V (mx_dv 4) j := by decide +kernel
theorem mx_de4 (ad : Nat → Nat) : (mx_df 4).mapIdx (mx_fv ad (fun _ => 0)) = mx_dv 4 := mx_deG ad (by decide +kernel)
theorem mx_uw5 : ∀ w ∈ u_ws RX7 TX7 6, w ∈ mx_WS := by decide +kernel
theorem mx_dv5 : ∀ j, j < 6 → defaultValue (tyX7 j) = vp_V (mx_dv 5) j := by decide +kernel
theorem mx_de5 (ad : Nat → Nat) : (mx_df 5).mapIdx (mx_fv ad (fun _ => 0)) = mx_dv 5 := mx_deG ad (by decide +kernel)
theorem mx_uw6 : ∀ w ∈ u_ws RX8 TX8 5, w ∈ mx_WS := by decide +kernel
theorem mx_dv6 : ∀ j, j < 5 → defaultValue (tyX8 j) = vp_V (mx_dv 6) j := by decide +kernel
theorem mx_de6 (ad : Nat → Nat) : (mx_df 6).mapIdx (mx_fv ad (fun _ => 0)) = mx_dv 6 := mx_deG ad (by decide +kernel)
theorem mx_uw7 : ∀ w ∈ u_ws RX9 TX9 32, w ∈ mx_WS := by decide +kernel
theorem mx_dv7 : ∀ j, j < 32 → defaultValue (tyX9 j) = vp_V (mx_dv 7) j := by decide +kernel
theorem mx_de7 (ad : Nat → Nat) : (mx_df 7).mapIdx (mx_fv ad (fun _ => 0)) = mx_dv 7 := mx_deG ad (by decide +kernel)
theorem mx_cls {ci : Nat} {C : vw_C} (h : vwCl[ci]? = some C) : (∀ w ∈ u_ws C.1 C.2.1 C.2.2, w ∈ mx_WS) ∧ (∀ k, k < C.2.2 → parseFieldDescriptor (C.2.1 k).2.2.1 = some (mx_tyF ci k)) ∧ (∀ a, a < C.2.2 → ∀ b, b < C.2.2 → a ≠ b → (C.2.1 a).2.1 ≠ (C.2.1 b).2.1) ∧ (∀ (ad : Nat → Nat) (j : Nat), j < C.2.2 → defaultValue (mx_tyF ci j) = vp_V ((mx_df ci).mapIdx (mx_fv ad (fun _ => 0))) j) ∧ (mx_df ci).length = C.2.2 := by
  match ci, h with
  | 0, h => cases h; exact ⟨mx_uw0, tyX0_ok, nmX0, fun ad => by rw [mx_de0]; exact mx_dv0, rfl⟩
  | 1, h => cases h; exact ⟨mx_uw1, tyX2_ok, nmX2, fun ad => by rw [mx_de1]; exact mx_dv1, rfl⟩
  | 2, h => cases h; exact ⟨mx_uw2, tyX3_ok, nmX3, fun ad => by rw [mx_de2]; exact mx_dv2, rfl⟩
  | 3, h => cases h; exact ⟨mx_uw3, tyX5_ok, nmX5, fun ad => by rw [mx_de3]; exact mx_dv3, rfl⟩
  | 4, h => cases h; exact ⟨mx_uw4, tyX6_ok, nmX6, fun ad => by rw [mx_de4]; exact mx_dv4, rfl⟩
  | 5, h => cases h; exact ⟨mx_uw5, tyX7_ok, nmX7, fun ad => by rw [mx_de5]; exact mx_dv5, rfl⟩
  | 6, h => cases h; exact ⟨mx_uw6, tyX8_ok, nmX8, fun ad => by rw [mx_de6]; exact mx_dv6, rfl⟩
  | 7, h => cases h; exact ⟨mx_uw7, tyX9_ok, nmX9, fun ad => by rw [mx_de7]; exact mx_dv7, rfl⟩
  | n + 8, h => simp [vwCl] at h
theorem mx_tgt {pc : Nat} {off : Int} (h : 0 ≤ (pc : Int) + off) : (pc : Int) + off = ((((pc : Int) + off).toNat : Nat) : Int) := (Int.toNat_of_nonneg h).symm
theorem mx_fkv {ci k : Nat} {f : String → String × String × String × Bool → Nat → Bool} (h : mx_fk ci k f = true) : ∃ (C : String) (T : u_T) (N : Nat), vwCl[ci]? = some (C, T, N) ∧ k < N ∧ f C (T k) N = true := by
  unfold mx_fk at h
  split at h
  · next C T N e =>
    simp only [Bool.and_eq_true, decide_eq_true_eq] at h
    exact ⟨C, T, N, e, h.1, h.2⟩
  · cases h
theorem mx_nar {x : Int32} (h : x = 0 ∨ x = 1) : narrow .boolean (.int x) = .int x ∧ vp_nar .boolean x = x := by
  rcases h with rfl | rfl
  · exact ⟨by decide, by decide⟩
  · exact ⟨by decide, by decide⟩
theorem mx_ob0 : mx_w 84 (.instanceMethod objectInit) = true := by decide +kernel
theorem mx_ob1 : mx_w 85 (.code objectInit ⟨#[0xb1]⟩ 1 none) = true := by decide +kernel
set_option maxHeartbeats 4000000 in
theorem sd_ist {p : Program} {l : Launch} {e : Env} {R : Room} {s : State} {m : MethodId} {args : Array Value} {below : List Frame} {meth : Method} {c : Code} {Q : State → Prop} {A : Nat → Prop} {D : va_G} {g : ClassId × ClassId × ClassId} {q : mx_HD} {ad0 : Nat → Nat} {σ0 : mx_S} {n0 mc ms : Nat} {h2 : mx_H} {d pc i i2 : Nat} {L r : List Value} {h : mx_H} {x : Int32} (C : mx_T p R s m args meth c A D g q ad0 σ0 mc ms d) (hi : i < L.length) (hd : decode q.2.1 pc = .ok (.istore i, 2) ∧ i2 = pc + 2 ∨ ∃ k : Fin 4, (k : Nat) = i ∧ decode q.2.1 pc = .ok (.istore_n k, 1) ∧ i2 = pc + 1) (k : mx_G p l e R s m args below meth c Q A D g q ad0 σ0 n0 mc ms h2 i2 (L.set i (.int x)) r h) : mx_G p l e R s m args below meth c Q A D g q ad0 σ0 n0 mc ms h2 pc L (.int x :: r) h := by
  obtain ⟨⟨hx, hb, hml, hown, hnm, hts⟩, ⟨hK, hY, hA, hX⟩, hfr, hlo, hmc, hms⟩ := C
  intro ad H locs cells slots ls hag hn0 hlt hσ hP hD hS hl hLn hcc hss
  have hi' : i < q.2.2.1 := by omega
  rcases hd with ⟨hd, rfl⟩ | ⟨k', hk, hd, rfl⟩
  · exact lv_istore hx hb hd hl hi' rfl (fun ls' hl' => k ad H locs cells slots ls' hag hn0 hlt hσ hP hD hS (mx_sto rfl hl') (by rw [List.length_set]; exact hLn) hcc hss)
  · exact lv_istore_n hx hb hd hk hl hi' rfl (fun ls' hl' => k ad H locs cells slots ls' hag hn0 hlt hσ hP hD hS (mx_sto rfl hl') (by rw [List.length_set]; exact hLn) hcc hss)
set_option maxHeartbeats 4000000 in
theorem sd_ast {p : Program} {l : Launch} {e : Env} {R : Room} {s : State} {m : MethodId} {args : Array Value} {below : List Frame} {meth : Method} {c : Code} {Q : State → Prop} {A : Nat → Prop} {D : va_G} {g : ClassId × ClassId × ClassId} {q : mx_HD} {ad0 : Nat → Nat} {σ0 : mx_S} {n0 mc ms : Nat} {h2 : mx_H} {d pc i i2 x : Nat} {L r : List Value} {h : mx_H} (C : mx_T p R s m args meth c A D g q ad0 σ0 mc ms d) (hi : i < L.length) (hd : decode q.2.1 pc = .ok (.astore i, 2) ∧ i2 = pc + 2 ∨ ∃ k : Fin 4, (k : Nat) = i ∧ decode q.2.1 pc = .ok (.astore_n k, 1) ∧ i2 = pc + 1) (k : mx_G p l e R s m args below meth c Q A D g q ad0 σ0 n0 mc ms h2 i2 (L.set i (.ref x)) r h) : mx_G p l e R s m args below meth c Q A D g q ad0 σ0 n0 mc ms h2 pc L (.ref x :: r) h := by
  obtain ⟨⟨hx, hb, hml, hown, hnm, hts⟩, ⟨hK, hY, hA, hX⟩, hfr, hlo, hmc, hms⟩ := C
  intro ad H locs cells slots ls hag hn0 hlt hσ hP hD hS hl hLn hcc hss
  have hi' : i < q.2.2.1 := by omega
  rcases hd with ⟨hd, rfl⟩ | ⟨k', hk, hd, rfl⟩
  · exact lv_astore hx hb hd hl hi' rfl (fun ls' hl' => k ad H locs cells slots ls' hag hn0 hlt hσ hP hD hS (mx_sto rfl hl') (by rw [List.length_set]; exact hLn) hcc hss)
  · exact lv_astore_n hx hb hd hk hl hi' rfl (fun ls' hl' => k ad H locs cells slots ls' hag hn0 hlt hσ hP hD hS (mx_sto rfl hl') (by rw [List.length_set]; exact hLn) hcc hss)
set_option maxHeartbeats 4000000 in
theorem sd_inc {p : Program} {l : Launch} {e : Env} {R : Room} {s : State} {m : MethodId} {args : Array Value} {below : List Frame} {meth : Method} {c : Code} {Q : State → Prop} {A : Nat → Prop} {D : va_G} {g : ClassId × ClassId × ClassId} {q : mx_HD} {ad0 : Nat → Nat} {σ0 : mx_S} {n0 mc ms : Nat} {h2 : mx_H} {d pc i : Nat} {n : Int} {L st : List Value} {h : mx_H} {x : Int32} (C : mx_T p R s m args meth c A D g q ad0 σ0 mc ms d) (hi : L[i]? = some (.int x)) (hd : decode q.2.1 pc = .ok (.iinc i n, 3)) (k : mx_G p l e R s m args below meth c Q A D g q ad0 σ0 n0 mc ms h2 (pc + 3) (L.set i (.int (x + Int32.ofInt n))) st h) : mx_G p l e R s m args below meth c Q A D g q ad0 σ0 n0 mc ms h2 pc L st h := by
  obtain ⟨⟨hx, hb, hml, hown, hnm, hts⟩, ⟨hK, hY, hA, hX⟩, hfr, hlo, hmc, hms⟩ := C
  intro ad H locs cells slots ls hag hn0 hlt hσ hP hD hS hl hLn hcc hss
  have hi' : i < q.2.2.1 := by have := mx_lt hi; omega
  obtain ⟨kk, hkk⟩ := List.getElem?_of_mem (mx_lv_of (ad := ad) hi rfl)
  exact lv_iinc hx hb hd hl hkk rfl hi' rfl (fun ls' hl' => k ad H locs cells slots ls' hag hn0 hlt hσ hP hD hS (mx_sto rfl hl') (by rw [List.length_set]; exact hLn) hcc hss)
set_option maxHeartbeats 4000000 in
theorem sd_gf {p : Program} {l : Launch} {e : Env} {R : Room} {s : State} {m : MethodId} {args : Array Value} {below : List Frame} {meth : Method} {c : Code} {Q : State → Prop} {A : Nat → Prop} {D : va_G} {g : ClassId × ClassId × ClassId} {q : mx_HD} {ad0 : Nat → Nat} {σ0 : mx_S} {n0 mc ms : Nat} {h2 : mx_H} {d pc ix ci kf nest pl cc : Nat} {L r : List Value} {h : mx_H} {v : Value} (C : mx_T p R s m args meth c A D g q ad0 σ0 mc ms d) (hax : mx_fk ci kf (fun _ t _ => if nest = 0 then mx_w pl (.fieldLink q.1.cls ix t.1 t.2.1 t.2.2.1) else mx_w pl (.fieldLinkNest q.1.cls ix t.1 t.2.1 t.2.2.1 "MainsLetters")) = true) (hd : decode q.2.1 pc = .ok (.getfield ix, 3)) (hv : mx_fld h ci kf cc = some v) (k : mx_G p l e R s m args below meth c Q A D g q ad0 σ0 n0 mc ms h2 (pc + 3) L (v :: r) h) : mx_G p l e R s m args below meth c Q A D g q ad0 σ0 n0 mc ms h2 pc L (.ref cc :: r) h := by
  obtain ⟨⟨hx, hb, hml, hown, hnm, hts⟩, ⟨hK, hY, hA, hX⟩, hfr, hlo, hmc, hms⟩ := C
  obtain ⟨C, T, N, hc, hk, hw⟩ := mx_fkv hax
  obtain ⟨h1, h2', h3, h4, h5⟩ := mx_cls hc
  obtain ⟨fs, hq, hf⟩ := iv_fld hv
  intro ad H locs cells slots ls hag hn0 hlt hσ hP hD hS hl hLn hcc hss
  have he := mx_ws_at (g := g) (ad := ad) hq
  have hval : (fs.mapIdx (mx_fv ad (h.2 cc)))[kf]? = some (mx_cv ad v) := by
    rw [List.getElem?_mapIdx]
    rcases hf with ⟨e1, rfl⟩ | ⟨r', e1, rfl⟩
    · rw [e1]; rfl
    · rw [e1]; rfl
  have kk := k ad H locs cells slots ls hag hn0 hlt hσ hP hD hS hl hLn hcc hss
  by_cases hn : nest = 0
  · rw [if_pos hn] at hw
    exact va_get hx hb hts h1 hown hK hP cc he hc kf hk (hts _ (mx_wW hw rfl)) (fun _ z => z) hval hd kk
  · rw [if_neg hn] at hw
    exact va_getN hx hb hts h1 hown hK hP cc he hc kf hk (va_Nw.use rfl (hY.1 _ (mx_wm hw) rfl)) (fun _ z => z) hval hd kk
set_option maxHeartbeats 4000000 in
theorem sd_pf {p : Program} {l : Launch} {e : Env} {R : Room} {s : State} {m : MethodId} {args : Array Value} {below : List Frame} {meth : Method} {c : Code} {Q : State → Prop} {A : Nat → Prop} {D : va_G} {g : ClassId × ClassId × ClassId} {q : mx_HD} {ad0 : Nat → Nat} {σ0 : mx_S} {n0 mc ms : Nat} {h2 : mx_H} {d pc ix ci kf kind isB pl cc : Nat} {L r : List Value} {h : mx_H} {x : Int32} (C : mx_T p R s m args meth c A D g q ad0 σ0 mc ms d) (hax : mx_fk ci kf (fun _ t _ =>
      (if kind = 2 then mx_w pl (.fieldLinkNest q.1.cls ix t.1 t.2.1 t.2.2.1 "MainsLetters") else mx_w pl (.fieldLink q.1.cls ix t.1 t.2.1 t.2.2.1)) &&
      (!t.2.2.2 && decide (parseFieldDescriptor t.2.2.1 = some (if isB = 0 then .int else .boolean)))) = true) (hd : decode q.2.1 pc = .ok (.putfield ix, 3)) (hI : mx_isI h.1 ci kf cc = true) (hxB : isB = 0 ∨ x = 0 ∨ x = 1) (k : mx_G p l e R s m args below meth c Q A D g q ad0 σ0 n0 mc ms h2 (pc + 3) L r (h.1, mx_up h.2 cc kf x)) : mx_G p l e R s m args below meth c Q A D g q ad0 σ0 n0 mc ms h2 pc L (.int x :: .ref cc :: r) h := by
  obtain ⟨⟨hx, hb, hml, hown, hnm, hts⟩, ⟨hK, hY, hA, hX⟩, hfr, hlo, hmc, hms⟩ := C
  obtain ⟨C, T, N, hc, hk, hw⟩ := mx_fkv hax
  obtain ⟨h1, h2', h3, h4, h5⟩ := mx_cls hc
  obtain ⟨fs, hq, hf⟩ := iv_isI hI
  simp only [Bool.and_eq_true, Bool.not_eq_true', decide_eq_true_eq] at hw
  obtain ⟨hw, hfin, hpd⟩ := hw
  intro ad H locs cells slots ls hag hn0 hlt hσ hP hD hS hl hLn hcc hss
  have he := mx_ws_at (g := g) (ad := ad) hq
  have hclt := mx_lt hq
  have hlf : kf < (fs.mapIdx (mx_fv ad (h.2 cc))).length := by rw [List.length_mapIdx]; exact mx_lt hf
  have hn : narrow (if isB = 0 then FieldType.int else FieldType.boolean) (.int x) = .int x := by
    by_cases hB : isB = 0
    · rw [if_pos hB]; rfl
    · rw [if_neg hB]; exact (mx_nar (hxB.resolve_left hB)).1
  have hfit : fits (if isB = 0 then FieldType.int else FieldType.boolean) (.int x) = true := by
    by_cases hB : isB = 0
    · rw [if_pos hB]; rfl
    · rw [if_neg hB]
      rcases hxB.resolve_left hB with rfl | rfl
      · decide
      · decide
  have hset : (mx_ws g ad h).set cc (ad cc, .inr (ci, (fs.mapIdx (mx_fv ad (h.2 cc))).set kf (.int x))) = mx_ws g ad (h.1, mx_up h.2 cc kf x) :=
    mx_set (.inl (ci, fs)) hclt (mx_set_self hq) (fun c' hc' => mx_up_ne hc') (by rw [← mx_fv_upd hf]; simp only [mx_cE, mx_up_self])
  have kk : ∀ (H1 : Heap) (locs1 : List Loc), va_P D vwCl ((mx_ws g ad h).set cc (ad cc, .inr (ci, (fs.mapIdx (mx_fv ad (h.2 cc))).set kf (.int x)))) H1 → va_D A ((mx_ws g ad h).set cc (ad cc, .inr (ci, (fs.mapIdx (mx_fv ad (h.2 cc))).set kf (.int x)))) → va_S A s.heap H1 locs1 → W p l e R s m args below meth c H1 locs1 cells slots Q (F0 m (pc + 3) ls (r.map (mx_cv ad))) := by
    intro H1 locs1 hP1 hD1 hS1
    rw [hset] at hP1 hD1
    exact k ad H1 locs1 cells slots ls hag hn0 hlt (fun z hz => by show mx_up h.2 cc kf x z = _; rw [mx_up_ne (by omega)]; exact hσ z hz) hP1 hD1 hS1 hl hLn hcc hss
  by_cases h2k : kind = 2
  · rw [if_pos h2k] at hw
    exact va_putN hx hb hts h1 (mx_tyF ci) h2' h3 hown hK hP hD hS cc he hc kf hk (va_Nw.use rfl (hY.1 _ (mx_wm hw) rfl)) (fun _ z => z) hfin hpd hn hfit hlf hd kk
  · rw [if_neg h2k] at hw
    exact va_put hx hb hts h1 (mx_tyF ci) h2' h3 hown hK hP hD hS cc he hc kf hk (hts _ (mx_wW hw rfl)) (fun _ z => z) hfin hpd hn hfit hlf hd kk
set_option maxHeartbeats 4000000 in
theorem sd_pfR {p : Program} {l : Launch} {e : Env} {R : Room} {s : State} {m : MethodId} {args : Array Value} {below : List Frame} {meth : Method} {c : Code} {Q : State → Prop} {A : Nat → Prop} {D : va_G} {g : ClassId × ClassId × ClassId} {q : mx_HD} {ad0 : Nat → Nat} {σ0 : mx_S} {n0 mc ms : Nat} {h2 : mx_H} {d pc ix ci kf pl cc v : Nat} {L r : List Value} {h : mx_H} {sh' : List mx_C} (C : mx_T p R s m args meth c A D g q ad0 σ0 mc ms d) (hax : mx_fk ci kf (fun _ t _ => mx_w pl (.fieldLink q.1.cls ix t.1 t.2.1 t.2.2.1) && (t.2.2.2 && decide (t.1 = q.1.cls) && decide (q.1.name = "<init>") && (match parseFieldDescriptor t.2.2.1 with
        | some (.object _) => true
        | some (.array _) => true
        | _ => false))) = true) (hd : decode q.2.1 pc = .ok (.putfield ix, 3)) (hI : mx_setR h.1 ci kf cc v = some sh') (k : mx_G p l e R s m args below meth c Q A D g q ad0 σ0 n0 mc ms h2 (pc + 3) L r (sh', h.2)) : mx_G p l e R s m args below meth c Q A D g q ad0 σ0 n0 mc ms h2 pc L (.ref v :: .ref cc :: r) h := by
  obtain ⟨⟨hx, hb, hml, hown, hnm, hts⟩, ⟨hK, hY, hA, hX⟩, hfr, hlo, hmc, hms⟩ := C
  obtain ⟨C, T, N, hc, hk, hw⟩ := mx_fkv hax
  obtain ⟨h1, h2', h3, h4, h5⟩ := mx_cls hc
  obtain ⟨fs, hq, hf, rfl⟩ := iv_setR hI
  simp only [Bool.and_eq_true, decide_eq_true_eq] at hw
  obtain ⟨hw, ⟨⟨hfin, hdecl⟩, hini⟩, hpt⟩ := hw
  intro ad H locs cells slots ls hag hn0 hlt hσ hP hD hS hl hLn hcc hss
  have he := mx_ws_at (g := g) (ad := ad) hq
  have hclt := mx_lt hq
  have hlf : kf < (fs.mapIdx (mx_fv ad (h.2 cc))).length := by rw [List.length_mapIdx]; exact mx_lt hf
  have hset : (mx_ws g ad h).set cc (ad cc, .inr (ci, (fs.mapIdx (mx_fv ad (h.2 cc))).set kf (.ref (ad v)))) = mx_ws g ad (h.1.set cc (.inl (ci, fs.set kf (some (some v)))), h.2) :=
    mx_set (.inl (ci, fs.set kf (some (some v)))) hclt rfl (fun c' hc' => rfl) (by rw [← mx_fv_ref]; rfl)
  have hzz : mx_sz (h.1.set cc (.inl (ci, fs.set kf (some (some v))))) = mx_sz h.1 := mx_sz_set hq (by simp [mx_cz])
  have kk : ∀ (H1 : Heap) (locs1 : List Loc), va_P D vwCl ((mx_ws g ad h).set cc (ad cc, .inr (ci, (fs.mapIdx (mx_fv ad (h.2 cc))).set kf (.ref (ad v))))) H1 → va_D A ((mx_ws g ad h).set cc (ad cc, .inr (ci, (fs.mapIdx (mx_fv ad (h.2 cc))).set kf (.ref (ad v))))) → va_S A s.heap H1 locs1 → W p l e R s m args below meth c H1 locs1 cells slots Q (F0 m (pc + 3) ls (r.map (mx_cv ad))) := by
    intro H1 locs1 hP1 hD1 hS1
    rw [hset] at hP1 hD1
    exact k ad H1 locs1 cells slots ls (fun i hi => hag i (by simpa using hi)) (by simpa using hn0) (by simpa using hlt) hσ hP1 hD1 hS1 hl hLn (by simpa using hcc) (by show slots + (mx_sz h2.1 - mx_sz (h.1.set cc _)) = ms; rw [hzz]; exact hss)
  have hin2 : meth.name = "<init>" := hnm.trans hini
  cases hpd : parseFieldDescriptor (T kf).2.2.1 with
  | none => rw [hpd] at hpt; cases hpt
  | some ty =>
    rw [hpd] at hpt
    have hn : narrow ty (.ref (ad v)) = .ref (ad v) ∧ fits ty (.ref (ad v)) = true := by
      cases ty <;> first | exact ⟨rfl, rfl⟩ | cases hpt
    exact va_putF hx hb hts h1 (mx_tyF ci) h2' h3 hown hK hP hD hS cc he hc kf hk (hts _ (mx_wW hw rfl)) (fun _ z => z) hfin hin2 hdecl hpd hn.1 hn.2 hlf hd kk
set_option maxHeartbeats 4000000 in
theorem sd_iald {p : Program} {l : Launch} {e : Env} {R : Room} {s : State} {m : MethodId} {args : Array Value} {below : List Frame} {meth : Method} {c : Code} {Q : State → Prop} {A : Nat → Prop} {D : va_G} {g : ClassId × ClassId × ClassId} {q : mx_HD} {ad0 : Nat → Nat} {σ0 : mx_S} {n0 mc ms : Nat} {h2 : mx_H} {d pc cc : Nat} {i : Int32} {L r : List Value} {h : mx_H} (C : mx_T p R s m args meth c A D g q ad0 σ0 mc ms d) (hi : mx_in i (mx_len h cc) = true) (hd : decode q.2.1 pc = .ok (.iaload, 1)) (k : mx_G p l e R s m args below meth c Q A D g q ad0 σ0 n0 mc ms h2 (pc + 1) L (.int (h.2 cc i.toNatClampNeg) :: r) h) : mx_G p l e R s m args below meth c Q A D g q ad0 σ0 n0 mc ms h2 pc L (.int i :: .ref cc :: r) h := by
  obtain ⟨⟨hx, hb, hml, hown, hnm, hts⟩, ⟨hK, hY, hA, hX⟩, hfr, hlo, hmc, hms⟩ := C
  obtain ⟨hin, hne⟩ := iv_in hi
  intro ad H locs cells slots ls hag hn0 hlt hσ hP hD hS hl hLn hcc hss
  have kk := k ad H locs cells slots ls hag hn0 hlt hσ hP hD hS hl hLn hcc hss
  by_cases hc : 1000 ≤ cc
  · by_cases hc4 : cc < 1004
    · have hlen : mx_len h cc = (h.2 2000 (cc - 1000)).toNatClampNeg := by unfold mx_len; rw [if_pos hc, if_pos hc4]
      obtain ⟨N, e1, e2, hT⟩ := hX.1 (cc - 1000) (by omega)
      have ecc : 1000 + (cc - 1000) = cc := by omega
      rw [ecc, ← hag cc (by omega), ← hσ cc hc] at hT
      have eN : mx_len h cc = N := by rw [hlen, hσ 2000 (by omega), e1]; exact nI_clamp e2
      rw [eN] at hin
      exact va_ti hx hb hT hS hin rfl hd kk
    · have hlen : mx_len h cc = 0 := by unfold mx_len; rw [if_pos hc, if_neg hc4]
      exact absurd hlen hne
  · have hlen : mx_len h cc = mx_lenW h.1 cc 0 := by unfold mx_len; rw [if_neg hc]
    rw [hlen] at hin hne
    have hq := iv_lenW rfl hne
    exact va_iald hx hb hK hP cc 0 (mx_ws_at hq) rfl hin hd kk
set_option maxHeartbeats 4000000 in
theorem sd_iast {p : Program} {l : Launch} {e : Env} {R : Room} {s : State} {m : MethodId} {args : Array Value} {below : List Frame} {meth : Method} {c : Code} {Q : State → Prop} {A : Nat → Prop} {D : va_G} {g : ClassId × ClassId × ClassId} {q : mx_HD} {ad0 : Nat → Nat} {σ0 : mx_S} {n0 mc ms : Nat} {h2 : mx_H} {d pc cc : Nat} {x i : Int32} {L r : List Value} {h : mx_H} (C : mx_T p R s m args meth c A D g q ad0 σ0 mc ms d) (hi : mx_in i (mx_lenW h.1 cc 0) = true) (hd : decode q.2.1 pc = .ok (.iastore, 1)) (k : mx_G p l e R s m args below meth c Q A D g q ad0 σ0 n0 mc ms h2 (pc + 1) L r (h.1, mx_up h.2 cc i.toNatClampNeg x)) : mx_G p l e R s m args below meth c Q A D g q ad0 σ0 n0 mc ms h2 pc L (.int x :: .int i :: .ref cc :: r) h := by
  obtain ⟨⟨hx, hb, hml, hown, hnm, hts⟩, ⟨hK, hY, hA, hX⟩, hfr, hlo, hmc, hms⟩ := C
  obtain ⟨hin, hne⟩ := iv_in hi
  have hq := iv_lenW rfl hne
  have hclt := mx_lt hq
  intro ad H locs cells slots ls hag hn0 hlt hσ hP hD hS hl hLn hcc hss
  have hset := mx_set (g := g) (ad := ad) (h := h) (h' := (h.1, mx_up h.2 cc i.toNatClampNeg x)) (E := mx_cE g ad (.inr (.inl (0, mx_lenW h.1 cc 0))) (upd (h.2 cc) i.toNatClampNeg x)) (.inr (.inl (0, mx_lenW h.1 cc 0))) hclt (mx_set_self hq) (fun c' hc' => mx_up_ne hc') (by simp only [mx_up_self])
  refine va_iast hx hb hK hP hD hS cc 0 (mx_ws_at hq) rfl hin hd (fun H1 locs1 hP1 hD1 hS1 => ?_)
  exact k ad H1 locs1 cells slots ls hag hn0 hlt (fun z hz => by show mx_up h.2 cc _ x z = _; rw [mx_up_ne (by omega)]; exact hσ z hz) (hset ▸ hP1) (hset ▸ hD1) hS1 hl hLn hcc hss
set_option maxHeartbeats 4000000 in
theorem sd_zast {p : Program} {l : Launch} {e : Env} {R : Room} {s : State} {m : MethodId} {args : Array Value} {below : List Frame} {meth : Method} {c : Code} {Q : State → Prop} {A : Nat → Prop} {D : va_G} {g : ClassId × ClassId × ClassId} {q : mx_HD} {ad0 : Nat → Nat} {σ0 : mx_S} {n0 mc ms : Nat} {h2 : mx_H} {d pc cc : Nat} {x i : Int32} {L r : List Value} {h : mx_H} (C : mx_T p R s m args meth c A D g q ad0 σ0 mc ms d) (hi : mx_in i (mx_lenW h.1 cc 1) = true) (hxB : x = 0 ∨ x = 1) (hd : decode q.2.1 pc = .ok (.bastore, 1)) (k : mx_G p l e R s m args below meth c Q A D g q ad0 σ0 n0 mc ms h2 (pc + 1) L r (h.1, mx_up h.2 cc i.toNatClampNeg x)) : mx_G p l e R s m args below meth c Q A D g q ad0 σ0 n0 mc ms h2 pc L (.int x :: .int i :: .ref cc :: r) h := by
  obtain ⟨⟨hx, hb, hml, hown, hnm, hts⟩, ⟨hK, hY, hA, hX⟩, hfr, hlo, hmc, hms⟩ := C
  obtain ⟨hin, hne⟩ := iv_in hi
  have hq := iv_lenW rfl hne
  have hclt := mx_lt hq
  intro ad H locs cells slots ls hag hn0 hlt hσ hP hD hS hl hLn hcc hss
  have hset := mx_set (g := g) (ad := ad) (h := h) (h' := (h.1, mx_up h.2 cc i.toNatClampNeg x)) (E := mx_cE g ad (.inr (.inl (1, mx_lenW h.1 cc 1))) (upd (h.2 cc) i.toNatClampNeg x)) (.inr (.inl (1, mx_lenW h.1 cc 1))) hclt (mx_set_self hq) (fun c' hc' => mx_up_ne hc') (by simp only [mx_up_self])
  refine va_zast hx hb hK hP hD hS cc 1 (mx_ws_at hq) rfl hin hd (fun H1 locs1 hP1 hD1 hS1 => ?_)
  rw [(mx_nar hxB).2] at hP1 hD1
  exact k ad H1 locs1 cells slots ls hag hn0 hlt (fun z hz => by show mx_up h.2 cc _ x z = _; rw [mx_up_ne (by omega)]; exact hσ z hz) (hset ▸ hP1) (hset ▸ hD1) hS1 hl hLn hcc hss
set_option maxHeartbeats 4000000 in
theorem sd_zald {p : Program} {l : Launch} {e : Env} {R : Room} {s : State} {m : MethodId} {args : Array Value} {below : List Frame} {meth : Method} {c : Code} {Q : State → Prop} {A : Nat → Prop} {D : va_G} {g : ClassId × ClassId × ClassId} {q : mx_HD} {ad0 : Nat → Nat} {σ0 : mx_S} {n0 mc ms : Nat} {h2 : mx_H} {d pc cc : Nat} {i : Int32} {L r : List Value} {h : mx_H} (C : mx_T p R s m args meth c A D g q ad0 σ0 mc ms d) (hi : mx_in i (mx_lenW h.1 cc 1) = true) (hd : decode q.2.1 pc = .ok (.baload, 1)) (k : mx_G p l e R s m args below meth c Q A D g q ad0 σ0 n0 mc ms h2 (pc + 1) L (.int (h.2 cc i.toNatClampNeg) :: r) h) : mx_G p l e R s m args below meth c Q A D g q ad0 σ0 n0 mc ms h2 pc L (.int i :: .ref cc :: r) h := by
  obtain ⟨⟨hx, hb, hml, hown, hnm, hts⟩, ⟨hK, hY, hA, hX⟩, hfr, hlo, hmc, hms⟩ := C
  obtain ⟨hin, hne⟩ := iv_in hi
  have hq := iv_lenW rfl hne
  intro ad H locs cells slots ls hag hn0 hlt hσ hP hD hS hl hLn hcc hss
  have kk := k ad H locs cells slots ls hag hn0 hlt hσ hP hD hS hl hLn hcc hss
  exact va_zald hx hb hK hP cc 1 (mx_ws_at hq) rfl hin hd kk
set_option maxHeartbeats 4000000 in
theorem sd_aald {p : Program} {l : Launch} {e : Env} {R : Room} {s : State} {m : MethodId} {args : Array Value} {below : List Frame} {meth : Method} {c : Code} {Q : State → Prop} {A : Nat → Prop} {D : va_G} {g : ClassId × ClassId × ClassId} {q : mx_HD} {ad0 : Nat → Nat} {σ0 : mx_S} {n0 mc ms : Nat} {h2 : mx_H} {d pc cc v : Nat} {i : Int32} {L r : List Value} {h : mx_H} {lq : List (Option Nat)} (C : mx_T p R s m args meth c A D g q ad0 σ0 mc ms d) (hq : h.1[cc]? = some (.inr (.inr lq))) (hi : mx_in i lq.length = true) (hv : lq[i.toNatClampNeg]? = some (some v)) (hd : decode q.2.1 pc = .ok (.aaload, 1)) (k : mx_G p l e R s m args below meth c Q A D g q ad0 σ0 n0 mc ms h2 (pc + 1) L (.ref v :: r) h) : mx_G p l e R s m args below meth c Q A D g q ad0 σ0 n0 mc ms h2 pc L (.int i :: .ref cc :: r) h := by
  obtain ⟨⟨hx, hb, hml, hown, hnm, hts⟩, ⟨hK, hY, hA, hX⟩, hfr, hlo, hmc, hms⟩ := C
  obtain ⟨hin, hne⟩ := iv_in hi
  intro ad H locs cells slots ls hag hn0 hlt hσ hP hD hS hl hLn hcc hss
  have kk := k ad H locs cells slots ls hag hn0 hlt hσ hP hD hS hl hLn hcc hss
  refine va_aldq hx hb hK hP cc 2 (mx_ws_at hq) rfl hin hd ?_
  have e : va_rf ((lq[i.toNatClampNeg]?.getD none).map ad) = .ref (ad v) := by rw [hv]; rfl
  rw [e]
  exact kk
set_option maxHeartbeats 4000000 in
theorem sd_aast {p : Program} {l : Launch} {e : Env} {R : Room} {s : State} {m : MethodId} {args : Array Value} {below : List Frame} {meth : Method} {c : Code} {Q : State → Prop} {A : Nat → Prop} {D : va_G} {g : ClassId × ClassId × ClassId} {q : mx_HD} {ad0 : Nat → Nat} {σ0 : mx_S} {n0 mc ms : Nat} {h2 : mx_H} {d pc cc v : Nat} {i : Int32} {L r : List Value} {h : mx_H} {lq : List (Option Nat)} {fs : List (Option (Option Nat))} (C : mx_T p R s m args meth c A D g q ad0 σ0 mc ms d) (hqv : h.1[v]? = some (.inl (3, fs))) (hq : h.1[cc]? = some (.inr (.inr lq))) (hi : mx_in i lq.length = true) (hd : decode q.2.1 pc = .ok (.aastore, 1)) (k : mx_G p l e R s m args below meth c Q A D g q ad0 σ0 n0 mc ms h2 (pc + 1) L r (h.1.set cc (.inr (.inr (lq.set i.toNatClampNeg (some v)))), h.2)) : mx_G p l e R s m args below meth c Q A D g q ad0 σ0 n0 mc ms h2 pc L (.ref v :: .int i :: .ref cc :: r) h := by
  obtain ⟨⟨hx, hb, hml, hown, hnm, hts⟩, ⟨hK, hY, hA, hX⟩, hfr, hlo, hmc, hms⟩ := C
  obtain ⟨hin, hne⟩ := iv_in hi
  have hclt := mx_lt hq
  have hil : i.toNatClampNeg < lq.length := Nat.not_le.mp fun z => hin (Or.inr z)
  have hzz : mx_sz (h.1.set cc (.inr (.inr (lq.set i.toNatClampNeg (some v))))) = mx_sz h.1 := mx_sz_set hq (by simp [mx_cz])
  intro ad H locs cells slots ls hag hn0 hlt hσ hP hD hS hl hLn hcc hss
  have hset := mx_set (g := g) (ad := ad) (h := h) (h' := (h.1.set cc (.inr (.inr (lq.set i.toNatClampNeg (some v)))), h.2)) (E := .inl (g.2.2, lq.length, .inr (.inr (.inr (.inr (va_up (fun k => (lq[k]?.getD none).map ad) i.toNatClampNeg (some (ad v)))))))) (.inr (.inr (lq.set i.toNatClampNeg (some v)))) hclt rfl (fun c' hc' => rfl) (by
    have e : (fun k : Nat => ((lq.set i.toNatClampNeg (some v))[k]?.getD none).map ad) = va_up (fun k => (lq[k]?.getD none).map ad) i.toNatClampNeg (some (ad v)) := by
      funext z
      by_cases hz : z = i.toNatClampNeg
      · subst hz
        rw [va_up_self, List.getElem?_set_self hil]
        rfl
      · rw [va_up_ne _ _ hz, List.getElem?_set_ne (Ne.symm hz)]
    simp only [mx_cE, e, List.length_set])
  refine va_astq hx hb hK hP hD hS cc 2 v 3 (r := (RX5, TX5, 12)) (mx_ws_at hq) rfl (mx_ws_at hqv) rfl hin hd (fun H1 locs1 hP1 hD1 hS1 => ?_)
  exact k ad H1 locs1 cells slots ls (fun i hi => hag i (by simpa using hi)) (by simpa using hn0) (by simpa using hlt) hσ (hset ▸ hP1) (hset ▸ hD1) hS1 hl hLn (by simpa using hcc) (by show slots + (mx_sz h2.1 - mx_sz (h.1.set cc _)) = ms; rw [hzz]; exact hss)
set_option maxHeartbeats 4000000 in
theorem sd_alen {p : Program} {l : Launch} {e : Env} {R : Room} {s : State} {m : MethodId} {args : Array Value} {below : List Frame} {meth : Method} {c : Code} {Q : State → Prop} {A : Nat → Prop} {D : va_G} {g : ClassId × ClassId × ClassId} {q : mx_HD} {ad0 : Nat → Nat} {σ0 : mx_S} {n0 mc ms : Nat} {h2 : mx_H} {d pc cc : Nat} {x : Int32} {L r : List Value} {h : mx_H} (C : mx_T p R s m args meth c A D g q ad0 σ0 mc ms d) (hv : (1000 ≤ cc ∧ cc < 1004 ∧ x = h.2 2000 (cc - 1000)) ∨ (∃ n, h.1[cc]? = some (.inr (.inl (0, n))) ∧ x = Int32.ofNat n)) (hd : decode q.2.1 pc = .ok (.arraylength, 1)) (k : mx_G p l e R s m args below meth c Q A D g q ad0 σ0 n0 mc ms h2 (pc + 1) L (.int x :: r) h) : mx_G p l e R s m args below meth c Q A D g q ad0 σ0 n0 mc ms h2 pc L (.ref cc :: r) h := by
  obtain ⟨⟨hx, hb, hml, hown, hnm, hts⟩, ⟨hK, hY, hA, hX⟩, hfr, hlo, hmc, hms⟩ := C
  intro ad H locs cells slots ls hag hn0 hlt hσ hP hD hS hl hLn hcc hss
  have kk := k ad H locs cells slots ls hag hn0 hlt hσ hP hD hS hl hLn hcc hss
  rcases hv with ⟨hc, hc4, rfl⟩ | ⟨n, hq, rfl⟩
  · obtain ⟨N, e1, e2, hT⟩ := hX.1 (cc - 1000) (by omega)
    have ecc : 1000 + (cc - 1000) = cc := by omega
    rw [ecc, ← hag cc (by omega)] at hT
    exact va_tlen hx hb hT hS (by rw [hσ 2000 (by omega), e1]) hd kk
  · exact va_alen hx hb hK hP cc 0 (mx_ws_at hq) rfl rfl hd kk
set_option maxHeartbeats 4000000 in
theorem sd_new {p : Program} {l : Launch} {e : Env} {R : Room} {s : State} {m : MethodId} {args : Array Value} {below : List Frame} {meth : Method} {c : Code} {Q : State → Prop} {A : Nat → Prop} {D : va_G} {g : ClassId × ClassId × ClassId} {q : mx_HD} {ad0 : Nat → Nat} {σ0 : mx_S} {n0 mc ms : Nat} {h2 : mx_H} {d pc ix ci p1 p2 p3 : Nat} {L r : List Value} {h : mx_H} (C : mx_T p R s m args meth c A D g q ad0 σ0 mc ms d) (hax : mx_fk ci 0 (fun C _ N => mx_w p1 (.classLink q.1.cls ix C) && mx_w p2 (.instantiable C N) && mx_w p3 (.initialized C)) = true) (hd : decode q.2.1 pc = .ok (.new ix, 3)) (hok : mx_ok1 h.1 L r = true) (hm1 : (h.1 ++ [(Sum.inl (ci, mx_df ci) : mx_C)]).length ≤ h2.1.length) (hm2 : mx_sz (h.1 ++ [(Sum.inl (ci, mx_df ci) : mx_C)]) ≤ mx_sz h2.1) (k : mx_G p l e R s m args below meth c Q A D g q ad0 σ0 n0 mc ms h2 (pc + 3) L (.ref h.1.length :: r) (h.1 ++ [.inl (ci, mx_df ci)], mx_zr h.2 h.1.length)) : mx_G p l e R s m args below meth c Q A D g q ad0 σ0 n0 mc ms h2 pc L r h := by
  obtain ⟨⟨hx, hb, hml, hown, hnm, hts⟩, ⟨hK, hY, hA, hX⟩, hfr, hlo, hmc, hms⟩ := C
  obtain ⟨C, T, N, hc, hk, hw⟩ := mx_fkv hax
  obtain ⟨c1, c2, c3, c4, c5⟩ := mx_cls hc
  simp only [Bool.and_eq_true] at hw
  obtain ⟨⟨w1, w2⟩, w3⟩ := hw
  obtain ⟨f1, f2, f3, f4⟩ := mx_ok1_lt hok
  intro ad H locs cells slots ls hag hn0 hlt hσ hP hD hS hl hLn hcc hss
  have c5 : (mx_df ci).length = N := c5
  have hm1' : h.1.length + 1 ≤ h2.1.length := by simpa using hm1
  have hm2' : mx_sz h.1 + N ≤ mx_sz h2.1 := by rw [mx_sz_app] at hm2; simp only [mx_cz, c5] at hm2; exact hm2
  refine va_new (ci := ci) (fs := (mx_df ci).mapIdx (mx_fv ad (fun _ => 0))) hx hb hts c1 (mx_tyF ci) c2 hown (hts _ (mx_wW w1 rfl)) (hts _ (mx_wW w2 rfl)) (hts _ (mx_wW w3 rfl)) hK hP hD hS hA hc (c4 ad) (by omega) (by omega) hd (fun a H1 hP1 hD1 hS1 => ?_)
  have hdf : (mx_df ci).mapIdx (mx_fv ad (fun _ => 0)) = (mx_df ci).mapIdx (mx_fv (mx_ad ad h.1.length a) (fun _ => 0)) := by
    match ci, hc with
    | 0, _ => rw [mx_de0, mx_de0]
    | 1, _ => rw [mx_de1, mx_de1]
    | 2, _ => rw [mx_de2, mx_de2]
    | 3, _ => rw [mx_de3, mx_de3]
    | 4, _ => rw [mx_de4, mx_de4]
    | 5, _ => rw [mx_de5, mx_de5]
    | 6, _ => rw [mx_de6, mx_de6]
    | 7, _ => rw [mx_de7, mx_de7]
    | n + 8, hc => simp [vwCl] at hc
  rw [hdf] at hP1 hD1
  have had : ∀ i, ¬ (h.1.length ≤ i ∧ i < h.1.length + 1) → mx_ad ad h.1.length a i = ad i := fun i hi => by
    unfold mx_ad
    rw [if_neg (fun z => hi (by omega))]
  have hlv := mx_lv_ad (L := L) f2 had
  have hst := mx_st_ad (st := r) f3 had
  have hnew := mx_ws_new (g := g) (ad := ad) (h := h) (a := a) (.inl (ci, mx_df ci)) f4 rfl
  have kk := k (mx_ad ad h.1.length a) H1 locs (cells + 1) (slots + N) ls (fun i hi => by have hi2 : ¬ (n0 ≤ i ∧ i < h.1.length + 1) := (by simpa using hi); rw [had i (by omega)]; exact hag i (by omega)) (by simp; omega) (by simp; omega) (fun z hz => by show mx_zr h.2 h.1.length z = _; unfold mx_zr; rw [if_neg (by omega)]; exact hσ z hz) (hnew ▸ hP1) (hnew ▸ hD1) hS1 (by rw [hlv]; exact hl) hLn (by simp only [List.length_append, List.length_singleton] at hm1 ⊢; omega) (by rw [mx_sz_app] at hm2 ⊢; simp only [mx_cz, c5] at hm2 ⊢; omega)
  have e1 : (Value.ref h.1.length :: r).map (mx_cv (mx_ad ad h.1.length a)) = .ref a :: r.map (mx_cv ad) := by
    rw [List.map_cons, hst]
    simp [mx_cv, mx_ad]
  rw [e1] at kk
  exact kk
set_option maxHeartbeats 4000000 in
theorem sd_newa {p : Program} {l : Launch} {e : Env} {R : Room} {s : State} {m : MethodId} {args : Array Value} {below : List Frame} {meth : Method} {c : Code} {Q : State → Prop} {A : Nat → Prop} {D : va_G} {g : ClassId × ClassId × ClassId} {q : mx_HD} {ad0 : Nat → Nat} {σ0 : mx_S} {n0 mc ms : Nat} {h2 : mx_H} {d pc t pl : Nat} {n : Int32} {ty : ArrayType} {L r : List Value} {h : mx_H} (C : mx_T p R s m args meth c A D g q ad0 σ0 mc ms d) (hax : ((decide (ty = .int) && decide (t = 0) && mx_w pl (.arrayClass .int)) || (decide (ty = .boolean) && decide (t = 1) && mx_w pl (.arrayClass .boolean))) = true) (hd : decode q.2.1 pc = .ok (.newarray ty, 2)) (hok : mx_ok1 h.1 L r = true) (hn0' : ¬ n < 0) (hn1 : n.toNatClampNeg < 1000) (hm1 : (h.1 ++ [(Sum.inr (Sum.inl (t, n.toNatClampNeg)) : mx_C)]).length ≤ h2.1.length) (hm2 : mx_sz (h.1 ++ [(Sum.inr (Sum.inl (t, n.toNatClampNeg)) : mx_C)]) ≤ mx_sz h2.1) (k : mx_G p l e R s m args below meth c Q A D g q ad0 σ0 n0 mc ms h2 (pc + 2) L (.ref h.1.length :: r) (h.1 ++ [.inr (.inl (t, n.toNatClampNeg))], mx_zr h.2 h.1.length)) : mx_G p l e R s m args below meth c Q A D g q ad0 σ0 n0 mc ms h2 pc L (.int n :: r) h := by
  obtain ⟨⟨hx, hb, hml, hown, hnm, hts⟩, ⟨hK, hY, hA, hX⟩, hfr, hlo, hmc, hms⟩ := C
  obtain ⟨f1, f2, f3, f4⟩ := mx_ok1_lt hok
  intro ad H locs cells slots ls hag hn0 hlt hσ hP hD hS hl hLn hcc hss
  have hm1' : h.1.length + 1 ≤ h2.1.length := by simpa using hm1
  have hm2' : mx_sz h.1 + n.toNatClampNeg ≤ mx_sz h2.1 := by rw [mx_sz_app] at hm2; simp only [mx_cz] at hm2; exact hm2
  have key : ∀ (a : Nat) (H1 : Heap), va_P D vwCl (mx_ws g ad h ++ [(a, .inl (if t = 0 then g.1 else g.2.1, n.toNatClampNeg, .inl (fun _ => 0)))]) H1 → va_D A (mx_ws g ad h ++ [(a, .inl (if t = 0 then g.1 else g.2.1, n.toNatClampNeg, .inl (fun _ => 0)))]) → va_S A s.heap H1 locs → W p l e R s m args below meth c H1 locs (cells + 1) (slots + n.toNatClampNeg) Q (F0 m (pc + 2) ls (.ref a :: r.map (mx_cv ad))) := by
    intro a H1 hP1 hD1 hS1
    have had : ∀ i, ¬ (h.1.length ≤ i ∧ i < h.1.length + 1) → mx_ad ad h.1.length a i = ad i := fun i hi => by
      unfold mx_ad
      rw [if_neg (fun z => hi (by omega))]
    have hlv := mx_lv_ad (L := L) f2 had
    have hst := mx_st_ad (st := r) f3 had
    have hnew := mx_ws_new (g := g) (ad := ad) (h := h) (a := a) (.inr (.inl (t, n.toNatClampNeg))) f4 rfl
    have kk := k (mx_ad ad h.1.length a) H1 locs (cells + 1) (slots + n.toNatClampNeg) ls (fun i hi => by have hi2 : ¬ (n0 ≤ i ∧ i < h.1.length + 1) := (by simpa using hi); rw [had i (by omega)]; exact hag i (by omega)) (by simp; omega) (by simp; omega) (fun z hz => by show mx_zr h.2 h.1.length z = _; unfold mx_zr; rw [if_neg (by omega)]; exact hσ z hz) (hnew ▸ hP1) (hnew ▸ hD1) hS1 (by rw [hlv]; exact hl) hLn (by simp only [List.length_append, List.length_singleton] at hm1 ⊢; omega) (by rw [mx_sz_app] at hm2 ⊢; simp only [mx_cz] at hm2 ⊢; omega)
    have e1 : (Value.ref h.1.length :: r).map (mx_cv (mx_ad ad h.1.length a)) = .ref a :: r.map (mx_cv ad) := by
      rw [List.map_cons, hst]
      simp [mx_cv, mx_ad]
    rw [e1] at kk
    exact kk
  simp only [Bool.or_eq_true, Bool.and_eq_true, decide_eq_true_eq] at hax
  rcases hax with ⟨⟨rfl, rfl⟩, hw⟩ | ⟨⟨rfl, rfl⟩, hw⟩
  · refine va_newa (atype := .int) (ty := .int) (a0 := (n.toNatClampNeg, .inl (fun _ => 0))) hx hb (hts _ (mx_wW hw rfl)) rfl hK hP hD hS hA (fun _ => rfl) hn0' rfl (by simp only [componentBytes]; omega) (by omega) (by omega) hd (fun a cA H1 hK1 hP1 hD1 hS1 => ?_)
    have e1 : s.vm.findClass ("[" ++ FieldType.int.toString) = some cA := (hK1.2 3 (cA, .int) rfl).2
    have e2 : s.vm.findClass ("[" ++ FieldType.int.toString) = some g.1 := (hK.2 0 (g.1, .int) rfl).2
    have e3 : cA = g.1 := Option.some.inj (e1.symm.trans e2)
    subst e3
    exact key a H1 hP1 hD1 hS1
  · refine va_newa (atype := .boolean) (ty := .boolean) (a0 := (n.toNatClampNeg, .inl (fun _ => 0))) hx hb (hts _ (mx_wW hw rfl)) rfl hK hP hD hS hA (fun _ => rfl) hn0' rfl (by simp only [componentBytes]; omega) (by omega) (by omega) hd (fun a cA H1 hK1 hP1 hD1 hS1 => ?_)
    have e1 : s.vm.findClass ("[" ++ FieldType.boolean.toString) = some cA := (hK1.2 3 (cA, .boolean) rfl).2
    have e2 : s.vm.findClass ("[" ++ FieldType.boolean.toString) = some g.2.1 := (hK.2 1 (g.2.1, .boolean) rfl).2
    have e3 : cA = g.2.1 := Option.some.inj (e1.symm.trans e2)
    subst e3
    exact key a H1 hP1 hD1 hS1
set_option maxHeartbeats 4000000 in
theorem sd_newq {p : Program} {l : Launch} {e : Env} {R : Room} {s : State} {m : MethodId} {args : Array Value} {below : List Frame} {meth : Method} {c : Code} {Q : State → Prop} {A : Nat → Prop} {D : va_G} {g : ClassId × ClassId × ClassId} {q : mx_HD} {ad0 : Nat → Nat} {σ0 : mx_S} {n0 mc ms : Nat} {h2 : mx_H} {d pc ix p1 : Nat} {n : Int32} {L r : List Value} {h : mx_H} (C : mx_T p R s m args meth c A D g q ad0 σ0 mc ms d) (hax : mx_w p1 (.classLink q.1.cls ix "MainsLetters$Station") = true) (hd : decode q.2.1 pc = .ok (.anewarray ix, 3)) (hok : mx_ok1 h.1 L r = true) (hn0' : ¬ n < 0) (hn1 : n.toNatClampNeg < 1000) (hm1 : (h.1 ++ [(Sum.inr (Sum.inr (List.replicate n.toNatClampNeg none)) : mx_C)]).length ≤ h2.1.length) (hm2 : mx_sz (h.1 ++ [(Sum.inr (Sum.inr (List.replicate n.toNatClampNeg none)) : mx_C)]) ≤ mx_sz h2.1) (k : mx_G p l e R s m args below meth c Q A D g q ad0 σ0 n0 mc ms h2 (pc + 3) L (.ref h.1.length :: r) (h.1 ++ [.inr (.inr (List.replicate n.toNatClampNeg none))], mx_zr h.2 h.1.length)) : mx_G p l e R s m args below meth c Q A D g q ad0 σ0 n0 mc ms h2 pc L (.int n :: r) h := by
  obtain ⟨⟨hx, hb, hml, hown, hnm, hts⟩, ⟨hK, hY, hA, hX⟩, hfr, hlo, hmc, hms⟩ := C
  obtain ⟨f1, f2, f3, f4⟩ := mx_ok1_lt hok
  intro ad H locs cells slots ls hag hn0 hlt hσ hP hD hS hl hLn hcc hss
  have hm1' : h.1.length + 1 ≤ h2.1.length := by simpa using hm1
  have hm2' : mx_sz h.1 + n.toNatClampNeg ≤ mx_sz h2.1 := by rw [mx_sz_app] at hm2; simp only [mx_cz, List.length_replicate] at hm2; exact hm2
  refine va_newq hx hb hown (hts _ (mx_wW hax rfl)) hY.2 hK hP hD hS hA hn0' rfl (by omega) (by omega) (by omega) hd (fun a cA H1 hK1 hP1 hD1 hS1 => ?_)
  have e1 : s.vm.findClass ("[" ++ (FieldType.object "MainsLetters$Station").toString) = some cA := (hK1.2 3 (cA, .object "MainsLetters$Station") rfl).2.choose_spec.choose_spec.2.2.2
  have e2 : s.vm.findClass ("[" ++ (FieldType.object "MainsLetters$Station").toString) = some g.2.2 := (hK.2 2 (g.2.2, .object "MainsLetters$Station") rfl).2.choose_spec.choose_spec.2.2.2
  have e3 : cA = g.2.2 := Option.some.inj (e1.symm.trans e2)
  subst e3
  have ef : mx_cE g (mx_ad ad h.1.length a) (.inr (.inr (List.replicate n.toNatClampNeg none))) (fun _ => 0) = .inl (g.2.2, n.toNatClampNeg, .inr (.inr (.inr (.inr (fun _ => none))))) := by
    have e9 : (fun k : Nat => ((List.replicate n.toNatClampNeg (none : Option Nat))[k]?.getD none).map (mx_ad ad h.1.length a)) = (fun _ => none) := by
      funext z
      rw [List.getElem?_replicate]
      by_cases hz : z < n.toNatClampNeg <;> simp [hz]
    simp only [mx_cE, e9, List.length_replicate]
  rw [← ef] at hP1 hD1
  have had : ∀ i, ¬ (h.1.length ≤ i ∧ i < h.1.length + 1) → mx_ad ad h.1.length a i = ad i := fun i hi => by
    unfold mx_ad
    rw [if_neg (fun z => hi (by omega))]
  have hlv := mx_lv_ad (L := L) f2 had
  have hst := mx_st_ad (st := r) f3 had
  have hnew := mx_ws_new (g := g) (ad := ad) (h := h) (a := a) (.inr (.inr (List.replicate n.toNatClampNeg none))) f4 rfl
  have kk := k (mx_ad ad h.1.length a) H1 locs (cells + 1) (slots + n.toNatClampNeg) ls (fun i hi => by have hi2 : ¬ (n0 ≤ i ∧ i < h.1.length + 1) := (by simpa using hi); rw [had i (by omega)]; exact hag i (by omega)) (by simp; omega) (by simp; omega) (fun z hz => by show mx_zr h.2 h.1.length z = _; unfold mx_zr; rw [if_neg (by omega)]; exact hσ z hz) (hnew ▸ hP1) (hnew ▸ hD1) hS1 (by rw [hlv]; exact hl) hLn (by simp only [List.length_append, List.length_singleton] at hm1 ⊢; omega) (by rw [mx_sz_app] at hm2 ⊢; simp only [mx_cz, List.length_replicate] at hm2 ⊢; omega)
  have e1 : (Value.ref h.1.length :: r).map (mx_cv (mx_ad ad h.1.length a)) = .ref a :: r.map (mx_cv ad) := by
    rw [List.map_cons, hst]
    simp [mx_cv, mx_ad]
  rw [e1] at kk
  exact kk
