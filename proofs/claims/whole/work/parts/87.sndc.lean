/-- behind a call -/
theorem sd_back {p : Program} {l : Launch} {e : Env} {R : Room} {s : State} {m : MethodId} {args : Array Value} {below : List Frame} {meth : Method} {c : Code} {Q : State → Prop} {A : Nat → Prop} {D : va_G} {g : ClassId × ClassId × ClassId} {q : mx_HD} {ad0 : Nat → Nat} {σ0 : mx_S} {n0 mc ms : Nat} {h2 : mx_H} {L rest : List Value} {h h' : mx_H} {v : Option Value} {pc : Nat} {a : Array Value} {ad : Nat → Nat} {H : Heap} {locs : List Loc} {cells slots : Nat} {ls : Array Slot} {st1 : List Value} (hv : v = none ∨ ∃ x, v = some (.int x)) (hg : h.1.length ≤ h'.1.length ∧ mx_sz h.1 ≤ mx_sz h'.1 ∧ (h.1.length < 1000 → h'.1.length < 1000)) (hg2 : h'.1.length ≤ h2.1.length ∧ mx_sz h'.1 ≤ mx_sz h2.1) (hf : mx_fr h.1.length h'.1.length L rest = true) (hFc : ∀ x, va_A (mx_ws g ad h) H.size x → A x)
    (hag : ∀ i, ¬ (n0 ≤ i ∧ i < h.1.length) → ad i = ad0 i) (hn0 : n0 ≤ h.1.length) (hlt : h.1.length < 1000) (hσ : ∀ x, 1000 ≤ x → h.2 x = σ0 x) (hS : va_S A s.heap H locs) (hl : lv_has ls q.2.2.1 (mx_lv ad L)) (hLn : L.length = q.2.2.1) (hcc : cells + (h2.1.length - h.1.length) = mc) (hss : slots + (mx_sz h2.1 - mx_sz h.1) = ms)
    (k : mx_G p l e R s m args below meth c Q A D g q ad0 σ0 n0 mc ms h2 (pc + 3) L (v.toList ++ rest) h') (hrun : va_Run p l e R s m args below meth c H locs cells slots (h'.1.length - h.1.length) (mx_sz h'.1 - mx_sz h.1) (F0 m pc ls st1) (rest.map (mx_cv ad)) (mx_Q D g ad h H.size h' v a) (va_A (mx_ws g ad h) H.size)) : W p l e R s m args below meth c H locs cells slots Q (F0 m pc ls st1) := by
  have key : ∀ (ad' : Nat → Nat) (t : State) (H1 : Heap) (locs1 : List Loc), t.heap = H1 → mx_po ad h h' ad' → mx_E D g ad h H.size h' ad' t → va_S A s.heap H1 locs1 → W p l e R s m args below meth c H1 locs1 (cells + (h'.1.length - h.1.length)) (slots + (mx_sz h'.1 - mx_sz h.1)) Q (F0 m (pc + 3) ls ((v.toList ++ rest).map (mx_cv ad'))) ∧ rest.map (mx_cv ad') = rest.map (mx_cv ad) := by
    intro ad' t H1 locs1 ht hpo hE hS1
    have hfr : mx_lv ad' L = mx_lv ad L ∧ rest.map (mx_cv ad') = rest.map (mx_cv ad) := by
      unfold mx_fr at hf
      simp only [Bool.or_eq_true, decide_eq_true_eq, Bool.and_eq_true] at hf
      rcases hf with hf | hf
      · have e : ad' = ad := funext fun i => hpo.1 i (by omega)
        rw [e]
        exact ⟨rfl, rfl⟩
      · exact ⟨mx_lv_ad hf.1 hpo.1, mx_st_ad hf.2 hpo.1⟩
    refine ⟨?_, hfr.2⟩
    exact k ad' H1 locs1 _ _ ls (fun i hi => by
      by_cases hr : h.1.length ≤ i ∧ i < h'.1.length
      · exact absurd ⟨Nat.le_trans hn0 hr.1, hr.2⟩ hi
      · rw [hpo.1 i hr]
        exact hag i (fun z => hi ⟨z.1, Nat.lt_of_lt_of_le z.2 hg.1⟩)) (Nat.le_trans hn0 hg.1) (hg.2.2 hlt) (fun x hx => (hpo.2 x hx).trans (hσ x hx)) (by rw [← ht]; exact hE.1) (hE.2.weaken (fun _ _ _ z => hFc _ z)) hS1 (by rw [hfr.1]; exact hl) hLn (by omega) (by omega)
  rcases hv with rfl | ⟨x, rfl⟩
  · refine va_callv (a := a) hrun hS (fun q _ z => hFc q z) hFc (fun ad' t H1 locs1 ht hvm hpost hB hz1 hk1 hS1 => ?_)
    obtain ⟨w, e⟩ := key ad' t H1 locs1 ht hpost hB hS1
    rw [show (none : Option Value).toList ++ rest = rest from rfl, e] at w
    exact w
  · refine va_calli (a := a) hrun hS (fun q _ z => hFc q z) hFc (fun r ad' t H1 locs1 ht hvm hpost hB hz1 hk1 hS1 => ?_)
    obtain ⟨w, e⟩ := key ad' t H1 locs1 ht hpost.2 hB hS1
    rw [show (some (Value.int x)).toList ++ rest = .int x :: rest from rfl, List.map_cons, e] at w
    rw [hpost.1]
    exact w
theorem mx_mkv {k n : Nat} {f : MethodName → Bool} (h : mx_mk k n f = true) : ∃ q : mx_HD, mx_hd[k]? = some q ∧ mx_w q.2.2.2.2 (.code q.1 q.2.1 q.2.2.1 q.2.2.2.1) = true ∧ (q.1.cls ≠ "java/lang/invoke/MethodHandle" ∧ q.1.cls ≠ "java/lang/invoke/VarHandle" ∧ (parseMethodDescriptor q.1.desc).map (fun d => d.parameters.length) = some n) ∧ q.2.2.1 ≤ 40 ∧ (n + 1 ≤ q.2.2.1 ∨ (n ≤ q.2.2.1 ∧ q.1.name ≠ "<init>")) ∧ plainName q.1.cls = true ∧ f q.1 = true := by
  unfold mx_mk at h
  split at h
  · next y cc maxL rt pl e =>
    simp only [Bool.and_eq_true, decide_eq_true_eq] at h
    obtain ⟨⟨⟨⟨⟨⟨⟨h1, h2⟩, h3⟩, h4⟩, h5⟩, h6⟩, h7⟩, h8⟩ := h
    exact ⟨(y, cc, maxL, rt, pl), e, h1, ⟨h2, h3, h4⟩, h5, h6, h7, h8⟩
  · cases h
theorem mx_gi {q : mx_HD} (h : mx_w q.2.2.2.2 (.code q.1 q.2.1 q.2.2.1 q.2.2.2.1) = true) : GoodIn mx_WS (mx_wl q) := by
  intro w hw
  rcases List.mem_cons.mp hw with rfl | hw
  · exact ⟨mx_wW h rfl, good_of_word rfl⟩
  · exact ⟨hw, good_of_word (List.mem_filter.mp hw).2⟩
theorem mx_gg {w : Cond} (h : w ∈ mx_WS) : w ∈ mx_WS ∧ ((w.onTables && w.keeps) = true ∨ ∃ ty, w = .arrayClass ty) := ⟨h, good_of_word (List.mem_filter.mp h).2⟩
theorem mx_Y.warm {s U : State} (hW : s.WarmedH U.vm) (h : mx_Y s) : mx_Y U := by
  refine ⟨fun w hw hn => ?_, va_AO.moved hW.alike h.2⟩
  have h1 := h.1 w hw hn
  cases w with
  | fieldLinkNest => exact va_Nw.warmF hW h1
  | methodLinkNest => exact va_Nw.warmM hW h1
  | _ => cases hn
theorem mx_X.go {ad : Nat → Nat} {σ : mx_S} {A B : Nat → Prop} {s U : State} {H : Heap} (h : mx_X ad σ A s s.heap) (hk : ∀ a : Nat, a < s.heap.size → ¬ A a → H[a]? = s.heap[a]?) (hBA : ∀ x, B x → A x) (hvm : s.vm.Alike U.vm) : mx_X ad σ B U H :=
  ⟨fun k hk4 => by
    obtain ⟨N, e1, e2, e3⟩ := h.1 k hk4
    exact ⟨N, e1, e2, ((e3.kept hk).narrow hBA).moved hvm⟩, fun k hk3 => (((h.2 k hk3).kept hk).narrow hBA).moved hvm⟩
theorem mx_X.eq {ad ad' : Nat → Nat} {σ σ' : mx_S} {A : Nat → Prop} {U : State} {H : Heap} (h : mx_X ad σ A U H) (ha : ∀ i, 1000 ≤ i → ad' i = ad i) (hs : ∀ x, 1000 ≤ x → σ' x = σ x) : mx_X ad' σ' A U H :=
  ⟨fun k hk4 => by
    obtain ⟨N, e1, e2, e3⟩ := h.1 k hk4
    refine ⟨N, by rw [hs 2000 (by omega)]; exact e1, e2, ?_⟩
    rw [ha _ (by omega), hs _ (by omega)]
    exact e3, fun k hk3 => by rw [ha _ (by omega)]; exact h.2 k hk3⟩
theorem mx_nw_ot {w : Cond} (h : mx_nw w = true) : w.onTables = true := by
  cases w <;> first | rfl | cases h
theorem mx_blind {D : va_G} {g : ClassId × ClassId × ClassId} {ad : Nat → Nat} {h : mx_H} {sz : Nat} {av : List Value} : FrameBlind (va_Pc av (mx_B D g ad h sz)) := by
  intro a U gg mk hq
  obtain ⟨q0, q1, qP, qK, qD, qX, qY⟩ := hq
  exact ⟨q0, q1, qP, va_K.moved (u := U) (U := U.calling gg mk a) (Vm.Alike.refl U.vm) qK, qD, ⟨fun k hk => by
    obtain ⟨N, e1, e2, e3⟩ := qX.1 k hk
    exact ⟨N, e1, e2, e3.moved (u := U) (U := U.calling gg mk a) (Vm.Alike.refl U.vm)⟩, fun k hk => (qX.2 k hk).moved (u := U) (U := U.calling gg mk a) (Vm.Alike.refl U.vm)⟩, ⟨fun w hw hn => by
    have h1 := qY.1 w hw hn
    refine va_Nw.same ?_ (u := U) (U := U.calling gg mk a) rfl h1
    exact mx_nw_ot hn, va_AO.moved (u := U) (U := U.calling gg mk a) (Vm.Alike.refl U.vm) qY.2⟩⟩
theorem mx_pre {p : Program} {R : Room} {s : State} {m : MethodId} {args : Array Value} {meth : Method} {c : Code} {A : Nat → Prop} {D : va_G} {g : ClassId × ClassId × ClassId} {q : mx_HD} {ad0 : Nat → Nat} {σ0 : mx_S} {n0 mc ms : Nat} {h : mx_H} {ad : Nat → Nat} {H : Heap} {locs : List Loc} {d : Nat} {av : List Value} (C : mx_T p R s m args meth c A D g q ad0 σ0 mc ms d) (hag : ∀ i, ¬ (n0 ≤ i ∧ i < h.1.length) → ad i = ad0 i) (hlt : h.1.length < 1000) (hσ : ∀ x, 1000 ≤ x → h.2 x = σ0 x) (hP : va_P D vwCl (mx_ws g ad h) H) (hD : va_D A (mx_ws g ad h)) (hS : va_S A s.heap H locs) : (∀ x, va_A (mx_ws g ad h) H.size x → A x) ∧ ∀ U : State, U.heap = H → s.WarmedH U.vm → va_Pc av (mx_B D g ad h H.size) av.toArray U := by
  obtain ⟨⟨hx, hb, hml, hown, hnm, hts⟩, ⟨hK, hY, hA, hX⟩, hfr, hlo, hmc, hms⟩ := C
  have hFc : ∀ x, va_A (mx_ws g ad h) H.size x → A x := by
    rintro x (⟨k, e, hk⟩ | hx)
    · exact hD.2 k (x, e) hk
    · exact hA x (Nat.le_trans hS.1 hx)
  refine ⟨hFc, fun U hU hW => ⟨rfl, by rw [hU], by rw [hU]; exact hP, va_K.moved hW.alike hK, hD.weaken (fun _ _ _ _ => trivial), ?_, hY.warm hW⟩⟩
  rw [hU]
  exact (hX.eq (fun i hi => hag i (by omega)) hσ).go (fun a h1 h2 => hS.2.1 a h1 h2) hFc hW.alike
