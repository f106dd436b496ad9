theorem mx_ev_val : ∀ (n d j pc : Nat) (L st : List Value) (h : mx_H) (v : Option Value) (h2 : mx_H), mx_ev n d j pc L st h = some (v, h2) → v = none ∨ ∃ x, v = some (.int x) := by
  intro n
  induction n with
  | zero => intro d j pc L st h v h2 hr; simp [mx_ev] at hr
  | succ n ih =>
    intro d j pc L st h v h2 hr
    rw [mx_ev] at hr
    cases hs : mx_st d j pc L st h with
    | none => rw [hs] at hr; simp at hr
    | some o =>
      rw [hs] at hr
      match o, hr, hs with
      | .inl (pc', L', st', h'), hr, _ => exact ih _ _ _ _ _ _ _ _ hr
      | .inr (.inl (d', k, as, rest)), hr, _ =>
        dsimp only at hr
        cases hc : mx_ev n d' k 0 (mx_en k as) [] h with
        | none => rw [hc] at hr; simp at hr
        | some r =>
          rw [hc] at hr
          obtain ⟨v', h'⟩ := r
          dsimp only at hr
          by_cases hf : mx_fr h.1.length h'.1.length L rest = true
          · rw [if_pos hf] at hr
            exact ih _ _ _ _ _ _ _ _ hr
          · rw [if_neg hf] at hr
            cases hr
      | .inr (.inr w), hr, hs =>
        have hr : some (w, h) = some (v, h2) := hr
        cases hr
        obtain ⟨q, i, len, aux, -, -, hd⟩ := iv_st hs
        obtain ⟨h1, h2⟩ := mx_do_ret hd
        exact h1
theorem mx_en_eq {k : Nat} {q : mx_HD} (hq : mx_hd[k]? = some q) (as : List Value) : mx_en k as = as ++ List.replicate (q.2.2.1 - as.length) .null := by
  unfold mx_en
  rw [hq]
  rfl
set_option maxHeartbeats 4000000 in
theorem mx_met {l : Launch} {D : va_G} {g : ClassId × ClassId × ClassId} {n : Nat} (F : mx_F l D g n) {d k : Nat} {as : List Value} {h : mx_H} {v : Option Value} {h' : mx_H} (he : mx_ev n d k 0 (mx_en k as) [] h = some (v, h')) {q : mx_HD} (hq : mx_hd[k]? = some q) (hy : plainName q.1.cls = true) (hal : as.length ≤ q.2.2.1) (hlt : h.1.length < 1000) (ad : Nat → Nat) (sz : Nat) : Met l q.1 (mx_wl q) (mx_rm d (h'.1.length - h.1.length) (mx_sz h'.1 - mx_sz h.1)) (va_Pc (as.map (mx_cv ad)) (mx_B D g ad h sz)) (mx_Q D g ad h sz h' v) (h'.1.length - h.1.length) (mx_sz h'.1 - mx_sz h.1) (va_A (mx_ws g ad h) sz) := by
  refine Met.ofW (cc := q.2.1) (maxL := q.2.2.1) (ret := q.2.2.2.1) hy rfl ?_
  intro p e s m args below meth c s₁ B hml hv
  obtain ⟨rfl, hsz, hP, hK, hD0, hX, hY⟩ := hv
  have hts' := atoms_spec (ws := mx_wl q) B.pre
  have hts : ∀ w ∈ mx_WS, w.before ((as.map (mx_cv ad)).toArray) s = true := fun w hw => hts' w (List.mem_cons_of_mem _ hw)
  have hlocks := B.notSynchronized
  subst hsz
  have hD := hD0.self (sz := s.heap.size)
  have hS : va_S (va_A (mx_ws g ad h) s.heap.size) s.heap s.heap [] := va_S.rf
  have hRet : mx_Ret p l e (headSpec (mx_wl q) (mx_rm d (h'.1.length - h.1.length) (mx_sz h'.1 - mx_sz h.1))).room s m ((as.map (mx_cv ad)).toArray) below meth c (MQ below (mx_Q D g ad h s.heap.size h' v) ((as.map (mx_cv ad)).toArray) s (h'.1.length - h.1.length) (mx_sz h'.1 - mx_sz h.1) (va_A (mx_ws g ad h) s.heap.size)) (va_A (mx_ws g ad h) s.heap.size) D g q ad h.2 h.1.length (h'.1.length - h.1.length) (mx_sz h'.1 - mx_sz h.1) h' v := by
    intro pc ls ad' H locs hdec hrok hag hσ hP' hD' hS'
    rcases mx_ev_val _ _ _ _ _ _ _ _ _ he with rfl | ⟨x, rfl⟩
    · exact W.vret B.exec B.bytes (B.returns.trans hrok) (fun t ht hW => ⟨⟨ad', rfl, ⟨hag, hσ⟩, by rw [ht]; exact hP', hD'⟩, hS'.F ht⟩) hS'.2.2 hdec
    · rcases hrok with hrok | ⟨hrok, hx01⟩
      · exact W.iret (v := x) B.exec B.bytes (B.returns.trans hrok) (fun t ht hW => ⟨⟨x, ad', rfl, ⟨rfl, hag, hσ⟩, by rw [ht]; exact hP', hD'⟩, hS'.F ht⟩) hS'.2.2 hdec
      · exact W.zret (v := x) B.exec B.bytes (B.returns.trans hrok) (mx_nar hx01).1 (fun t ht hW => ⟨⟨x, ad', rfl, ⟨rfl, hag, hσ⟩, by rw [ht]; exact hP', hD'⟩, hS'.F ht⟩) hS'.2.2 hdec
  have hG := F d k 0 (mx_en k as) [] h v h' he hq ⟨⟨B.exec, B.bytes, hml, findClass_of_methodNamed B.named, (name_of_methodNamed B.named B.method).1, hts⟩, ⟨hK, hY, fun x hx => Or.inr hx, hX⟩, ⟨Nat.le_refl _, Nat.le_refl _, Nat.le_refl _, Nat.le_refl _⟩⟩ hRet
  have hl := lv_entry (as.map (mx_cv ad)) (n := q.2.2.1) (by
    rw [mx_sl _ (fun v hv => by obtain ⟨w, -, rfl⟩ := List.mem_map.mp hv; exact mx_cv_cat ad w)]
    simpa using hal)
  rw [lg_entry_eq]
  rw [mx_en_eq hq] at hG
  exact hG ad s.heap [] 0 0 _ (fun _ _ => rfl) (Nat.le_refl _) hlt (fun _ _ => rfl) hP hD hS (mx_entry hl) (by rw [List.length_append, List.length_replicate]; omega) (Nat.zero_add _) (Nat.zero_add _)
