theorem mx_sound (l : Launch) (D : va_G) (g : ClassId × ClassId × ClassId) : ∀ n, mx_F l D g n := by
  intro n
  induction n with
  | zero => intro d j pc L st h v h2 hr; simp [mx_ev] at hr
  | succ n ih =>
    intro d j pc L st h v h2 hr p e R s m args below meth c Q A q ad0 σ0 n0 mc ms hq C hRet
    rw [mx_ev] at hr
    cases hs : mx_st d j pc L st h with
    | none => rw [hs] at hr; simp at hr
    | some o =>
      rw [hs] at hr
      obtain ⟨q', i, len, aux, hq', hi, hd⟩ := iv_st hs
      cases hq.symm.trans hq'
      have hchk := mx_good hq hi
      obtain ⟨hdec, hax⟩ := Bool.and_eq_true_iff.mp hchk
      have hdec : decode q.2.1 pc = .ok (i, len) := of_decide_eq_true hdec
      have hax : mx_ax q.1.cls q.1.name pc i len aux = true := hax
      match o, hr, hd with
      | .inl (pc', L', st', h'), hr, hd =>
        have hgr := mx_ev_gr _ _ _ _ _ _ _ _ _ hr
        exact sd_do C hdec hax hd hgr.1 hgr.2.1 (ih _ _ _ _ _ _ _ _ hr hq C hRet)
      | .inr (.inl (d', k, as, rest)), hr, hd =>
        dsimp only at hr
        cases hc : mx_ev n d' k 0 (mx_en k as) [] h with
        | none => rw [hc] at hr; simp at hr
        | some r =>
          rw [hc] at hr
          obtain ⟨v', h'⟩ := r
          dsimp only at hr
          by_cases hf : mx_fr h.1.length h'.1.length L rest = true
          · rw [if_pos hf] at hr
            have hgr := mx_ev_gr _ _ _ _ _ _ _ _ _ hr
            exact sd_call C ih hdec hax hd hc hf ⟨hgr.1, hgr.2.1⟩ (ih _ _ _ _ _ _ _ _ hr hq C hRet)
          · rw [if_neg hf] at hr
            cases hr
      | .inr (.inr w), hr, hd =>
        have hr : some (w, h) = some (v, h2) := hr
        cases hr
        obtain ⟨h1, h2, h3⟩ := mx_do_ret hd
        intro ad H locs cells slots ls hag hn0 hlt hσ hP hD hS hl hLn hcc hss
        have e1 : cells = mc := by omega
        have e2 : slots = ms := by omega
        subst e1
        subst e2
        obtain ⟨hst, hri⟩ := h3
        rw [hst]
        have hdec2 : decode q.2.1 pc = .ok (mx_ri v, 1) := by
          rw [hdec, hri]
          congr
          have : len = 1 := by
            rw [hri] at hax
            cases v with
            | none => exact of_decide_eq_true hax
            | some x => exact of_decide_eq_true hax
          rw [this]
        have ew : (v.toList).map (mx_cv ad) = (v.map (mx_cv ad)).toList := by cases v <;> rfl
        rw [ew]
        exact hRet pc ls ad H locs hdec2 h2 hag hσ hP hD hS
