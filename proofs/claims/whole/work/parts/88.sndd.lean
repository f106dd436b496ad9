theorem mx_cat8 {m : MethodId} {pc : Nat} {ls : Array Slot} {st1 : List Value} (ad : Nat → Nat) {r : List Value} (h : r.length ≤ 8) : 2 * (F0 m pc ls st1).monitorRoom + ((r.map (mx_cv ad)).map fun v => v.category).sum ≤ 8 := lv_room (by rw [mx_cat]; exact h)
theorem mx_split (ad : Nat → Nat) (st : List Value) (n : Nat) : st.map (mx_cv ad) = (((st.take n).reverse).map (mx_cv ad)).reverse ++ (st.drop n).map (mx_cv ad) := by
  rw [List.map_reverse, List.reverse_reverse, ← List.map_append, List.take_append_drop]
theorem mx_split1 {st : List Value} {n cc : Nat} (h : st[n]? = some (.ref cc)) : (st.take (n + 1)).reverse = .ref cc :: (st.take n).reverse := by
  rw [List.take_succ, h]
  simp
set_option maxHeartbeats 8000000 in
theorem sd_call {p : Program} {l : Launch} {e : Env} {R : Room} {s : State} {m : MethodId} {args : Array Value} {below : List Frame} {meth : Method} {c : Code} {Q : State → Prop} {A : Nat → Prop} {D : va_G} {g : ClassId × ClassId × ClassId} {q : mx_HD} {ad0 : Nat → Nat} {σ0 : mx_S} {n0 mc ms : Nat} {h2 : mx_H} {i : Instr} {len d d' kc pc n : Nat} {aux : List Nat} {L st as rest : List Value} {h h' : mx_H} {v : Option Value} (C : mx_T p R s m args meth c A D g q ad0 σ0 mc ms d) (F : mx_F l D g n) (hdec : decode q.2.1 pc = .ok (i, len)) (hax : mx_ax q.1.cls q.1.name pc i len aux = true) (hh : mx_do i aux q.2.2.2.1 d pc L st h = some (.inr (.inl (d', kc, as, rest)))) (he : mx_ev n d' kc 0 (mx_en kc as) [] h = some (v, h')) (hf : mx_fr h.1.length h'.1.length L rest = true) (hg2 : h'.1.length ≤ h2.1.length ∧ mx_sz h'.1 ≤ mx_sz h2.1) (k : mx_G p l e R s m args below meth c Q A D g q ad0 σ0 n0 mc ms h2 (pc + 3) L (v.toList ++ rest) h') : mx_G p l e R s m args below meth c Q A D g q ad0 σ0 n0 mc ms h2 pc L st h := by
  have C0 := C
  obtain ⟨⟨hx, hb, hml, hown, hnm, hts⟩, ⟨hK, hY, hA, hX⟩, hfr, hlo, hmc, hms⟩ := C
  have hv := mx_ev_val _ _ _ _ _ _ _ _ _ he
  have hg := mx_ev_gr _ _ _ _ _ _ _ _ _ he
  cases i
  case invokestatic ix =>
    rcases iv_cS hh with ⟨k0, dc, na, pl, p2, p3, rfl, h1⟩ | ⟨mm, pl, p2, p3, p4, x, y, r, rfl, rfl, hr8, e2⟩
    · obtain ⟨z1, z2, z3, e2⟩ := iv_cl h1
      cases e2
      have hax2 := Bool.and_eq_true_iff.mp hax
      have hl1 : len = 3 := of_decide_eq_true hax2.1
      subst hl1
      obtain ⟨qk, hqk, wc, hd3, hm40, hna, hpn, hfy⟩ := mx_mkv hax2.2
      simp only [Bool.and_eq_true, decide_eq_true_eq] at hfy
      obtain ⟨⟨⟨w1, w2⟩, w3⟩, w4⟩ := hfy
      intro ad H locs cells slots ls hag hn0 hlt hσ hP hD hS hl hLn hcc hss
      have hal : ((st.take na).reverse).length = na := by rw [List.length_reverse, List.length_take]; omega
      obtain ⟨hFc, hpre⟩ := mx_pre (av := ((st.take na).reverse).map (mx_cv ad)) C0 hag hlt hσ hP hD hS
      have hmet := mx_met (D := D) (g := g) F he hqk hpn (by omega) hlt ad H.size
      have hT : GoodIn mx_WS (va_wsS q.1.cls ix qk.1 (mx_wl qk)) := by
        intro w hw
        rcases List.mem_append.mp hw with hw | hw
        · simp only [List.mem_cons, List.not_mem_nil, or_false] at hw
          rcases hw with rfl | rfl | rfl
          · exact mx_gg (mx_wW w1 rfl)
          · exact mx_gg (mx_wW w2 rfl)
          · exact mx_gg (mx_wW w3 rfl)
        · exact mx_gi wc w hw
      refine sd_back hv hg hg2 hf hFc hag hn0 hlt hσ hS hl hLn hcc hss k (va_runS (As := ((st.take na).reverse).map (mx_cv ad)) ⟨hx, hb, hml, hown, hts⟩ hmet (va_cwS na hts hT rfl rfl rfl hd3 ⟨by show _ + 1 + 1 ≤ _; omega, by show 8 + (_ + 11) + 60 * (_ + 1) ≤ _; omega⟩) ⟨mx_blind, hpre⟩ rfl (by rw [List.length_map]; exact hal) hl.1 (mx_split ad st na) (mx_cat8 ad z3) hdec ⟨by omega, by omega⟩)
    · cases e2
  case invokevirtual ix =>
    obtain ⟨k0, dc, na, pl, p2, p3, p4, ci, rfl, ⟨cc, fs, hst, hq⟩, h1⟩ := iv_cV hh
    obtain ⟨z1, z2, z3, e2⟩ := iv_cl h1
    cases e2
    have hax2 := Bool.and_eq_true_iff.mp hax
    have hl1 : len = 3 := of_decide_eq_true hax2.1
    subst hl1
    obtain ⟨qk, hqk, wc, hd3, hm40, hna, hpn, hfy⟩ := mx_mkv hax2.2
    simp only [Bool.and_eq_true, decide_eq_true_eq] at hfy
    obtain ⟨⟨⟨⟨⟨w1, w2⟩, w3⟩, w4⟩, w5⟩, w6⟩ := hfy
    obtain ⟨CN, T, N, hc, -, hcls⟩ := mx_fkv w5
    have hcls : qk.1.cls = CN := of_decide_eq_true hcls
    have hal1 : na + 1 ≤ qk.2.2.1 := by rw [hqk] at w6; exact w6
    intro ad H locs cells slots ls hag hn0 hlt hσ hP hD hS hl hLn hcc hss
    have hs1 := mx_split1 hst
    rw [hs1] at he
    have hal : ((st.take na).reverse).length = na := by rw [List.length_reverse, List.length_take]; omega
    obtain ⟨hFc, hpre⟩ := mx_pre (av := (Value.ref cc :: (st.take na).reverse).map (mx_cv ad)) C0 hag hlt hσ hP hD hS
    have hmet := mx_met (D := D) (g := g) F he hqk hpn (by rw [List.length_cons]; omega) hlt ad H.size
    have hT : GoodIn mx_WS (wsV q.1.cls ix CN qk.1 (mx_wl qk)) := by
      intro w hw
      rcases List.mem_append.mp hw with hw | hw
      · simp only [List.mem_cons, List.not_mem_nil, or_false] at hw
        rcases hw with rfl | rfl | rfl | rfl
        · exact mx_gg (mx_wW w1 rfl)
        · exact mx_gg (mx_wW w2 rfl)
        · rw [← hcls]; exact mx_gg (mx_wW w3 rfl)
        · rw [← hcls]; exact mx_gg (mx_wW w4 rfl)
      · exact mx_gi wc w hw
    have hstk : st.map (mx_cv ad) = (((st.take na).reverse).map (mx_cv ad)).reverse ++ .ref (ad cc) :: (st.drop (na + 1)).map (mx_cv ad) := by
      rw [mx_split ad st (na + 1), hs1, List.map_cons, List.reverse_cons, List.append_assoc]
      rfl
    refine sd_back hv hg hg2 hf hFc hag hn0 hlt hσ hS hl hLn hcc hss k (va_runV (As := ((st.take na).reverse).map (mx_cv ad)) (b := ad cc) ⟨hx, hb, hml, hown, hts⟩ hmet (cwV na hts hT rfl rfl rfl ⟨hcls, hd3⟩ ⟨by show _ + 1 + 1 ≤ _; omega, by show 8 + (_ + 11) + 60 * (_ + 1) ≤ _; omega⟩) ⟨mx_blind, va_recv hK hP hc (mx_ws_at hq), hpre⟩ rfl (by rw [List.length_map]; exact hal) hl.1 hstk (mx_cat8 ad z3) hdec ⟨by omega, by omega⟩)
  case invokespecial ix =>
    rcases iv_cI hh with ⟨k0, dc, na, pl, p2, p3, nest, rfl, ⟨cc, hst⟩, h1⟩ | ⟨pl, cc, r, rfl, rfl, hr8, e2⟩
    · obtain ⟨z1, z2, z3, e2⟩ := iv_cl h1
      cases e2
      have hax2 := Bool.and_eq_true_iff.mp hax
      have hl1 : len = 3 := of_decide_eq_true hax2.1
      subst hl1
      obtain ⟨qk, hqk, wc, hd3, hm40, hna, hpn, hfy⟩ := mx_mkv hax2.2
      simp only [Bool.and_eq_true, decide_eq_true_eq] at hfy
      obtain ⟨⟨⟨w1, w2⟩, w3⟩, w4⟩ := hfy
      have hal1 : na + 1 ≤ qk.2.2.1 := hna.elim id (fun z => absurd w4 z.2)
      intro ad H locs cells slots ls hag hn0 hlt hσ hP hD hS hl hLn hcc hss
      have hs1 := mx_split1 hst
      rw [hs1] at he
      have hal : ((st.take na).reverse).length = na := by rw [List.length_reverse, List.length_take]; omega
      obtain ⟨hFc, hpre⟩ := mx_pre (av := (Value.ref cc :: (st.take na).reverse).map (mx_cv ad)) C0 hag hlt hσ hP hD hS
      have hmet := mx_met (D := D) (g := g) F he hqk hpn (by rw [List.length_cons]; omega) hlt ad H.size
      have hstk : st.map (mx_cv ad) = (((st.take na).reverse).map (mx_cv ad)).reverse ++ .ref (ad cc) :: (st.drop (na + 1)).map (mx_cv ad) := by
        rw [mx_split ad st (na + 1), hs1, List.map_cons, List.reverse_cons, List.append_assoc]
        rfl
      have hrn : qk.2.2.2.1 = none := mx_inn hqk w4
      have hwl : mx_wl qk = Cond.code qk.1 qk.2.1 qk.2.2.1 none :: mx_WS := by unfold mx_wl; rw [hrn]
      by_cases hne : nest = 0
      · rw [if_pos hne] at w1
        refine sd_back hv hg hg2 hf hFc hag hn0 hlt hσ hS hl hLn hcc hss k (va_runI (As := ((st.take na).reverse).map (mx_cv ad)) (b := ad cc) ⟨hx, hb, hml, hown, hts⟩ hmet (cwI na hts (mx_gi wc) hwl rfl rfl (hts _ (mx_wW w3 rfl)) (hts _ (mx_wW w1 rfl)) (hts _ (mx_wW w2 rfl)) w4 hd3 ⟨by show _ + 1 + 1 ≤ _; omega, by show 8 + (_ + 11) + 60 * (_ + 1) ≤ _; omega⟩) ⟨mx_blind, hpre⟩ rfl (by rw [List.length_map]; exact hal) hl.1 hstk (mx_cat8 ad z3) hdec ⟨by omega, by omega⟩)
      · rw [if_neg hne] at w1
        refine sd_back hv hg hg2 hf hFc hag hn0 hlt hσ hS hl hLn hcc hss k (va_runIN (As := ((st.take na).reverse).map (mx_cv ad)) (b := ad cc) ⟨hx, hb, hml, hown, hts⟩ hmet ⟨va_cnB na hts (mx_gi wc) hwl rfl rfl (hY.1 _ (mx_wm w1) rfl) (hts _ (mx_wW w3 rfl)) hd3 ⟨by show _ + 1 + 1 ≤ _; omega, by show 8 + (_ + 11) + 60 * (_ + 1) ≤ _; omega⟩, w4, hts _ (mx_wW w2 rfl)⟩ ⟨mx_blind, hpre⟩ rfl (by rw [List.length_map]; exact hal) hl.1 hstk (mx_cat8 ad z3) hdec ⟨by omega, by omega⟩)
    · cases e2
  all_goals exact absurd (mx_do_cl hh) (by simp [mx_iscl])
