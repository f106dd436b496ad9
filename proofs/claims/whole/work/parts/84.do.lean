/-! runs of my machine are runs of the machine of the claim; printed by wip/whole/gen9.py -/
set_option maxHeartbeats 8000000 in
theorem sd_do {p : Program} {l : Launch} {e : Env} {R : Room} {s : State} {m : MethodId} {args : Array Value} {below : List Frame} {meth : Method} {c : Code} {Q : State → Prop} {A : Nat → Prop} {D : va_G} {g : ClassId × ClassId × ClassId} {q : mx_HD} {ad0 : Nat → Nat} {σ0 : mx_S} {n0 mc ms : Nat} {h2 : mx_H} {i : Instr} {len d pc pc' : Nat} {aux : List Nat} {L L' st st' : List Value} {h h' : mx_H} (C : mx_T p R s m args meth c A D g q ad0 σ0 mc ms d) (hdec : decode q.2.1 pc = .ok (i, len)) (hax : mx_ax q.1.cls q.1.name pc i len aux = true) (hh : mx_do i aux q.2.2.2.1 d pc L st h = some (.inl (pc', L', st', h'))) (hm1 : h'.1.length ≤ h2.1.length) (hm2 : mx_sz h'.1 ≤ mx_sz h2.1) (k : mx_G p l e R s m args below meth c Q A D g q ad0 σ0 n0 mc ms h2 pc' L' st' h') : mx_G p l e R s m args below meth c Q A D g q ad0 σ0 n0 mc ms h2 pc L st h := by
  have C0 := C
  obtain ⟨⟨hx, hb, hml, hown, hnm, hts⟩, ⟨hK, hY, hA, hX⟩, hfr, hlo, hmc, hms⟩ := C
  cases i
  case iconst n =>
    have hl1 : len = 1 := of_decide_eq_true hax
    subst hl1
    cases hh
    exact mx_lift (fun ad H locs cells slots ls hl w => lv_iconst hx hb hdec rfl w) k
  case bipush n =>
    have hl1 : len = 2 := of_decide_eq_true hax
    subst hl1
    cases hh
    exact mx_lift (fun ad H locs cells slots ls hl w => lv_bipush hx hb hdec rfl w) k
  case sipush n =>
    have hl1 : len = 3 := of_decide_eq_true hax
    subst hl1
    cases hh
    exact mx_lift (fun ad H locs cells slots ls hl w => lv_sipush hx hb hdec rfl w) k
  case ldc ix =>
    simp only [mx_ax, Bool.and_eq_true, decide_eq_true_eq] at hax
    obtain ⟨rfl, hax⟩ := hax
    simp only [mx_do] at hh
    split at hh
    · cases hh
      exact mx_lift (fun ad H locs cells slots ls hl w => lv_ldc hx hb hown (hts _ (mx_wW hax rfl)) hdec w) k
    · cases hh
  case ldc_w ix =>
    simp only [mx_ax, Bool.and_eq_true, decide_eq_true_eq] at hax
    obtain ⟨rfl, hax⟩ := hax
    simp only [mx_do] at hh
    split at hh
    · cases hh
      exact mx_lift (fun ad H locs cells slots ls hl w => lv_ldcw hx hb hown (hts _ (mx_wW hax rfl)) hdec w) k
    · cases hh
  case iload i =>
    have hl1 : len = 2 := of_decide_eq_true hax
    subst hl1
    obtain ⟨x, e1, e2⟩ := iv_ild hh
    cases e2
    exact mx_lift (fun ad H locs cells slots ls hl w => lv_iload hx hb hdec (mx_ld hl e1 rfl) w) k
  case iload_n i =>
    have hl1 : len = 1 := of_decide_eq_true hax
    subst hl1
    obtain ⟨x, e1, e2⟩ := iv_ild hh
    cases e2
    exact mx_lift (fun ad H locs cells slots ls hl w => lv_iload_n hx hb hdec rfl (mx_ld hl e1 rfl) w) k
  case aload i =>
    have hl1 : len = 2 := of_decide_eq_true hax
    subst hl1
    obtain ⟨x, e1, e2⟩ := iv_ald hh
    cases e2
    exact mx_lift (fun ad H locs cells slots ls hl w => lv_aload hx hb hdec (mx_ld hl e1 rfl) w) k
  case aload_n i =>
    have hl1 : len = 1 := of_decide_eq_true hax
    subst hl1
    obtain ⟨x, e1, e2⟩ := iv_ald hh
    cases e2
    exact mx_lift (fun ad H locs cells slots ls hl w => lv_aload_n hx hb hdec rfl (mx_ld hl e1 rfl) w) k
  case istore i =>
    have hl1 : len = 2 := of_decide_eq_true hax
    subst hl1
    obtain ⟨x, r, rfl, hi, e2⟩ := iv_ist hh
    cases e2
    exact sd_ist C0 hi (Or.inl ⟨hdec, rfl⟩) k
  case istore_n i =>
    have hl1 : len = 1 := of_decide_eq_true hax
    subst hl1
    obtain ⟨x, r, rfl, hi, e2⟩ := iv_ist hh
    cases e2
    exact sd_ist C0 hi (Or.inr ⟨i, rfl, hdec, rfl⟩) k
  case astore i =>
    have hl1 : len = 2 := of_decide_eq_true hax
    subst hl1
    obtain ⟨x, r, rfl, hi, e2⟩ := iv_ast hh
    cases e2
    exact sd_ast C0 hi (Or.inl ⟨hdec, rfl⟩) k
  case astore_n i =>
    have hl1 : len = 1 := of_decide_eq_true hax
    subst hl1
    obtain ⟨x, r, rfl, hi, e2⟩ := iv_ast hh
    cases e2
    exact sd_ast C0 hi (Or.inr ⟨i, rfl, hdec, rfl⟩) k
  case iinc i n =>
    have hl1 : len = 3 := of_decide_eq_true hax
    subst hl1
    obtain ⟨x, e1, e2⟩ := iv_inc hh
    cases e2
    exact sd_inc C0 e1 hdec k
  case iadd =>
    have hl1 : len = 1 := of_decide_eq_true hax
    subst hl1
    obtain ⟨x, y, r, rfl, e2⟩ := iv_bin hh
    cases e2
    exact mx_lift (fun ad H locs cells slots ls hl w => lv_iadd hx hb hdec w) k
  case isub =>
    have hl1 : len = 1 := of_decide_eq_true hax
    subst hl1
    obtain ⟨x, y, r, rfl, e2⟩ := iv_bin hh
    cases e2
    exact mx_lift (fun ad H locs cells slots ls hl w => lv_isub hx hb hdec w) k
  case imul =>
    have hl1 : len = 1 := of_decide_eq_true hax
    subst hl1
    obtain ⟨x, y, r, rfl, e2⟩ := iv_bin hh
    cases e2
    exact mx_lift (fun ad H locs cells slots ls hl w => lv_imul hx hb hdec w) k
  case iand =>
    have hl1 : len = 1 := of_decide_eq_true hax
    subst hl1
    obtain ⟨x, y, r, rfl, e2⟩ := iv_bin hh
    cases e2
    exact mx_lift (fun ad H locs cells slots ls hl w => lv_iand hx hb hdec w) k
  case ior =>
    have hl1 : len = 1 := of_decide_eq_true hax
    subst hl1
    obtain ⟨x, y, r, rfl, e2⟩ := iv_bin hh
    cases e2
    exact mx_lift (fun ad H locs cells slots ls hl w => lv_ior hx hb hdec w) k
  case ixor =>
    have hl1 : len = 1 := of_decide_eq_true hax
    subst hl1
    obtain ⟨x, y, r, rfl, e2⟩ := iv_bin hh
    cases e2
    exact mx_lift (fun ad H locs cells slots ls hl w => lv_ixor hx hb hdec w) k
  case ishl =>
    have hl1 : len = 1 := of_decide_eq_true hax
    subst hl1
    obtain ⟨x, y, r, rfl, e2⟩ := iv_bin hh
    cases e2
    exact mx_lift (fun ad H locs cells slots ls hl w => lv_ishl hx hb hdec w) k
  case ishr =>
    have hl1 : len = 1 := of_decide_eq_true hax
    subst hl1
    obtain ⟨x, y, r, rfl, e2⟩ := iv_bin hh
    cases e2
    exact mx_lift (fun ad H locs cells slots ls hl w => lv_ishr hx hb hdec w) k
  case iushr =>
    have hl1 : len = 1 := of_decide_eq_true hax
    subst hl1
    obtain ⟨x, y, r, rfl, e2⟩ := iv_bin hh
    cases e2
    exact mx_lift (fun ad H locs cells slots ls hl w => lv_iushr hx hb hdec rfl w) k
  case idiv =>
    have hl1 : len = 1 := of_decide_eq_true hax
    subst hl1
    obtain ⟨x, y, r, rfl, hne, e2⟩ := iv_dvd hh
    cases e2
    exact mx_lift (fun ad H locs cells slots ls hl w => lv_idiv hx hb hdec hne w) k
  case irem =>
    have hl1 : len = 1 := of_decide_eq_true hax
    subst hl1
    obtain ⟨x, y, r, rfl, hne, e2⟩ := iv_dvd hh
    cases e2
    exact mx_lift (fun ad H locs cells slots ls hl w => lv_irem hx hb hdec hne w) k
  case goto off =>
    simp only [mx_ax, Bool.and_eq_true, decide_eq_true_eq] at hax
    obtain ⟨rfl, h0⟩ := hax
    cases hh
    exact mx_lift (fun ad H locs cells slots ls hl w => lv_goto hx hb hdec (mx_tgt h0) w) k
  case ifCond cd off =>
    simp only [mx_ax, Bool.and_eq_true, decide_eq_true_eq] at hax
    obtain ⟨rfl, h0⟩ := hax
    obtain ⟨x, r, rfl, e2⟩ := iv_if1 hh
    cases e2
    cases cd
    case eq =>
      exact mx_lift (fun ad H locs cells slots ls hl w => lv_if_eq hx hb hdec (mx_tgt h0) (fun hc => by rw [if_pos (show mx_c1 .eq x = true from decide_eq_true hc)] at w; exact w) (fun hc => by rw [if_neg (show ¬ mx_c1 .eq x = true from fun z => hc (of_decide_eq_true z))] at w; exact w)) k
    case ne =>
      exact mx_lift (fun ad H locs cells slots ls hl w => lv_if_ne hx hb hdec (mx_tgt h0) (fun hc => by rw [if_pos (show mx_c1 .ne x = true from decide_eq_true hc)] at w; exact w) (fun hc => by rw [if_neg (show ¬ mx_c1 .ne x = true from fun z => (of_decide_eq_true z) hc)] at w; exact w)) k
    case lt =>
      exact mx_lift (fun ad H locs cells slots ls hl w => lv_if_lt hx hb hdec (mx_tgt h0) (fun hc => by rw [if_pos (show mx_c1 .lt x = true from decide_eq_true hc)] at w; exact w) (fun hc => by rw [if_neg (show ¬ mx_c1 .lt x = true from fun z => hc (of_decide_eq_true z))] at w; exact w)) k
    case ge =>
      exact mx_lift (fun ad H locs cells slots ls hl w => lv_if_ge hx hb hdec (mx_tgt h0) (fun hc => by rw [if_pos (show mx_c1 .ge x = true from decide_eq_true hc)] at w; exact w) (fun hc => by rw [if_neg (show ¬ mx_c1 .ge x = true from fun z => hc (of_decide_eq_true z))] at w; exact w)) k
    case gt =>
      exact mx_lift (fun ad H locs cells slots ls hl w => lv_if_gt hx hb hdec (mx_tgt h0) (fun hc => by rw [if_pos (show mx_c1 .gt x = true from decide_eq_true hc)] at w; exact w) (fun hc => by rw [if_neg (show ¬ mx_c1 .gt x = true from fun z => hc (of_decide_eq_true z))] at w; exact w)) k
    case le =>
      exact mx_lift (fun ad H locs cells slots ls hl w => lv_if_le hx hb hdec (mx_tgt h0) (fun hc => by rw [if_pos (show mx_c1 .le x = true from decide_eq_true hc)] at w; exact w) (fun hc => by rw [if_neg (show ¬ mx_c1 .le x = true from fun z => hc (of_decide_eq_true z))] at w; exact w)) k
  case if_icmp cd off =>
    simp only [mx_ax, Bool.and_eq_true, decide_eq_true_eq] at hax
    obtain ⟨rfl, h0⟩ := hax
    obtain ⟨x, y, r, rfl, e2⟩ := iv_if2 hh
    cases e2
    cases cd
    case eq =>
      exact mx_lift (fun ad H locs cells slots ls hl w => lv_icmp_eq hx hb hdec (mx_tgt h0) (fun hc => by rw [if_pos (show mx_c2 .eq x y = true from decide_eq_true hc)] at w; exact w) (fun hc => by rw [if_neg (show ¬ mx_c2 .eq x y = true from fun z => hc (of_decide_eq_true z))] at w; exact w)) k
    case ne =>
      exact mx_lift (fun ad H locs cells slots ls hl w => lv_icmp_ne hx hb hdec (mx_tgt h0) (fun hc => by rw [if_pos (show mx_c2 .ne x y = true from decide_eq_true hc)] at w; exact w) (fun hc => by rw [if_neg (show ¬ mx_c2 .ne x y = true from fun z => (of_decide_eq_true z) hc)] at w; exact w)) k
    case lt =>
      exact mx_lift (fun ad H locs cells slots ls hl w => lv_icmp_lt hx hb hdec (mx_tgt h0) (fun hc => by rw [if_pos (show mx_c2 .lt x y = true from decide_eq_true hc)] at w; exact w) (fun hc => by rw [if_neg (show ¬ mx_c2 .lt x y = true from fun z => hc (of_decide_eq_true z))] at w; exact w)) k
    case ge =>
      exact mx_lift (fun ad H locs cells slots ls hl w => lv_icmp_ge hx hb hdec (mx_tgt h0) (fun hc => by rw [if_pos (show mx_c2 .ge x y = true from decide_eq_true hc)] at w; exact w) (fun hc => by rw [if_neg (show ¬ mx_c2 .ge x y = true from fun z => hc (of_decide_eq_true z))] at w; exact w)) k
    case gt =>
      exact mx_lift (fun ad H locs cells slots ls hl w => lv_icmp_gt hx hb hdec (mx_tgt h0) (fun hc => by rw [if_pos (show mx_c2 .gt x y = true from decide_eq_true hc)] at w; exact w) (fun hc => by rw [if_neg (show ¬ mx_c2 .gt x y = true from fun z => hc (of_decide_eq_true z))] at w; exact w)) k
    case le =>
      exact mx_lift (fun ad H locs cells slots ls hl w => lv_icmp_le hx hb hdec (mx_tgt h0) (fun hc => by rw [if_pos (show mx_c2 .le x y = true from decide_eq_true hc)] at w; exact w) (fun hc => by rw [if_neg (show ¬ mx_c2 .le x y = true from fun z => hc (of_decide_eq_true z))] at w; exact w)) k
  case tableswitch dflt lo hi offs =>
    simp only [mx_ax, Bool.and_eq_true, decide_eq_true_eq, List.all_eq_true] at hax
    obtain ⟨x, r, rfl, ⟨hc, e2⟩ | ⟨hc, off, ho, e2⟩⟩ := iv_tsw hh
    · cases e2
      exact mx_lift (fun ad H locs cells slots ls hl w => lv_tableOut hx hb hdec hc (mx_tgt hax.1) w) k
    · cases e2
      have h0 : 0 ≤ (pc : Int) + off := hax.2 off (by rw [← Array.getElem?_toList] at ho; exact List.mem_of_getElem? ho)
      exact mx_lift (fun ad H locs cells slots ls hl w => lv_tableIn hx hb hdec (fun z => hc (Or.inl z)) (fun z => hc (Or.inr z)) ho (mx_tgt h0) w) k
  case getfield ix =>
    obtain ⟨ci, kf, nest, pl, cc, r, v, rfl, rfl, hv, e2⟩ := iv_gf hh
    cases e2
    simp only [mx_ax, Bool.and_eq_true, decide_eq_true_eq] at hax
    obtain ⟨rfl, hax⟩ := hax
    exact sd_gf C0 hax hdec hv k
  case putfield ix =>
    obtain ⟨ci, kf, kind, isB, pl, cc, r, rfl, ⟨x, rfl, hk1, hI, hxB, e2⟩ | ⟨v, sh', rfl, rfl, hI, e2⟩⟩ := iv_pf hh
    · cases e2
      simp only [mx_ax, Bool.and_eq_true, decide_eq_true_eq, if_neg hk1] at hax
      obtain ⟨rfl, hax⟩ := hax
      exact sd_pf C0 hax hdec hI hxB k
    · cases e2
      simp only [mx_ax, Bool.and_eq_true, decide_eq_true_eq, if_neg (show ¬ (1 : Nat) = 2 by decide), if_true] at hax
      obtain ⟨rfl, hax⟩ := hax
      exact sd_pfR C0 hax hdec hI k
  case getstatic ix =>
    simp only [mx_ax, Bool.and_eq_true, decide_eq_true_eq] at hax
    obtain ⟨rfl, hax⟩ := hax
    simp only [mx_do] at hh
    split at hh
    · next kf pl =>
      cases hh
      simp only [Bool.and_eq_true, decide_eq_true_eq] at hax
      obtain ⟨hk3, hw⟩ := hax
      intro ad H locs cells slots ls hag hn0 hlt hσ hP hD hS hl hLn hcc hss
      have kk := k ad H locs cells slots ls hag hn0 hlt hσ hP hD hS hl hLn hcc hss
      have hZ := hX.2 kf hk3
      rw [← hag (1000 + kf) (by omega)] at hZ
      exact va_gets hx hb hZ hS hown (hts _ (mx_wW hw rfl)) (fun _ z => z) hdec kk
    · cases hh
  case iaload =>
    have hl1 : len = 1 := of_decide_eq_true hax
    subst hl1
    obtain ⟨i, cc, r, rfl, hi, e2⟩ := iv_iald hh
    cases e2
    exact sd_iald C0 hi hdec k
  case iastore =>
    have hl1 : len = 1 := of_decide_eq_true hax
    subst hl1
    obtain ⟨x, i, cc, r, rfl, hi, e2⟩ := iv_iast hh
    cases e2
    exact sd_iast C0 hi hdec k
  case baload =>
    have hl1 : len = 1 := of_decide_eq_true hax
    subst hl1
    obtain ⟨i, cc, r, rfl, hi, e2⟩ := iv_zald hh
    cases e2
    exact sd_zald C0 hi hdec k
  case bastore =>
    have hl1 : len = 1 := of_decide_eq_true hax
    subst hl1
    obtain ⟨x, i, cc, r, rfl, hi, hxB, e2⟩ := iv_zast hh
    cases e2
    exact sd_zast C0 hi hxB hdec k
  case aaload =>
    have hl1 : len = 1 := of_decide_eq_true hax
    subst hl1
    obtain ⟨i, cc, r, lq, v, rfl, hq, hi, hv, e2⟩ := iv_aald hh
    cases e2
    exact sd_aald C0 hq hi hv hdec k
  case aastore =>
    have hl1 : len = 1 := of_decide_eq_true hax
    subst hl1
    obtain ⟨i, v, cc, r, lq, fs, rfl, hqv, hq, hi, e2⟩ := iv_aast hh
    cases e2
    exact sd_aast C0 hqv hq hi hdec k
  case arraylength =>
    have hl1 : len = 1 := of_decide_eq_true hax
    subst hl1
    obtain ⟨cc, r, rfl, ⟨z1, z2, e2⟩ | ⟨n, hq, e2⟩⟩ := iv_alen hh
    · cases e2
      exact sd_alen C0 (Or.inl ⟨z1, z2, rfl⟩) hdec k
    · cases e2
      exact sd_alen C0 (Or.inr ⟨n, hq, rfl⟩) hdec k
  case dup =>
    have hl1 : len = 1 := of_decide_eq_true hax
    subst hl1
    obtain ⟨v, r, rfl, e2⟩ := iv_dup hh
    cases e2
    exact mx_lift (fun ad H locs cells slots ls hl w => lv_dup hx hb hdec (mx_cv_cat ad v) w) k
  case dup2 =>
    have hl1 : len = 1 := of_decide_eq_true hax
    subst hl1
    obtain ⟨v, v2, r, rfl, e2⟩ := iv_dup2 hh
    cases e2
    exact mx_lift (fun ad H locs cells slots ls hl w => lv_dup2_11 hx hb hdec (mx_cv_cat ad v) (mx_cv_cat ad v2) w) k
  case pop =>
    have hl1 : len = 1 := of_decide_eq_true hax
    subst hl1
    obtain ⟨v, r, rfl, e2⟩ := iv_pop hh
    cases e2
    exact mx_lift (fun ad H locs cells slots ls hl w => lv_pop hx hb hdec (mx_cv_cat ad v) w) k
  case new ix =>
    obtain ⟨ci, p1, p2, p3, rfl, hok, e2⟩ := iv_new hh
    cases e2
    simp only [mx_ax, Bool.and_eq_true, decide_eq_true_eq] at hax
    obtain ⟨rfl, hax⟩ := hax
    exact sd_new C0 hax hdec hok hm1 hm2 k
  case newarray ty =>
    obtain ⟨t, pl, n, r, rfl, rfl, hok, z1, z2, e2⟩ := iv_newa hh
    cases e2
    have hax2 := Bool.and_eq_true_iff.mp hax
    have hl1 : len = 2 := of_decide_eq_true hax2.1
    subst hl1
    exact sd_newa C0 hax2.2 hdec hok z1 z2 hm1 hm2 k
  case anewarray ix =>
    obtain ⟨n, r, rfl, hok, z1, z2, e2⟩ := iv_newq hh
    cases e2
    have hax2 := Bool.and_eq_true_iff.mp hax
    have hl1 : len = 3 := of_decide_eq_true hax2.1
    subst hl1
    have hax3 := hax2.2
    split at hax3
    · exact sd_newq C0 hax3 hdec hok z1 z2 hm1 hm2 k
    · cases hax3
  case invokestatic ix =>
    rcases iv_cS hh with ⟨k0, dc, n, pl, p2, p3, rfl, h1⟩ | ⟨mm, pl, p2, p3, p4, x, y, r, rfl, rfl, hr8, e2⟩
    · obtain ⟨_, _, _, e2⟩ := iv_cl h1
      cases e2
    · cases e2
      simp only [mx_ax, Bool.and_eq_true, decide_eq_true_eq, Bool.or_eq_true] at hax
      obtain ⟨rfl, hax⟩ := hax
      intro ad H locs cells slots ls hag hn0 hlt hσ hP hD hS hl hLn hcc hss
      have kk := k ad H locs cells slots ls hag hn0 hlt hσ hP hD hS hl hLn hcc hss
      have hcat := mx_cat ad r
      rcases hax with ⟨⟨⟨⟨rfl, w1⟩, w2⟩, w3⟩, w4⟩ | ⟨⟨⟨⟨rfl, w1⟩, w2⟩, w3⟩, w4⟩
      · exact va_mmin hx hb (hml.trans hl.1.symm) hown (hts _ (mx_wW w1 rfl)) (hts _ (mx_wW w2 rfl)) (hts _ (mx_wW w3 rfl)) (hts _ (mx_wW w4 rfl)) (by omega) (by omega) (by omega) (by omega) hdec kk
      · exact va_mmax hx hb (hml.trans hl.1.symm) hown (hts _ (mx_wW w1 rfl)) (hts _ (mx_wW w2 rfl)) (hts _ (mx_wW w3 rfl)) (hts _ (mx_wW w4 rfl)) (by omega) (by omega) (by omega) (by omega) hdec kk
  case invokevirtual ix =>
    obtain ⟨_, _, _, _, _, _, _, _, _, _, h1⟩ := iv_cV hh
    obtain ⟨_, _, _, e2⟩ := iv_cl h1
    cases e2
  case invokespecial ix =>
    rcases iv_cI hh with ⟨_, _, _, _, _, _, _, _, _, h1⟩ | ⟨pl, cc, r, rfl, rfl, hr8, e2⟩
    · obtain ⟨_, _, _, e2⟩ := iv_cl h1
      cases e2
    · cases e2
      have hax2 := Bool.and_eq_true_iff.mp hax
      have hl1 : len = 3 := of_decide_eq_true hax2.1
      subst hl1
      have hw : mx_w pl (.methodLink q.1.cls ix objectInit) = true := hax2.2
      intro ad H locs cells slots ls hag hn0 hlt hσ hP hD hS hl hLn hcc hss
      have kk := k ad H locs cells slots ls hag hn0 hlt hσ hP hD hS hl hLn hcc hss
      have hcat := mx_cat ad st'
      exact W.objInit hx hb hown (hts _ (mx_wW hw rfl)) (hts _ (mx_wW mx_ob0 rfl)) (hts _ (mx_wW mx_ob1 rfl)) rfl (hl.1.trans hml.symm) (rest := st'.map (mx_cv ad)) rfl hdec (by omega) (by show 2 * 0 + _ + 12 ≤ _; omega) kk
  case ireturn =>
    obtain ⟨_, _, _, e2⟩ := iv_iret hh
    cases e2
  case return_ =>
    obtain ⟨_, _, e2⟩ := iv_vret hh
    cases e2
  all_goals exact absurd hh (by simp [mx_do])
