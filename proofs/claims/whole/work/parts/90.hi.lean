/-! what lies outside stays as it is -/
def mx_hi (h : mx_H) (o : mx_N) : Prop := ∀ (pc' : Nat) (L' st' : List Value) (h' : mx_H), o = .inl (pc', L', st', h') → h.1.length < 1000 → ∀ x, 1000 ≤ x → h'.2 x = h.2 x
theorem mx_hi_same {h : mx_H} {pc : Nat} {L st : List Value} {sh : List mx_C} : mx_hi h (.inl (pc, L, st, (sh, h.2))) := by
  intro pc' L' st' h' e
  cases e
  exact fun _ _ _ => rfl
theorem mx_hi_up {h : mx_H} {pc : Nat} {L st : List Value} {sh : List mx_C} {c k : Nat} {v : Int32} (hc : c < h.1.length) : mx_hi h (.inl (pc, L, st, (sh, mx_up h.2 c k v))) := by
  intro pc' L' st' h' e
  cases e
  exact fun hl x hx => mx_up_nn (by omega)
theorem mx_hi_app {h : mx_H} {pc : Nat} {L st : List Value} {sh : List mx_C} (hl : h.1.length < 900) : mx_hi h (.inl (pc, L, st, (sh, mx_zr h.2 h.1.length))) := by
  intro pc' L' st' h' e
  cases e
  intro _ x hx
  show mx_zr h.2 h.1.length x = h.2 x
  unfold mx_zr
  rw [if_neg (by omega)]
theorem mx_hi_r {h : mx_H} {z : (Nat × Nat × List Value × List Value) ⊕ Option Value} : mx_hi h (.inr z) := by
  intro pc' L' st' h' e
  cases e
set_option maxHeartbeats 4000000 in
theorem mx_do_hi {i : Instr} {aux : List Nat} {rt : Option FieldType} {d pc : Nat} {L st : List Value} {h : mx_H} {o : mx_N} (hh : mx_do i aux rt d pc L st h = some o) : mx_hi h o := by
  cases i
  case iconst n =>
    have hh : some _ = some o := hh
    cases hh
    exact mx_hi_same
  case bipush n =>
    have hh : some _ = some o := hh
    cases hh
    exact mx_hi_same
  case sipush n =>
    have hh : some _ = some o := hh
    cases hh
    exact mx_hi_same
  case goto off =>
    have hh : some _ = some o := hh
    cases hh
    exact mx_hi_same
  case ldc ix =>
    simp only [mx_do] at hh
    split at hh
    · cases hh
      exact mx_hi_same
    · cases hh
  case ldc_w ix =>
    simp only [mx_do] at hh
    split at hh
    · cases hh
      exact mx_hi_same
    · cases hh
  case getstatic ix =>
    simp only [mx_do] at hh
    split at hh
    · cases hh
      exact mx_hi_same
    · cases hh
  case iload k =>
    obtain ⟨_, _, rfl⟩ := iv_ild hh
    exact mx_hi_same
  case iload_n k =>
    obtain ⟨_, _, rfl⟩ := iv_ild hh
    exact mx_hi_same
  case aload k =>
    obtain ⟨_, _, rfl⟩ := iv_ald hh
    exact mx_hi_same
  case aload_n k =>
    obtain ⟨_, _, rfl⟩ := iv_ald hh
    exact mx_hi_same
  case istore k =>
    obtain ⟨_, _, _, _, rfl⟩ := iv_ist hh
    exact mx_hi_same
  case istore_n k =>
    obtain ⟨_, _, _, _, rfl⟩ := iv_ist hh
    exact mx_hi_same
  case astore k =>
    obtain ⟨_, _, _, _, rfl⟩ := iv_ast hh
    exact mx_hi_same
  case astore_n k =>
    obtain ⟨_, _, _, _, rfl⟩ := iv_ast hh
    exact mx_hi_same
  case iinc k n =>
    obtain ⟨_, _, rfl⟩ := iv_inc hh
    exact mx_hi_same
  case iadd =>
    obtain ⟨_, _, _, _, rfl⟩ := iv_bin hh
    exact mx_hi_same
  case isub =>
    obtain ⟨_, _, _, _, rfl⟩ := iv_bin hh
    exact mx_hi_same
  case imul =>
    obtain ⟨_, _, _, _, rfl⟩ := iv_bin hh
    exact mx_hi_same
  case iand =>
    obtain ⟨_, _, _, _, rfl⟩ := iv_bin hh
    exact mx_hi_same
  case ior =>
    obtain ⟨_, _, _, _, rfl⟩ := iv_bin hh
    exact mx_hi_same
  case ixor =>
    obtain ⟨_, _, _, _, rfl⟩ := iv_bin hh
    exact mx_hi_same
  case ishl =>
    obtain ⟨_, _, _, _, rfl⟩ := iv_bin hh
    exact mx_hi_same
  case ishr =>
    obtain ⟨_, _, _, _, rfl⟩ := iv_bin hh
    exact mx_hi_same
  case iushr =>
    obtain ⟨_, _, _, _, rfl⟩ := iv_bin hh
    exact mx_hi_same
  case idiv =>
    obtain ⟨_, _, _, _, _, rfl⟩ := iv_dvd hh
    exact mx_hi_same
  case irem =>
    obtain ⟨_, _, _, _, _, rfl⟩ := iv_dvd hh
    exact mx_hi_same
  case ifCond c off =>
    obtain ⟨_, _, _, rfl⟩ := iv_if1 hh
    exact mx_hi_same
  case if_icmp c off =>
    obtain ⟨_, _, _, _, rfl⟩ := iv_if2 hh
    exact mx_hi_same
  case tableswitch dflt lo hi offs =>
    obtain ⟨_, _, _, ⟨_, rfl⟩ | ⟨_, _, _, rfl⟩⟩ := iv_tsw hh
    · exact mx_hi_same
    · exact mx_hi_same
  case getfield ix =>
    obtain ⟨_, _, _, _, _, _, _, _, _, _, rfl⟩ := iv_gf hh
    exact mx_hi_same
  case putfield ix =>
    obtain ⟨_, _, _, _, _, _, _, _, ⟨_, _, _, hI, _, rfl⟩ | ⟨_, _, _, _, hs, rfl⟩⟩ := iv_pf hh
    · obtain ⟨fs, h1, -⟩ := iv_isI hI
      exact mx_hi_up (mx_lt h1)
    · obtain ⟨fs, h1, h2, rfl⟩ := iv_setR hs
      exact mx_hi_same
  case iaload =>
    obtain ⟨_, _, _, _, _, rfl⟩ := iv_iald hh
    exact mx_hi_same
  case iastore =>
    obtain ⟨_, _, _, _, _, hI, rfl⟩ := iv_iast hh
    exact mx_hi_up (mx_lt (iv_lenW rfl (iv_in hI).2))
  case baload =>
    obtain ⟨_, _, _, _, _, rfl⟩ := iv_zald hh
    exact mx_hi_same
  case bastore =>
    obtain ⟨_, _, _, _, _, hI, _, rfl⟩ := iv_zast hh
    exact mx_hi_up (mx_lt (iv_lenW rfl (iv_in hI).2))
  case aaload =>
    obtain ⟨_, _, _, _, _, _, _, _, _, rfl⟩ := iv_aald hh
    exact mx_hi_same
  case aastore =>
    obtain ⟨_, _, _, _, _, _, _, _, h1, _, rfl⟩ := iv_aast hh
    exact mx_hi_same
  case arraylength =>
    obtain ⟨_, _, _, ⟨_, _, rfl⟩ | ⟨_, _, rfl⟩⟩ := iv_alen hh
    · exact mx_hi_same
    · exact mx_hi_same
  case dup =>
    obtain ⟨_, _, _, rfl⟩ := iv_dup hh
    exact mx_hi_same
  case dup2 =>
    obtain ⟨_, _, _, _, rfl⟩ := iv_dup2 hh
    exact mx_hi_same
  case pop =>
    obtain ⟨_, _, _, rfl⟩ := iv_pop hh
    exact mx_hi_same
  case new ix =>
    obtain ⟨_, _, _, _, _, h1, rfl⟩ := iv_new hh
    exact mx_hi_app (mx_ok1_lt h1).1
  case newarray ty =>
    obtain ⟨_, _, _, _, _, _, h1, _, _, rfl⟩ := iv_newa hh
    exact mx_hi_app (mx_ok1_lt h1).1
  case anewarray ix =>
    obtain ⟨_, _, _, h1, _, _, rfl⟩ := iv_newq hh
    exact mx_hi_app (mx_ok1_lt h1).1
  case invokestatic ix =>
    rcases iv_cS hh with ⟨_, _, _, _, _, _, _, h1⟩ | ⟨_, _, _, _, _, _, _, _, _, _, _, rfl⟩
    · obtain ⟨_, _, _, rfl⟩ := iv_cl h1
      exact mx_hi_r
    · exact mx_hi_same
  case invokevirtual ix =>
    obtain ⟨_, _, _, _, _, _, _, _, _, _, h1⟩ := iv_cV hh
    obtain ⟨_, _, _, rfl⟩ := iv_cl h1
    exact mx_hi_r
  case invokespecial ix =>
    rcases iv_cI hh with ⟨_, _, _, _, _, _, _, _, _, h1⟩ | ⟨_, _, _, _, _, _, rfl⟩
    · obtain ⟨_, _, _, rfl⟩ := iv_cl h1
      exact mx_hi_r
    · exact mx_hi_same
  case ireturn =>
    obtain ⟨_, _, _, rfl⟩ := iv_iret hh
    exact mx_hi_r
  case return_ =>
    obtain ⟨_, _, rfl⟩ := iv_vret hh
    exact mx_hi_r
  all_goals exact absurd hh (by simp [mx_do])
theorem mx_ev_hi : ∀ (n d j pc : Nat) (L st : List Value) (h : mx_H) (v : Option Value) (h2 : mx_H), mx_ev n d j pc L st h = some (v, h2) → h.1.length < 1000 → ∀ x, 1000 ≤ x → h2.2 x = h.2 x := by
  intro n
  induction n with
  | zero => intro d j pc L st h v h2 hr; simp [mx_ev] at hr
  | succ n ih =>
    intro d j pc L st h v h2 hr hl
    rw [mx_ev] at hr
    cases hs : mx_st d j pc L st h with
    | none => rw [hs] at hr; simp at hr
    | some o =>
      rw [hs] at hr
      obtain ⟨q, i, len, aux, -, -, hd⟩ := iv_st hs
      have hg := mx_do_gr hd
      have hk := mx_do_hi hd
      match o, hr, hg, hk with
      | .inl (pc', L', st', h'), hr, hg, hk =>
        have g := hg pc' L' st' h' rfl
        have k := hk pc' L' st' h' rfl hl
        have h1 := ih _ _ _ _ _ _ _ _ hr (g.2.2.1 hl)
        exact fun x hx => (h1 x hx).trans (k x hx)
      | .inr (.inl (d', k, as, rest)), hr, _, _ =>
        dsimp only at hr
        cases hc : mx_ev n d' k 0 (mx_en k as) [] h with
        | none => rw [hc] at hr; simp at hr
        | some r =>
          rw [hc] at hr
          obtain ⟨v', h'⟩ := r
          dsimp only at hr
          by_cases hf : mx_fr h.1.length h'.1.length L rest = true
          · rw [if_pos hf] at hr
            have h2 := ih _ _ _ _ _ _ _ _ hc hl
            have h1 := ih _ _ _ _ _ _ _ _ hr ((mx_ev_gr _ _ _ _ _ _ _ _ _ hc).2.2 hl)
            exact fun x hx => (h1 x hx).trans (h2 x hx)
          · rw [if_neg hf] at hr
            cases hr
      | .inr (.inr w), hr, _, _ =>
        have hr : some (w, h) = some (v, h2) := hr
        cases hr
        exact fun _ _ => rfl
theorem vv_hi {d j pc : Nat} {L st : List Value} {h : mx_H} {v : Option Value} {h2 : mx_H} (hr : vv d j pc L st h = some (v, h2)) (hl : h.1.length < 1000) : ∀ x, 1000 ≤ x → h2.2 x = h.2 x := by
  obtain ⟨n, hn⟩ := vv_iff.mp hr
  exact mx_ev_hi _ _ _ _ _ _ _ _ _ hn hl
