/-! calls, returns, and the whole: a run of my machine is one of the claim's; printed by wip/whole/gen10.py -/
def mx_rm (d mc ms : Nat) : Room := { frames := d + 1, cells := mc, slots := ms, locals := 60 * (d + 1) }
def mx_B (D : va_G) (g : ClassId × ClassId × ClassId) (ad : Nat → Nat) (h : mx_H) (sz : Nat) (U : State) : Prop := U.heap.size = sz ∧ va_P D vwCl (mx_ws g ad h) U.heap ∧ va_K D vwCl (mx_ty g) U ∧ va_D (fun _ => True) (mx_ws g ad h) ∧ mx_X ad h.2 (va_A (mx_ws g ad h) sz) U U.heap ∧ mx_Y U
def mx_E (D : va_G) (g : ClassId × ClassId × ClassId) (ad : Nat → Nat) (h : mx_H) (sz : Nat) (h' : mx_H) (ad' : Nat → Nat) (t : State) : Prop := va_P D vwCl (mx_ws g ad' h') t.heap ∧ va_D (va_A (mx_ws g ad h) sz) (mx_ws g ad' h')
def mx_po (ad : Nat → Nat) (h h' : mx_H) (ad' : Nat → Nat) : Prop := (∀ i, ¬ (h.1.length ≤ i ∧ i < h'.1.length) → ad' i = ad i) ∧ (∀ x, 1000 ≤ x → h'.2 x = h.2 x)
def mx_Q (D : va_G) (g : ClassId × ClassId × ClassId) (ad : Nat → Nat) (h : mx_H) (sz : Nat) (h' : mx_H) (v : Option Value) : Array Value → State → Outcome → State → Prop := match v with
  | some (.int x) => va_Qi (fun r ad' => r = x ∧ mx_po ad h h' ad') (mx_E D g ad h sz h') (va_A (mx_ws g ad h) sz)
  | _ => va_Qv (mx_po ad h h') (mx_E D g ad h sz h') (va_A (mx_ws g ad h) sz)
def mx_ri (v : Option Value) : Instr := match v with
  | none => .return_
  | some _ => .ireturn
theorem mx_do_ret {i : Instr} {aux : List Nat} {rt : Option FieldType} {d pc : Nat} {L st : List Value} {h : mx_H} {v : Option Value} (hh : mx_do i aux rt d pc L st h = some (.inr (.inr v))) : (v = none ∨ ∃ x, v = some (.int x)) ∧ mx_rok rt v ∧ (st = v.toList ∧ i = mx_ri v) := by
  cases i
  case ireturn =>
    obtain ⟨x, rfl, h1, e⟩ := iv_iret hh
    cases e
    exact ⟨Or.inr ⟨x, rfl⟩, h1, rfl, rfl⟩
  case return_ =>
    obtain ⟨rfl, h1, e⟩ := iv_vret hh
    cases e
    exact ⟨Or.inl rfl, h1, rfl, rfl⟩
  case iconst n =>
    cases hh
  case bipush n =>
    cases hh
  case sipush n =>
    cases hh
  case goto off =>
    cases hh
  case ldc ix =>
    simp only [mx_do] at hh
    split at hh <;> cases hh
  case ldc_w ix =>
    simp only [mx_do] at hh
    split at hh <;> cases hh
  case getstatic ix =>
    simp only [mx_do] at hh
    split at hh <;> cases hh
  case iload k =>
    obtain ⟨_, _, e⟩ := iv_ild hh
    cases e
  case iload_n k =>
    obtain ⟨_, _, e⟩ := iv_ild hh
    cases e
  case aload k =>
    obtain ⟨_, _, e⟩ := iv_ald hh
    cases e
  case aload_n k =>
    obtain ⟨_, _, e⟩ := iv_ald hh
    cases e
  case istore k =>
    obtain ⟨_, _, _, _, e⟩ := iv_ist hh
    cases e
  case istore_n k =>
    obtain ⟨_, _, _, _, e⟩ := iv_ist hh
    cases e
  case astore k =>
    obtain ⟨_, _, _, _, e⟩ := iv_ast hh
    cases e
  case astore_n k =>
    obtain ⟨_, _, _, _, e⟩ := iv_ast hh
    cases e
  case iinc k n =>
    obtain ⟨_, _, e⟩ := iv_inc hh
    cases e
  case iadd =>
    obtain ⟨_, _, _, _, e⟩ := iv_bin hh
    cases e
  case isub =>
    obtain ⟨_, _, _, _, e⟩ := iv_bin hh
    cases e
  case imul =>
    obtain ⟨_, _, _, _, e⟩ := iv_bin hh
    cases e
  case iand =>
    obtain ⟨_, _, _, _, e⟩ := iv_bin hh
    cases e
  case ior =>
    obtain ⟨_, _, _, _, e⟩ := iv_bin hh
    cases e
  case ixor =>
    obtain ⟨_, _, _, _, e⟩ := iv_bin hh
    cases e
  case ishl =>
    obtain ⟨_, _, _, _, e⟩ := iv_bin hh
    cases e
  case ishr =>
    obtain ⟨_, _, _, _, e⟩ := iv_bin hh
    cases e
  case iushr =>
    obtain ⟨_, _, _, _, e⟩ := iv_bin hh
    cases e
  case idiv =>
    obtain ⟨_, _, _, _, _, e⟩ := iv_dvd hh
    cases e
  case irem =>
    obtain ⟨_, _, _, _, _, e⟩ := iv_dvd hh
    cases e
  case ifCond c off =>
    obtain ⟨_, _, _, e⟩ := iv_if1 hh
    cases e
  case if_icmp c off =>
    obtain ⟨_, _, _, _, e⟩ := iv_if2 hh
    cases e
  case getfield ix =>
    obtain ⟨_, _, _, _, _, _, _, _, _, _, e⟩ := iv_gf hh
    cases e
  case iaload =>
    obtain ⟨_, _, _, _, _, e⟩ := iv_iald hh
    cases e
  case iastore =>
    obtain ⟨_, _, _, _, _, _, e⟩ := iv_iast hh
    cases e
  case baload =>
    obtain ⟨_, _, _, _, _, e⟩ := iv_zald hh
    cases e
  case bastore =>
    obtain ⟨_, _, _, _, _, _, _, e⟩ := iv_zast hh
    cases e
  case aaload =>
    obtain ⟨_, _, _, _, _, _, _, _, _, e⟩ := iv_aald hh
    cases e
  case aastore =>
    obtain ⟨_, _, _, _, _, _, _, _, _, _, e⟩ := iv_aast hh
    cases e
  case dup =>
    obtain ⟨_, _, _, e⟩ := iv_dup hh
    cases e
  case dup2 =>
    obtain ⟨_, _, _, _, e⟩ := iv_dup2 hh
    cases e
  case pop =>
    obtain ⟨_, _, _, e⟩ := iv_pop hh
    cases e
  case new ix =>
    obtain ⟨_, _, _, _, _, _, e⟩ := iv_new hh
    cases e
  case newarray ty =>
    obtain ⟨_, _, _, _, _, _, _, _, _, e⟩ := iv_newa hh
    cases e
  case anewarray ix =>
    obtain ⟨_, _, _, _, _, _, e⟩ := iv_newq hh
    cases e
  case tableswitch dflt lo hi offs =>
    obtain ⟨_, _, _, ⟨_, e⟩ | ⟨_, _, _, e⟩⟩ := iv_tsw hh <;> cases e
  case putfield ix =>
    obtain ⟨_, _, _, _, _, _, _, _, ⟨_, _, _, _, _, e⟩ | ⟨_, _, _, _, _, e⟩⟩ := iv_pf hh <;> cases e
  case arraylength =>
    obtain ⟨_, _, _, ⟨_, _, e⟩ | ⟨_, _, e⟩⟩ := iv_alen hh <;> cases e
  case invokestatic ix =>
    rcases iv_cS hh with ⟨_, _, _, _, _, _, _, h1⟩ | ⟨_, _, _, _, _, _, _, _, _, _, _, e⟩
    · obtain ⟨_, _, _, e⟩ := iv_cl h1
      cases e
    · cases e
  case invokevirtual ix =>
    obtain ⟨_, _, _, _, _, _, _, _, _, _, h1⟩ := iv_cV hh
    obtain ⟨_, _, _, e⟩ := iv_cl h1
    cases e
  case invokespecial ix =>
    rcases iv_cI hh with ⟨_, _, _, _, _, _, _, _, _, h1⟩ | ⟨_, _, _, _, _, _, e⟩
    · obtain ⟨_, _, _, e⟩ := iv_cl h1
      cases e
    · cases e
  all_goals exact absurd hh (by simp [mx_do])
def mx_iscl (i : Instr) : Bool := match i with
  | .invokestatic _ => true
  | .invokevirtual _ => true
  | .invokespecial _ => true
  | _ => false
theorem mx_do_cl {i : Instr} {aux : List Nat} {rt : Option FieldType} {d pc : Nat} {L st : List Value} {h : mx_H} {z : Nat × Nat × List Value × List Value} (hh : mx_do i aux rt d pc L st h = some (.inr (.inl z))) : mx_iscl i = true := by
  cases i
  case iconst n =>
    cases hh
  case bipush n =>
    cases hh
  case sipush n =>
    cases hh
  case goto off =>
    cases hh
  case ldc ix =>
    simp only [mx_do] at hh
    split at hh <;> cases hh
  case ldc_w ix =>
    simp only [mx_do] at hh
    split at hh <;> cases hh
  case getstatic ix =>
    simp only [mx_do] at hh
    split at hh <;> cases hh
  case iload k =>
    obtain ⟨_, _, e⟩ := iv_ild hh
    cases e
  case iload_n k =>
    obtain ⟨_, _, e⟩ := iv_ild hh
    cases e
  case aload k =>
    obtain ⟨_, _, e⟩ := iv_ald hh
    cases e
  case aload_n k =>
    obtain ⟨_, _, e⟩ := iv_ald hh
    cases e
  case istore k =>
    obtain ⟨_, _, _, _, e⟩ := iv_ist hh
    cases e
  case istore_n k =>
    obtain ⟨_, _, _, _, e⟩ := iv_ist hh
    cases e
  case astore k =>
    obtain ⟨_, _, _, _, e⟩ := iv_ast hh
    cases e
  case astore_n k =>
    obtain ⟨_, _, _, _, e⟩ := iv_ast hh
    cases e
  case iinc k n =>
    obtain ⟨_, _, e⟩ := iv_inc hh
    cases e
  case iadd =>
    obtain ⟨_, _, _, _, e⟩ := iv_bin hh
    cases e
  case isub =>
    obtain ⟨_, _, _, _, e⟩ := iv_bin hh
    cases e
  case imul =>
    obtain ⟨_, _, _, _, e⟩ := iv_bin hh
    cases e
  case iand =>
    obtain ⟨_, _, _, _, e⟩ := iv_bin hh
    cases e
  case ior =>
    obtain ⟨_, _, _, _, e⟩ := iv_bin hh
    cases e
  case ixor =>
    obtain ⟨_, _, _, _, e⟩ := iv_bin hh
    cases e
  case ishl =>
    obtain ⟨_, _, _, _, e⟩ := iv_bin hh
    cases e
  case ishr =>
    obtain ⟨_, _, _, _, e⟩ := iv_bin hh
    cases e
  case iushr =>
    obtain ⟨_, _, _, _, e⟩ := iv_bin hh
    cases e
  case idiv =>
    obtain ⟨_, _, _, _, _, e⟩ := iv_dvd hh
    cases e
  case irem =>
    obtain ⟨_, _, _, _, _, e⟩ := iv_dvd hh
    cases e
  case ifCond c off =>
    obtain ⟨_, _, _, e⟩ := iv_if1 hh
    cases e
  case if_icmp c off =>
    obtain ⟨_, _, _, _, e⟩ := iv_if2 hh
    cases e
  case getfield ix =>
    obtain ⟨_, _, _, _, _, _, _, _, _, _, e⟩ := iv_gf hh
    cases e
  case iaload =>
    obtain ⟨_, _, _, _, _, e⟩ := iv_iald hh
    cases e
  case iastore =>
    obtain ⟨_, _, _, _, _, _, e⟩ := iv_iast hh
    cases e
  case baload =>
    obtain ⟨_, _, _, _, _, e⟩ := iv_zald hh
    cases e
  case bastore =>
    obtain ⟨_, _, _, _, _, _, _, e⟩ := iv_zast hh
    cases e
  case aaload =>
    obtain ⟨_, _, _, _, _, _, _, _, _, e⟩ := iv_aald hh
    cases e
  case aastore =>
    obtain ⟨_, _, _, _, _, _, _, _, _, _, e⟩ := iv_aast hh
    cases e
  case dup =>
    obtain ⟨_, _, _, e⟩ := iv_dup hh
    cases e
  case dup2 =>
    obtain ⟨_, _, _, _, e⟩ := iv_dup2 hh
    cases e
  case pop =>
    obtain ⟨_, _, _, e⟩ := iv_pop hh
    cases e
  case new ix =>
    obtain ⟨_, _, _, _, _, _, e⟩ := iv_new hh
    cases e
  case newarray ty =>
    obtain ⟨_, _, _, _, _, _, _, _, _, e⟩ := iv_newa hh
    cases e
  case anewarray ix =>
    obtain ⟨_, _, _, _, _, _, e⟩ := iv_newq hh
    cases e
  case tableswitch dflt lo hi offs =>
    obtain ⟨_, _, _, ⟨_, e⟩ | ⟨_, _, _, e⟩⟩ := iv_tsw hh <;> cases e
  case putfield ix =>
    obtain ⟨_, _, _, _, _, _, _, _, ⟨_, _, _, _, _, e⟩ | ⟨_, _, _, _, _, e⟩⟩ := iv_pf hh <;> cases e
  case arraylength =>
    obtain ⟨_, _, _, ⟨_, _, e⟩ | ⟨_, _, e⟩⟩ := iv_alen hh <;> cases e
  case ireturn =>
    obtain ⟨_, _, _, e⟩ := iv_iret hh
    cases e
  case return_ =>
    obtain ⟨_, _, e⟩ := iv_vret hh
    cases e
  case invokestatic ix =>
    rfl
  case invokevirtual ix =>
    rfl
  case invokespecial ix =>
    rfl
  all_goals exact absurd hh (by simp [mx_do])
theorem mx_inn0 : mx_hd.all (fun q => decide (q.1.name ≠ "<init>") || decide (q.2.2.2.1 = none)) = true := by decide +kernel
theorem mx_inn {k : Nat} {q : mx_HD} (h : mx_hd[k]? = some q) (hn : q.1.name = "<init>") : q.2.2.2.1 = none := by
  have h1 := List.all_eq_true.mp mx_inn0 q (List.mem_of_getElem? h)
  simp only [Bool.or_eq_true, decide_eq_true_eq] at h1
  exact h1.elim (fun z => absurd hn z) id
def mx_Ret (p : Program) (l : Launch) (e : Env) (R : Room) (s : State) (m : MethodId) (args : Array Value) (below : List Frame) (meth : Method) (c : Code) (Q : State → Prop) (A : Nat → Prop) (D : va_G) (g : ClassId × ClassId × ClassId) (q : mx_HD) (ad0 : Nat → Nat) (σ0 : mx_S) (n0 mc ms : Nat) (h2 : mx_H) (v : Option Value) : Prop := ∀ (pc : Nat) (ls : Array Slot) (ad : Nat → Nat) (H : Heap) (locs : List Loc), decode q.2.1 pc = .ok (mx_ri v, 1) → mx_rok q.2.2.2.1 v → (∀ i, ¬ (n0 ≤ i ∧ i < h2.1.length) → ad i = ad0 i) → (∀ x, 1000 ≤ x → h2.2 x = σ0 x) → va_P D vwCl (mx_ws g ad h2) H → va_D A (mx_ws g ad h2) → va_S A s.heap H locs → W p l e R s m args below meth c H locs mc ms Q (F0 m pc ls ((v.map (mx_cv ad)).toList))
def mx_F (l : Launch) (D : va_G) (g : ClassId × ClassId × ClassId) (n : Nat) : Prop := ∀ (d j pc : Nat) (L st : List Value) (h : mx_H) (v : Option Value) (h2 : mx_H), mx_ev n d j pc L st h = some (v, h2) → ∀ {p : Program} {e : Env} {R : Room} {s : State} {m : MethodId} {args : Array Value} {below : List Frame} {meth : Method} {c : Code} {Q : State → Prop} {A : Nat → Prop} {q : mx_HD} {ad0 : Nat → Nat} {σ0 : mx_S} {n0 mc ms : Nat}, mx_hd[j]? = some q → mx_T p R s m args meth c A D g q ad0 σ0 mc ms d → mx_Ret p l e R s m args below meth c Q A D g q ad0 σ0 n0 mc ms h2 v → mx_G p l e R s m args below meth c Q A D g q ad0 σ0 n0 mc ms h2 pc L st h
