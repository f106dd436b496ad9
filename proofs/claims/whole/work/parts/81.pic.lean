/-! the picture in the kit's worlds -/
def mx_cv (ad : Nat → Nat) (v : Value) : Value := match v with
  | .int x => .int x
  | .ref i => .ref (ad i)
  | _ => .null
def mx_fv (ad : Nat → Nat) (f : Nat → Int32) (k : Nat) (o : Option (Option Nat)) : Value := match o with
  | none => .int (f k)
  | some none => .null
  | some (some r) => .ref (ad r)
def mx_cE (g : ClassId × ClassId × ClassId) (ad : Nat → Nat) (q : mx_C) (f : Nat → Int32) : va_E := match q with
  | .inl (ci, fs) => .inr (ci, fs.mapIdx (mx_fv ad f))
  | .inr (.inl (t, n)) => .inl (if t = 0 then g.1 else g.2.1, n, .inl f)
  | .inr (.inr l) => .inl (g.2.2, l.length, .inr (.inr (.inr (.inr (fun k => (l[k]?.getD none).map ad)))))
def mx_ws (g : ClassId × ClassId × ClassId) (ad : Nat → Nat) (h : mx_H) : va_W := h.1.mapIdx (fun c q => (ad c, mx_cE g ad q (h.2 c)))
abbrev mx_ty (g : ClassId × ClassId × ClassId) : List (ClassId × FieldType) := [(g.1, .int), (g.2.1, .boolean), (g.2.2, .object "MainsLetters$Station")]
theorem mx_ws_at {g : ClassId × ClassId × ClassId} {ad : Nat → Nat} {h : mx_H} {c : Nat} {q : mx_C} (hq : h.1[c]? = some q) : (mx_ws g ad h)[c]? = some (ad c, mx_cE g ad q (h.2 c)) := by
  simp [mx_ws, List.getElem?_mapIdx, hq]
theorem mx_lt {α : Type} {l : List α} {c : Nat} {q : α} (hq : l[c]? = some q) : c < l.length := (List.getElem?_eq_some_iff.mp hq).1
theorem mx_set {g : ClassId × ClassId × ClassId} {ad : Nat → Nat} {h h' : mx_H} {c : Nat} {E : va_E} (q : mx_C) (hc : c < h.1.length) (h1 : h'.1 = h.1.set c q) (h2 : ∀ c', c' ≠ c → h'.2 c' = h.2 c') (hE : mx_cE g ad q (h'.2 c) = E) : (mx_ws g ad h).set c (ad c, E) = mx_ws g ad h' := by
  apply List.ext_getElem?
  intro i
  simp only [mx_ws, h1, List.getElem?_set, List.getElem?_mapIdx, List.length_mapIdx]
  by_cases e : c = i
  · subst e
    simp [hc, hE]
  · simp only [if_neg e, h2 i (Ne.symm e)]
theorem mx_set_self {α : Type} {l : List α} {c : Nat} {q : α} (hq : l[c]? = some q) : l = l.set c q := by
  apply List.ext_getElem?
  intro i
  rw [List.getElem?_set]
  by_cases e : c = i
  · subst e
    rw [if_pos rfl, if_pos (mx_lt hq), hq]
  · rw [if_neg e]
theorem mx_up_ne {σ : mx_S} {c k c' : Nat} {x : Int32} (h : c' ≠ c) : mx_up σ c k x c' = σ c' := by simp [mx_up, h]
theorem mx_up_self {σ : mx_S} {c k : Nat} {x : Int32} : mx_up σ c k x c = upd (σ c) k x := by simp [mx_up]
theorem mx_fv_upd {ad : Nat → Nat} {f : Nat → Int32} {fs : List (Option (Option Nat))} {k : Nat} {x : Int32} (hk : fs[k]? = some none) : fs.mapIdx (mx_fv ad (upd f k x)) = (fs.mapIdx (mx_fv ad f)).set k (.int x) := by
  apply List.ext_getElem?
  intro i
  simp only [List.getElem?_mapIdx, List.getElem?_set, List.length_mapIdx]
  by_cases e : k = i
  · subst e
    rw [if_pos rfl, if_pos (mx_lt hk), hk]
    simp [mx_fv, upd]
  · simp only [if_neg e]
    cases hi : fs[i]? with
    | none => rfl
    | some o =>
      cases o with
      | none => simp [mx_fv, upd, Ne.symm e]
      | some r => cases r <;> simp [mx_fv]
theorem mx_fv_ref {ad : Nat → Nat} {f : Nat → Int32} {fs : List (Option (Option Nat))} {k r : Nat} : (fs.set k (some (some r))).mapIdx (mx_fv ad f) = (fs.mapIdx (mx_fv ad f)).set k (.ref (ad r)) := by
  apply List.ext_getElem?
  intro i
  simp only [List.getElem?_mapIdx, List.getElem?_set, List.length_mapIdx]
  by_cases e : k = i
  · subst e
    by_cases hk : k < fs.length <;> simp [hk, mx_fv]
  · simp only [if_neg e]
/-- a new cell -/
def mx_ad (ad : Nat → Nat) (n q : Nat) : Nat → Nat := fun i => if i = n then q else ad i
theorem mx_fr1 {n i : Nat} (h : (!(decide (n ≤ i) && decide (i < n + 1))) = true) : i ≠ n := by
  intro e
  subst e
  simp at h
theorem mx_cE_ad {g : ClassId × ClassId × ClassId} {ad ad' : Nat → Nat} {lo hi : Nat} {q : mx_C} {f : Nat → Int32} (hq : mx_frC lo hi q = true) (ha : ∀ i, ¬ (lo ≤ i ∧ i < hi) → ad' i = ad i) : mx_cE g ad' q f = mx_cE g ad q f := by
  have key : ∀ i, (!(decide (lo ≤ i) && decide (i < hi))) = true → ad' i = ad i := fun i h => ha i (fun e => by simp [e.1, e.2] at h)
  match q, hq with
  | .inl (ci, fs), hq =>
    simp only [mx_cE, mx_frC, List.all_eq_true] at hq ⊢
    congr 2
    apply List.ext_getElem?
    intro i
    simp only [List.getElem?_mapIdx]
    cases hi : fs[i]? with
    | none => rfl
    | some o =>
      have h1 := hq o (List.mem_of_getElem? hi)
      cases o with
      | none => rfl
      | some r =>
        cases r with
        | none => rfl
        | some r => simp [mx_fv, key r (by simpa [mx_frO] using h1)]
  | .inr (.inl (t, n)), _ => rfl
  | .inr (.inr l), hq =>
    simp only [mx_cE, mx_frC, List.all_eq_true] at hq ⊢
    have e : (fun k : Nat => Option.map ad' (l[k]?.getD none)) = (fun k : Nat => Option.map ad (l[k]?.getD none)) := by
      funext k
      cases hk : l[k]? with
      | none => rfl
      | some o =>
        have h1 := hq o (List.mem_of_getElem? hk)
        cases o with
        | none => rfl
        | some r => simp [key r (by simpa [mx_frO] using h1)]
    rw [e]
theorem mx_ws_new {g : ClassId × ClassId × ClassId} {ad : Nat → Nat} {h : mx_H} {a : Nat} {E : va_E} (q : mx_C) (hf : h.1.all (mx_frC h.1.length (h.1.length + 1)) = true) (hE : mx_cE g (mx_ad ad h.1.length a) q (fun _ => 0) = E) : mx_ws g ad h ++ [(a, E)] = mx_ws g (mx_ad ad h.1.length a) (h.1 ++ [q], mx_zr h.2 h.1.length) := by
  have had : ∀ i, ¬ (h.1.length ≤ i ∧ i < h.1.length + 1) → mx_ad ad h.1.length a i = ad i := fun i hi => by
    unfold mx_ad
    rw [if_neg (fun e => hi (by omega))]
  apply List.ext_getElem?
  intro i
  simp only [mx_ws, List.getElem?_mapIdx, List.getElem?_append, List.length_mapIdx]
  by_cases hi : i < h.1.length
  · rw [if_pos hi, if_pos hi]
    cases hq : h.1[i]? with
    | none => rfl
    | some x =>
      have h1 := List.all_eq_true.mp hf x (List.mem_of_getElem? hq)
      simp only [Option.map_some, Option.some.injEq, Prod.mk.injEq]
      refine ⟨(had i (by omega)).symm, ?_⟩
      rw [mx_cE_ad h1 had]
      simp [mx_zr, Nat.ne_of_lt hi]
  · rw [if_neg hi, if_neg hi]
    by_cases e : i = h.1.length
    · subst e
      simp [mx_ad, mx_zr, ← hE]
    · have : i - h.1.length = (i - h.1.length - 1) + 1 := by omega
      rw [this]
      rfl
/-! the locals -/
def mx_kv (ad : Nat → Nat) (v : Value) : Option Value := match v with
  | .int x => some (.int x)
  | .ref i => some (.ref (ad i))
  | _ => none
theorem mx_kv_cv {ad : Nat → Nat} {v w : Value} (h : mx_kv ad v = some w) : w = mx_cv ad v ∧ w.category = 1 := by
  cases v <;> simp [mx_kv] at h <;> subst h <;> exact ⟨rfl, rfl⟩
theorem mx_cv_cat (ad : Nat → Nat) (v : Value) : (mx_cv ad v).category = 1 := by cases v <;> rfl
def mx_lv (ad : Nat → Nat) (L : List Value) : List (Nat × Value) := (List.range L.length).filterMap (fun k => (L[k]?.bind (mx_kv ad)).map (fun w => (k, w)))
theorem mx_lv_of {ad : Nat → Nat} {L : List Value} {k : Nat} {v w : Value} (h : L[k]? = some v) (hk : mx_kv ad v = some w) : (k, w) ∈ mx_lv ad L := by
  unfold mx_lv
  rw [List.mem_filterMap]
  exact ⟨k, List.mem_range.mpr (mx_lt h), by simp [h, hk]⟩
theorem mx_lv_to {ad : Nat → Nat} {L : List Value} {k : Nat} {w : Value} (h : (k, w) ∈ mx_lv ad L) : ∃ v, L[k]? = some v ∧ mx_kv ad v = some w := by
  unfold mx_lv at h
  rw [List.mem_filterMap] at h
  obtain ⟨i, -, hi⟩ := h
  cases hL : L[i]? with
  | none => rw [hL] at hi; simp at hi
  | some v =>
    rw [hL] at hi
    cases hv : mx_kv ad v with
    | none => simp [hv] at hi
    | some u =>
      simp [hv] at hi
      obtain ⟨rfl, rfl⟩ := hi
      exact ⟨v, hL, hv⟩
theorem mx_ld {ad : Nat → Nat} {L : List Value} {ls : Array Slot} {nL k : Nat} {v w : Value} (hl : lv_has ls nL (mx_lv ad L)) (h : L[k]? = some v) (hk : mx_kv ad v = some w) : ls[k]? = some (.val w) := hl.2.2 (k, w) (mx_lv_of h hk)
theorem mx_sto {ad : Nat → Nat} {L : List Value} {ls : Array Slot} {nL i : Nat} {v w : Value} (hk : mx_kv ad v = some w) (h : lv_has ls nL ((i, w) :: (mx_lv ad L).filter (fun q => !(q.1 == i) && !(q.1 + 1 == i && q.2.category == 2)))) : lv_has ls nL (mx_lv ad (L.set i v)) := by
  refine ⟨h.1, h.2.1, fun q hq => h.2.2 q ?_⟩
  obtain ⟨k, u⟩ := q
  obtain ⟨v', h1, h2⟩ := mx_lv_to hq
  rw [List.getElem?_set] at h1
  by_cases e : i = k
  · subst e
    rw [if_pos rfl] at h1
    by_cases hl : i < L.length
    · rw [if_pos hl] at h1
      cases h1
      rw [hk] at h2
      cases h2
      exact List.mem_cons_self
    · rw [if_neg hl] at h1
      cases h1
  · rw [if_neg e] at h1
    refine List.mem_cons_of_mem _ (List.mem_filter.mpr ⟨mx_lv_of h1 h2, ?_⟩)
    have hc := (mx_kv_cv h2).2
    have : (k == i) = false := by simp [Ne.symm e]
    simp [this, hc]
theorem mx_frV_ad {ad ad' : Nat → Nat} {lo hi : Nat} {v : Value} (h : mx_frV lo hi v = true) (ha : ∀ i, ¬ (lo ≤ i ∧ i < hi) → ad' i = ad i) : mx_cv ad' v = mx_cv ad v ∧ mx_kv ad' v = mx_kv ad v := by
  cases v with
  | ref i =>
    have : ad' i = ad i := ha i (fun e => by simp [mx_frV, e.1, e.2] at h)
    simp [mx_cv, mx_kv, this]
  | _ => exact ⟨rfl, rfl⟩
theorem mx_lv_ad {ad ad' : Nat → Nat} {lo hi : Nat} {L : List Value} (h : L.all (mx_frV lo hi) = true) (ha : ∀ i, ¬ (lo ≤ i ∧ i < hi) → ad' i = ad i) : mx_lv ad' L = mx_lv ad L := by
  unfold mx_lv
  congr 1
  funext k
  cases hk : L[k]? with
  | none => rfl
  | some v => simp [(mx_frV_ad (List.all_eq_true.mp h v (List.mem_of_getElem? hk)) ha).2]
theorem mx_st_ad {ad ad' : Nat → Nat} {lo hi : Nat} {st : List Value} (h : st.all (mx_frV lo hi) = true) (ha : ∀ i, ¬ (lo ≤ i ∧ i < hi) → ad' i = ad i) : st.map (mx_cv ad') = st.map (mx_cv ad) := by
  apply List.map_congr_left
  intro v hv
  exact (mx_frV_ad (List.all_eq_true.mp h v hv) ha).1
theorem mx_cat (ad : Nat → Nat) (st : List Value) : ((st.map (mx_cv ad)).map fun v => v.category).sum = st.length := by
  induction st with
  | nil => rfl
  | cons v st ih =>
    simp only [List.map_cons, List.sum_cons, List.length_cons, mx_cv_cat, ih]
    omega
theorem mx_sl (vs : List Value) (h : ∀ v ∈ vs, v.category = 1) : (lg_sl vs).length = vs.length := by
  induction vs with
  | nil => rfl
  | cons v vs ih =>
    have h1 : ¬ v.category = 2 := by rw [h v List.mem_cons_self]; decide
    have h2 := ih (fun w hw => h w (List.mem_cons_of_mem _ hw))
    unfold lg_sl at h2 ⊢
    rw [List.flatMap_cons, List.length_append, h2, if_neg h1]
    simp
    omega
theorem mx_args (vs : List Value) (h : ∀ v ∈ vs, v.category = 1) : ∀ (i k : Nat) (v : Value), vs[k]? = some v → (i + k, v) ∈ lv_args i vs := by
  induction vs with
  | nil => intro i k v hk; simp at hk
  | cons w vs ih =>
    intro i k v hk
    have h1 : ¬ w.category = 2 := by rw [h w List.mem_cons_self]; decide
    unfold lv_args
    rw [if_neg h1]
    cases k with
    | zero =>
      simp at hk
      subst hk
      exact List.mem_cons_self
    | succ k =>
      have h2 := ih (fun w hw => h w (List.mem_cons_of_mem _ hw)) (i + 1) k v (by simpa using hk)
      rw [show i + (k + 1) = i + 1 + k by omega]
      exact List.mem_cons_of_mem _ h2
theorem mx_entry {ad : Nat → Nat} {as : List Value} {n m : Nat} {ls : Array Slot} (h : lv_has ls n (lv_args 0 (as.map (mx_cv ad)))) : lv_has ls n (mx_lv ad (as ++ List.replicate m .null)) := by
  refine ⟨h.1, h.2.1, fun q hq => h.2.2 q ?_⟩
  obtain ⟨k, u⟩ := q
  obtain ⟨v, h1, h2⟩ := mx_lv_to hq
  have hk : k < as.length := by
    rcases Nat.lt_or_ge k as.length with z | z
    · exact z
    · rw [List.getElem?_append_right z] at h1
      have := List.eq_of_mem_replicate (List.mem_of_getElem? h1)
      subst this
      cases h2
  rw [List.getElem?_append_left hk] at h1
  have h3 := mx_args (as.map (mx_cv ad)) (fun v hv => by
    obtain ⟨w, -, rfl⟩ := List.mem_map.mp hv
    exact mx_cv_cat ad w) 0 k (mx_cv ad v) (by rw [List.getElem?_map, h1]; rfl)
  rw [(mx_kv_cv h2).1]
  simpa using h3
/-! sizes -/
def mx_cz (q : mx_C) : Nat := match q with
  | .inl (_, fs) => fs.length
  | .inr (.inl (_, n)) => n
  | .inr (.inr l) => l.length
def mx_sz (sh : List mx_C) : Nat := (sh.map mx_cz).sum
theorem mx_sz_app (sh : List mx_C) (q : mx_C) : mx_sz (sh ++ [q]) = mx_sz sh + mx_cz q := by simp [mx_sz]
theorem mx_sz_set : ∀ {sh : List mx_C} {c : Nat} {q q' : mx_C}, sh[c]? = some q → mx_cz q' = mx_cz q → mx_sz (sh.set c q') = mx_sz sh := by
  intro sh
  induction sh with
  | nil => intro c q q' h; simp at h
  | cons a sh ih =>
    intro c q q' h hz
    cases c with
    | zero =>
      simp at h
      subst h
      simp [mx_sz, hz]
    | succ c =>
      have := ih (c := c) (q := q) (q' := q') (by simpa using h) hz
      simp only [mx_sz] at this
      simp only [mx_sz, List.set_cons_succ, List.map_cons, List.sum_cons, this]
