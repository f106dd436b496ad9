/-! what holds between the class and the reference between calls -/
def CC (σ : mx_S) : Prop := (∀ i, i < 6 → σ 29 i = σ (13 + i) 0 ∧ σ 30 i = σ (13 + i) 1 ∧ σ 31 i = σ (13 + i) 2 ∧ σ 32 i = σ (13 + i) 3 ∧ σ 33 i = σ (13 + i) 4 ∧ σ 34 i = σ (13 + i) 5 ∧ σ 35 i = σ (13 + i) 6 ∧ σ 36 i = σ (13 + i) 7 ∧ σ 37 i = σ (13 + i) 8 ∧ σ 38 i = σ (13 + i) 9 ∧ σ 39 i = σ (13 + i) 10 ∧ σ 40 i = σ (13 + i) 11) ∧ (σ 23 6 = σ 11 2 ∧ σ 23 19 = σ 11 3 ∧ σ 23 20 = σ 11 5 ∧ σ 11 4 = sm (fun i => σ 38 i) 6 ∧ σ 11 6 = sm (fun i => σ 39 i) 6) ∧ (∀ i, i < 6 → (∃ p, p ≤ 2 ∧ σ (13 + i) 0 = nI p) ∧ (∃ t, t < 6 ∧ σ (13 + i) 1 = nI t) ∧ (∃ r, r < 4 ∧ σ (13 + i) 2 = nI r) ∧ (∃ n, n ≤ 400 ∧ σ (13 + i) 3 = nI n ∧ (¬ σ (13 + i) 0 = nI 0 → 0 < n)) ∧ (∃ t, t < 4 ∧ σ (13 + i) 4 = nI t) ∧ (∃ n, n < 65536 ∧ σ (13 + i) 5 = nI n) ∧ (∃ b, σ (13 + i) 8 = bI b))
def XW (σ : mx_S) : Prop := (σ 2000 0 = nI 4 ∧ σ 2000 1 = nI 4 ∧ σ 2000 2 = nI 4) ∧ (σ 1000 0 = nI 8 ∧ σ 1000 1 = nI 16 ∧ σ 1000 2 = nI 32 ∧ σ 1000 3 = nI 64) ∧ (σ 1001 0 = nI 8 ∧ σ 1001 1 = nI 16 ∧ σ 1001 2 = nI 16 ∧ σ 1001 3 = nI 32) ∧ (σ 1002 0 = nI 0 ∧ σ 1002 1 = nI 1 ∧ σ 1002 2 = nI 3 ∧ σ 1002 3 = nI 15)
def INV (σ : mx_S) : Prop := WOK σ ∧ CW σ ∧ CC σ ∧ XW σ
theorem WOK_of {σ σ' : mx_S} (h : WOK σ) (h1 : σ' 1 5 = σ 1 5) (h2 : σ' 2 = σ 2) (h3 : σ' 3 = σ 3) (h5 : σ' 5 = σ 5) (h6 : σ' 6 = σ 6) : WOK σ' :=
  (h.wq.move h5 h6 (fun a b _ _ _ _ => ⟨trivial, fun k _ => spd_of (fun t _ => bC_of h1 (by rw [h2]) (by rw [h3]))⟩)).all (fun _ _ _ _ _ => trivial)
theorem CW_of {σ σ' : mx_S} (h : CW σ) (h1 : σ' 1 5 = σ 1 5) (h2 : σ' 2 = σ 2) (h3 : σ' 3 = σ 3) (h4 : σ' 4 = σ 4) (h23 : σ' 23 3 = σ 23 3) (h24 : σ' 24 = σ 24) (h25 : σ' 25 = σ 25) (h26 : σ' 26 = σ 26) : CW σ' := by
  unfold CW
  rw [h1, h2, h3, h4, h23, h24, h25, h26]
  exact h
theorem CC_of {σ σ' : mx_S} (h : CC σ) (h1 : σ' 11 = σ 11) (h2 : ∀ c, 13 ≤ c → c ≤ 18 → σ' c = σ c) (h3 : ∀ c, 29 ≤ c → c ≤ 40 → σ' c = σ c) (h4 : σ' 23 6 = σ 23 6) (h5 : σ' 23 19 = σ 23 19) (h6 : σ' 23 20 = σ 23 20) : CC σ' := by
  refine ⟨fun i hi => ?_, ?_, fun i hi => ?_⟩
  · rw [h3 29 (by decide) (by decide), h3 30 (by decide) (by decide), h3 31 (by decide) (by decide), h3 32 (by decide) (by decide), h3 33 (by decide) (by decide), h3 34 (by decide) (by decide), h3 35 (by decide) (by decide), h3 36 (by decide) (by decide), h3 37 (by decide) (by decide), h3 38 (by decide) (by decide), h3 39 (by decide) (by decide), h3 40 (by decide) (by decide), h2 (13 + i) (by omega) (by omega)]
    exact h.1 i hi
  · rw [h1, h4, h5, h6, h3 38 (by decide) (by decide), h3 39 (by decide) (by decide)]
    exact h.2.1
  · rw [h2 (13 + i) (by omega) (by omega)]
    exact h.2.2 i hi
theorem XW_of {σ σ' : mx_S} (h : XW σ) (h1 : ∀ c, 1000 ≤ c → σ' c = σ c) : XW σ' := by
  unfold XW
  rw [h1 2000 (by decide), h1 1000 (by decide), h1 1001 (by decide), h1 1002 (by decide)]
  exact h
/-- a call of both: the same answer, and what holds between them holds on -/
def PR (σ : mx_S) (f g : mx_S → Option mx_R) : Prop := ∃ (r : Int32) (σ1 σ2 : mx_S), f σ = some (some (.int r), (shF, σ1)) ∧ g σ1 = some (some (.int r), (shF, σ2)) ∧ INV σ2 ∧ ∀ c, 1000 ≤ c → σ2 c = σ c
theorem PR.same {σ : mx_S} {f g : mx_S → Option mx_R} (hI : INV σ) (r : Int32) (h1 : f σ = some (some (.int r), (shF, σ))) (h2 : g σ = some (some (.int r), (shF, σ))) : PR σ f g := ⟨r, σ, σ, h1, h2, hI, fun _ _ => rfl⟩
/-- both stay as they are, but for work rows of theirs -/
theorem INV_of {σ σ' : mx_S} (hI : INV σ) (h : ∀ c, (¬ (7 ≤ c ∧ c ≤ 10) ∧ ¬ (19 ≤ c ∧ c ≤ 23) ∧ ¬ (27 ≤ c ∧ c ≤ 28) ∧ ¬ (41 ≤ c ∧ c ≤ 43)) → σ' c = σ c) (h23 : ∀ k, ¬ (21 ≤ k ∧ k ≤ 28) → σ' 23 k = σ 23 k) : INV σ' :=
  ⟨WOK_of hI.1 (by rw [h 1 (by omega)]) (h 2 (by omega)) (h 3 (by omega)) (h 5 (by omega)) (h 6 (by omega)), CW_of hI.2.1 (by rw [h 1 (by omega)]) (h 2 (by omega)) (h 3 (by omega)) (h 4 (by omega)) (h23 3 (by omega)) (h 24 (by omega)) (h 25 (by omega)) (h 26 (by omega)), CC_of hI.2.2.1 (h 11 (by omega)) (fun c _ _ => h c (by omega)) (fun c _ _ => h c (by omega)) (h23 6 (by omega)) (h23 19 (by omega)) (h23 20 (by omega)), XW_of hI.2.2.2 (fun c _ => h c (by omega))⟩
