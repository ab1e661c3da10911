/-! The changes kept -/
def rOne (s w : Nat) (σ : ZSt) (i : Nat) : Prop := σ.1 44 i = σ.1 71 i ∧ σ.1 45 i = σ.1 72 i ∧ ((σ.1 43 i = 2 ∧ (∃ k, k < s ∧ σ.1 42 i = nI k ∧ σ.1 70 i = nI (60 + k)) ∧ inR (σ.1 44 i) 0 99 ∧ inR (σ.1 45 i) 0 99) ∨ (σ.1 43 i = 0 ∧ (∃ j, j < w ∧ σ.1 42 i = nI j ∧ σ.1 70 i = nI j) ∧ inR (σ.1 44 i) 0 99 ∧ inR (σ.1 45 i) 0 99) ∨ (σ.1 43 i = 1 ∧ (∃ j, j < w ∧ σ.1 42 i = nI j ∧ σ.1 70 i = nI (30 + j)) ∧ inR (σ.1 44 i) (-99) 99 ∧ inR (σ.1 45 i) (-99) 99))
def rCh (s w : Nat) (σ : ZSt) : Prop := ∃ kept done, done ≤ kept ∧ kept ≤ 40 ∧ (σ.1 41 4 = nI kept ∧ σ.1 68 4 = nI kept ∧ σ.1 41 5 = nI done ∧ σ.1 68 5 = nI done) ∧ ∀ i, i < kept → rOne s w σ i
def cCh : List (Nat × Nat) := [(41, 4), (41, 5), (42, 999), (43, 999), (44, 999), (45, 999), (68, 4), (68, 5), (70, 999), (71, 999), (72, 999)]
theorem rCh_at {s w : Nat} {σ σ' : ZSt} (e : ∀ c f, zHit cCh c f = true → σ'.1 c f = σ.1 c f ∧ σ'.2 c f = σ.2 c f) (h : rCh s w σ) : rCh s w σ' := by
  have e0 := (e 41 4 rfl).1
  have e1 := (e 41 5 rfl).1
  have e2 := (e 68 4 rfl).1
  have e3 := (e 68 5 rfl).1
  have a42 : ∀ f, σ'.1 42 f = σ.1 42 f := fun f => (e 42 f rfl).1
  have a43 : ∀ f, σ'.1 43 f = σ.1 43 f := fun f => (e 43 f rfl).1
  have a44 : ∀ f, σ'.1 44 f = σ.1 44 f := fun f => (e 44 f rfl).1
  have a45 : ∀ f, σ'.1 45 f = σ.1 45 f := fun f => (e 45 f rfl).1
  have b70 : ∀ f, σ'.1 70 f = σ.1 70 f := fun f => (e 70 f rfl).1
  have b71 : ∀ f, σ'.1 71 f = σ.1 71 f := fun f => (e 71 f rfl).1
  have b72 : ∀ f, σ'.1 72 f = σ.1 72 f := fun f => (e 72 f rfl).1
  unfold rCh rOne at *
  simp only [e0, e1, e2, e3, a42, a43, a44, a45, b70, b71, b72]
  exact h
theorem rCh_up {s w s' w' : Nat} {σ : ZSt} (hs : s ≤ s') (hw : w ≤ w') (h : rCh s w σ) : rCh s' w' σ := by
  obtain ⟨kept, done, h1, h2, h3, h4⟩ := h
  refine ⟨kept, done, h1, h2, h3, fun i hi => ?_⟩
  obtain ⟨q1, q2, q3⟩ := h4 i hi
  refine ⟨q1, q2, ?_⟩
  rcases q3 with ⟨a, ⟨k, hk, b⟩, c⟩ | ⟨a, ⟨k, hk, b⟩, c⟩ | ⟨a, ⟨k, hk, b⟩, c⟩
  · exact Or.inl ⟨a, ⟨k, by omega, b⟩, c⟩
  · exact Or.inr (Or.inl ⟨a, ⟨k, by omega, b⟩, c⟩)
  · exact Or.inr (Or.inr ⟨a, ⟨k, by omega, b⟩, c⟩)
