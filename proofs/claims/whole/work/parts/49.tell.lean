/-! One told number of the town changes in both -/
section TOWN
variable {s w p : Nat} {σ : ZSt}
theorem rT_w2 (h : rT s w p σ) {k : Nat} (hk : k < s) {v : Int32} (hv : inR v 0 99) : rT s w p (zWD (zWD σ 2 k v) 69 (60 + k) v) := by
  obtain ⟨⟨hs, hw, hp⟩, ⟨h0, h1, h2, h3, h4, h5⟩, hS, hE, hW, hP⟩ := h
  refine ⟨⟨hs, hw, hp⟩, ⟨?_, ?_, ?_, ?_, ?_, ?_⟩, fun k' hk' => ?_, fun k' hk' hk6 => ?_, fun j hj => ?_, fun q hq => ?_⟩
  · simp [wd1, h0]
  · simp [wd1, h1]
  · simp [wd1, h2]
  · simp [wd1, h3]
  · simp [wd1, h4]
  · simp [wd1, h5]
  · have := hS k' hk'
    unfold rTs at this ⊢
    grind [wd1]
  · have := hE k' hk' hk6
    simp [wd1, this]
  · have := hW j hj
    have n1 : ¬ j = 60 + k := by omega
    have n2 : ¬ 30 + j = 60 + k := by omega
    unfold rTw at this ⊢
    simpa [wd1, n1, n2] using this
  · have := hP q hq
    unfold rTp at this ⊢
    simpa [wd1] using this
theorem rT_w0 (h : rT s w p σ) {j : Nat} (hj : j < w) {v : Int32} (hv : inR v 0 99) : rT s w p (zWD (zWD σ 7 j v) 69 j v) := by
  obtain ⟨⟨hs, hw, hp⟩, ⟨h0, h1, h2, h3, h4, h5⟩, hS, hE, hW, hP⟩ := h
  refine ⟨⟨hs, hw, hp⟩, ⟨?_, ?_, ?_, ?_, ?_, ?_⟩, fun k' hk' => ?_, fun k' hk' hk6 => ?_, fun j' hj' => ?_, fun q hq => ?_⟩
  · simp [wd1, h0]
  · simp [wd1, h1]
  · simp [wd1, h2]
  · simp [wd1, h3]
  · simp [wd1, h4]
  · simp [wd1, h5]
  · have := hS k' hk'
    have n1 : ¬ 60 + k' = j := by omega
    unfold rTs at this ⊢
    simpa [wd1, n1] using this
  · have := hE k' hk' hk6
    simp [wd1, this]
  · have := hW j' hj'
    have n1 : ¬ 30 + j' = j := by omega
    unfold rTw at this ⊢
    by_cases e : j' = j
    · subst e
      simp only [inR] at hv
      simpa [wd1, n1, hv, inR] using ⟨this.1, this.2.2⟩
    · simpa [wd1, n1, e] using this
  · have := hP q hq
    unfold rTp at this ⊢
    simpa [wd1] using this
theorem rT_w1 (h : rT s w p σ) {j : Nat} (hj : j < w) {v : Int32} (hv : inR v (-99) 99) : rT s w p (zWD (zWD σ 8 j v) 69 (30 + j) v) := by
  obtain ⟨⟨hs, hw, hp⟩, ⟨h0, h1, h2, h3, h4, h5⟩, hS, hE, hW, hP⟩ := h
  refine ⟨⟨hs, hw, hp⟩, ⟨?_, ?_, ?_, ?_, ?_, ?_⟩, fun k' hk' => ?_, fun k' hk' hk6 => ?_, fun j' hj' => ?_, fun q hq => ?_⟩
  · simp [wd1, h0]
  · simp [wd1, h1]
  · simp [wd1, h2]
  · simp [wd1, h3]
  · simp [wd1, h4]
  · simp [wd1, h5]
  · have := hS k' hk'
    have n1 : ¬ 60 + k' = 30 + j := by omega
    unfold rTs at this ⊢
    simpa [wd1, n1] using this
  · have := hE k' hk' hk6
    simp [wd1, this]
  · have := hW j' hj'
    have n1 : ¬ j' = 30 + j := by omega
    unfold rTw at this ⊢
    by_cases e : j' = j
    · subst e
      simp only [inR] at hv
      simpa [wd1, n1, hv, inR] using ⟨this.1, this.2.1, this.2.2.2⟩
    · simpa [wd1, n1, e] using this
  · have := hP q hq
    unfold rTp at this ⊢
    simpa [wd1] using this
end TOWN
