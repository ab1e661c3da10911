/-! The town, as the class and the model have it -/
def inR (x a b : Int32) : Prop := a ≤ x ∧ x ≤ b
def rTs (σ : ZSt) (k : Nat) : Prop := (σ.1 2 k = σ.1 69 (60 + k) ∧ inR (σ.1 2 k) 0 99) ∧ (σ.1 3 k = σ.1 73 k ∧ inR (σ.1 3 k) 0 99) ∧ (σ.1 4 k = σ.1 74 k ∧ inR (σ.1 4 k) 0 4) ∧ (σ.1 5 k = σ.1 75 k ∧ inR (σ.1 5 k) 0 99)
def rTw (s : Nat) (σ : ZSt) (j : Nat) : Prop := (σ.1 6 j = σ.1 76 j ∧ ∃ k, k < s ∧ σ.1 6 j = nI k) ∧ (σ.1 7 j = σ.1 69 j ∧ inR (σ.1 7 j) 0 99) ∧ (σ.1 8 j = σ.1 69 (30 + j) ∧ inR (σ.1 8 j) (-99) 99) ∧ (σ.1 9 j = σ.1 77 j ∧ inR (σ.1 9 j) 0 999)
def rTp (s : Nat) (σ : ZSt) (q : Nat) : Prop := (σ.1 10 q = σ.1 78 q ∧ inR (σ.1 10 q) 0 10) ∧ (σ.1 11 q = σ.1 79 q ∧ inR (σ.1 11 q) 0 99) ∧ (σ.1 12 q = σ.1 80 q ∧ inR (σ.1 12 q) 0 100) ∧ (σ.1 13 q = σ.1 81 q ∧ (σ.1 13 q = -1 ∨ ∃ k, k < s ∧ σ.1 13 q = nI k))
def rT (s w p : Nat) (σ : ZSt) : Prop := (s ≤ 6 ∧ w ≤ 30 ∧ p ≤ 8) ∧ (σ.1 1 0 = nI s ∧ σ.1 68 6 = nI s ∧ σ.1 1 5 = nI w ∧ σ.1 68 10 = nI w ∧ σ.1 1 10 = nI p ∧ σ.1 68 13 = nI p) ∧ (∀ k, k < s → rTs σ k) ∧ (∀ k, s ≤ k → k < 6 → σ.1 4 k = 0 ∧ σ.1 5 k = 0) ∧ (∀ j, j < w → rTw s σ j) ∧ (∀ q, q < p → rTp s σ q)
def zDis (A B : List (Nat × Nat)) : Bool := A.all fun q => B.all fun r => q.1 != r.1 || (q.2 != 999 && r.2 != 999 && q.2 != r.2)
theorem zDis_hit {A B : List (Nat × Nat)} (h : zDis A B = true) {c f : Nat} (hf : zHit A c f = true) : zHit B c f = false := by
  obtain ⟨q, hq, h2⟩ := List.any_eq_true.mp hf
  cases hb : zHit B c f with
  | false => rfl
  | true =>
    obtain ⟨r, hr, h3⟩ := List.any_eq_true.mp hb
    have h4 := List.all_eq_true.mp (List.all_eq_true.mp h q hq) r hr
    simp only [Bool.and_eq_true, Bool.or_eq_true, beq_iff_eq, bne_iff_ne, ne_eq] at h2 h3 h4
    obtain ⟨a1, a2⟩ := h2
    obtain ⟨b1, b2⟩ := h3
    rcases h4 with h4 | ⟨⟨h4, h5⟩, h6⟩
    · exact absurd (a1.trans b1.symm) h4
    · rcases a2 with a2 | a2
      · exact absurd a2 h4
      · rcases b2 with b2 | b2
        · exact absurd b2 h5
        · exact absurd (a2.trans b2.symm) h6
/-- what a relation reads stays, where a method writes elsewhere -/
theorem zKeep.at {L C : List (Nat × Nat)} {σ σ' : ZSt} (h : zKeep L σ σ') (hd : zDis C L = true) : ∀ c f, zHit C c f = true → σ'.1 c f = σ.1 c f ∧ σ'.2 c f = σ.2 c f := fun c f q => ⟨h.1 c f (zDis_hit hd q), h.2 c f (zDis_hit hd q)⟩
def cT : List (Nat × Nat) := [(1, 0), (1, 5), (1, 10), (2, 999), (3, 999), (4, 999), (5, 999), (6, 999), (7, 999), (8, 999), (9, 999), (10, 999), (11, 999), (12, 999), (13, 999), (68, 6), (68, 10), (68, 13), (69, 999), (73, 999), (74, 999), (75, 999), (76, 999), (77, 999), (78, 999), (79, 999), (80, 999), (81, 999)]
theorem rT_at {s w p : Nat} {σ σ' : ZSt} (e : ∀ c f, zHit cT c f = true → σ'.1 c f = σ.1 c f ∧ σ'.2 c f = σ.2 c f) (h : rT s w p σ) : rT s w p σ' := by
  have e0 := (e 1 0 rfl).1
  have e1 := (e 1 5 rfl).1
  have e2 := (e 1 10 rfl).1
  have e3 := (e 68 6 rfl).1
  have e4 := (e 68 10 rfl).1
  have e5 := (e 68 13 rfl).1
  have a2 : ∀ f, σ'.1 2 f = σ.1 2 f := fun f => (e 2 f rfl).1
  have a3 : ∀ f, σ'.1 3 f = σ.1 3 f := fun f => (e 3 f rfl).1
  have a4 : ∀ f, σ'.1 4 f = σ.1 4 f := fun f => (e 4 f rfl).1
  have a5 : ∀ f, σ'.1 5 f = σ.1 5 f := fun f => (e 5 f rfl).1
  have a6 : ∀ f, σ'.1 6 f = σ.1 6 f := fun f => (e 6 f rfl).1
  have a7 : ∀ f, σ'.1 7 f = σ.1 7 f := fun f => (e 7 f rfl).1
  have a8 : ∀ f, σ'.1 8 f = σ.1 8 f := fun f => (e 8 f rfl).1
  have a9 : ∀ f, σ'.1 9 f = σ.1 9 f := fun f => (e 9 f rfl).1
  have a10 : ∀ f, σ'.1 10 f = σ.1 10 f := fun f => (e 10 f rfl).1
  have a11 : ∀ f, σ'.1 11 f = σ.1 11 f := fun f => (e 11 f rfl).1
  have a12 : ∀ f, σ'.1 12 f = σ.1 12 f := fun f => (e 12 f rfl).1
  have a13 : ∀ f, σ'.1 13 f = σ.1 13 f := fun f => (e 13 f rfl).1
  have b69 : ∀ f, σ'.1 69 f = σ.1 69 f := fun f => (e 69 f rfl).1
  have b73 : ∀ f, σ'.1 73 f = σ.1 73 f := fun f => (e 73 f rfl).1
  have b74 : ∀ f, σ'.1 74 f = σ.1 74 f := fun f => (e 74 f rfl).1
  have b75 : ∀ f, σ'.1 75 f = σ.1 75 f := fun f => (e 75 f rfl).1
  have b76 : ∀ f, σ'.1 76 f = σ.1 76 f := fun f => (e 76 f rfl).1
  have b77 : ∀ f, σ'.1 77 f = σ.1 77 f := fun f => (e 77 f rfl).1
  have b78 : ∀ f, σ'.1 78 f = σ.1 78 f := fun f => (e 78 f rfl).1
  have b79 : ∀ f, σ'.1 79 f = σ.1 79 f := fun f => (e 79 f rfl).1
  have b80 : ∀ f, σ'.1 80 f = σ.1 80 f := fun f => (e 80 f rfl).1
  have b81 : ∀ f, σ'.1 81 f = σ.1 81 f := fun f => (e 81 f rfl).1
  unfold rT rTs rTw rTp at *
  simp only [e0, e1, e2, e3, e4, e5, a2, a3, a4, a5, a6, a7, a8, a9, a10, a11, a12, a13, b69, b73, b74, b75, b76, b77, b78, b79, b80, b81]
  exact h
theorem nI_lit (n : Nat) {x : Int32} (h : nI n = x) : x = nI n := h.symm
theorem i6 : (6 : Int32) = nI 6 := by decide
theorem i30 : (30 : Int32) = nI 30 := by decide
theorem i8 : (8 : Int32) = nI 8 := by decide
theorem i60 : (60 : Int32) = nI 60 := by decide
theorem ofN {x : Int32} {s : Nat} (hs : s ≤ 1000) (h0 : 0 ≤ x) (h1 : x < nI s) : ∃ k, k < s ∧ x = nI k := by
  obtain ⟨j, hj, rfl⟩ := nI_of (x := x) (fun q => by
    rw [Int32.lt_iff_toInt_lt] at q
    rw [Int32.le_iff_toInt_le] at h0
    omega)
  exact ⟨j, (nI_ltI hj (by omega)).mp h1, rfl⟩
section TOWN
variable {s w p : Nat} {σ : ZSt}
theorem cIsStreet (h : rT s w p σ) (x : Int32) : s_X7_isStreet x σ = some (bI (0 ≤ x ∧ x < nI s)) := by
  obtain ⟨⟨hs, -, -⟩, ⟨h0, -⟩, -⟩ := h
  unfold s_X7_isStreet
  rw [h0]
  by_cases h1 : x < 0
  · have : ¬ (0 ≤ x) := Int32.not_le.mpr h1
    simp [h1, this, bI]
  · have g0 : 0 ≤ x := Int32.not_lt.mp h1
    by_cases h2 : nI s ≤ x
    · have : ¬ x < nI s := Int32.not_lt.mpr h2
      simp [h1, h2, this, bI]
    · have g2 : x < nI s := Int32.not_le.mp h2
      obtain ⟨k, hk, rfl⟩ := ofN (by omega) g0 g2
      have h3 : ¬ (6 : Int32) ≤ nI k := by
        rw [i6, nI_leI (by decide) (by omega)]
        omega
      simp [h1, h2, h3, g0, g2, bI]
theorem mIsStreet (h : rT s w p σ) (x : Int32) : s_X10_isStreet x σ = some (bI (0 ≤ x ∧ x < nI s)) := by
  obtain ⟨⟨hs, -, -⟩, ⟨-, h0, -⟩, -⟩ := h
  unfold s_X10_isStreet
  rw [h0, mW32 x 0 (nI s - 1) (by decide) rfl]
  have e : (x ≤ nI s - 1) = (x < nI s) := by
    have := nI_toInt (n := s) (by omega)
    rw [Int32.le_iff_toInt_le, Int32.lt_iff_toInt_lt]
    have e2 : (nI s - 1).toInt = (s : Int) - 1 := by
      rw [Int32.toInt_sub, this]
      have : (1 : Int32).toInt = 1 := by decide
      rw [this]
      rw [Int.bmod_def]
      omega
    rw [e2, this]
    exact propext (by omega)
  simp only [e, Option.bind_some, bI_01, if_true]
theorem k_street (h : rT s w p σ) (a b : Int32) : ∃ (r : Int32) (σ1 σ2 : ZSt) (s' : Nat), s_X9_street a b σ = some (r, σ1) ∧ s_X10_street a b σ1 = some (r, σ2) ∧ s ≤ s' ∧ rT s' w p σ2 := by
  obtain ⟨⟨hs, hw, hp⟩, ⟨h0, h1, h2, h3, h4, h5⟩, hS, hE, hW, hP⟩ := id h
  unfold s_X9_street s_X10_street
  simp only [isW, mTwo, Option.bind_some, bI_0]
  by_cases ha : 0 ≤ a ∧ a ≤ 99
  · by_cases hb : 0 ≤ b ∧ b ≤ 99
    · simp only [ha, hb, not_true_eq_false, if_false, and_self]
      by_cases h6 : s < 6
      · have hlt : nI s < 6 := by rw [i6, nI_ltI (by omega) (by decide)]; exact h6
        have hne : ¬ nI s = 6 := by rw [i6, nI_eq (by omega) (by decide)]; omega
        have hz := zIn_nI h6 (by decide)
        have hz2 := zIn_nI (a := 60 + s) (n := 66) (by omega) (by decide)
        have hcl := nI_clamp (n := s) (by omega)
        have hcl2 := nI_clamp (n := 60 + s) (by omega)
        simp only [s_X7_addStreet, h0, hlt, if_true, zSg_t, zSt_e, wd1, hz, hcl, Option.bind_some, Nat.reduceEqDiff, false_and, if_false, and_false, nI_1, and_self]
        refine ⟨_, _, ?s2, s + 1, rfl, ?h2, by omega, ?h3⟩
        case h2 =>
          simp only [wd1, Nat.reduceEqDiff, false_and, if_false, h1, hne, zSg_t, i60, nI_add, hz2, hcl2, hz, hcl, zSt_e, and_false, nI_1, nI_pred, and_self, if_true]
          rfl
        case h3 =>
          refine ⟨⟨by omega, hw, hp⟩, ⟨?_, ?_, ?_, ?_, ?_, ?_⟩, fun k hk => ?_, fun k hk hk6 => ?_, fun j hj => ?_, fun q hq => ?_⟩
          · simp [wd1]
          · simp [wd1]
          · simp [wd1, h2]
          · simp [wd1, h3]
          · simp [wd1, h4]
          · simp [wd1, h5]
          · unfold rTs
            by_cases hks : k = s
            · subst hks
              have := hE k (Nat.le_refl _) h6
              simp [wd1, inR, ha, hb, this]
            · have := hS k (by omega)
              unfold rTs at this
              have e1 : ¬ 60 + k = 60 + s := by omega
              grind [wd1]
          · have := hE k (by omega) hk6
            simp [wd1, this]
          · have := hW j hj
            unfold rTw at this ⊢
            grind [wd1]
          · have := hP q hq
            unfold rTp at this ⊢
            grind [wd1]
      · refine ⟨-3, σ, σ, s, ?_, ?_, Nat.le_refl _, h⟩
        · have hlt : ¬ nI s < 6 := by rw [i6, nI_ltI (by omega) (by decide)]; omega
          simp [s_X7_addStreet, h0, hlt]
        · have he : nI s = 6 := by rw [i6, nI_eq (by omega) (by decide)]; omega
          simp [h1, he]
    · exact ⟨-1, σ, σ, s, by simp [ha, hb], by simp [ha, hb], Nat.le_refl _, h⟩
  · exact ⟨-1, σ, σ, s, by simp [ha], by simp [ha], Nat.le_refl _, h⟩
end TOWN
