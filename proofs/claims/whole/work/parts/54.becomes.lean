theorem becomes_L (l1 l2 l3 : Int32) : ∀ (n j : Nat) (σ : ZSt), 40 < n + j → 1 ≤ j → j ≤ 40 → ∃ σ', s_X10_becomes_L26 l1 l2 l3 n (nI j) σ = s_X10_becomes_C87 l1 l2 l3 σ' ∧ σ'.2 = σ.2 ∧ (∀ c f, (c = 70 ∨ c = 71 ∨ c = 72) → j ≤ f + 1 → f < 39 → σ'.1 c f = σ.1 c (f + 1)) ∧ (∀ c f, ¬ ((c = 70 ∨ c = 71 ∨ c = 72) ∧ j ≤ f + 1 ∧ f < 39) → σ'.1 c f = σ.1 c f) := by
  intro n
  induction n with
  | zero => intro j σ hn h1 h2; omega
  | succ n ih =>
    intro j σ hn h1 h2
    have e5 : ((40 : Int32) ≤ nI j) = (40 ≤ j) := by
      rw [show (40 : Int32) = nI 40 by decide]
      exact propext (nI_leI (by decide) (by omega))
    by_cases hj : 40 ≤ j
    · refine ⟨σ, by simp only [s_X10_becomes_L26, e5, hj, if_true], rfl, fun c f q1 q2 q3 => by omega, fun c f q2 => rfl⟩
    · have e1 : nI j + 1 = nI (j + 1) := nI_1 j
      have e2 : nI j - 1 = nI (j - 1) := by rw [i1, nI_sub h1 (by omega)]
      simp only [s_X10_becomes_L26, e5, hj, if_false, e1, e2, zIn_nI (a := j) (n := 40) (by omega) (by decide), zIn_nI (a := j - 1) (n := 40) (by omega) (by decide), zLd_t, zSg_t, nI_clamp (n := j) (by omega), nI_clamp (n := j - 1) (by omega)]
      obtain ⟨σ', s1, s2, s3, s4⟩ := ih (j + 1) _ (by omega) (by omega) (by omega)
      refine ⟨σ', s1, s2, fun c f q1 q2 q3 => ?_, fun c f q2 => ?_⟩
      · by_cases hf : f + 1 = j
        · rw [s4 c f (by omega)]
          have hf2 : f = j - 1 := by omega
          subst hf2
          have hjj : j - 1 + 1 = j := by omega
          have hne : ¬ j = j - 1 := by omega
          rcases q1 with rfl | rfl | rfl <;> simp [wd1, hjj, hne]
        · rw [s3 c f q1 (by omega) q3]
          have n1 : ¬ f + 1 = j - 1 := by omega
          simp [wd1, n1]
      · rw [s4 c f (by omega)]
        simp only [wd1]
        repeat' split
        all_goals first | rfl | omega
