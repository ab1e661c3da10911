/-! A change added, by the class -/
theorem cAdd {σ : ZSt} {done : Nat} (hd : done ≤ 40) (g : σ.1 41 5 = nI done) (a b x y : Int32) : ∃ (d e : Nat) (σ1 : ZSt), d < 40 ∧ done = d + e ∧ (e ≤ 1 ∧ (done < 40 → e = 0)) ∧ s_X1_add a b x y σ = some σ1 ∧ σ1.2 = σ.2 ∧ (∀ i, i < d → σ1.1 42 i = σ.1 42 (i + e) ∧ σ1.1 43 i = σ.1 43 (i + e) ∧ σ1.1 44 i = σ.1 44 (i + e) ∧ σ1.1 45 i = σ.1 45 (i + e)) ∧ (σ1.1 42 d = a ∧ σ1.1 43 d = b ∧ σ1.1 44 d = x ∧ σ1.1 45 d = y ∧ σ1.1 41 4 = nI (d + 1) ∧ σ1.1 41 5 = nI (d + 1)) ∧ (∀ c f, ¬ c = 42 → ¬ c = 43 → ¬ c = 44 → ¬ c = 45 → ¬ (c = 41 ∧ f = 4) → ¬ (c = 41 ∧ f = 5) → σ1.1 c f = σ.1 c f) := by
  have put : ∀ (τ : ZSt) (d : Nat), d < 40 → τ.1 41 5 = nI d → s_X1_add_C13 a b x y τ = some (zWD (zWD (zWD (zWD (zWD (zWD τ 42 d a) 43 d b) 44 d x) 45 d y) 41 5 (nI (d + 1))) 41 4 (nI (d + 1))) := by
    intro τ d hd hg
    unfold s_X1_add_C13
    simp only [wd1, Nat.reduceEqDiff, false_and, if_false, hg, zIn_nI (a := d) (n := 40) hd (by decide), nI_clamp (n := d) (by omega), zSg_t, zSt_e, nI_1, and_self, if_true]
  unfold s_X1_add
  rw [g]
  by_cases h : done < 40
  · refine ⟨done, 0, zWD (zWD (zWD (zWD (zWD (zWD σ 42 done a) 43 done b) 44 done x) 45 done y) 41 5 (nI (done + 1))) 41 4 (nI (done + 1)), h, by omega, by omega, by rw [if_pos (by rw [show (40 : Int32) = nI 40 by decide, nI_ltI (by omega) (by decide)]; exact h), put σ done h g], rfl, fun i hi => ?_, ?_, fun c f q1 q2 q3 q4 q5 q6 => ?_⟩
    · have n1 : ¬ i = done := by omega
      simp [wd1, n1]
    · simp [wd1]
    · simp [wd1, q1, q2, q3, q4, q5, q6]
  · obtain ⟨σ', s1, s2, s3, s4, s5⟩ := forget_L 200 1 σ (by omega) (by omega) (by omega)
    have s1' : s_X1_forgetOldest σ = some σ' := s1
    refine ⟨39, 1, zWD (zWD (zWD (zWD (zWD (zWD σ' 42 39 a) 43 39 b) 44 39 x) 45 39 y) 41 5 (nI (39 + 1))) 41 4 (nI (39 + 1)), by omega, by omega, by omega, by rw [if_neg (by rw [show (40 : Int32) = nI 40 by decide, nI_ltI (by omega) (by decide)]; exact h), s1', Option.bind_some, put σ' 39 (by omega) s5], s2, fun i hi => ?_, ?_, fun c f q1 q2 q3 q4 q5 q6 => ?_⟩
    · have n1 : ¬ i = 39 := by omega
      have t := fun c q => s3 c i q (by omega) hi
      simp [wd1, n1, t]
    · simp [wd1]
    · have t := s4 c f q6 (by omega)
      simp [wd1, q1, q2, q3, q4, q5, q6, t]
