/-! A change added, by the model -/
theorem mAdd {σ : ZSt} {done q : Nat} (hd : done ≤ 40) (hq : q < 66) (g : σ.1 68 5 = nI done) {v : Int32} (hv : ¬ σ.1 69 q = v) : ∃ (d e : Nat) (σ1 : ZSt), d < 40 ∧ done = d + e ∧ (e ≤ 1 ∧ (done < 40 → e = 0)) ∧ s_X10_becomes (nI q) v σ = some (σ.1 69 q, σ1) ∧ σ1.2 = σ.2 ∧ (∀ i, i < d → σ1.1 70 i = σ.1 70 (i + e) ∧ σ1.1 71 i = σ.1 71 (i + e) ∧ σ1.1 72 i = σ.1 72 (i + e)) ∧ (σ1.1 70 d = nI q ∧ σ1.1 71 d = σ.1 69 q ∧ σ1.1 72 d = v ∧ σ1.1 68 4 = nI (d + 1) ∧ σ1.1 68 5 = nI (d + 1) ∧ σ1.1 69 q = v) ∧ (∀ c f, ¬ c = 70 → ¬ c = 71 → ¬ c = 72 → ¬ (c = 68 ∧ f = 4) → ¬ (c = 68 ∧ f = 5) → ¬ (c = 69 ∧ f = q) → σ1.1 c f = σ.1 c f) := by
  have hz := zIn_nI (a := q) (n := 66) hq (by decide)
  have hcl := nI_clamp (n := q) (by omega)
  have put : ∀ (τ : ZSt) (d : Nat) (x : Int32), d < 40 → τ.1 68 5 = nI d → s_X10_becomes_C97 (nI q) v x τ = some (x, zWD (zWD (zWD (zWD (zWD (zWD τ 70 d (nI q)) 71 d x) 72 d v) 68 5 (nI (d + 1))) 68 4 (nI (d + 1))) 69 q v) := by
    intro τ d x hd hg
    unfold s_X10_becomes_C97
    simp only [wd1, Nat.reduceEqDiff, false_and, if_false, hg, zIn_nI (a := d) (n := 40) hd (by decide), nI_clamp (n := d) (by omega), zSg_t, zSt_e, nI_1, and_self, if_true, hz, hcl]
  unfold s_X10_becomes
  rw [zLd_t hz, hcl, if_neg hv, g]
  by_cases h : done < 40
  · refine ⟨done, 0, zWD (zWD (zWD (zWD (zWD (zWD σ 70 done (nI q)) 71 done (σ.1 69 q)) 72 done v) 68 5 (nI (done + 1))) 68 4 (nI (done + 1))) 69 q v, h, by omega, by omega, by rw [if_neg (by rw [show (40 : Int32) = nI 40 by decide, nI_eq (by omega) (by decide)]; omega), put σ done _ h g], rfl, fun i hi => ?_, ?_, fun c f q1 q2 q3 q4 q5 q6 => ?_⟩
    · have n1 : ¬ i = done := by omega
      simp [wd1, n1]
    · simp [wd1]
    · simp [wd1, q1, q2, q3, q4, q5, q6]
  · obtain ⟨σ', s1, s2, s3, s4⟩ := becomes_L (nI q) v (σ.1 69 q) 200 1 σ (by omega) (by omega) (by omega)
    have e40 : nI done = 40 := by rw [show (40 : Int32) = nI 40 by decide, nI_eq (by omega) (by decide)]; omega
    have g' : σ'.1 68 5 = 40 := by rw [s4 68 5 (by omega), g, e40]
    have s1' : s_X10_becomes_L26 (nI q) v (σ.1 69 q) 200 1 σ = s_X10_becomes_C87 (nI q) v (σ.1 69 q) σ' := s1
    have g2 : (40 : Int32) - 1 = nI 39 := by decide
    refine ⟨39, 1, zWD (zWD (zWD (zWD (zWD (zWD (zWD σ' 68 5 (nI 39)) 70 39 (nI q)) 71 39 (σ.1 69 q)) 72 39 v) 68 5 (nI (39 + 1))) 68 4 (nI (39 + 1))) 69 q v, by omega, by omega, by omega, by rw [if_pos e40, s1', s_X10_becomes_C87, zSt_e, g', g2, put _ 39 _ (by omega) (by simp [wd1])], s2, fun i hi => ?_, ?_, fun c f q1 q2 q3 q4 q5 q6 => ?_⟩
    · have n1 : ¬ i = 39 := by omega
      have t := fun c q => s3 c i q (by omega) hi
      simp [wd1, n1, t]
    · simp [wd1]
    · have t := s4 c f (by omega)
      simp [wd1, q1, q2, q3, q4, q5, q6, t]
