/-! redo -/
section TOWN
variable {s w p : Nat} {σ : ZSt}
theorem k_redo (h : rT s w p σ) (hc : rCh s w σ) : ∃ (r : Int32) (σ1 σ2 : ZSt), s_X9_redo σ = some (r, σ1) ∧ s_X10_redo σ1 = some (r, σ2) ∧ rT s w p σ2 ∧ rCh s w σ2 := by
  obtain ⟨kept, done, d1, d2, ⟨g1, g2, g3, g4⟩, hI⟩ := id hc
  have hs := h.1.1
  have hw := h.1.2.1
  unfold s_X9_redo s_X1_stepOn
  rw [g1, g3]
  by_cases hd : kept ≤ done
  · have e : kept = done := by omega
    subst e
    refine ⟨-5, σ, σ, ?_, ?_, h, hc⟩
    · rw [if_pos (show nI kept ≤ nI kept by rw [nI_leI (by omega) (by omega)]; omega), Option.bind_some, if_neg (show ¬ (0 : Int32) ≤ -1 by decide)]
    · unfold s_X10_redo
      rw [g2, g4, if_pos rfl]
  · obtain ⟨d, rfl⟩ : ∃ d, done = d := ⟨done, rfl⟩
    have c1 : ¬ nI kept ≤ nI done := by rw [nI_leI (by omega) (by omega)]; omega
    have c2 : (0 : Int32) ≤ nI done := by rw [i0, nI_leI (by decide) (by omega)]; omega
    have c3 : ¬ nI done = nI kept := by rw [nI_eq (by omega) (by omega)]; omega
    have c4 : nI done + 1 = nI (done + 1) := nI_1 done
    have hcl := nI_clamp (n := done) (by omega)
    have hz := zIn_nI (a := done) (n := 40) (by omega) (by decide)
    have h' : rT s w p (zWD σ 41 5 (nI (done + 1))) := rT_at (fun c f q => by
      have n1 : ¬ (c = 41 ∧ f = 5) := by rintro ⟨rfl, rfl⟩; exact absurd q (by decide)
      exact ⟨by simp only [wd1, n1, if_false], rfl⟩) h
    simp only [c1, c4, if_false, zSt_e, Option.bind_some, c2, if_true, s_X1_numberOf, s_X1_whatOf, s_X1_behindOf, s_X1_redoable, cPlace (show done < 40 by omega), show ¬ (1 : Int32) = 0 by decide, hz, zLd_t, hcl, wd1, Nat.reduceEqDiff, false_and, g1]
    obtain ⟨q1, q2, q3⟩ := hI done (by omega)
    rcases q3 with ⟨w1, ⟨k, hk, w2, w3⟩, w4, w5⟩ | ⟨w1, ⟨k, hk, w2, w3⟩, w4, w5⟩ | ⟨w1, ⟨k, hk, w2, w3⟩, w4, w5⟩
    · have hz6 := zIn_nI (a := k) (n := 6) (by omega) (by decide)
      have hz66 := zIn_nI (a := 60 + k) (n := 66) (by omega) (by decide)
      have hck := nI_clamp (n := k) (by omega)
      have hck2 := nI_clamp (n := 60 + k) (by omega)
      simp only [w1, w2, s_X7_tell, if_true, cIsStreet h', nI_lt_s hk (by omega), and_self, bI_0, not_true_eq_false, if_false, Option.bind_some, hz6, zSg_t, hck]
      refine ⟨_, _, ?s2a, rfl, ?h2a, ?h3a, ?h4a⟩
      case h2a =>
        unfold s_X10_redo
        simp only [wd1, Nat.reduceEqDiff, false_and, if_false, g4, c3, zSt_e, c4, and_self, if_true, hz, zLd_t, hcl, w3, hz66, hck2, zSg_t, ← q2, g1, g2]
        rfl
      case h3a =>
        refine rT_at (fun c f q => ?_) (rT_w2 h hk w5)
        have n1 : ¬ (c = 41 ∧ f = 5) := by rintro ⟨rfl, rfl⟩; exact absurd q (by decide)
        have n2 : ¬ (c = 68 ∧ f = 5) := by rintro ⟨rfl, rfl⟩; exact absurd q (by decide)
        exact ⟨by simp only [wd1, n1, n2, if_false], rfl⟩
      case h4a =>
        refine ⟨kept, done + 1, by omega, d2, ⟨by simp [wd1, g1], by simp [wd1, g2], by simp [wd1], by simp [wd1]⟩, fun i hi => ?_⟩
        have := hI i hi
        unfold rOne at this ⊢
        simpa [wd1] using this
    · have hz6 := zIn_nI (a := k) (n := 30) (by omega) (by decide)
      have hz66 := zIn_nI (a := k) (n := 66) (by omega) (by decide)
      have hck := nI_clamp (n := k) (by omega)
      have hck2 := nI_clamp (n := k) (by omega)
      simp only [w1, w2, s_X7_tell, show ¬ (0 : Int32) = 2 by decide, if_true, cIsWindow h', nI_lt_s hk (by omega), and_self, bI_0, not_true_eq_false, if_false, Option.bind_some, hz6, zSg_t, hck]
      refine ⟨_, _, ?s2b, rfl, ?h2b, ?h3b, ?h4b⟩
      case h2b =>
        unfold s_X10_redo
        simp only [wd1, Nat.reduceEqDiff, false_and, if_false, g4, c3, zSt_e, c4, and_self, if_true, hz, zLd_t, hcl, w3, hz66, hck2, zSg_t, ← q2, g1, g2]
        rfl
      case h3b =>
        refine rT_at (fun c f q => ?_) (rT_w0 h hk w5)
        have n1 : ¬ (c = 41 ∧ f = 5) := by rintro ⟨rfl, rfl⟩; exact absurd q (by decide)
        have n2 : ¬ (c = 68 ∧ f = 5) := by rintro ⟨rfl, rfl⟩; exact absurd q (by decide)
        exact ⟨by simp only [wd1, n1, n2, if_false], rfl⟩
      case h4b =>
        refine ⟨kept, done + 1, by omega, d2, ⟨by simp [wd1, g1], by simp [wd1, g2], by simp [wd1], by simp [wd1]⟩, fun i hi => ?_⟩
        have := hI i hi
        unfold rOne at this ⊢
        simpa [wd1] using this
    · have hz6 := zIn_nI (a := k) (n := 30) (by omega) (by decide)
      have hz66 := zIn_nI (a := 30 + k) (n := 66) (by omega) (by decide)
      have hck := nI_clamp (n := k) (by omega)
      have hck2 := nI_clamp (n := 30 + k) (by omega)
      simp only [w1, w2, s_X7_tell, show ¬ (1 : Int32) = 2 by decide, show ¬ (1 : Int32) = 0 by decide, if_true, cIsWindow h', nI_lt_s hk (by omega), and_self, bI_0, not_true_eq_false, if_false, Option.bind_some, hz6, zSg_t, hck]
      refine ⟨_, _, ?s2c, rfl, ?h2c, ?h3c, ?h4c⟩
      case h2c =>
        unfold s_X10_redo
        simp only [wd1, Nat.reduceEqDiff, false_and, if_false, g4, c3, zSt_e, c4, and_self, if_true, hz, zLd_t, hcl, w3, hz66, hck2, zSg_t, ← q2, g1, g2]
        rfl
      case h3c =>
        refine rT_at (fun c f q => ?_) (rT_w1 h hk w5)
        have n1 : ¬ (c = 41 ∧ f = 5) := by rintro ⟨rfl, rfl⟩; exact absurd q (by decide)
        have n2 : ¬ (c = 68 ∧ f = 5) := by rintro ⟨rfl, rfl⟩; exact absurd q (by decide)
        exact ⟨by simp only [wd1, n1, n2, if_false], rfl⟩
      case h4c =>
        refine ⟨kept, done + 1, by omega, d2, ⟨by simp [wd1, g1], by simp [wd1, g2], by simp [wd1], by simp [wd1]⟩, fun i hi => ?_⟩
        have := hI i hi
        unfold rOne at this ⊢
        simpa [wd1] using this
end TOWN
