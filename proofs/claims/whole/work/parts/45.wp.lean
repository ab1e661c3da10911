/-! window and player -/
section TOWN
variable {s w p : Nat} {σ : ZSt}
theorem cTakes (h : rT s w p σ) (a b c d : Int32) : s_X7_takesWindow a b c d σ = some (bI ((0 ≤ a ∧ a < nI s) ∧ (0 ≤ b ∧ b ≤ 99) ∧ (-99 ≤ c ∧ c ≤ 99) ∧ (0 ≤ d ∧ d ≤ 999))) := by
  unfold s_X7_takesWindow
  simp only [cIsStreet h, isW, Option.bind_some, bI_0]
  by_cases h1 : 0 ≤ a ∧ a < nI s
  · by_cases h2 : 0 ≤ b ∧ b ≤ 99
    · by_cases h3 : -99 ≤ c ∧ c ≤ 99
      · by_cases h4 : 0 ≤ d ∧ d ≤ 999
        · simp [h1, h2, h3, h4, bI]
        · simp [h1, h2, h3, h4, bI]
      · simp [h1, h2, h3, bI]
    · simp [h1, h2, bI]
  · simp [h1, bI]
theorem mOne (h : σ.1 68 6 = nI s) (hs : s ≤ 6) (a b c d : Int32) : s_X10_isOne a.toInt64 b.toInt64 c.toInt64 d.toInt64 σ = some (bI ((0 ≤ a ∧ a < nI s) ∧ (0 ≤ b ∧ b ≤ 99) ∧ (-99 ≤ c ∧ c ≤ 99) ∧ (0 ≤ d ∧ d ≤ 999))) := by
  unfold s_X10_isOne
  rw [h, mIn (by omega)]
  simp only [mTwo, mW32 c (-99) 99 (a' := -99) (b' := 99) (by decide) (by decide), mW32 d 0 999 (a' := 0) (b' := 999) (by decide) (by decide), Option.bind_some, bI_0]
  by_cases h1 : 0 ≤ a ∧ a < nI s
  · by_cases h2 : 0 ≤ b ∧ b ≤ 99
    · by_cases h3 : -99 ≤ c ∧ c ≤ 99
      · by_cases h4 : 0 ≤ d ∧ d ≤ 999
        · simp [h1, h2, h3, h4, bI]
        · simp [h1, h2, h3, h4, bI]
      · simp [h1, h2, h3, bI]
    · simp [h1, h2, bI]
  · simp [h1, bI]
theorem k_window (h : rT s w p σ) (a b : Int32) : ∃ (r : Int32) (σ1 σ2 : ZSt) (w' : Nat), s_X9_window a b σ = some (r, σ1) ∧ s_X10_window a b σ1 = some (r, σ2) ∧ w ≤ w' ∧ rT s w' p σ2 := by
  obtain ⟨⟨hs, hw, hp⟩, ⟨h0, h1, h2, h3, h4, h5⟩, hS, hE, hW, hP⟩ := id h
  unfold s_X9_window s_X10_window
  by_cases ha : a < 0
  · exact ⟨-1, σ, σ, w, by simp [ha], by simp [ha], Nat.le_refl _, h⟩
  · by_cases hb : b < 0
    · have : ¬ 0 ≤ b := Int32.not_le.mpr hb
      exact ⟨-1, σ, σ, w, by simp [ha, this], by simp [ha, hb], Nat.le_refl _, h⟩
    · have hb' : 0 ≤ b := Int32.not_lt.mp hb
      simp only [ha, hb, hb', if_false, if_true, cTakes h, Option.bind_some, bI_0]
      generalize a / 100 = x, zRem a 100 = y, b / 1000 - 99 = z, zRem b 1000 = u
      by_cases hc : (0 ≤ x ∧ x < nI s) ∧ (0 ≤ y ∧ y ≤ 99) ∧ (-99 ≤ z ∧ z ≤ 99) ∧ (0 ≤ u ∧ u ≤ 999)
      · have hn : ¬ ¬ ((0 ≤ x ∧ x < nI s) ∧ (0 ≤ y ∧ y ≤ 99) ∧ (-99 ≤ z ∧ z ≤ 99) ∧ (0 ≤ u ∧ u ≤ 999)) := fun q => q hc
        simp only [if_neg hn]
        obtain ⟨c1, c2, c3, c4⟩ := hc
        by_cases h6 : w < 30
        · have hlt : nI w < 30 := by rw [i30, nI_ltI (by omega) (by decide)]; exact h6
          have hne : ¬ nI w = 30 := by rw [i30, nI_eq (by omega) (by decide)]; omega
          have hne' : ¬ nI w = nI 30 := by rw [nI_eq (by omega) (by decide)]; omega
          have hz := zIn_nI (a := w) (n := 30) h6 (by decide)
          have hz1 := zIn_nI (a := w) (n := 66) (by omega) (by decide)
          have hz2 := zIn_nI (a := 30 + w) (n := 66) (by omega) (by decide)
          have hcl := nI_clamp (n := w) (by omega)
          have hcl2 := nI_clamp (n := 30 + w) (by omega)
          simp only [s_X7_addWindow, h2, hlt, if_true, zSg_t, zSt_e, wd1, hz, hcl, Option.bind_some, Nat.reduceEqDiff, false_and, if_false, and_false, nI_1, and_self]
          refine ⟨_, _, ?s2, w + 1, rfl, ?h2, by omega, ?h3⟩
          case h2 =>
            rw [mOne (s := s) (by simp [wd1, h1]) hs]
            simp only [Option.bind_some, bI_0, if_neg hn]
            simp only [s_X10_adds, wd1, Nat.reduceEqDiff, false_and, if_false, h3, hne, hne', zSg_t, i30, nI_add, hz, hz1, hz2, hcl2, hcl, zSt_e, and_false, nI_1, nI_pred, and_self, if_true, Option.bind_some]
            rfl
          case h3 =>
            refine ⟨⟨hs, by omega, hp⟩, ⟨?_, ?_, ?_, ?_, ?_, ?_⟩, fun k hk => ?_, fun k hk hk6 => ?_, fun j hj => ?_, fun q hq => ?_⟩
            · simp [wd1, h0]
            · simp [wd1, h1]
            · simp [wd1]
            · simp [wd1]
            · simp [wd1, h4]
            · simp [wd1, h5]
            · have := hS k hk
              have n1 : ¬ 60 + k = w := by omega
              have n2 : ¬ 60 + k = 30 + w := by omega
              unfold rTs at this ⊢
              simpa [wd1, n1, n2] using this
            · have := hE k hk hk6
              simp [wd1, this]
            · unfold rTw
              by_cases hjw : j = w
              · subst hjw
                obtain ⟨k, hk, rfl⟩ := ofN (by omega) c1.1 c1.2
                have n1 : ¬ j = 30 + j := by omega
                refine ⟨⟨?_, k, hk, ?_⟩, ⟨?_, ?_⟩, ⟨?_, ?_⟩, ⟨?_, ?_⟩⟩ <;> simp [wd1, inR, n1, c2, c3, c4]
              · have := hW j (by omega)
                have n1 : ¬ j = 30 + w := by omega
                have n2 : ¬ 30 + j = w := by omega
                have n3 : ¬ 30 + j = 30 + w := by omega
                unfold rTw at this
                simpa [wd1, n1, n2, n3, hjw] using this
            · have := hP q hq
              unfold rTp at this ⊢
              simpa [wd1] using this
        · refine ⟨-3, σ, σ, w, ?_, ?_, Nat.le_refl _, h⟩
          · have hlt : ¬ nI w < 30 := by rw [i30, nI_ltI (by omega) (by decide)]; omega
            simp [s_X7_addWindow, h2, hlt]
          · have he : nI w = 30 := by rw [i30, nI_eq (by omega) (by decide)]; omega
            rw [mOne (s := s) h1 hs]
            simp only [Option.bind_some, bI_0, if_neg hn]
            simp [h3, he]
      · refine ⟨-1, σ, σ, w, by simp only [if_pos hc], ?_, Nat.le_refl _, h⟩
        rw [mOne (s := s) h1 hs]
        simp only [Option.bind_some, bI_0, if_pos hc]
theorem who_ok {x : Int32} (h0 : 0 ≤ x) (h : x ≤ 1099) : inR (x / 100) 0 10 ∧ inR (zRem x 100) 0 99 := by
  obtain ⟨n, hn, rfl⟩ := pNat h0
  have h4 : n ≤ 1099 := by
    rw [show (1099 : Int32) = nI 1099 by decide, nI_leI (by omega) (by decide)] at h
    exact h
  rw [i100, nI_div (by omega) (by decide), nI_rem (by omega) (by decide)]
  exact ⟨inR_nI (a := 0) (b := 10) (by omega) (by omega) (by decide), inR_nI (a := 0) (b := 99) (by omega) (by omega) (by decide)⟩
theorem k_player_add (h : rT s w p σ) (a b c : Int32) (ha : 0 ≤ a ∧ a ≤ 1099) (hb : 0 ≤ b ∧ b ≤ 100) (hc : c = -1 ∨ ∃ k, k < s ∧ c = nI k) : ∃ (r : Int32) (σ1 σ2 : ZSt) (p' : Nat), s_X7_addPlayer (a / 100) (zRem a 100) b c σ = some (r, σ1) ∧ s_X10_player_C39 a b c σ1 = some (r, σ2) ∧ σ1.1 68 6 = σ.1 68 6 ∧ p ≤ p' ∧ rT s w p' σ2 := by
  obtain ⟨⟨hs, hw, hp⟩, ⟨h0, h1, h2, h3, h4, h5⟩, hS, hE, hW, hP⟩ := id h
  obtain ⟨a1, a2⟩ := who_ok ha.1 ha.2
  unfold s_X10_player_C39
  generalize a / 100 = x, zRem a 100 = y at a1 a2 ⊢
  by_cases h6 : p < 8
  · have hlt : nI p < 8 := by rw [i8, nI_ltI (by omega) (by decide)]; exact h6
    have hne : ¬ nI p = 8 := by rw [i8, nI_eq (by omega) (by decide)]; omega
    have hz := zIn_nI (a := p) (n := 8) h6 (by decide)
    have hcl := nI_clamp (n := p) (by omega)
    simp only [s_X7_addPlayer, h4, hlt, if_true, zSg_t, zSt_e, wd1, hz, hcl, Option.bind_some, Nat.reduceEqDiff, false_and, if_false, and_false, nI_1, and_self]
    refine ⟨_, _, ?s2, p + 1, rfl, ?h2, ?h4, by omega, ?h3⟩
    case h4 => simp [wd1]
    case h2 =>
      simp only [wd1, Nat.reduceEqDiff, false_and, if_false, h5, hne, zSg_t, hz, hcl, zSt_e, and_false, nI_1, nI_pred, and_self, if_true, Option.bind_some]
      rfl
    case h3 =>
      refine ⟨⟨hs, hw, by omega⟩, ⟨?_, ?_, ?_, ?_, ?_, ?_⟩, fun k hk => ?_, fun k hk hk6 => ?_, fun j hj => ?_, fun q hq => ?_⟩
      · simp [wd1, h0]
      · simp [wd1, h1]
      · simp [wd1, h2]
      · simp [wd1, h3]
      · simp [wd1]
      · simp [wd1]
      · have := hS k hk
        unfold rTs at this ⊢
        simpa [wd1] using this
      · have := hE k hk hk6
        simp [wd1, this]
      · have := hW j hj
        unfold rTw at this ⊢
        simpa [wd1] using this
      · unfold rTp
        by_cases hqp : q = p
        · subst hqp
          simp only [inR] at a1 a2
          simpa [wd1, a1, a2, inR, hb] using hc
        · have := hP q (by omega)
          unfold rTp at this
          simpa [wd1, hqp] using this
  · refine ⟨-3, σ, σ, p, ?_, ?_, rfl, Nat.le_refl _, h⟩
    · have hlt : ¬ nI p < 8 := by rw [i8, nI_ltI (by omega) (by decide)]; omega
      simp [s_X7_addPlayer, h4, hlt]
    · have he : nI p = 8 := by rw [i8, nI_eq (by omega) (by decide)]; omega
      simp [h5, he]
theorem k_player (h : rT s w p σ) (a b c : Int32) : ∃ (r : Int32) (σ1 σ2 : ZSt) (p' : Nat), s_X9_player a b c σ = some (r, σ1) ∧ s_X10_player a b c σ1 = some (r, σ2) ∧ p ≤ p' ∧ rT s w p' σ2 := by
  obtain ⟨⟨hs, hw, hp⟩, ⟨h0, h1, h2, h3, h4, h5⟩, hS, hE, hW, hP⟩ := id h
  unfold s_X9_player s_X10_player s_X10_isStreet
  simp only [isW, mW32 a 0 1099 (a' := 0) (b' := 1099) (by decide) (by decide), mW32 b 0 100 (a' := 0) (b' := 100) (by decide) (by decide), Option.bind_some, bI_0, cIsStreet h]
  by_cases ha : 0 ≤ a ∧ a ≤ 1099
  · by_cases hb : 0 ≤ b ∧ b ≤ 100
    · by_cases hc : c = -1
      · obtain ⟨r, σ1, σ2, p', e1, e2, e3, e4, e5⟩ := k_player_add h a b c ha hb (Or.inl hc)
        refine ⟨r, σ1, σ2, p', ?_, ?_, e4, e5⟩
        · simp only [ha, hb, and_self, not_true_eq_false, if_false, if_pos hc, e1, Option.bind_some]
        · simp only [ha, hb, and_self, not_true_eq_false, if_false, if_pos hc, e2]
      · by_cases hc2 : 0 ≤ c ∧ c < nI s
        · obtain ⟨r, σ1, σ2, p', e1, e2, e3, e4, e5⟩ := k_player_add h a b c ha hb (Or.inr (ofN (by omega) hc2.1 hc2.2))
          refine ⟨r, σ1, σ2, p', ?_, ?_, e4, e5⟩
          · simp only [ha, hb, hc2, and_self, not_true_eq_false, if_false, if_neg hc, e1, Option.bind_some]
          · simp only [ha, hb, and_self, not_true_eq_false, if_false, if_neg hc, e2, e3, h1, mIn (n := s) (by omega), hc2, bI, if_true, Option.bind_some]
            simp
        · refine ⟨-1, σ, σ, p, ?_, ?_, Nat.le_refl _, h⟩
          · simp only [ha, hb, hc2, and_self, not_true_eq_false, not_false_eq_true, if_true, if_false, if_neg hc]
          · simp only [ha, hb, and_self, not_true_eq_false, if_false, if_neg hc, h1, mIn (n := s) (by omega), hc2, bI, if_true, Option.bind_some, not_false_eq_true]
            simp
    · exact ⟨-1, σ, σ, p, by simp [ha, hb], by simp [ha, hb], Nat.le_refl _, h⟩
  · exact ⟨-1, σ, σ, p, by simp [ha], by simp [ha], Nat.le_refl _, h⟩
end TOWN
