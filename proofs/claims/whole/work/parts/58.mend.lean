/-! mend -/
section TOWN
variable {s w p : Nat} {σ : ZSt}
theorem mBack (h : rT s w p σ) {q : Nat} (hq : q < 66) {v : Int32} (hv : σ.1 69 q = v) : s_X10_becomes (nI q) v σ = some (v, σ) := by
  unfold s_X10_becomes
  rw [zLd_t (zIn_nI hq (by decide)), nI_clamp (n := q) (by omega), if_pos hv, hv]
theorem mIsW_c {σa : ZSt} (h : σa.1 68 10 = σ.1 68 10) (x : Int32) : s_X10_isWindow x σa = s_X10_isWindow x σ := by
  unfold s_X10_isWindow
  rw [h]
  rfl
theorem mIsS_c {σa : ZSt} (h : σa.1 68 6 = σ.1 68 6) (x : Int32) : s_X10_isStreet x σa = s_X10_isStreet x σ := by
  unfold s_X10_isStreet
  rw [h]
  rfl
theorem k_mend0 (h : rT s w p σ) (hc : rCh s w σ) (a v : Int32) : ∃ (r : Int32) (σ1 σ2 : ZSt), s_X9_mend a 0 v σ = some (r, σ1) ∧ s_X10_mend a 0 v σ1 = some (r, σ2) ∧ rT s w p σ2 ∧ rCh s w σ2 := by
  have hs := h.1.1
  have hw := h.1.2.1
  obtain ⟨-, -, hS, hE, hW, hP⟩ := id h
  unfold s_X9_mend s_X10_mend s_X7_takesMend
  simp only [isW, cIsWindow h, cIsStreet h, Option.bind_some, bI_0, show ¬ (0 : Int32) = 2 by decide, if_true, if_false]
  by_cases ha : 0 ≤ a ∧ a < nI w
  · by_cases hv : 0 ≤ v ∧ v ≤ 99
    · obtain ⟨k, hk, rfl⟩ := ofN (by omega) ha.1 ha.2
      obtain ⟨-, ⟨q1, q2⟩, -⟩ := hW k hk
      have told : s_X7_told (nI k) 0 σ = some (σ.1 7 k) := by
        unfold s_X7_told
        simp only [show ¬ (0 : Int32) = 2 by decide, if_false, cIsWindow h, ha, and_self, Option.bind_some, bI_0, not_true_eq_false, if_true, zIn_nI (a := k) (n := 30) (by omega) (by decide), zLd_t, nI_clamp (n := k) (by omega)]
      simp only [if_true, ha, hv, and_self, not_true_eq_false, if_false, Option.bind_some, show ¬ (1 : Int32) = 0 by decide, told]
      by_cases e : σ.1 7 k = v
      · refine ⟨v, σ, σ, by rw [if_pos e, e], ?_, h, hc⟩
        simp only [mIsWindow h, mTwo, mBack h (q := k) (by omega) (q1 ▸ e), ha, hv, and_self, Option.bind_some, bI_0, not_true_eq_false, if_false]
      · obtain ⟨σa, σ2, x1, x2, x3, x4, x5⟩ := add_both hc (cc := 7) (k := k) (q := k) (a := nI k) (b := 0) (v := v) (Or.inr (Or.inl rfl)) (by omega) q1.symm e (Or.inr (Or.inl ⟨rfl, ⟨k, hk, rfl, rfl⟩, q2, hv⟩))
        have ha' := rT_at x4 h
        refine ⟨σ.1 7 k, zWD σa 7 k v, σ2, ?_, ?_, rT_at x5 (rT_w0 h hk hv), x3⟩
        · rw [if_neg e, x1, Option.bind_some]
          unfold s_X7_tell
          simp only [show ¬ (0 : Int32) = 2 by decide, if_false, cIsWindow ha', ha, and_self, Option.bind_some, bI_0, not_true_eq_false, if_true, zIn_nI (a := k) (n := 30) (by omega) (by decide), zSg_t, nI_clamp (n := k) (by omega)]
        · rw [mIsW_c (σ := σa) (by simp [wd1])]
          simp only [mIsWindow ha', mTwo, x2, ha, hv, and_self, Option.bind_some, bI_0, not_true_eq_false, if_false]
    · refine ⟨-2000000000, σ, σ, ?_, ?_, h, hc⟩
      · simp only [if_true, ha, hv, and_self, not_true_eq_false, not_false_eq_true, if_false, Option.bind_some]
      · simp only [mIsWindow h, mTwo, if_true, ha, hv, and_self, not_true_eq_false, not_false_eq_true, if_false, Option.bind_some, bI_0]
  · refine ⟨-2000000000, σ, σ, ?_, ?_, h, hc⟩
    · simp only [if_true, ha, not_false_eq_true, Option.bind_some]
    · simp only [mIsWindow h, if_true, ha, not_false_eq_true, Option.bind_some, bI_0]
theorem k_mend1 (h : rT s w p σ) (hc : rCh s w σ) (a v : Int32) : ∃ (r : Int32) (σ1 σ2 : ZSt), s_X9_mend a 1 v σ = some (r, σ1) ∧ s_X10_mend a 1 v σ1 = some (r, σ2) ∧ rT s w p σ2 ∧ rCh s w σ2 := by
  have hs := h.1.1
  have hw := h.1.2.1
  obtain ⟨-, -, hS, hE, hW, hP⟩ := id h
  unfold s_X9_mend s_X10_mend s_X7_takesMend
  simp only [isW, cIsWindow h, cIsStreet h, Option.bind_some, bI_0, show ¬ (1 : Int32) = 2 by decide, show ¬ (1 : Int32) = 0 by decide, if_true, if_false]
  by_cases ha : 0 ≤ a ∧ a < nI w
  · by_cases hv : -99 ≤ v ∧ v ≤ 99
    · obtain ⟨k, hk, rfl⟩ := ofN (by omega) ha.1 ha.2
      obtain ⟨-, -, ⟨q1, q2⟩, -⟩ := hW k hk
      have told : s_X7_told (nI k) 1 σ = some (σ.1 8 k) := by
        unfold s_X7_told
        simp only [show ¬ (1 : Int32) = 2 by decide, show ¬ (1 : Int32) = 0 by decide, if_false, cIsWindow h, ha, and_self, Option.bind_some, bI_0, not_true_eq_false, if_true, zIn_nI (a := k) (n := 30) (by omega) (by decide), zLd_t, nI_clamp (n := k) (by omega)]
      simp only [if_true, ha, hv, and_self, not_true_eq_false, if_false, Option.bind_some, show ¬ (1 : Int32) = 0 by decide, told]
      by_cases e : σ.1 8 k = v
      · refine ⟨v, σ, σ, by rw [if_pos e, e], ?_, h, hc⟩
        simp only [mIsWindow h, mW32 v (-99) 99 (a' := -99) (b' := 99) (by decide) (by decide), i30, nI_add, mBack h (q := 30 + k) (by omega) (q1 ▸ e), ha, hv, and_self, Option.bind_some, bI_0, not_true_eq_false, if_false]
      · obtain ⟨σa, σ2, x1, x2, x3, x4, x5⟩ := add_both hc (cc := 8) (k := k) (q := 30 + k) (a := nI k) (b := 1) (v := v) (Or.inr (Or.inr rfl)) (by omega) q1.symm e (Or.inr (Or.inr ⟨rfl, ⟨k, hk, rfl, rfl⟩, q2, hv⟩))
        have ha' := rT_at x4 h
        refine ⟨σ.1 8 k, zWD σa 8 k v, σ2, ?_, ?_, rT_at x5 (rT_w1 h hk hv), x3⟩
        · rw [if_neg e, x1, Option.bind_some]
          unfold s_X7_tell
          simp only [show ¬ (1 : Int32) = 2 by decide, show ¬ (1 : Int32) = 0 by decide, if_false, cIsWindow ha', ha, and_self, Option.bind_some, bI_0, not_true_eq_false, if_true, zIn_nI (a := k) (n := 30) (by omega) (by decide), zSg_t, nI_clamp (n := k) (by omega)]
        · rw [mIsW_c (σ := σa) (by simp [wd1])]
          simp only [mIsWindow ha', mW32 v (-99) 99 (a' := -99) (b' := 99) (by decide) (by decide), i30, nI_add, x2, ha, hv, and_self, Option.bind_some, bI_0, not_true_eq_false, if_false]
    · refine ⟨-2000000000, σ, σ, ?_, ?_, h, hc⟩
      · simp only [if_true, ha, hv, and_self, not_true_eq_false, not_false_eq_true, if_false, Option.bind_some]
      · simp only [mIsWindow h, mW32 v (-99) 99 (a' := -99) (b' := 99) (by decide) (by decide), if_true, ha, hv, and_self, not_true_eq_false, not_false_eq_true, if_false, Option.bind_some, bI_0]
  · refine ⟨-2000000000, σ, σ, ?_, ?_, h, hc⟩
    · simp only [if_true, ha, not_false_eq_true, Option.bind_some]
    · simp only [mIsWindow h, if_true, ha, not_false_eq_true, Option.bind_some, bI_0]
theorem k_mend2 (h : rT s w p σ) (hc : rCh s w σ) (a v : Int32) : ∃ (r : Int32) (σ1 σ2 : ZSt), s_X9_mend a 2 v σ = some (r, σ1) ∧ s_X10_mend a 2 v σ1 = some (r, σ2) ∧ rT s w p σ2 ∧ rCh s w σ2 := by
  have hs := h.1.1
  have hw := h.1.2.1
  obtain ⟨-, -, hS, hE, hW, hP⟩ := id h
  unfold s_X9_mend s_X10_mend s_X7_takesMend
  simp only [isW, cIsWindow h, cIsStreet h, Option.bind_some, bI_0, show ¬ (2 : Int32) = 0 by decide, show ¬ (2 : Int32) = 1 by decide, if_true, if_false]
  by_cases ha : 0 ≤ a ∧ a < nI s
  · by_cases hv : 0 ≤ v ∧ v ≤ 99
    · obtain ⟨k, hk, rfl⟩ := ofN (by omega) ha.1 ha.2
      obtain ⟨⟨q1, q2⟩, -⟩ := hS k hk
      have told : s_X7_told (nI k) 2 σ = some (σ.1 2 k) := by
        unfold s_X7_told s_X7_take
        simp only [show ¬ (2 : Int32) = 0 by decide, show ¬ (2 : Int32) = 1 by decide, if_false, cIsStreet h, ha, and_self, Option.bind_some, bI_0, not_true_eq_false, if_true, zIn_nI (a := k) (n := 6) (by omega) (by decide), zLd_t, nI_clamp (n := k) (by omega)]
      simp only [if_true, ha, hv, and_self, not_true_eq_false, if_false, Option.bind_some, show ¬ (1 : Int32) = 0 by decide, told]
      by_cases e : σ.1 2 k = v
      · refine ⟨v, σ, σ, by rw [if_pos e, e], ?_, h, hc⟩
        simp only [mIsStreet h, mTwo, i60, nI_add, mBack h (q := 60 + k) (by omega) (q1 ▸ e), ha, hv, and_self, Option.bind_some, bI_0, not_true_eq_false, if_false]
      · obtain ⟨σa, σ2, x1, x2, x3, x4, x5⟩ := add_both hc (cc := 2) (k := k) (q := 60 + k) (a := nI k) (b := 2) (v := v) (Or.inl rfl) (by omega) q1.symm e (Or.inl ⟨rfl, ⟨k, hk, rfl, rfl⟩, q2, hv⟩)
        have ha' := rT_at x4 h
        refine ⟨σ.1 2 k, zWD σa 2 k v, σ2, ?_, ?_, rT_at x5 (rT_w2 h hk hv), x3⟩
        · rw [if_neg e, x1, Option.bind_some]
          unfold s_X7_tell
          simp only [show ¬ (2 : Int32) = 0 by decide, show ¬ (2 : Int32) = 1 by decide, if_false, cIsStreet ha', ha, and_self, Option.bind_some, bI_0, not_true_eq_false, if_true, zIn_nI (a := k) (n := 6) (by omega) (by decide), zSg_t, nI_clamp (n := k) (by omega)]
        · rw [mIsS_c (σ := σa) (by simp [wd1])]
          simp only [mIsStreet ha', mTwo, i60, nI_add, x2, ha, hv, and_self, Option.bind_some, bI_0, not_true_eq_false, if_false]
    · refine ⟨-2000000000, σ, σ, ?_, ?_, h, hc⟩
      · simp only [if_true, ha, hv, and_self, not_true_eq_false, not_false_eq_true, if_false, Option.bind_some]
      · simp only [mIsStreet h, mTwo, if_true, ha, hv, and_self, not_true_eq_false, not_false_eq_true, if_false, Option.bind_some, bI_0]
  · refine ⟨-2000000000, σ, σ, ?_, ?_, h, hc⟩
    · simp only [if_true, ha, not_false_eq_true, Option.bind_some]
    · simp only [mIsStreet h, if_true, ha, not_false_eq_true, Option.bind_some, bI_0]
theorem k_mend (h : rT s w p σ) (hc : rCh s w σ) (a b v : Int32) : ∃ (r : Int32) (σ1 σ2 : ZSt), s_X9_mend a b v σ = some (r, σ1) ∧ s_X10_mend a b v σ1 = some (r, σ2) ∧ rT s w p σ2 ∧ rCh s w σ2 := by
  by_cases b0 : b = 0
  · subst b0; exact k_mend0 h hc a v
  · by_cases b1 : b = 1
    · subst b1; exact k_mend1 h hc a v
    · by_cases b2 : b = 2
      · subst b2; exact k_mend2 h hc a v
      · refine ⟨-2000000000, σ, σ, ?_, ?_, h, hc⟩
        · unfold s_X9_mend s_X7_takesMend
          simp only [b0, b1, b2, if_false, Option.bind_some, if_true]
        · unfold s_X10_mend
          simp only [b0, b1, b2, if_false]
end TOWN
