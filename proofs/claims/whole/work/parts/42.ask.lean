/-! The town's questions and its simple calls -/
theorem mIn {n : Nat} (hn : n ≤ 1000) (x : Int32) (σ : ZSt) : s_X10_within x.toInt64 0 ((nI n - 1).toInt64) σ = some (bI (0 ≤ x ∧ x < nI n)) := by
  rw [mW32 x 0 (nI n - 1) (by decide) rfl]
  have e : (x ≤ nI n - 1) = (x < nI n) := by
    have := nI_toInt (n := n) (by omega)
    rw [Int32.le_iff_toInt_le, Int32.lt_iff_toInt_lt]
    have e2 : (nI n - 1).toInt = (n : Int) - 1 := by
      rw [Int32.toInt_sub, this]
      have : (1 : Int32).toInt = 1 := by decide
      rw [this]
      rw [Int.bmod_def]
      omega
    rw [e2, this]
    exact propext (by omega)
  simp only [e]
section TOWN
variable {s w p : Nat} {σ : ZSt}
theorem cIsWindow (h : rT s w p σ) (x : Int32) : s_X7_isWindow x σ = some (bI (0 ≤ x ∧ x < nI w)) := by
  obtain ⟨⟨-, hs, -⟩, ⟨-, -, h0, -⟩, -⟩ := h
  unfold s_X7_isWindow
  rw [h0]
  by_cases h1 : x < 0
  · have : ¬ (0 ≤ x) := Int32.not_le.mpr h1
    simp [h1, this, bI]
  · have g0 : 0 ≤ x := Int32.not_lt.mp h1
    by_cases h2 : nI w ≤ x
    · have : ¬ x < nI w := Int32.not_lt.mpr h2
      simp [h1, h2, this, bI]
    · have g2 : x < nI w := Int32.not_le.mp h2
      obtain ⟨k, hk, rfl⟩ := ofN (by omega) g0 g2
      have h3 : ¬ (30 : Int32) ≤ nI k := by
        rw [i30, nI_leI (by decide) (by omega)]
        omega
      simp [h1, h2, h3, g0, g2, bI]
theorem cIsPlayer (h : rT s w p σ) (x : Int32) : s_X7_isPlayer x σ = some (bI (0 ≤ x ∧ x < nI p)) := by
  obtain ⟨⟨-, -, hs⟩, ⟨-, -, -, -, h0, -⟩, -⟩ := h
  unfold s_X7_isPlayer
  rw [h0]
  by_cases h1 : x < 0
  · have : ¬ (0 ≤ x) := Int32.not_le.mpr h1
    simp [h1, this, bI]
  · have g0 : 0 ≤ x := Int32.not_lt.mp h1
    by_cases h2 : nI p ≤ x
    · have : ¬ x < nI p := Int32.not_lt.mpr h2
      simp [h1, h2, this, bI]
    · have g2 : x < nI p := Int32.not_le.mp h2
      obtain ⟨k, hk, rfl⟩ := ofN (by omega) g0 g2
      have h3 : ¬ (8 : Int32) ≤ nI k := by
        rw [i8, nI_leI (by decide) (by omega)]
        omega
      simp [h1, h2, h3, g0, g2, bI]
theorem mIsWindow (h : rT s w p σ) (x : Int32) : s_X10_isWindow x σ = some (bI (0 ≤ x ∧ x < nI w)) := by
  obtain ⟨⟨-, hs, -⟩, ⟨-, -, -, h0, -⟩, -⟩ := h
  unfold s_X10_isWindow
  rw [h0, mIn (by omega)]
  simp only [Option.bind_some, bI_01, if_true]
theorem mIsPlayer (h : rT s w p σ) (x : Int32) : s_X10_isPlayer x σ = some (bI (0 ≤ x ∧ x < nI p)) := by
  obtain ⟨⟨-, -, hs⟩, ⟨-, -, -, -, -, h0⟩, -⟩ := h
  unfold s_X10_isPlayer
  rw [h0, mIn (by omega)]
  simp only [Option.bind_some, bI_01, if_true]
theorem nI_lt_s {k n : Nat} (hk : k < n) (hn : n ≤ 1000) : 0 ≤ nI k ∧ nI k < nI n := by
  have h1 := nI_toInt (n := k) (by omega)
  have h2 := nI_toInt (n := n) (by omega)
  rw [Int32.le_iff_toInt_le, Int32.lt_iff_toInt_lt, h1, h2, toI0]
  omega
theorem cIsOf (h : rT s w p σ) {j : Nat} (hj : j < w) (x : Int32) : s_X7_isOf (nI j) x σ = some (bI (σ.1 6 j = x)) := by
  unfold s_X7_isOf
  rw [cIsWindow h]
  have hw := h.1.2.1
  have := nI_lt_s hj (by omega)
  simp only [this, and_self, bI_t, Option.bind_some, zIn_nI (a := j) (n := 30) (by omega) (by decide), zLd_t, nI_clamp (n := j) (by omega)]
  by_cases h1 : σ.1 6 j = x <;> simp [h1, bI]
theorem cHarmTo (h : rT s w p σ) {j : Nat} (hj : j < w) (g : Int32) : s_X7_harmTo (nI j) g σ = some (σ.1 7 j - σ.1 8 j * g / 10) := by
  unfold s_X7_harmTo
  rw [cIsWindow h]
  have hw := h.1.2.1
  have := nI_lt_s hj (by omega)
  simp only [this, and_self, bI_t, Option.bind_some, zIn_nI (a := j) (n := 30) (by omega) (by decide), zLd_t, nI_clamp (n := j) (by omega)]
  simp
theorem mHarmBy (h : rT s w p σ) {j : Nat} (hj : j < w) (g : Int32) : s_X10_harmBy g (nI j) σ = some (σ.1 7 j - σ.1 8 j * g / 10) := by
  obtain ⟨⟨-, hw, -⟩, -, -, -, hW, -⟩ := h
  obtain ⟨-, ⟨h7, -⟩, ⟨h8, -⟩, -⟩ := hW j hj
  unfold s_X10_harmBy
  simp only [i30, nI_add, zIn_nI (a := j) (n := 66) (by omega) (by decide), zIn_nI (a := 30 + j) (n := 66) (by omega) (by decide), zLd_t, nI_clamp (n := j) (by omega), nI_clamp (n := 30 + j) (by omega), ← h7, ← h8]
theorem nI_le_n {a b : Nat} (ha : a ≤ 1000) (hb : b ≤ 1000) : (nI a ≤ nI b) = (a ≤ b) := propext (nI_leI (by omega) (by omega))
theorem k_windowsOf_L (h : rT s w p σ) (x : Int32) : ∀ (n j : Nat) (acc : Int32), w < n + j → j ≤ w → ∃ r, s_X7_windowsOf_L4 x σ n acc (nI j) = some r ∧ s_X10_windowsOf_L4 x σ n acc (nI j) = some r := by
  intro n
  obtain ⟨⟨hs, hw, hp⟩, ⟨h0, h1, h2, h3, h4, h5⟩, hS, hE, hW, hP⟩ := id h
  induction n with
  | zero => intro j acc hn hj; omega
  | succ n ih =>
    intro j acc hn hj
    simp only [s_X7_windowsOf_L4, s_X10_windowsOf_L4, h2, h3, nI_le_n (a := w) (b := j) (by omega) (by omega)]
    by_cases hq : w ≤ j
    · exact ⟨acc, by simp [hq], by simp [hq]⟩
    · have hj' : j < w := by omega
      obtain ⟨⟨h6, -⟩, -⟩ := hW j hj'
      have e1 : nI j + 1 = nI (j + 1) := nI_1 j
      simp only [hq, if_false, cIsOf h hj', Option.bind_some, zIn_nI (a := j) (n := 30) (by omega) (by decide), zLd_t, nI_clamp (n := j) (by omega), ← h6, bI_0, e1]
      by_cases hx : σ.1 6 j = x
      · simpa only [hx, not_true_eq_false, if_false, if_true] using ih (j + 1) (acc + 1) (by omega) (by omega)
      · simpa only [hx, not_false_eq_true, if_false, if_true, Int32.add_zero] using ih (j + 1) acc (by omega) (by omega)
theorem k_windowsOf (h : rT s w p σ) (x : Int32) : ∃ r, s_X7_windowsOf x σ = some r ∧ s_X10_windowsOf x σ = some r := by
  have hw := h.1.2.1
  exact k_windowsOf_L h x 200 0 0 (by omega) (by omega)
theorem k_of (h : rT s w p σ) (a b : Int32) : ∃ r, s_X9_of a b σ = some r ∧ s_X10_of a b σ = some r := by
  obtain ⟨⟨hs, hw, hp⟩, ⟨h0, h1, h2, h3, h4, h5⟩, hS, hE, hW, hP⟩ := id h
  unfold s_X9_of s_X10_of s_X9_of_C30 s_X9_of_C65
  simp only [isW, mW32 b 0 3 (a' := 0) (b' := 3) (by decide) (by decide), mW32 b 10 13 (a' := 10) (b' := 13) (by decide) (by decide), mW32 b 20 23 (a' := 20) (b' := 23) (by decide) (by decide), cIsPlayer h, mIsPlayer h, cIsWindow h, mIsWindow h, cIsStreet h, mIsStreet h, Option.bind_some, bI_0]
  by_cases hb : 0 ≤ b ∧ b ≤ 3
  · have hb2 : ¬ (10 ≤ b ∧ b ≤ 13) := by grind
    have hb3 : ¬ (20 ≤ b ∧ b ≤ 23) := by grind
    simp only [hb, hb2, hb3, not_true_eq_false, not_false_eq_true, if_false, if_true, and_self]
    by_cases ha : 0 ≤ a ∧ a < nI p
    · obtain ⟨k, hk, rfl⟩ := ofN (by omega) ha.1 ha.2
      obtain ⟨⟨q1, -⟩, ⟨q2, -⟩, ⟨q3, -⟩, ⟨q4, -⟩⟩ := hP k hk
      simp only [ha, not_true_eq_false, if_false, and_self, s_X7_ofPlayer, s_X10_ofPlayer, cIsPlayer h, Option.bind_some, bI_0, zIn_nI (a := k) (n := 8) (by omega) (by decide), zLd_t, nI_clamp (n := k) (by omega), ← q1, ← q2, ← q3, ← q4]
      repeat' split
      all_goals exact ⟨_, rfl⟩
    · exact ⟨_, by simp only [ha, not_false_eq_true, if_true]; rfl, by simp only [ha, not_false_eq_true, if_true]⟩
  · simp only [hb, not_false_eq_true, if_true]
    by_cases hb2 : 10 ≤ b ∧ b ≤ 13
    · have hb3 : ¬ (20 ≤ b ∧ b ≤ 23) := by grind
      simp only [hb2, hb3, not_true_eq_false, not_false_eq_true, if_false, if_true, and_self]
      by_cases ha : 0 ≤ a ∧ a < nI w
      · obtain ⟨k, hk, rfl⟩ := ofN (by omega) ha.1 ha.2
        obtain ⟨⟨q1, -⟩, ⟨q2, -⟩, ⟨q3, -⟩, ⟨q4, -⟩⟩ := hW k hk
        have e0 : (b - 10 = 0) = (b = 10) := by grind
        have e1 : (b - 10 = 1) = (b = 11) := by grind
        have e2 : (b - 10 = 2) = (b = 12) := by grind
        simp only [ha, not_true_eq_false, if_false, and_self, s_X7_ofWindow, s_X10_ofWindow, cIsWindow h, Option.bind_some, bI_0, i30, nI_add, zIn_nI (a := k) (n := 30) (by omega) (by decide), zIn_nI (a := k) (n := 66) (by omega) (by decide), zIn_nI (a := 30 + k) (n := 66) (by omega) (by decide), zLd_t, nI_clamp (n := k) (by omega), nI_clamp (n := 30 + k) (by omega), ← q1, ← q2, ← q3, ← q4, e0, e1, e2]
        repeat' split
        all_goals exact ⟨_, rfl⟩
      · exact ⟨_, by simp only [ha, not_false_eq_true, if_true]; rfl, by simp only [ha, not_false_eq_true, if_true]⟩
    · simp only [hb2, not_false_eq_true, if_true]
      by_cases hb3 : 20 ≤ b ∧ b ≤ 23
      · simp only [hb3, not_true_eq_false, not_false_eq_true, if_false, if_true, and_self]
        by_cases ha : 0 ≤ a ∧ a < nI s
        · obtain ⟨k, hk, rfl⟩ := ofN (by omega) ha.1 ha.2
          obtain ⟨⟨q1, -⟩, ⟨q2, -⟩, ⟨q3, -⟩, ⟨q4, -⟩⟩ := hS k hk
          obtain ⟨r, r1, r2⟩ := k_windowsOf h (nI k)
          have e0 : (b - 20 = 0) = (b = 20) := by grind
          have e1 : (b - 20 = 1) = (b = 21) := by grind
          have e2 : (b - 20 = 2) = (b = 22) := by grind
          simp only [ha, not_true_eq_false, if_false, and_self, s_X7_ofStreet, s_X10_ofStreet, s_X10_take, s_X7_wayAndSum, cIsStreet h, Option.bind_some, bI_0, i60, nI_add, zIn_nI (a := k) (n := 6) (by omega) (by decide), zIn_nI (a := 60 + k) (n := 66) (by omega) (by decide), zLd_t, nI_clamp (n := k) (by omega), nI_clamp (n := 60 + k) (by omega), ← q1, ← q2, ← q3, ← q4, e0, e1, e2, r1, r2]
          repeat' split
          all_goals exact ⟨_, rfl⟩
        · exact ⟨_, by simp only [ha, not_false_eq_true, if_true]; rfl, by simp only [ha, not_false_eq_true, if_true]⟩
      · exact ⟨_, by simp only [hb3, not_false_eq_true, if_true]; rfl, by simp only [hb3, not_false_eq_true, if_true]⟩
end TOWN
