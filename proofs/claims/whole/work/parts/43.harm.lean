/-! What a street's windows come to -/
section TOWN
variable {s w p : Nat} {σ : ZSt}
theorem cIsHarmed (h : rT s w p σ) {j : Nat} (hj : j < w) (x g : Int32) : s_X7_isHarmed (nI j) x g σ = some (bI (σ.1 6 j = x ∧ 0 < σ.1 7 j - σ.1 8 j * g / 10)) := by
  unfold s_X7_isHarmed
  rw [cIsOf h hj, cHarmTo h hj]
  simp only [Option.bind_some, bI_0]
  by_cases h1 : σ.1 6 j = x
  · by_cases h2 : σ.1 7 j - σ.1 8 j * g / 10 ≤ 0
    · have : ¬ 0 < σ.1 7 j - σ.1 8 j * g / 10 := Int32.not_lt.mpr h2
      simp [h1, h2, this, bI]
    · have : 0 < σ.1 7 j - σ.1 8 j * g / 10 := Int32.not_le.mp h2
      simp [h1, h2, this, bI]
  · simp [h1, bI]
theorem mIsHarmed (h : rT s w p σ) {j q : Nat} (hj : j < w) (hq : q < p) (x : Int32) : s_X10_isHarmed (nI q) x (nI j) σ = some (bI (σ.1 6 j = x ∧ 0 < σ.1 7 j - σ.1 8 j * σ.1 10 q / 10)) := by
  unfold s_X10_isHarmed
  have hw := h.1.2.1
  have hp := h.1.2.2
  obtain ⟨⟨h6, -⟩, -⟩ := h.2.2.2.2.1 j hj
  obtain ⟨⟨h10, -⟩, -⟩ := h.2.2.2.2.2 q hq
  simp only [zIn_nI (a := j) (n := 30) (by omega) (by decide), zIn_nI (a := q) (n := 8) (by omega) (by decide), zLd_t, nI_clamp (n := j) (by omega), nI_clamp (n := q) (by omega), ← h6, ← h10, Option.bind_some, mHarmBy h hj]
  by_cases h1 : σ.1 6 j = x
  · by_cases h2 : σ.1 7 j - σ.1 8 j * σ.1 10 q / 10 ≤ 0
    · have : ¬ 0 < σ.1 7 j - σ.1 8 j * σ.1 10 q / 10 := Int32.not_lt.mpr h2
      simp [h1, h2, this, bI]
    · have : 0 < σ.1 7 j - σ.1 8 j * σ.1 10 q / 10 := Int32.not_le.mp h2
      simp [h1, h2, this, bI]
  · simp [h1, bI]
theorem k_streetHarm_L (h : rT s w p σ) (x g : Int32) : ∀ (n j : Nat) (acc : Int32), w < n + j → j ≤ w → ∃ r, s_X7_harmOfStreet_L5 x g σ n acc (nI j) = some r ∧ s_X10_streetHarm_L5 g x σ n acc (nI j) = some r := by
  intro n
  obtain ⟨⟨hs, hw, hp⟩, ⟨h0, h1, h2, h3, h4, h5⟩, hS, hE, hW, hP⟩ := id h
  induction n with
  | zero => intro j acc hn hj; omega
  | succ n ih =>
    intro j acc hn hj
    simp only [s_X7_harmOfStreet_L5, s_X10_streetHarm_L5, h2, h3, nI_le_n (a := w) (b := j) (by omega) (by omega)]
    by_cases hq : w ≤ j
    · exact ⟨acc, by simp [hq], by simp [hq]⟩
    · have hj' : j < w := by omega
      obtain ⟨⟨h6, -⟩, -⟩ := hW j hj'
      have e1 : nI j + 1 = nI (j + 1) := nI_1 j
      simp only [hq, if_false, cIsOf h hj', cHarmTo h hj', mHarmBy h hj', Option.bind_some, zIn_nI (a := j) (n := 30) (by omega) (by decide), zLd_t, nI_clamp (n := j) (by omega), ← h6, bI_0, e1]
      by_cases hx : σ.1 6 j = x
      · simpa only [hx, not_true_eq_false, if_false, if_true] using ih (j + 1) _ (by omega) (by omega)
      · simpa only [hx, not_false_eq_true, if_false, if_true, Int32.add_zero] using ih (j + 1) acc (by omega) (by omega)
theorem k_streetHarm (h : rT s w p σ) (x g : Int32) : ∃ r, s_X7_harmOfStreet x g σ = some r ∧ s_X10_streetHarm g x σ = some r := by
  have hw := h.1.2.1
  exact k_streetHarm_L h x g 200 0 0 (by omega) (by omega)
theorem k_most_L (h : rT s w p σ) (x g : Int32) : ∀ (n j : Nat) (acc : Int32), w < n + j → j ≤ w → ∃ r, s_X7_most_L5 x g σ n acc (nI j) = some r ∧ s_X10_mostBy_L5 g x σ n acc (nI j) = some r := by
  intro n
  obtain ⟨⟨hs, hw, hp⟩, ⟨h0, h1, h2, h3, h4, h5⟩, hS, hE, hW, hP⟩ := id h
  induction n with
  | zero => intro j acc hn hj; omega
  | succ n ih =>
    intro j acc hn hj
    simp only [s_X7_most_L5, s_X10_mostBy_L5, h2, h3, nI_le_n (a := w) (b := j) (by omega) (by omega)]
    by_cases hq : w ≤ j
    · exact ⟨acc, by simp [hq], by simp [hq]⟩
    · have hj' : j < w := by omega
      obtain ⟨⟨h6, -⟩, -⟩ := hW j hj'
      have e1 : nI j + 1 = nI (j + 1) := nI_1 j
      simp only [hq, if_false, cIsHarmed h hj', cHarmTo h hj', mHarmBy h hj', Option.bind_some, zIn_nI (a := j) (n := 30) (by omega) (by decide), zLd_t, nI_clamp (n := j) (by omega), ← h6, bI_0, e1]
      by_cases hx : σ.1 6 j = x
      · by_cases h2 : σ.1 7 j - σ.1 8 j * g / 10 ≤ 0
        · have h3 : ¬ 0 < σ.1 7 j - σ.1 8 j * g / 10 := Int32.not_lt.mpr h2
          simpa only [hx, h2, h3, and_false, not_false_eq_true, if_true, Int32.add_zero] using ih (j + 1) _ (by omega) (by omega)
        · have h3 : 0 < σ.1 7 j - σ.1 8 j * g / 10 := Int32.not_le.mp h2
          simpa only [hx, h2, h3, true_and, not_true_eq_false, if_false, if_true, Int32.add_zero] using ih (j + 1) _ (by omega) (by omega)
      · simpa only [hx, false_and, not_false_eq_true, if_false, if_true, Int32.add_zero] using ih (j + 1) acc (by omega) (by omega)
theorem k_most (h : rT s w p σ) (x g : Int32) : ∃ r, s_X7_most x g σ = some r ∧ s_X10_mostBy g x σ = some r := by
  have hw := h.1.2.1
  exact k_most_L h x g 200 0 0 (by omega) (by omega)
theorem k_many_L (h : rT s w p σ) (x : Int32) {q : Nat} (hq' : q < p) : ∀ (n j a : Nat), w < n + j → j ≤ w → a ≤ j → ∃ r, r ≤ w ∧ s_X7_howManyHarmed_L5 x (σ.1 10 q) σ n (nI a) (nI j) = some (nI r) ∧ s_X10_harmedMany_L5 (nI q) x σ n (nI a) (nI j) = some (nI r) := by
  intro n
  obtain ⟨⟨hs, hw, hp⟩, ⟨h0, h1, h2, h3, h4, h5⟩, hS, hE, hW, hP⟩ := id h
  induction n with
  | zero => intro j acc hn hj; omega
  | succ n ih =>
    intro j a hn hj ha
    simp only [s_X7_howManyHarmed_L5, s_X10_harmedMany_L5, h2, h3, nI_le_n (a := w) (b := j) (by omega) (by omega)]
    by_cases hq : w ≤ j
    · exact ⟨a, by omega, by simp [hq], by simp [hq]⟩
    · have hj' : j < w := by omega
      have e1 : nI j + 1 = nI (j + 1) := nI_1 j
      have e2 : nI a + 1 = nI (a + 1) := nI_1 a
      simp only [hq, if_false, cIsHarmed h hj', mIsHarmed h hj' hq', Option.bind_some, bI_0, e1, e2, Int32.add_zero]
      by_cases hx : σ.1 6 j = x ∧ 0 < σ.1 7 j - σ.1 8 j * σ.1 10 q / 10
      · simpa only [hx, and_self, not_true_eq_false, if_false] using ih (j + 1) (a + 1) (by omega) (by omega) (by omega)
      · simpa only [hx, not_false_eq_true, if_true] using ih (j + 1) a (by omega) (by omega) (by omega)
theorem k_many (h : rT s w p σ) (x : Int32) {q : Nat} (hq : q < p) : ∃ r, r ≤ w ∧ s_X7_howManyHarmed x (σ.1 10 q) σ = some (nI r) ∧ s_X10_harmedMany (nI q) x σ = some (nI r) := by
  have hw := h.1.2.1
  exact k_many_L h x hq 200 0 0 (by omega) (by omega) (by omega)
theorem cGoodOf (h : rT s w p σ) {q : Nat} (hq : q < p) : s_X7_goodOf (nI q) σ = some (σ.1 10 q) := by
  unfold s_X7_goodOf
  have hp := h.1.2.2
  rw [cIsPlayer h]
  simp only [nI_lt_s hq (by omega), and_self, bI_t, Option.bind_some, zIn_nI (a := q) (n := 8) (by omega) (by decide), zLd_t, nI_clamp (n := q) (by omega)]
  simp
theorem k_least (h : rT s w p σ) {q k : Nat} (hq : q < p) (hk : k < s) : ∃ r, s_X7_least (nI q) (nI k) σ = some r ∧ s_X10_leastFor (nI q) (nI k) σ = some r := by
  obtain ⟨⟨hs, hw, hp⟩, ⟨h0, h1, h2, h3, h4, h5⟩, hS, hE, hW, hP⟩ := id h
  obtain ⟨⟨q1, -⟩, -⟩ := hS k hk
  obtain ⟨-, ⟨q2, -⟩, -⟩ := hP q hq
  unfold s_X7_least s_X10_leastFor s_X7_take s_X7_cost s_X10_take
  simp only [cIsStreet h, cIsPlayer h, nI_lt_s hk (by omega), nI_lt_s hq (by omega), and_self, bI_0, not_true_eq_false, if_false, Option.bind_some, i60, nI_add, zIn_nI (a := k) (n := 6) (by omega) (by decide), zIn_nI (a := 60 + k) (n := 66) (by omega) (by decide), zIn_nI (a := q) (n := 8) (by omega) (by decide), zLd_t, nI_clamp (n := q) (by omega), nI_clamp (n := k) (by omega), nI_clamp (n := 60 + k) (by omega), ← q1, ← q2]
  by_cases c : σ.1 2 k - σ.1 11 q < 0
  · have : ¬ 0 ≤ σ.1 2 k - σ.1 11 q := Int32.not_le.mpr c
    exact ⟨1, by simp [c], by simp [this]⟩
  · have c' : 0 ≤ σ.1 2 k - σ.1 11 q := Int32.not_lt.mp c
    exact ⟨_, by simp only [c, if_false]; rfl, by simp only [c', if_true]⟩
theorem k_bargain (h : rT s w p σ) {q k : Nat} (hq : q < p) (hk : k < s) (g : Int32) : ∃ r, s_X5_bargain (nI q) (nI k) g σ = some r ∧ s_X10_bargainOf (nI q) g (nI k) σ = some r := by
  obtain ⟨a, a1, a2⟩ := k_least h hq hk
  obtain ⟨b, b1, b2⟩ := k_most h (nI k) g
  unfold s_X5_bargain s_X10_bargainOf
  simp only [a1, a2, b1, b2, Option.bind_some, and_self]
  split
  · exact ⟨_, rfl⟩
  · exact ⟨_, rfl⟩
theorem cPair (h : rT s w p σ) (x : Int32) : s_X9_isPair x σ = some (bI (0 ≤ x ∧ (0 ≤ x / 10 ∧ x / 10 < nI p) ∧ (0 ≤ zRem x 10 ∧ zRem x 10 < nI s))) := by
  unfold s_X9_isPair
  simp only [cIsPlayer h, cIsStreet h, Option.bind_some, bI_0]
  by_cases h1 : x < 0
  · have : ¬ 0 ≤ x := Int32.not_le.mpr h1
    simp [h1, this, bI]
  · have g1 : 0 ≤ x := Int32.not_lt.mp h1
    simp only [h1, g1, if_false, true_and]
    by_cases h2 : 0 ≤ x / 10 ∧ x / 10 < nI p
    · simp only [h2, and_self, not_true_eq_false, if_false, true_and]
      by_cases h3 : 0 ≤ zRem x 10 ∧ zRem x 10 < nI s
      · simp [h3, bI]
      · simp [h3, bI]
    · simp [h2, bI]
theorem mPs (h : rT s w p σ) (x : Int32) : s_X10_isPs x σ = some (bI (0 ≤ x ∧ (0 ≤ x / 10 ∧ x / 10 < nI p) ∧ (0 ≤ zRem x 10 ∧ zRem x 10 < nI s))) := by
  unfold s_X10_isPs
  simp only [mIsPlayer h, mIsStreet h, Option.bind_some, bI_0]
  by_cases h1 : x < 0
  · have : ¬ 0 ≤ x := Int32.not_le.mpr h1
    simp [h1, this, bI]
  · have g1 : 0 ≤ x := Int32.not_lt.mp h1
    simp only [h1, g1, if_false, true_and]
    by_cases h2 : 0 ≤ x / 10 ∧ x / 10 < nI p
    · simp only [h2, and_self, not_true_eq_false, if_false, true_and]
      by_cases h3 : 0 ≤ zRem x 10 ∧ zRem x 10 < nI s
      · simp [h3, bI]
      · simp [h3, bI]
    · simp [h2, bI]
theorem k_once (h : rT s w p σ) (a b : Int32) : ∃ r, s_X9_once a b σ = some r ∧ s_X10_once a b σ = some r := by
  obtain ⟨⟨hs, hw, hp⟩, -, hS, hE, hW, hP⟩ := id h
  unfold s_X9_once s_X10_once
  simp only [cPair h, mPs h, Option.bind_some, bI_0]
  by_cases c : 0 ≤ a ∧ (0 ≤ a / 10 ∧ a / 10 < nI p) ∧ (0 ≤ zRem a 10 ∧ zRem a 10 < nI s)
  · simp only [c, and_self, not_true_eq_false, if_false]
    obtain ⟨-, ⟨c1, c2⟩, ⟨c3, c4⟩⟩ := c
    obtain ⟨q, hq, e1⟩ := ofN (by omega) c1 c2
    obtain ⟨k, hk, e2⟩ := ofN (by omega) c3 c4
    rw [e1, e2]
    obtain ⟨⟨q1, -⟩, -⟩ := hP q hq
    obtain ⟨r1, r2, r3⟩ := k_least h hq hk
    obtain ⟨t1, t2, t3⟩ := k_bargain h hq hk (σ.1 10 q)
    obtain ⟨u1, u2, u3⟩ := k_streetHarm h (nI k) (σ.1 10 q)
    obtain ⟨v1, v2, v3⟩ := k_most h (nI k) (σ.1 10 q)
    simp only [cGoodOf h hq, zIn_nI (a := q) (n := 8) (by omega) (by decide), zLd_t, nI_clamp (n := q) (by omega), ← q1, Option.bind_some, r2, r3, t2, t3, u2, u3, v2, v3, and_self]
    repeat' split
    all_goals exact ⟨_, rfl⟩
  · exact ⟨_, by simp only [c, not_false_eq_true, if_true]; rfl, by simp only [c, not_false_eq_true, if_true]⟩
theorem k_harm (h : rT s w p σ) (a : Int32) : ∃ r, s_X9_harm a σ = some r ∧ s_X10_harm a σ = some r := by
  obtain ⟨⟨hs, hw, hp⟩, -, hS, hE, hW, hP⟩ := id h
  unfold s_X9_harm s_X10_harm
  simp only [cIsPlayer h, cIsWindow h, mIsPlayer h, mIsWindow h, Option.bind_some, bI_0]
  by_cases c : a < 0
  · exact ⟨_, by simp only [c, if_true]; rfl, by simp only [c, if_true]⟩
  · simp only [c, if_false]
    by_cases c1 : 0 ≤ a / 100 ∧ a / 100 < nI p
    · obtain ⟨q, hq, e1⟩ := ofN (by omega) c1.1 c1.2
      simp only [c1, and_self, not_true_eq_false, if_false]
      by_cases c2 : 0 ≤ zRem a 100 ∧ zRem a 100 < nI w
      · obtain ⟨j, hj, e2⟩ := ofN (by omega) c2.1 c2.2
        obtain ⟨⟨q1, -⟩, -⟩ := hP q hq
        simp only [c2, and_self, not_true_eq_false, if_false]
        rw [e1, e2]
        simp only [cGoodOf h hq, zIn_nI (a := q) (n := 8) (by omega) (by decide), zLd_t, nI_clamp (n := q) (by omega), ← q1, Option.bind_some, cHarmTo h hj, mHarmBy h hj, and_self]
        exact ⟨_, rfl⟩
      · exact ⟨_, by simp only [c2, not_false_eq_true, if_true]; rfl, by simp only [c2, not_false_eq_true, if_true]⟩
    · exact ⟨_, by simp only [c1, not_false_eq_true, if_true]; rfl, by simp only [c1, not_false_eq_true, if_true]⟩
end TOWN
