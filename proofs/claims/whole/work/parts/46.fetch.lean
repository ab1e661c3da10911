/-! fetch, worse, lovers, judge -/
theorem inR_i {x : Int32} {a b : Int32} (h : inR x a b) : a.toInt ≤ x.toInt ∧ x.toInt ≤ b.toInt := ⟨Int32.le_iff_toInt_le.mp h.1, Int32.le_iff_toInt_le.mp h.2⟩
theorem tdiv10 {z : Int} (h : -990 ≤ z ∧ z ≤ 990) : -99 ≤ z.tdiv 10 ∧ z.tdiv 10 ≤ 99 := by
  rcases Int.natAbs_eq z with e | e
  · have e2 : z.tdiv 10 = ((z.natAbs / 10 : Nat) : Int) := by
      rw [Int.ofNat_tdiv]
      exact congrArg (fun y => Int.tdiv y 10) e
    omega
  · have e2 : z.tdiv 10 = -((z.natAbs / 10 : Nat) : Int) := by
      rw [Int.ofNat_tdiv]
      have : z.tdiv 10 = Int.tdiv (-(z.natAbs : Int)) 10 := congrArg (fun y => Int.tdiv y 10) e
      rw [this, Int.neg_tdiv]
      rfl
    omega
theorem harm_i {x t g : Int32} (h1 : inR x 0 99) (h2 : inR t (-99) 99) (h3 : inR g 0 10) : (x - t * g / 10).toInt = x.toInt - (t.toInt * g.toInt).tdiv 10 ∧ -99 ≤ (x - t * g / 10).toInt ∧ (x - t * g / 10).toInt ≤ 198 := by
  have a1 := inR_i h1
  have a2 := inR_i h2
  have a3 := inR_i h3
  rw [show (0 : Int32).toInt = 0 by decide, show (99 : Int32).toInt = 99 by decide] at a1
  rw [show (-99 : Int32).toInt = -99 by decide, show (99 : Int32).toInt = 99 by decide] at a2
  rw [show (0 : Int32).toInt = 0 by decide, show (10 : Int32).toInt = 10 by decide] at a3
  have hb : -990 ≤ t.toInt * g.toInt ∧ t.toInt * g.toInt ≤ 990 := by
    have : g.toInt = 0 ∨ g.toInt = 1 ∨ g.toInt = 2 ∨ g.toInt = 3 ∨ g.toInt = 4 ∨ g.toInt = 5 ∨ g.toInt = 6 ∨ g.toInt = 7 ∨ g.toInt = 8 ∨ g.toInt = 9 ∨ g.toInt = 10 := by omega
    rcases this with h | h | h | h | h | h | h | h | h | h | h <;> rw [h] <;> omega
  have htd := tdiv10 hb
  have hm : (t * g).toInt = t.toInt * g.toInt := by
    rw [Int32.toInt_mul, Int.bmod_def]
    omega
  have hd : (t * g / 10).toInt = (t.toInt * g.toInt).tdiv 10 := by
    rw [Int32.toInt_div, hm, show (10 : Int32).toInt = 10 by decide, Int.bmod_def]
    omega
  have hs : (x - t * g / 10).toInt = x.toInt - (t.toInt * g.toInt).tdiv 10 := by
    rw [Int32.toInt_sub, hd, Int.bmod_def]
    omega
  rw [hs]
  omega
theorem ofI {x : Int32} {m : Nat} (h0 : 0 ≤ x.toInt) (h1 : x.toInt ≤ m) : ∃ n, n ≤ m ∧ x = nI n := by
  obtain ⟨n, hn, rfl⟩ := pNat (x := x) (by rw [Int32.le_iff_toInt_le, toI0]; exact h0)
  rw [nI_toInt hn] at h1
  exact ⟨n, by omega, rfl⟩
section TOWN
variable {s w p : Nat} {σ : ZSt}
theorem hN_i (h : rT s w p σ) {j : Nat} (hj : j < w) {g : Int32} (hg : inR g 0 10) : -99 ≤ (σ.1 7 j - σ.1 8 j * g / 10).toInt ∧ (σ.1 7 j - σ.1 8 j * g / 10).toInt ≤ 198 := by
  obtain ⟨-, ⟨-, h7⟩, ⟨-, h8⟩, -⟩ := h.2.2.2.2.1 j hj
  exact (harm_i h7 h8 hg).2
theorem cMost_L (h : rT s w p σ) (x : Int32) {g : Int32} (hg : inR g 0 10) : ∀ (n j a : Nat), w < n + j → j ≤ w → a ≤ 198 * j → ∃ r, r ≤ 198 * w ∧ s_X7_most_L5 x g σ n (nI a) (nI j) = some (nI r) := by
  intro n
  obtain ⟨⟨hs, hw, hp⟩, ⟨h0, h1, h2, h3, h4, h5⟩, hS, hE, hW, hP⟩ := id h
  induction n with
  | zero => intro j acc hn hj; omega
  | succ n ih =>
    intro j a hn hj ha
    simp only [s_X7_most_L5, h2, nI_le_n (a := w) (b := j) (by omega) (by omega)]
    by_cases hq : w ≤ j
    · exact ⟨a, by omega, by simp [hq]⟩
    · have hj' : j < w := by omega
      have e1 : nI j + 1 = nI (j + 1) := nI_1 j
      simp only [hq, if_false, cIsHarmed h hj', cHarmTo h hj', Option.bind_some, bI_0, e1]
      by_cases hx : σ.1 6 j = x ∧ 0 < σ.1 7 j - σ.1 8 j * g / 10
      · have b1 := hN_i h hj' hg
        have b2 := Int32.lt_iff_toInt_lt.mp hx.2
        rw [toI0] at b2
        obtain ⟨m, hm, e2⟩ := ofI (m := 198) (by omega) b1.2
        simp only [hx, and_self, not_true_eq_false, if_false]
        rw [e2, nI_add]
        exact ih (j + 1) (a + m) (by omega) (by omega) (by omega)
      · simpa only [hx, not_false_eq_true, if_true] using ih (j + 1) a (by omega) (by omega) (by omega)
theorem k_mostN (h : rT s w p σ) (x : Int32) {g : Int32} (hg : inR g 0 10) : ∃ r, r ≤ 198 * w ∧ s_X7_most x g σ = some (nI r) ∧ s_X10_mostBy g x σ = some (nI r) := by
  have hw := h.1.2.1
  obtain ⟨r, r1, r2⟩ := cMost_L h x hg 200 0 0 (by omega) (by omega) (by omega)
  obtain ⟨t, t1, t2⟩ := k_most h x g
  have r2' : s_X7_most x g σ = some (nI r) := r2
  rw [r2'] at t1
  obtain rfl := Option.some.inj t1
  exact ⟨r, r1, r2', t2⟩
theorem cLeastN (h : rT s w p σ) {q k : Nat} (hq : q < p) (hk : k < s) : ∃ m, 1 ≤ m ∧ m ≤ 100 ∧ s_X7_least (nI q) (nI k) σ = some (nI m) := by
  obtain ⟨⟨hs, hw, hp⟩, ⟨h0, h1, h2, h3, h4, h5⟩, hS, hE, hW, hP⟩ := id h
  obtain ⟨⟨-, q1⟩, -⟩ := hS k hk
  obtain ⟨-, ⟨-, q2⟩, -⟩ := hP q hq
  unfold s_X7_least s_X7_take s_X7_cost
  simp only [cIsStreet h, cIsPlayer h, nI_lt_s hk (by omega), nI_lt_s hq (by omega), and_self, bI_0, not_true_eq_false, if_false, Option.bind_some, zIn_nI (a := k) (n := 6) (by omega) (by decide), zIn_nI (a := q) (n := 8) (by omega) (by decide), zLd_t, nI_clamp (n := q) (by omega), nI_clamp (n := k) (by omega)]
  have a1 := inR_i q1
  have a2 := inR_i q2
  rw [show (0 : Int32).toInt = 0 by decide, show (99 : Int32).toInt = 99 by decide] at a1 a2
  obtain ⟨a, ha, e1⟩ := ofI (m := 99) a1.1 a1.2
  obtain ⟨b, hb, e2⟩ := ofI (m := 99) a2.1 a2.2
  rw [e1, e2]
  have hd : (nI a - nI b).toInt = (a : Int) - b := by
    rw [Int32.toInt_sub, nI_toInt (by omega), nI_toInt (by omega), Int.bmod_def]
    omega
  by_cases c : nI a - nI b < 0
  · exact ⟨1, by omega, by omega, by simp only [c, if_true]; rfl⟩
  · have c' := c
    rw [Int32.lt_iff_toInt_lt, hd, toI0] at c'
    refine ⟨a - b + 1, by omega, by omega, ?_⟩
    simp only [c, if_false]
    rw [nI_sub (by omega) (by omega), nI_1]
theorem k_bargainN (h : rT s w p σ) {q k : Nat} (hq : q < p) (hk : k < s) {g : Int32} (hg : inR g 0 10) : ∃ r, s_X5_bargain (nI q) (nI k) g σ = some r ∧ s_X10_bargainOf (nI q) g (nI k) σ = some r ∧ (r = -2 ∨ ∃ m, m ≤ 3100 ∧ r = nI m) := by
  have hw := h.1.2.1
  obtain ⟨r, r1, r2⟩ := k_bargain h hq hk g
  refine ⟨r, r1, r2, ?_⟩
  obtain ⟨a, a0, a1, a2⟩ := cLeastN h hq hk
  obtain ⟨b, b1, b2, -⟩ := k_mostN h (nI k) hg
  unfold s_X5_bargain at r1
  simp only [a2, b2, Option.bind_some] at r1
  split at r1
  · exact Or.inl (Option.some.inj r1).symm
  · right
    refine ⟨(a + b) / 2, by omega, ?_⟩
    rw [← Option.some.inj r1, nI_add, show (2 : Int32) = nI 2 by decide, nI_div (by omega) (by decide)]
theorem ltm2 {m : Nat} (h : m ≤ 3100) : ¬ nI m < 0 ∧ ¬ nI m = -2 := by
  have e := nI_toInt (n := m) (by omega)
  refine ⟨?_, fun q => ?_⟩
  · rw [Int32.lt_iff_toInt_lt, e, toI0]
    omega
  · rw [q, show (-2 : Int32).toInt = -2 by decide] at e
    omega
theorem k_fetch (h : rT s w p σ) (a : Int32) : ∃ r, s_X9_fetch a σ = some r ∧ s_X10_fetch a σ = some r := by
  obtain ⟨⟨hs, hw, hp⟩, -, hS, hE, hW, hP⟩ := id h
  unfold s_X9_fetch s_X10_fetch
  simp only [cPair h, mPs h, Option.bind_some, bI_0]
  by_cases c : 0 ≤ a ∧ (0 ≤ a / 10 ∧ a / 10 < nI p) ∧ (0 ≤ zRem a 10 ∧ zRem a 10 < nI s)
  · simp only [c, and_self, not_true_eq_false, if_false]
    obtain ⟨-, ⟨c1, c2⟩, ⟨c3, c4⟩⟩ := c
    obtain ⟨q, hq, e1⟩ := ofN (by omega) c1 c2
    obtain ⟨k, hk, e2⟩ := ofN (by omega) c3 c4
    rw [e1, e2]
    obtain ⟨⟨q1, q1b⟩, -⟩ := hP q hq
    obtain ⟨-, ⟨q2, -⟩, -⟩ := hS k hk
    obtain ⟨t1, t2, t3, t4⟩ := k_bargainN h hq hk (g := σ.1 10 q) q1b
    simp only [cGoodOf h hq, s_X7_lawOfQuiet, cIsStreet h, nI_lt_s hk (by omega), and_self, bI_0, not_true_eq_false, if_false, zIn_nI (a := q) (n := 8) (by omega) (by decide), zIn_nI (a := k) (n := 6) (by omega) (by decide), zLd_t, nI_clamp (n := q) (by omega), nI_clamp (n := k) (by omega), ← q1, ← q2, Option.bind_some, t2, t3]
    rcases t4 with rfl | ⟨m, hm, rfl⟩
    · by_cases c0 : σ.1 3 k = 0
      · exact ⟨-2, by simp [c0], by simp⟩
      · exact ⟨-2, by simp [c0], by simp⟩
    · obtain ⟨m1, m2⟩ := ltm2 hm
      simp only [m1, m2, if_false, and_self]
      repeat' split
      all_goals exact ⟨_, rfl⟩
  · exact ⟨_, by simp only [c, not_false_eq_true, if_true]; rfl, by simp only [c, not_false_eq_true, if_true]⟩
theorem k_worse_L (h : rT s w p σ) {q k : Nat} (hq : q < p) (hk : k < s) {a : Int32} (e1 : a / 10 = nI q) (e2 : zRem a 10 = nI k) : ∀ (n j : Nat) (x y : Int32), 12 < n + j → j ≤ 11 → ∃ r, s_X9_worse_L19 a σ n x y (nI j) = some r ∧ s_X10_worse_L19 a σ n y x (nI j) = some r := by
  intro n
  induction n with
  | zero => intro j x y hn hj; omega
  | succ n ih =>
    intro j x y hn hj
    obtain ⟨r, r1, r2⟩ := k_bargain h hq hk (nI j)
    have e5 : ((10 : Int32) < nI j) = (10 < j) := by
      rw [i10]
      exact propext (nI_ltI (by decide) (by omega))
    simp only [s_X9_worse_L19, s_X10_worse_L19, e1, e2, r1, r2, Option.bind_some, e5]
    by_cases hj2 : 10 < j
    · exact ⟨y, by simp [hj2], by simp [hj2]⟩
    · have e3 : nI j + 1 = nI (j + 1) := nI_1 j
      simp only [hj2, if_false, e3]
      by_cases hr : r ≤ x
      · simpa only [hr, if_true] using ih (j + 1) x y (by omega) (by omega)
      · simpa only [hr, if_false] using ih (j + 1) r (nI j) (by omega) (by omega)
theorem k_worse (h : rT s w p σ) (a : Int32) : ∃ r, s_X9_worse a σ = some r ∧ s_X10_worse a σ = some r := by
  obtain ⟨⟨hs, hw, hp⟩, -, hS, hE, hW, hP⟩ := id h
  unfold s_X9_worse s_X10_worse
  simp only [cPair h, mPs h, Option.bind_some, bI_0]
  by_cases c : 0 ≤ a ∧ (0 ≤ a / 10 ∧ a / 10 < nI p) ∧ (0 ≤ zRem a 10 ∧ zRem a 10 < nI s)
  · simp only [c, and_self, not_true_eq_false, if_false]
    obtain ⟨-, ⟨c1, c2⟩, ⟨c3, c4⟩⟩ := c
    obtain ⟨q, hq, e1⟩ := ofN (by omega) c1 c2
    obtain ⟨k, hk, e2⟩ := ofN (by omega) c3 c4
    exact k_worse_L h hq hk e1 e2 200 0 (-2) (-2) (by omega) (by omega)
  · exact ⟨_, by simp only [c, not_false_eq_true, if_true]; rfl, by simp only [c, not_false_eq_true, if_true]⟩
theorem k_lovers (h : rT s w p σ) (a b : Int32) : ∃ r, s_X9_lovers a b σ = some r ∧ s_X10_lovers a b σ = some r := by
  obtain ⟨⟨hs, hw, hp⟩, -, hS, hE, hW, hP⟩ := id h
  unfold s_X9_lovers s_X10_lovers
  simp only [cPair h, mPs h, isW, mW32 b 0 1 (a' := 0) (b' := 1) (by decide) (by decide), Option.bind_some, bI_0]
  by_cases c : 0 ≤ a ∧ (0 ≤ a / 10 ∧ a / 10 < nI p) ∧ (0 ≤ zRem a 10 ∧ zRem a 10 < nI s)
  · by_cases cb : 0 ≤ b ∧ b ≤ 1
    · simp only [c, cb, and_self, not_true_eq_false, if_false]
      obtain ⟨-, ⟨c1, c2⟩, ⟨c3, c4⟩⟩ := c
      obtain ⟨q, hq, e1⟩ := ofN (by omega) c1 c2
      obtain ⟨k, hk, e2⟩ := ofN (by omega) c3 c4
      rw [e1, e2]
      obtain ⟨⟨q1, -⟩, -⟩ := hP q hq
      obtain ⟨r1, r2, r3⟩ := k_least h hq hk
      obtain ⟨u1, u2, u3⟩ := k_streetHarm h (nI k) (σ.1 10 q)
      obtain ⟨v1, v2, v3⟩ := k_most h (nI k) (σ.1 10 q)
      simp only [cGoodOf h hq, zIn_nI (a := q) (n := 8) (by omega) (by decide), zLd_t, nI_clamp (n := q) (by omega), ← q1, Option.bind_some, r2, r3, u2, u3, v2, v3, and_self]
      repeat' split
      all_goals exact ⟨_, rfl⟩
    · exact ⟨-1, by simp [c, cb], by simp [c, cb]⟩
  · exact ⟨_, by simp only [c, not_false_eq_true, if_true]; rfl, by simp only [c, not_false_eq_true, if_true]⟩
theorem k_judge_L (h : rT s w p σ) {k : Nat} (hk : k < s) (K1 K2 : Int32 → Option Int32) (hK : ∃ r, K1 (nI (k + 1)) = some r ∧ K2 (nI (k + 1)) = some r) : ∀ (n j : Nat) (x : Int32), w < n + j → j ≤ w → ∃ r, s_X7_firstBeyondItsPurses_L14 K1 (nI k) σ n x (nI j) = some r ∧ s_X10_judge_L14 K2 (nI k) σ n x (nI j) = some r := by
  obtain ⟨⟨hs, hw, hp⟩, ⟨h0, h1, h2, h3, h4, h5⟩, hS, hE, hW, hP⟩ := id h
  obtain ⟨-, -, -, ⟨q4, -⟩⟩ := hS k hk
  have e3 : nI k + 1 = nI (k + 1) := nI_1 k
  intro n
  induction n with
  | zero => intro j x hn hj; omega
  | succ n ih =>
    intro j x hn hj
    simp only [s_X7_firstBeyondItsPurses_L14, s_X10_judge_L14, h2, h3, nI_le_n (a := w) (b := j) (by omega) (by omega)]
    by_cases hq : w ≤ j
    · simp only [hq, if_true, s_X7_firstBeyondItsPurses_C46, s_X10_judge_C51, cIsStreet h, nI_lt_s hk (by omega), and_self, bI_0, not_true_eq_false, if_false, Option.bind_some, zIn_nI (a := k) (n := 6) (by omega) (by decide), zLd_t, nI_clamp (n := k) (by omega), ← q4, e3]
      by_cases hx : σ.1 5 k ≤ x
      · simpa only [hx, if_true] using hK
      · exact ⟨nI k, by simp only [hx, if_false], by simp only [hx, if_false]⟩
    · have hj' : j < w := by omega
      obtain ⟨⟨h6, -⟩, -, -, ⟨h9, -⟩⟩ := hW j hj'
      have e1 : nI j + 1 = nI (j + 1) := nI_1 j
      simp only [hq, if_false, cIsOf h hj', Option.bind_some, zIn_nI (a := j) (n := 30) (by omega) (by decide), zLd_t, nI_clamp (n := j) (by omega), ← h6, ← h9, bI_0, e1]
      by_cases hx : σ.1 6 j = nI k
      · simpa only [hx, not_true_eq_false, if_false, if_true] using ih (j + 1) _ (by omega) (by omega)
      · simpa only [hx, not_false_eq_true, if_false, if_true, Int32.add_zero] using ih (j + 1) x (by omega) (by omega)
theorem k_judge_M (h : rT s w p σ) : ∀ (n k : Nat), s < n + k → k ≤ s → ∃ r, s_X7_firstBeyondItsPurses_L2 σ n (nI k) = some r ∧ s_X10_judge_L2 σ n (nI k) = some r := by
  obtain ⟨⟨hs, hw, hp⟩, ⟨h0, h1, h2, h3, h4, h5⟩, hS, hE, hW, hP⟩ := id h
  intro n
  induction n with
  | zero => intro k hn hk; omega
  | succ n ih =>
    intro k hn hk
    simp only [s_X7_firstBeyondItsPurses_L2, s_X10_judge_L2, h0, h1, nI_le_n (a := s) (b := k) (by omega) (by omega)]
    by_cases hq : s ≤ k
    · exact ⟨-2, by simp [hq], by simp [hq]⟩
    · simp only [hq, if_false]
      exact k_judge_L h (by omega) _ _ (ih (k + 1) (by omega) (by omega)) 200 0 0 (by omega) (by omega)
theorem k_judge (h : rT s w p σ) : ∃ r, s_X9_judge σ = some r ∧ s_X10_judge σ = some r := by
  have hs := h.1.1
  obtain ⟨r, r1, r2⟩ := k_judge_M h 200 0 (by omega) (by omega)
  refine ⟨r, ?_, r2⟩
  unfold s_X9_judge
  rw [show s_X7_firstBeyondItsPurses σ = some r from r1]
  rfl
end TOWN
