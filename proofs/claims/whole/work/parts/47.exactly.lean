/-! exactly -/
theorem i1 : (1 : Int32) = nI 1 := by decide
theorem mulB {c m : Nat} (hc : c ≤ 99) (hm : m ≤ 30) : c * m ≤ 2970 := Nat.le_trans (Nat.mul_le_mul hc hm) (by decide)
theorem haste_le {r x : Nat} (hr : 1 ≤ r) : 1000 * r / (r + x) ≤ 1000 := by
  apply Nat.div_le_of_le_mul
  rw [Nat.mul_comm]
  exact Nat.mul_le_mul (by omega) (Nat.le_refl _)
theorem cHaste {r c m : Nat} (hr : 1 ≤ r ∧ r ≤ 198) (hc : c ≤ 99) (hm : 1 ≤ m ∧ m ≤ 30) (σ : ZSt) : s_X5_haste (nI r) (nI c) (nI m) σ = some (nI (1000 * r / (r + c * (m - 1)))) := by
  have hb := mulB hc (m := m - 1) (by omega)
  unfold s_X5_haste
  rw [i1, nI_sub hm.1 (by omega), nI_mul (by omega) (by omega) (by omega), nI_add, i0, i1000, nI_mul (by omega) (by omega) (by omega), nI_div (by omega) (by omega)]
  have h1 : ¬ nI (r + c * (m - 1)) ≤ nI 0 := by
    rw [nI_leI (by omega) (by omega)]
    omega
  have h2 : ¬ nI (r + c * (m - 1)) = nI 0 := by
    rw [nI_eq (by omega) (by omega)]
    omega
  simp only [h1, h2, if_false]
section TOWN
variable {s w p : Nat} {σ : ZSt}
theorem mHaste (h : rT s w p σ) {q j r c m : Nat} (hq : q < p) (hj : j < w) (e : σ.1 7 j - σ.1 8 j * σ.1 10 q / 10 = nI r) (hr : 1 ≤ r ∧ r ≤ 198) (hc : c ≤ 99) (hm : 1 ≤ m ∧ m ≤ 30) : s_X10_haste (nI q) (nI j) (nI c) (nI m) σ = some (nI (1000 * r / (r + c * (m - 1)))) := by
  have hb := mulB hc (m := m - 1) (by omega)
  have hp := h.1.2.2
  obtain ⟨⟨h10, -⟩, -⟩ := h.2.2.2.2.2 q hq
  unfold s_X10_haste
  simp only [zIn_nI (a := q) (n := 8) (by omega) (by decide), zLd_t, nI_clamp (n := q) (by omega), ← h10, mHarmBy h hj, Option.bind_some, e]
  rw [i1, nI_sub hm.1 (by omega), nI_mul (by omega) (by omega) (by omega), nI_add, i0, i1000, nI_mul (by omega) (by omega) (by omega), nI_div (by omega) (by omega)]
  have h2 : ¬ nI (r + c * (m - 1)) = nI 0 := by
    rw [nI_eq (by omega) (by omega)]
    omega
  simp only [h2, if_false]
theorem cMany_L (h : rT s w p σ) (x g : Int32) : ∀ (n j a : Nat), w < n + j → j ≤ w → a ≤ j → ∃ r, r ≤ w ∧ a ≤ r ∧ s_X7_howManyHarmed_L5 x g σ n (nI a) (nI j) = some (nI r) ∧ ∀ j', j ≤ j' → j' < w → σ.1 6 j' = x → 0 < σ.1 7 j' - σ.1 8 j' * g / 10 → 1 ≤ r := by
  intro n
  obtain ⟨⟨hs, hw, hp⟩, ⟨h0, h1, h2, h3, h4, h5⟩, hS, hE, hW, hP⟩ := id h
  induction n with
  | zero => intro j acc hn hj; omega
  | succ n ih =>
    intro j a hn hj ha
    simp only [s_X7_howManyHarmed_L5, h2, nI_le_n (a := w) (b := j) (by omega) (by omega)]
    by_cases hq : w ≤ j
    · exact ⟨a, by omega, by omega, by simp [hq], fun j' q1 q2 => by omega⟩
    · have hj' : j < w := by omega
      have e1 : nI j + 1 = nI (j + 1) := nI_1 j
      have e2 : nI a + 1 = nI (a + 1) := nI_1 a
      simp only [hq, if_false, cIsHarmed h hj', Option.bind_some, bI_0, e1, e2]
      by_cases hx : σ.1 6 j = x ∧ 0 < σ.1 7 j - σ.1 8 j * g / 10
      · simp only [hx, and_self, not_true_eq_false, if_false]
        obtain ⟨r, r1, r2, r3, r4⟩ := ih (j + 1) (a + 1) (by omega) (by omega) (by omega)
        exact ⟨r, r1, by omega, r3, fun j' _ _ _ _ => by omega⟩
      · simp only [hx, not_false_eq_true, if_true]
        obtain ⟨r, r1, r2, r3, r4⟩ := ih (j + 1) a (by omega) (by omega) (by omega)
        refine ⟨r, r1, r2, r3, fun j' q1 q2 q3 q4 => ?_⟩
        by_cases e : j' = j
        · subst e
          exact absurd ⟨q3, q4⟩ hx
        · exact r4 j' (by omega) q2 q3 q4
theorem k_manyN (h : rT s w p σ) (x : Int32) {q : Nat} (hq : q < p) : ∃ r, r ≤ w ∧ s_X7_howManyHarmed x (σ.1 10 q) σ = some (nI r) ∧ s_X10_harmedMany (nI q) x σ = some (nI r) ∧ ∀ j', j' < w → σ.1 6 j' = x → 0 < σ.1 7 j' - σ.1 8 j' * σ.1 10 q / 10 → 1 ≤ r := by
  have hw := h.1.2.1
  obtain ⟨r, r1, r2, r3⟩ := k_many h x hq
  obtain ⟨t, t1, t2, t3, t4⟩ := cMany_L h x (σ.1 10 q) 200 0 0 (by omega) (by omega) (by omega)
  have t3' : s_X7_howManyHarmed x (σ.1 10 q) σ = some (nI t) := t3
  rw [r2] at t3'
  have e := Option.some.inj t3'
  rw [nI_eq (by omega) (by omega)] at e
  subst e
  exact ⟨r, r1, r2, r3, fun j' q1 q2 q3 => t4 j' (by omega) q1 q2 q3⟩
theorem cIsHarmed_out (h : rT s w p σ) {j : Nat} (hj : w ≤ j) (hj2 : j ≤ 1000) (x g : Int32) : s_X7_isHarmed (nI j) x g σ = some 0 := by
  have hw := h.1.2.1
  unfold s_X7_isHarmed s_X7_isOf
  rw [cIsWindow h]
  have : ¬ (0 ≤ nI j ∧ nI j < nI w) := fun q => by
    have := q.2
    rw [nI_ltI (by omega) (by omega)] at this
    omega
  simp [this, bI]
theorem exact_n {v c : Nat} : v * c / 1000 = v / 1000 * c + v % 1000 * c / 1000 := by
  have e := Nat.div_add_mod v 1000
  have : v * c = v % 1000 * c + 1000 * (v / 1000 * c) := by
    rw [← Nat.mul_assoc, ← Nat.add_mul, Nat.add_comm, e]
  rw [this, Nat.add_mul_div_left _ _ (by decide), Nat.add_comm]
theorem x_tail (h : rT s w p σ) (K : Int32 → Int32 → Option Int32) (c d x g m v y : Int32) : ∀ (n j : Nat), w ≤ j → j ≤ 30 → 30 < n + j → s_X5_unpaidThousandths_L48 K c d x g m y σ n v (nI j) = K v (y + 1) := by
  intro n
  induction n with
  | zero => intro j _ _ _; omega
  | succ n ih =>
    intro j hw hj hn
    have e5 : ((30 : Int32) ≤ nI j) = (30 ≤ j) := by
      rw [i30]
      exact propext (nI_leI (by decide) (by omega))
    have e1 : nI j + 1 = nI (j + 1) := nI_1 j
    simp only [s_X5_unpaidThousandths_L48, e5, cIsHarmed_out h hw (by omega), Option.bind_some, e1, if_true]
    by_cases hq : 30 ≤ j
    · simp only [hq, if_true]
    · simp only [hq, if_false]
      exact ih (j + 1) (by omega) (by omega) (by omega)
theorem k_exactly_L (h : rT s w p σ) {q c m : Nat} (hq : q < p) (hc : c ≤ 99) (hm : m ≤ w) {a x : Int32} (ha : zRem a 10 = x) (hH : ∀ j', j' < w → σ.1 6 j' = x → 0 < σ.1 7 j' - σ.1 8 j' * σ.1 10 q / 10 → 1 ≤ m) (d y : Int32) (K1 K2 : Int32 → Int32 → Option Int32) (hK : ∀ v, v ≤ 1000000 → ∃ r, K1 (nI v) (y + 1) = some r ∧ K2 (nI v) (y + 1) = some r) : ∀ (n j v : Nat), 30 < n + j → j ≤ w → v ≤ 1000000 → ∃ r, s_X5_unpaidThousandths_L48 K1 (nI c) d x (σ.1 10 q) (nI m) y σ n (nI v) (nI j) = some r ∧ s_X10_exactly_L64 K2 a (nI c) d (nI q) (nI m) y σ n (nI v) (nI j) = some r := by
  obtain ⟨⟨hs, hw, hp⟩, ⟨h0, h1, h2, h3, h4, h5⟩, hS, hE, hW, hP⟩ := id h
  intro n
  induction n with
  | zero => intro j v hn hj; omega
  | succ n ih =>
    intro j v hn hj hv
    by_cases hjw : w ≤ j
    · obtain ⟨r, r1, r2⟩ := hK v hv
      refine ⟨r, ?_, ?_⟩
      · rw [x_tail h K1 (nI c) d x (σ.1 10 q) (nI m) (nI v) y (n + 1) j hjw (by omega) (by omega)]
        exact r1
      · simp only [s_X10_exactly_L64, h3, nI_le_n (a := w) (b := j) (by omega) (by omega), hjw, if_true]
        exact r2
    · have hj' : j < w := by omega
      have e5 : ((30 : Int32) ≤ nI j) = (30 ≤ j) := by
        rw [i30]
        exact propext (nI_leI (by decide) (by omega))
      have h30 : ¬ 30 ≤ j := by omega
      have e1 : nI j + 1 = nI (j + 1) := nI_1 j
      simp only [s_X5_unpaidThousandths_L48, s_X10_exactly_L64, h3, nI_le_n (a := w) (b := j) (by omega) (by omega), hjw, e5, h30, if_false, cIsHarmed h hj', mIsHarmed h hj' hq, ha, Option.bind_some, bI_0, e1, cHarmTo h hj']
      by_cases hx : σ.1 6 j = x ∧ 0 < σ.1 7 j - σ.1 8 j * σ.1 10 q / 10
      · have m1 := hH j hj' hx.1 hx.2
        obtain ⟨⟨-, hg⟩, -⟩ := hP q hq
        have b1 := hN_i h hj' hg
        have b2 := Int32.lt_iff_toInt_lt.mp hx.2
        rw [toI0] at b2
        obtain ⟨r, hr, e2⟩ := ofI (m := 198) (by omega) b1.2
        rw [e2] at b2
        rw [nI_toInt (by omega)] at b2
        have hr1 : 1 ≤ r ∧ r ≤ 198 := ⟨by omega, hr⟩
        simp only [hx, and_self, not_true_eq_false, if_false, mHaste h hq hj' e2 hr1 hc ⟨m1, by omega⟩, Option.bind_some]
        rw [e2, cHaste hr1 hc ⟨m1, by omega⟩]
        have hh := haste_le (r := r) (x := c * (m - 1)) hr1.1
        generalize 1000 * r / (r + c * (m - 1)) = k at hh ⊢
        simp only [Option.bind_some]
        have hk1 : v * (1000 - k) ≤ 1000000 * 1000 := Nat.mul_le_mul hv (by omega)
        have hk2 : v / 1000 * (1000 - k) ≤ 1000 * 1000 := Nat.mul_le_mul (by omega) (by omega)
        have hk3 : v % 1000 * (1000 - k) ≤ 1000 * 1000 := Nat.mul_le_mul (by omega) (by omega)
        rw [i1000, nI_sub hh (by omega), nI_mul (by omega) (by omega) (by omega), nI_div (by omega) (by omega), nI_div (by omega) (by omega), nI_mul (by omega) (by omega) (by omega), nI_rem (by omega) (by omega), nI_mul (by omega) (by omega) (by omega), nI_div (by omega) (by omega), nI_add, ← exact_n]
        exact ih (j + 1) _ (by omega) (by omega) (by omega)
      · simpa only [hx, not_false_eq_true, if_true] using ih (j + 1) v (by omega) (by omega) hv
theorem k_exactly_M (h : rT s w p σ) {q c m : Nat} (hq : q < p) (hc : c ≤ 99) (hm : m ≤ w) {a x : Int32} (ha : zRem a 10 = x) (hH : ∀ j', j' < w → σ.1 6 j' = x → 0 < σ.1 7 j' - σ.1 8 j' * σ.1 10 q / 10 → 1 ≤ m) {d : Nat} (hd : d ≤ 60) : ∀ (n y v : Nat), d < n + y → y ≤ d → v ≤ 1000000 → ∃ r, s_X5_unpaidThousandths_L39 (nI c) (nI d) x (σ.1 10 q) (nI m) σ n (nI v) (nI y) = some r ∧ s_X10_exactly_L55 a (nI c) (nI d) (nI q) (nI m) σ n (nI v) (nI y) = some r := by
  have hw := h.1.2.1
  intro n
  induction n with
  | zero => intro y v hn hj; omega
  | succ n ih =>
    intro y v hn hy hv
    simp only [s_X5_unpaidThousandths_L39, s_X10_exactly_L55, nI_le_n (a := d) (b := y) (by omega) (by omega)]
    by_cases hq' : d ≤ y
    · exact ⟨_, by simp only [hq', if_true]; rfl, by simp only [hq', if_true]⟩
    · simp only [hq', if_false]
      refine k_exactly_L h hq hc hm ha hH (nI d) (nI y) _ _ (fun v' hv' => ?_) 200 0 v (by omega) (by omega) hv
      rw [nI_1]
      exact ih (y + 1) v' (by omega) (by omega) hv'
theorem k_exactly (h : rT s w p σ) (a b c : Int32) : ∃ r, s_X9_exactly a b c σ = some r ∧ s_X10_exactly a b c σ = some r := by
  obtain ⟨⟨hs, hw, hp⟩, -, hS, hE, hW, hP⟩ := id h
  unfold s_X9_exactly s_X10_exactly
  simp only [cPair h, mPs h, isW, mTwo, mW32 c 0 60 (a' := 0) (b' := 60) (by decide) (by decide), Option.bind_some, bI_0]
  by_cases ca : 0 ≤ a ∧ (0 ≤ a / 10 ∧ a / 10 < nI p) ∧ (0 ≤ zRem a 10 ∧ zRem a 10 < nI s)
  · by_cases cb : 0 ≤ b ∧ b ≤ 99
    · by_cases cc : 0 ≤ c ∧ c ≤ 60
      · simp only [ca, cb, cc, and_self, not_true_eq_false, if_false]
        obtain ⟨-, ⟨c1, c2⟩, ⟨c3, c4⟩⟩ := ca
        obtain ⟨q, hq, e1⟩ := ofN (by omega) c1 c2
        have b1 := inR_i (show inR b 0 99 from cb)
        have b2 := inR_i (show inR c 0 60 from cc)
        rw [show (0 : Int32).toInt = 0 by decide, show (99 : Int32).toInt = 99 by decide] at b1
        rw [show (0 : Int32).toInt = 0 by decide, show (60 : Int32).toInt = 60 by decide] at b2
        obtain ⟨b', hb, rfl⟩ := ofI (m := 99) b1.1 b1.2
        obtain ⟨c', hc, rfl⟩ := ofI (m := 60) b2.1 b2.2
        obtain ⟨m, m1, m2, m3, m4⟩ := k_manyN h (zRem a 10) hq
        unfold s_X5_unpaidThousandths
        simp only [e1, cGoodOf h hq, m2, m3, Option.bind_some]
        obtain ⟨r, r1, r2⟩ := k_exactly_M h hq hb m1 (a := a) rfl m4 hc 200 0 1000000 (by omega) (by omega) (by omega)
        exact ⟨r, by rw [show (1000000 : Int32) = nI 1000000 by decide, i0, r1]; rfl, by rw [show (1000000 : Int32) = nI 1000000 by decide, i0, r2]⟩
      · exact ⟨-1, by simp [ca, cb, cc], by simp [ca, cb, cc]⟩
    · exact ⟨-1, by simp [ca, cb], by simp [ca, cb]⟩
  · exact ⟨-1, by simp [ca], by simp [ca]⟩
end TOWN
