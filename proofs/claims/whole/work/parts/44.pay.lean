/-! Whole numbers' quotients and rests; pay, window and player -/
theorem nI_div {n d : Nat} (hn : n < 2 ^ 31) (hd : d < 2 ^ 31) : nI n / nI d = nI (n / d) := by
  apply Int32.toInt_inj.mp
  have h3 : n / d < 2 ^ 31 := Nat.lt_of_le_of_lt (Nat.div_le_self n d) hn
  rw [Int32.toInt_div, nI_toInt hn, nI_toInt hd, nI_toInt h3, ← Int.ofNat_tdiv]
  generalize n / d = m at h3 ⊢
  rw [Int.bmod_def]
  omega
theorem nI_sub {a b : Nat} (h : b ≤ a) (ha : a < 2 ^ 31) : nI a - nI b = nI (a - b) := by
  apply Int32.toInt_inj.mp
  rw [Int32.toInt_sub, nI_toInt ha, nI_toInt (show b < 2 ^ 31 by omega), nI_toInt (show a - b < 2 ^ 31 by omega)]
  rw [Int.bmod_def]
  omega
theorem nI_mul {a b : Nat} (h : a * b < 2 ^ 31) (ha : a < 2 ^ 31) (hb : b < 2 ^ 31) : nI a * nI b = nI (a * b) := by
  apply Int32.toInt_inj.mp
  rw [Int32.toInt_mul, nI_toInt ha, nI_toInt hb, nI_toInt h]
  have : ((a : Int) * (b : Int)) = ((a * b : Nat) : Int) := by simp
  rw [this, Int.bmod_def]
  omega
theorem nI_rem {n d : Nat} (hn : n < 2 ^ 31) (hd : d < 2 ^ 31) : zRem (nI n) (nI d) = nI (n % d) := by
  have h1 : n / d * d ≤ n := Nat.div_mul_le_self n d
  have h3 : n / d < 2 ^ 31 := Nat.lt_of_le_of_lt (Nat.div_le_self n d) hn
  unfold zRem
  rw [nI_div hn hd, nI_mul (by omega) h3 hd, nI_sub h1 hn]
  have := Nat.div_add_mod n d
  rw [Nat.mul_comm] at this
  congr 1
  omega
theorem i100 : (100 : Int32) = nI 100 := by decide
theorem i10 : (10 : Int32) = nI 10 := by decide
theorem i1000 : (1000 : Int32) = nI 1000 := by decide
theorem inR_nI {k a b : Nat} (h : a ≤ k) (h2 : k ≤ b) (hb : b ≤ 100000) : inR (nI k) (nI a) (nI b) := by
  refine ⟨?_, ?_⟩
  · rw [nI_leI (by omega) (by omega)]; exact h
  · rw [nI_leI (by omega) (by omega)]; exact h2
theorem i0 : (0 : Int32) = nI 0 := by decide
theorem i4 : (4 : Int32) = nI 4 := by decide
theorem i99 : (99 : Int32) = nI 99 := by decide
theorem pNat {x : Int32} (h0 : 0 ≤ x) : ∃ n, n < 2 ^ 31 ∧ x = nI n := by
  refine ⟨x.toInt.toNat, ?_, ?_⟩
  · have := x.toInt_lt
    omega
  · apply Int32.toInt_inj.mp
    rw [Int32.le_iff_toInt_le, toI0] at h0
    have := x.toInt_lt
    rw [nI_toInt (by omega)]
    omega
theorem pay_ok {x : Int32} (h0 : 0 ≤ x) (h : x ≤ 499) : inR (x / 100) 0 4 ∧ inR (zRem x 100) 0 99 := by
  obtain ⟨n, hn, rfl⟩ := pNat h0
  have h4 : n ≤ 499 := by
    rw [show (499 : Int32) = nI 499 by decide, nI_leI (by omega) (by decide)] at h
    exact h
  rw [i100, nI_div (by omega) (by decide), nI_rem (by omega) (by decide)]
  exact ⟨inR_nI (a := 0) (b := 4) (by omega) (by omega) (by decide), inR_nI (a := 0) (b := 99) (by omega) (by omega) (by decide)⟩
section TOWN
variable {s w p : Nat} {σ : ZSt}
theorem k_pay (h : rT s w p σ) (a b : Int32) : ∃ (r : Int32) (σ1 σ2 : ZSt), s_X9_pay a b σ = some (r, σ1) ∧ s_X10_pay a b σ1 = some (r, σ2) ∧ rT s w p σ2 := by
  obtain ⟨⟨hs, hw, hp⟩, ⟨h0, h1, h2, h3, h4, h5⟩, hS, hE, hW, hP⟩ := id h
  unfold s_X9_pay
  simp only [isW, cIsStreet h, Option.bind_some, bI_0]
  by_cases ha : 0 ≤ a ∧ a < nI s
  · by_cases hb : 0 ≤ b ∧ b ≤ 499
    · obtain ⟨k, hk, rfl⟩ := ofN (by omega) ha.1 ha.2
      obtain ⟨b1, b2⟩ := pay_ok hb.1 hb.2
      have hz := zIn_nI (a := k) (n := 6) (by omega) (by decide)
      have hcl := nI_clamp (n := k) (by omega)
      obtain ⟨⟨q1, -⟩, ⟨q2, -⟩, ⟨q3, -⟩, ⟨q4, -⟩⟩ := hS k hk
      simp only [ha, hb, not_true_eq_false, if_false, and_self, s_X7_wayAndSum, s_X7_setWay, cIsStreet h, Option.bind_some, bI_0, hz, hcl, zLd_t, zSg_t]
      refine ⟨_, _, ?s2, rfl, ?h2, ?h3⟩
      case h2 =>
        have e : s_X10_isStreet (nI k) (zWD (zWD σ 4 k (b / 100)) 5 k (zRem b 100)) = s_X10_isStreet (nI k) σ := by
          unfold s_X10_isStreet
          simp only [wd1, Nat.reduceEqDiff, false_and, if_false]
          rfl
        unfold s_X10_pay
        rw [e, mIsStreet h]
        simp only [mW32 b 0 499 (a' := 0) (b' := 499) (by decide) (by decide), ha, hb, not_true_eq_false, if_false, and_self, Option.bind_some, bI_0, hz, hcl, zLd_t, zSg_t, wd1, Nat.reduceEqDiff, false_and, ← q3, ← q4]
        rfl
      case h3 =>
        refine ⟨⟨by omega, hw, hp⟩, ⟨?_, ?_, ?_, ?_, ?_, ?_⟩, fun k' hk' => ?_, fun k' hk' hk6 => ?_, fun j hj => ?_, fun q hq => ?_⟩
        · simp [wd1, h0]
        · simp [wd1, h1]
        · simp [wd1, h2]
        · simp [wd1, h3]
        · simp [wd1, h4]
        · simp [wd1, h5]
        · have := hS k' hk'
          unfold rTs at this ⊢
          grind [wd1]
        · have := hE k' (by omega) hk6
          have : ¬ k' = k := by omega
          simp_all [wd1]
        · have := hW j hj
          unfold rTw at this ⊢
          grind [wd1]
        · have := hP q hq
          unfold rTp at this ⊢
          grind [wd1]
    · refine ⟨-1, σ, σ, by simp [ha, hb], ?_, h⟩
      unfold s_X10_pay
      simp only [mIsStreet h, mW32 b 0 499 (a' := 0) (b' := 499) (by decide) (by decide), Option.bind_some, bI_0]
      simp [ha, hb]
  · refine ⟨-1, σ, σ, by simp [ha], ?_, h⟩
    unfold s_X10_pay
    simp only [mIsStreet h, Option.bind_some, bI_0]
    simp [ha]
end TOWN
