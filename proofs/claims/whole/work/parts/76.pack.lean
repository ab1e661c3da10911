/-! WEEKS, the class: all go, are paid; the path in one number; following it -/
def xN (x : Int32) : Nat := (x + 1).toNatClampNeg
theorem xN_ok {x : Int32} (h : x = -1 ∨ ∃ k, k < 6 ∧ x = nI k) : x + 1 = nI (xN x) ∧ xN x < 8 ∧ nI (xN x) - 1 = x := by
  unfold xN
  rcases h with rfl | ⟨k, hk, rfl⟩
  · exact ⟨by decide, by decide, by decide⟩
  · rw [nI_1, nI_clamp (by omega)]
    exact ⟨rfl, by omega, nI_pred k⟩
def pkN (X : Nat → Int32) : Nat → Nat
  | 0 => 0
  | j + 1 => pkN X j + xN (X j) * 2 ^ (3 * j)
theorem pkN_lt {X : Nat → Int32} : ∀ p, okX 6 p X → pkN X p < 2 ^ (3 * p) := by
  intro p
  induction p with
  | zero => intro _; rw [pkN]; decide
  | succ p ih =>
    intro h
    have h1 := ih (fun q hq => h q (by omega))
    have h2 := (xN_ok (h p (by omega))).2.1
    rw [pkN, show 3 * (p + 1) = 3 * p + 3 by omega, Nat.pow_add]
    have h3 : xN (X p) * 2 ^ (3 * p) ≤ 7 * 2 ^ (3 * p) := Nat.mul_le_mul (by omega) (Nat.le_refl _)
    omega
theorem pkN_get {X : Nat → Int32} : ∀ p, okX 6 p X → ∀ j, j < p → pkN X p / 2 ^ (3 * j) % 8 = xN (X j) := by
  intro p
  induction p with
  | zero => intro _ j hj; omega
  | succ p ih =>
    intro h j hj
    have ho : okX 6 p X := fun q hq => h q (by omega)
    have hlt := pkN_lt p ho
    rw [pkN]
    by_cases e : j = p
    · subst e
      rw [Nat.add_mul_div_right _ _ (Nat.two_pow_pos _), Nat.div_eq_of_lt hlt, Nat.zero_add, Nat.mod_eq_of_lt (xN_ok (h j (by omega))).2.1]
    · have e2 : xN (X p) * 2 ^ (3 * p) = (xN (X p) * 2 ^ (3 * (p - j - 1)) * 8) * 2 ^ (3 * j) := by
        rw [Nat.mul_assoc, Nat.mul_assoc, show (8 : Nat) = 2 ^ 3 from rfl, ← Nat.pow_add, ← Nat.pow_add]
        congr 2
        omega
      rw [e2, Nat.add_mul_div_right _ _ (Nat.two_pow_pos _), Nat.add_mul_mod_self_right]
      exact ih ho j (by omega)
theorem pkN_b {X : Nat → Int32} {p : Nat} (hp : p ≤ 8) (h : okX 6 p X) : pkN X p < 16777216 := Nat.lt_of_lt_of_le (pkN_lt p h) (by
  rw [show (16777216 : Nat) = 2 ^ 24 by decide]
  exact Nat.pow_le_pow_right (by decide) (by omega))
theorem pkN_inj {X X' : Nat → Int32} {p : Nat} (h : okX 6 p X) (h' : okX 6 p X') (e : pkN X p = pkN X' p) : ∀ q, q < p → X q = X' q := fun q hq => by
  have e1 := pkN_get p h q hq
  have e2 := pkN_get p h' q hq
  rw [e, e2] at e1
  rw [← (xN_ok (h q hq)).2.2, ← (xN_ok (h' q hq)).2.2, e1]
theorem fa_or (a b : Nat) : nI a ||| nI b = nI (a ||| b) := by
  apply Int32.toBitVec_inj.1
  show BitVec.ofNat 32 a ||| BitVec.ofNat 32 b = BitVec.ofNat 32 (a ||| b)
  apply BitVec.eq_of_getLsbD_eq
  intro i hi
  simp [hi]
theorem pk_step {n x j : Nat} (hj : j < 8) (hn : n < 2 ^ (3 * j)) (hx : x < 8) : nI n ||| (nI x <<< (((3 : Int32) * nI j) &&& 31)) = nI (n + x * 2 ^ (3 * j)) := by
  have e3 : (3 : Int32) * nI j = nI (3 * j) := by rw [show (3 : Int32) = nI 3 by decide, nI_mul (by omega) (by omega) (by omega)]
  have hb : x * 2 ^ (3 * j) < 2 ^ 32 := by
    have h1 : x * 2 ^ (3 * j) ≤ 7 * 2 ^ 21 := Nat.mul_le_mul (by omega) (Nat.pow_le_pow_right (by decide) (by omega))
    have h2 : 7 * 2 ^ 21 < 2 ^ 32 := by decide
    omega
  rw [e3, pk_shlN (nI (3 * j) &&& 31) (3 * j) (s_l (3 * j) (by omega)) hb, fa_or]
  congr 1
  rw [Nat.or_comm, Nat.mul_comm, ← Nat.two_pow_add_eq_or_of_lt hn, Nat.add_comm]
theorem unpk_at {n j : Nat} (hj : j < 8) (hn : n < 16777216) : ((nI n).toUInt32 >>> (((3 : Int32) * nI j).toUInt32 &&& Int32.toUInt32 31)).toInt32 &&& (7 : Int32) = nI (n / 2 ^ (3 * j) % 8) := by
  have e3 : (3 : Int32) * nI j = nI (3 * j) := by rw [show (3 : Int32) = nI 3 by decide, nI_mul (by omega) (by omega) (by omega)]
  have hd : n / 2 ^ (3 * j) ≤ n := Nat.div_le_self _ _
  rw [e3, pk_ushrN (by omega) (nI (3 * j)) (3 * j) (s_u (3 * j) (by omega)), pk_andN (by omega) 3 (by decide)]
