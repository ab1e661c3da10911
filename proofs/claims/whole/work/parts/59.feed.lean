/-! Bits (starting texts of the kit), and feed -/
def bt (x : Int32) (i : Nat) : Bool := x.toBitVec.getLsbD i
theorem b_ext {x y : Int32} (h : ∀ i, i < 32 → bt x i = bt y i) : x = y := Int32.toBitVec_inj.mp (BitVec.eq_of_getLsbD_eq (fun i hi => h i hi))
theorem b_or (x y : Int32) (i : Nat) : bt (x ||| y) i = (bt x i || bt y i) := by unfold bt; rw [Int32.toBitVec_or, BitVec.getLsbD_or]
theorem b_and (x y : Int32) (i : Nat) : bt (x &&& y) i = (bt x i && bt y i) := by unfold bt; rw [Int32.toBitVec_and, BitVec.getLsbD_and]
theorem b_xor (x y : Int32) (i : Nat) : bt (x ^^^ y) i = (bt x i ^^ bt y i) := by unfold bt; rw [Int32.toBitVec_xor, BitVec.getLsbD_xor]
theorem b_big {x : Int32} {i : Nat} (h : 32 ≤ i) : bt x i = false := BitVec.getLsbD_of_ge _ _ h
theorem b_255 (i : Nat) : bt 255 i = decide (i < 8) := by
  rcases Nat.lt_or_ge i 32 with h | h
  · exact (by decide +kernel : ∀ i, i < 32 → bt 255 i = decide (i < 8)) i h
  · rw [b_big h, decide_eq_false (by omega)]
theorem b_65535 (i : Nat) : bt 65535 i = decide (i < 16) := by
  rcases Nat.lt_or_ge i 32 with h | h
  · exact (by decide +kernel : ∀ i, i < 32 → bt 65535 i = decide (i < 16)) i h
  · rw [b_big h, decide_eq_false (by omega)]
theorem b_m1 : ∀ i, i < 32 → bt (-1) i = true := by decide +kernel
theorem b_0 (i : Nat) : bt 0 i = false := BitVec.getLsbD_zero
theorem s_l : ∀ n, n < 32 → ((nI n &&& 31).toBitVec.smod 32).toNat = n := by decide +kernel
theorem s_u : ∀ n, n < 32 → (((nI n).toUInt32 &&& Int32.toUInt32 31).toBitVec % 32).toNat = n := by decide +kernel
theorem b_shl (n : Nat) (hn : n < 32) (x : Int32) {i : Nat} (hi : i < 32) : bt (x <<< (nI n &&& 31)) i = (decide (n ≤ i) && bt x (i - n)) := by
  unfold bt
  rw [Int32.toBitVec_shiftLeft]
  show (x.toBitVec <<< ((nI n &&& 31).toBitVec.smod 32).toNat).getLsbD i = _
  rw [s_l n hn, BitVec.getLsbD_shiftLeft]
  rcases Nat.lt_or_ge i n with h | h
  · simp [h, Nat.not_le.mpr h]
  · simp [hi, h, Nat.not_lt.mpr h]
theorem b_ushr (n : Nat) (hn : n < 32) (x : Int32) (i : Nat) : bt ((x.toUInt32 >>> ((nI n).toUInt32 &&& Int32.toUInt32 31)).toInt32) i = bt x (n + i) := by
  show (x.toUInt32 >>> ((nI n).toUInt32 &&& Int32.toUInt32 31)).toBitVec.getLsbD i = x.toUInt32.toBitVec.getLsbD (n + i)
  rw [UInt32.toBitVec_shiftRight]
  show (x.toUInt32.toBitVec >>> (((nI n).toUInt32 &&& Int32.toUInt32 31).toBitVec % 32).toNat).getLsbD i = _
  rw [s_u n hn, BitVec.getLsbD_ushiftRight]
theorem b_sshr (n : Nat) (hn : n < 32) (x : Int32) {i : Nat} (hi : i < 32) : bt (x >>> (nI n &&& 31)) i = if n + i < 32 then bt x (n + i) else bt x 31 := by
  unfold bt
  rw [Int32.toBitVec_shiftRight]
  show (x.toBitVec.sshiftRight ((nI n &&& 31).toBitVec.smod 32).toNat).getLsbD i = _
  rw [s_l n hn, BitVec.getLsbD_sshiftRight, BitVec.msb_eq_getLsbD_last]
  simp [hi]
def bytU (v : Int32) (j : Nat) : Int32 := (v.toUInt32 >>> (((8 : Int32) * nI j).toUInt32 &&& Int32.toUInt32 31)).toInt32 &&& (255 : Int32)
theorem bytS (v : Int32) {i : Nat} (hi : i < 4) : (v >>> (((8 : Int32) * nI i) &&& 31)) &&& (255 : Int32) = bytU v i := by
  unfold bytU
  have e : (8 : Int32) * nI i = nI (8 * i) := by rw [i8, nI_mul (by omega) (by omega) (by omega)]
  rw [e]
  apply b_ext
  intro j hj
  rw [b_and, b_and, b_255, b_ushr _ (by omega), b_sshr _ (by omega) _ hj]
  by_cases h : j < 8
  · rw [if_pos (by omega)]
  · simp [h]
theorem bytLt (v : Int32) (j : Nat) : ∃ b, b < 256 ∧ bytU v j = nI b := pk_andE _ 8 (by decide)
theorem c_feed_L (v : Int32) {m c : Nat} (hmc : m + c ≤ 120) : ∀ (n i : Nat) (τ : ZSt), c < n + i → i ≤ c → τ.1 46 1 = nI (m + i) → ∃ τ', s_X3_feedBytes_L16 (nI c) v n (nI i) τ = some (nI (m + c), τ') ∧ τ'.1 46 1 = nI (m + c) ∧ (∀ j, i ≤ j → j < c → τ'.1 47 (m + j) = bytU v j) ∧ (∀ k f, ¬ (k = 46 ∧ f = 1) → ¬ (k = 47 ∧ m + i ≤ f ∧ f < m + c) → τ'.1 k f = τ.1 k f) := by
  intro n
  induction n with
  | zero => intro i τ hn hi; omega
  | succ n ih =>
    intro i τ hn hi ht
    by_cases hq : c ≤ i
    · have e : i = c := by omega
      subst e
      refine ⟨τ, ?_, ht, fun j h1 h2 => by omega, fun k f _ _ => rfl⟩
      simp only [s_X3_feedBytes_L16, Int32.le_refl, if_true, ht]
    · obtain ⟨τ', s1, s3, s4, s5⟩ := ih (i + 1) (zWD (zWD τ 46 1 (nI (m + i + 1))) 47 (m + i) (bytU v i)) (by omega) (by omega) (by rw [wd1, if_neg (by omega), wd1, if_pos ⟨rfl, rfl⟩]; rfl)
      have hle : ¬ nI c ≤ nI i := by rw [nI_leI (by omega) (by omega)]; exact hq
      have e1 : nI i + 1 = nI (i + 1) := nI_1 i
      have e2 : nI (m + i) + 1 = nI (m + i + 1) := nI_1 (m + i)
      refine ⟨τ', ?_, s3, fun j h1 h2 => ?_, fun k f q1 q2 => ?_⟩
      · rw [← s1, s_X3_feedBytes_L16, if_neg hle, zSt_e, ht, e1, e2, zSg_t (zIn_nI (a := m + i) (n := 120) (by omega) (by decide)), nI_clamp (n := m + i) (by omega)]
        rfl
      · by_cases hj : j = i
        · subst hj
          rw [s5 47 (m + j) (by omega) (by omega), wd1, if_pos ⟨rfl, rfl⟩]
        · exact s4 j (by omega) h2
      · rw [s5 k f q1 (by omega), wd1, if_neg (by omega), wd1, if_neg q1]
theorem m_feed_L (v : Int32) {m c : Nat} (hc : c ≤ 4) (hmc : m + c ≤ 120) : ∀ (n i : Nat) (τ : ZSt), c < n + i → i ≤ c → τ.1 68 19 = nI (m + i) → ∃ τ', s_X10_feed_L30 (nI c) v n (nI i) τ = some (nI (m + c), τ') ∧ τ'.1 68 19 = nI (m + c) ∧ (∀ j, i ≤ j → j < c → τ'.1 82 (m + j) = bytU v j) ∧ (∀ k f, ¬ (k = 68 ∧ f = 19) → ¬ (k = 82 ∧ m + i ≤ f ∧ f < m + c) → τ'.1 k f = τ.1 k f) := by
  intro n
  induction n with
  | zero => intro i τ hn hi; omega
  | succ n ih =>
    intro i τ hn hi ht
    by_cases hq : c ≤ i
    · have e : i = c := by omega
      subst e
      refine ⟨τ, ?_, ht, fun j h1 h2 => by omega, fun k f _ _ => rfl⟩
      simp only [s_X10_feed_L30, Int32.le_refl, if_true, ht]
    · obtain ⟨τ', s1, s3, s4, s5⟩ := ih (i + 1) (zWD (zWD τ 82 (m + i) (bytU v i)) 68 19 (nI (m + i + 1))) (by omega) (by omega) (by rw [wd1, if_pos ⟨rfl, rfl⟩]; rfl)
      have hle : ¬ nI c ≤ nI i := by rw [nI_leI (by omega) (by omega)]; exact hq
      have e1 : nI i + 1 = nI (i + 1) := nI_1 i
      have e2 : nI (m + i) + 1 = nI (m + i + 1) := nI_1 (m + i)
      have e3 : (zWD τ 82 (m + i) (bytU v i)).1 68 19 = nI (m + i) := by rw [wd1, if_neg (by omega), ht]
      refine ⟨τ', ?_, s3, fun j h1 h2 => ?_, fun k f q1 q2 => ?_⟩
      · rw [← s1, s_X10_feed_L30, if_neg hle, ht, bytS v (by omega), e1, zSg_t (zIn_nI (a := m + i) (n := 120) (by omega) (by decide)), nI_clamp (n := m + i) (by omega), zSt_e, e3, e2]
      · by_cases hj : j = i
        · subst hj
          rw [s5 82 (m + j) (by omega) (by omega), wd1, if_neg (by omega), wd1, if_pos ⟨rfl, rfl⟩]
        · exact s4 j (by omega) h2
      · rw [s5 k f q1 (by omega), wd1, if_neg q1, wd1, if_neg (by omega)]
/-- THE TAPE -/
def rFd (σ : ZSt) : Prop := ∃ m, m ≤ 120 ∧ (σ.1 46 1 = nI m ∧ σ.1 68 19 = nI m) ∧ ∀ i, i < m → σ.1 47 i = σ.1 82 i ∧ ∃ b, b < 256 ∧ σ.1 47 i = nI b
def cFd : List (Nat × Nat) := [(46, 1), (47, 999), (68, 19), (82, 999)]
theorem rFd_at {σ σ' : ZSt} (e : ∀ c f, zHit cFd c f = true → σ'.1 c f = σ.1 c f ∧ σ'.2 c f = σ.2 c f) (h : rFd σ) : rFd σ' := by
  have e0 := (e 46 1 rfl).1
  have e1 := (e 68 19 rfl).1
  have a47 : ∀ f, σ'.1 47 f = σ.1 47 f := fun f => (e 47 f rfl).1
  have a82 : ∀ f, σ'.1 82 f = σ.1 82 f := fun f => (e 82 f rfl).1
  unfold rFd at *
  simp only [e0, e1, a47, a82]
  exact h
theorem k_feed {σ : ZSt} (h : rFd σ) (a b : Int32) : ∃ (r : Int32) (σ1 σ2 : ZSt), s_X9_feed a b σ = some (r, σ1) ∧ s_X10_feed a b σ1 = some (r, σ2) ∧ rFd σ2 := by
  obtain ⟨m, hm, ⟨h1, h2⟩, hB⟩ := id h
  unfold s_X9_feed s_X10_feed
  simp only [isW, mW32 a 1 4 (a' := 1) (b' := 4) (by decide) (by decide), Option.bind_some, bI_0]
  by_cases ha : 1 ≤ a ∧ a ≤ 4
  · have b1 := inR_i (show inR a 1 4 from ha)
    rw [show (1 : Int32).toInt = 1 by decide, show (4 : Int32).toInt = 4 by decide] at b1
    obtain ⟨c, hc, rfl⟩ := ofI (x := a) (m := 4) (by omega) b1.2
    have hn : ¬ ¬ (1 ≤ nI c ∧ nI c ≤ 4) := fun q => q ha
    simp only [if_neg hn, s_X3_feedBytes, h1, nI_add]
    have e : (nI (m + c) ≤ (120 : Int32)) = (m + c ≤ 120) := by
      rw [show (120 : Int32) = nI 120 by decide]
      exact nI_le_n (by omega) (by omega)
    by_cases hmc : m + c ≤ 120
    · obtain ⟨σ1, s1, s3, s4, s5⟩ := c_feed_L b (m := m) hmc 200 0 σ (by omega) (by omega) h1
      have h2' : σ1.1 68 19 = nI (m + 0) := by rw [s5 68 19 (by omega) (by omega), h2]; rfl
      obtain ⟨σ2, t1, t3, t4, t5⟩ := m_feed_L b (m := m) hc hmc 200 0 σ1 (by omega) (by omega) h2'
      refine ⟨nI (m + c), σ1, σ2, ?_, ?_, m + c, hmc, ⟨?_, t3⟩, fun i hi => ?_⟩
      · rw [if_pos (by rw [e]; exact hmc), show (0 : Int32) = nI 0 from rfl, s1]
        rfl
      · rw [h2', nI_add, if_pos (by rw [show m + 0 + c = m + c from rfl, e]; exact hmc), show (0 : Int32) = nI 0 from rfl, t1]
      · rw [t5 46 1 (by omega) (by omega), s3]
      · rw [t5 47 i (by omega) (by omega)]
        by_cases him : i < m
        · rw [s5 47 i (by omega) (by omega), t5 82 i (by omega) (by omega), s5 82 i (by omega) (by omega)]
          exact hB i him
        · obtain ⟨j, rfl⟩ : ∃ j, i = m + j := ⟨i - m, by omega⟩
          rw [s4 j (by omega) (by omega), t4 j (by omega) (by omega)]
          exact ⟨rfl, bytLt b j⟩
    · refine ⟨-3, σ, σ, ?_, ?_, h⟩
      · rw [if_neg (by rw [e]; exact hmc)]
        rfl
      · rw [h2, nI_add, if_neg (by rw [e]; exact hmc)]
  · exact ⟨-1, σ, σ, by simp only [if_pos ha], by simp only [if_pos ha], h⟩
