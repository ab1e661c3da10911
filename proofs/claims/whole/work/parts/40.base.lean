/-! THE MATHEMATICS: small words for what the functions say -/
def bI (p : Prop) [Decidable p] : Int32 := if p then 1 else 0
theorem bI_0 {p : Prop} [Decidable p] : (bI p = (0 : Int32)) = ¬ p := by
  unfold bI
  by_cases h : p
  · rw [if_pos h]; simp [h]
  · rw [if_neg h]; simp [h]
theorem bI_01 {p : Prop} [Decidable p] : (bI p = (0 : Int32) ∨ bI p = (1 : Int32)) = True := by
  unfold bI
  by_cases h : p
  · rw [if_pos h]; simp
  · rw [if_neg h]; simp
theorem bI_t {p : Prop} [Decidable p] (h : p) : bI p = 1 := if_pos h
theorem bI_f {p : Prop} [Decidable p] (h : ¬ p) : bI p = 0 := if_neg h
theorem zLd_t {α β : Type} {b : Bool} {v : β} {K : β → Option α} (h : b = true) : zLd b v K = K v := if_pos h
theorem zSg_t {α : Type} {b : Bool} {s : ZSt} {K : ZSt → Option α} (h : b = true) : zSg b s K = K s := if_pos h
theorem zSt_e {α : Type} {s : ZSt} {K : ZSt → Option α} : zSt' s K = K s := rfl
theorem zIn_nI {a n : Nat} (h : a < n) (hn : n < 2 ^ 31) : zIn (nI a) n = true := by
  unfold zIn
  rw [nI_toInt (Nat.lt_trans h hn)]
  exact decide_eq_true ⟨by omega, by omega⟩
theorem wd1 {σ : ZSt} {k f a b : Nat} {v : Int32} : (zWD σ k f v).1 a b = if a = k ∧ b = f then v else σ.1 a b := rfl
theorem wd2 {σ : ZSt} {k f a b : Nat} {v : Int32} : (zWD σ k f v).2 a b = σ.2 a b := rfl
theorem we1 {σ : ZSt} {k f a b : Nat} {v : Int64} : (zWE σ k f v).1 a b = σ.1 a b := rfl
theorem we2 {σ : ZSt} {k f a b : Nat} {v : Int64} : (zWE σ k f v).2 a b = if a = k ∧ b = f then v else σ.2 a b := rfl
theorem toI0 : (0 : Int32).toInt = 0 := by decide
theorem i64_le {a b : Int32} : (a.toInt64 ≤ b.toInt64) = (a ≤ b) := by
  rw [Int64.le_iff_toInt_le, Int32.le_iff_toInt_le, Int32.toInt_toInt64, Int32.toInt_toInt64]
theorem lg_lt0 {a b : Int64} : (lg_cmp a b < (0 : Int32)) = (a < b) := by
  unfold lg_cmp
  by_cases h : a > b
  · rw [if_pos h]
    have : ¬ a < b := fun q => by
      rw [gt_iff_lt, Int64.lt_iff_toInt_lt] at h
      rw [Int64.lt_iff_toInt_lt] at q
      omega
    simp [this]
  · rw [if_neg h]
    by_cases h2 : a = b
    · rw [if_pos h2]
      subst h2
      have : ¬ a < a := fun q => by
        rw [Int64.lt_iff_toInt_lt] at q
        omega
      simp [this]
    · rw [if_neg h2]
      have : a < b := by
        rw [gt_iff_lt, Int64.lt_iff_toInt_lt] at h
        rw [Int64.lt_iff_toInt_lt]
        have : a.toInt ≠ b.toInt := fun q => h2 (Int64.toInt_inj.mp q)
        omega
      simp [this]
theorem lg_gt0 {a b : Int64} : ((0 : Int32) < lg_cmp a b) = (b < a) := by
  unfold lg_cmp
  by_cases h : a > b
  · rw [if_pos h]
    simp [show b < a from h]
  · rw [if_neg h]
    have h' : ¬ b < a := h
    by_cases h2 : a = b
    · rw [if_pos h2]
      simp [h']
    · rw [if_neg h2]
      simp [h']
theorem isW (v a b : Int32) (σ : ZSt) : s_X9_isWithin v a b σ = some (bI (a ≤ v ∧ v ≤ b)) := by
  unfold s_X9_isWithin
  by_cases h1 : a ≤ v <;> by_cases h2 : v ≤ b <;> simp [h1, h2, bI, Int32.not_lt] <;> first | (intro h; exact absurd h (by first | exact Int32.not_lt.mpr h1 | exact Int32.not_le.mpr h)) | grind
theorem mW (v a b : Int64) (σ : ZSt) : s_X10_within v a b σ = some (bI (a ≤ v ∧ v ≤ b)) := by
  unfold s_X10_within
  simp only [lg_lt0, lg_gt0, bI]
  by_cases h1 : v < a
  · have : ¬ (a ≤ v ∧ v ≤ b) := fun q => by
      have := q.1
      rw [Int64.le_iff_toInt_le] at this
      rw [Int64.lt_iff_toInt_lt] at h1
      omega
    simp [h1, this]
  · rw [if_neg h1]
    have ha : a ≤ v := by
      rw [Int64.le_iff_toInt_le]
      rw [Int64.lt_iff_toInt_lt] at h1
      omega
    by_cases h2 : b < v
    · have : ¬ (a ≤ v ∧ v ≤ b) := fun q => by
        have := q.2
        rw [Int64.le_iff_toInt_le] at this
        rw [Int64.lt_iff_toInt_lt] at h2
        omega
      simp [h2, this]
    · have hb : v ≤ b := by
        rw [Int64.le_iff_toInt_le]
        rw [Int64.lt_iff_toInt_lt] at h2
        omega
      simp [h2, ha, hb]
theorem mW32 (v : Int32) (a b : Int32) {a' b' : Int64} (ha : a.toInt64 = a') (hb : b.toInt64 = b') (σ : ZSt) : s_X10_within v.toInt64 a' b' σ = some (bI (a ≤ v ∧ v ≤ b)) := by
  subst ha hb
  rw [mW]
  simp only [i64_le]
theorem mTwo (v : Int32) (σ : ZSt) : s_X10_isTwo v.toInt64 σ = some (bI (0 ≤ v ∧ v ≤ 99)) := by
  unfold s_X10_isTwo
  rw [mW32 v 0 99 (by decide) (by decide)]
  simp [bI_01]
