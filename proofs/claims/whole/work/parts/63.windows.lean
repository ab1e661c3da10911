/-! windows -/
abbrev okW (s : Nat) (a b c d : Int32) : Prop := (0 ≤ a ∧ a < nI s) ∧ (0 ≤ b ∧ b ≤ 99) ∧ (-99 ≤ c ∧ c ≤ 99) ∧ (0 ≤ d ∧ d ≤ 999)
theorem cIsStreet0 {s : Nat} {σ : ZSt} (h0 : σ.1 1 0 = nI s) (hs : s ≤ 6) (x : Int32) : s_X7_isStreet x σ = some (bI (0 ≤ x ∧ x < nI s)) := by
  unfold s_X7_isStreet
  rw [h0]
  by_cases h1 : x < 0
  · have : ¬ (0 ≤ x) := Int32.not_le.mpr h1
    simp [h1, this, bI]
  · have g0 : 0 ≤ x := Int32.not_lt.mp h1
    by_cases h2 : nI s ≤ x
    · have : ¬ x < nI s := Int32.not_lt.mpr h2
      simp [h1, h2, this, bI]
    · have g2 : x < nI s := Int32.not_le.mp h2
      obtain ⟨k, hk, rfl⟩ := ofN (by omega) g0 g2
      have h3 : ¬ (6 : Int32) ≤ nI k := by
        rw [i6, nI_leI (by decide) (by omega)]
        omega
      simp [h1, h2, h3, g0, g2, bI]
theorem cTakes0 {s : Nat} {σ : ZSt} (h0 : σ.1 1 0 = nI s) (hs : s ≤ 6) (a b c d : Int32) : s_X7_takesWindow a b c d σ = some (bI (okW s a b c d)) := by
  unfold s_X7_takesWindow
  simp only [cIsStreet0 h0 hs, isW, Option.bind_some, bI_0]
  by_cases h1 : 0 ≤ a ∧ a < nI s
  · by_cases h2 : 0 ≤ b ∧ b ≤ 99
    · by_cases h3 : -99 ≤ c ∧ c ≤ 99
      · by_cases h4 : 0 ≤ d ∧ d ≤ 999
        · simp [h1, h2, h3, h4, bI]
        · simp [h1, h2, h3, h4, bI]
      · simp [h1, h2, h3, bI]
    · simp [h1, h2, bI]
  · simp [h1, bI]
def aC (τ : ZSt) (w : Nat) (a b c e : Int32) : ZSt := zWD (zWD (zWD (zWD (zWD τ 6 w a) 7 w b) 8 w c) 9 w e) 1 5 (nI (w + 1))
def aM (τ : ZSt) (w : Nat) (a b c e : Int32) : ZSt := zWD (zWD (zWD (zWD (zWD τ 76 w a) 69 w b) 69 (30 + w) c) 77 w e) 68 10 (nI (w + 1))
theorem cAddW {τ : ZSt} {w : Nat} (h : τ.1 1 5 = nI w) (hw : w < 30) (a b c e : Int32) : s_X7_addWindow a b c e τ = some (nI w, aC τ w a b c e) := by
  have hlt : nI w < 30 := by rw [i30, nI_ltI (by omega) (by decide)]; exact hw
  have hz := zIn_nI (a := w) (n := 30) hw (by decide)
  have hcl := nI_clamp (n := w) (by omega)
  simp only [s_X7_addWindow, h, hlt, if_true, zSg_t, zSt_e, wd1, hz, hcl, Nat.reduceEqDiff, false_and, if_false, and_false, nI_1, and_self]
  rfl
theorem mAddW {τ : ZSt} {w : Nat} (h : τ.1 68 10 = nI w) (hw : w < 30) (a b c e : Int32) : s_X10_adds a b c e τ = some (aM τ w a b c e) := by
  have hz := zIn_nI (a := w) (n := 30) hw (by decide)
  have hz1 := zIn_nI (a := w) (n := 66) (by omega) (by decide)
  have hz2 := zIn_nI (a := 30 + w) (n := 66) (by omega) (by decide)
  have hcl := nI_clamp (n := w) (by omega)
  have hcl2 := nI_clamp (n := 30 + w) (by omega)
  simp only [s_X10_adds, h, i30, nI_add, zSg_t, zSt_e, wd1, hz, hz1, hz2, hcl, hcl2, Nat.reduceEqDiff, false_and, if_false, and_false, nI_1, and_self]
  rfl
def aCn (σ : ZSt) (w : Nat) (X : Nat → Int32) (j : Nat) : Nat → ZSt
  | 0 => σ
  | m + 1 => aC (aCn σ w X j m) (w + m) (X (j + 4 * m)) (X (j + 4 * m + 1)) (X (j + 4 * m + 2)) (X (j + 4 * m + 3))
def aMn (σ : ZSt) (w : Nat) (X : Nat → Int32) (j : Nat) : Nat → ZSt
  | 0 => σ
  | m + 1 => aM (aMn σ w X j m) (w + m) (X (j + 4 * m)) (X (j + 4 * m + 1)) (X (j + 4 * m + 2)) (X (j + 4 * m + 3))
theorem aCn_at {σ : ZSt} {w : Nat} (X : Nat → Int32) (j : Nat) (h : σ.1 1 5 = nI w) : ∀ M, (aCn σ w X j M).1 1 5 = nI (w + M) ∧ (∀ k, k < M → (aCn σ w X j M).1 6 (w + k) = X (j + 4 * k) ∧ (aCn σ w X j M).1 7 (w + k) = X (j + 4 * k + 1) ∧ (aCn σ w X j M).1 8 (w + k) = X (j + 4 * k + 2) ∧ (aCn σ w X j M).1 9 (w + k) = X (j + 4 * k + 3)) ∧ (∀ c f, ¬ (c = 1 ∧ f = 5) → ¬ ((c = 6 ∨ c = 7 ∨ c = 8 ∨ c = 9) ∧ w ≤ f ∧ f < w + M) → (aCn σ w X j M).1 c f = σ.1 c f) ∧ (aCn σ w X j M).2 = σ.2 := by
  intro M
  induction M with
  | zero => exact ⟨h, fun k hk => absurd hk (Nat.not_lt_zero k), fun c f _ _ => rfl, rfl⟩
  | succ M ih =>
    obtain ⟨i1, i2, i3, i4⟩ := ih
    refine ⟨?_, fun k hk => ?_, fun c f q1 q2 => ?_, i4⟩
    · show (aC _ _ _ _ _ _).1 1 5 = _
      unfold aC
      rw [wd1, if_pos ⟨rfl, rfl⟩]
      rfl
    · show (aC _ _ _ _ _ _).1 6 _ = _ ∧ (aC _ _ _ _ _ _).1 7 _ = _ ∧ (aC _ _ _ _ _ _).1 8 _ = _ ∧ (aC _ _ _ _ _ _).1 9 _ = _
      unfold aC
      by_cases hkM : k = M
      · subst hkM
        refine ⟨?_, ?_, ?_, ?_⟩ <;> simp [wd1]
      · have n1 : ¬ w + k = w + M := by omega
        obtain ⟨p1, p2, p3, p4⟩ := i2 k (by omega)
        refine ⟨?_, ?_, ?_, ?_⟩
        · simpa [wd1, hkM] using p1
        · simpa [wd1, hkM] using p2
        · simpa [wd1, hkM] using p3
        · simpa [wd1, hkM] using p4
    · show (aC _ _ _ _ _ _).1 c f = _
      unfold aC
      rw [wd1, if_neg q1, wd1, if_neg (by omega), wd1, if_neg (by omega), wd1, if_neg (by omega), wd1, if_neg (by omega)]
      exact i3 c f q1 (by omega)
theorem aMn_at {σ : ZSt} {w : Nat} (X : Nat → Int32) (j : Nat) (h : σ.1 68 10 = nI w) : ∀ M, w + M ≤ 30 → (aMn σ w X j M).1 68 10 = nI (w + M) ∧ (∀ k, k < M → (aMn σ w X j M).1 76 (w + k) = X (j + 4 * k) ∧ (aMn σ w X j M).1 69 (w + k) = X (j + 4 * k + 1) ∧ (aMn σ w X j M).1 69 (30 + (w + k)) = X (j + 4 * k + 2) ∧ (aMn σ w X j M).1 77 (w + k) = X (j + 4 * k + 3)) ∧ (∀ c f, ¬ (c = 68 ∧ f = 10) → ¬ ((c = 76 ∨ c = 77) ∧ w ≤ f ∧ f < w + M) → ¬ (c = 69 ∧ (w ≤ f ∧ f < w + M ∨ 30 + w ≤ f ∧ f < 30 + w + M)) → (aMn σ w X j M).1 c f = σ.1 c f) ∧ (aMn σ w X j M).2 = σ.2 := by
  intro M
  induction M with
  | zero => intro _; exact ⟨h, fun k hk => absurd hk (Nat.not_lt_zero k), fun c f _ _ _ => rfl, rfl⟩
  | succ M ih =>
    intro hM
    obtain ⟨i1, i2, i3, i4⟩ := ih (by omega)
    refine ⟨?_, fun k hk => ?_, fun c f q1 q2 q3 => ?_, i4⟩
    · show (aM _ _ _ _ _ _).1 68 10 = _
      unfold aM
      rw [wd1, if_pos ⟨rfl, rfl⟩]
      rfl
    · show (aM _ _ _ _ _ _).1 76 _ = _ ∧ (aM _ _ _ _ _ _).1 69 _ = _ ∧ (aM _ _ _ _ _ _).1 69 _ = _ ∧ (aM _ _ _ _ _ _).1 77 _ = _
      unfold aM
      by_cases hkM : k = M
      · subst hkM
        have n1 : ¬ w + k = 30 + (w + k) := by omega
        refine ⟨?_, ?_, ?_, ?_⟩ <;> simp [wd1, n1]
      · have n1 : ¬ w + k = w + M := by omega
        have n2 : ¬ w + k = 30 + (w + M) := by omega
        have n3 : ¬ 30 + (w + k) = w + M := by omega
        have n4 : ¬ 30 + (w + k) = 30 + (w + M) := by omega
        obtain ⟨p1, p2, p3, p4⟩ := i2 k (by omega)
        refine ⟨?_, ?_, ?_, ?_⟩
        · rw [wd1, if_neg (by omega), wd1, if_neg (by omega), wd1, if_neg (by omega), wd1, if_neg (by omega), wd1, if_neg (by omega), p1]
        · rw [wd1, if_neg (by omega), wd1, if_neg (by omega), wd1, if_neg (by omega), wd1, if_neg (by omega), wd1, if_neg (by omega), p2]
        · rw [wd1, if_neg (by omega), wd1, if_neg (by omega), wd1, if_neg (by omega), wd1, if_neg (by omega), wd1, if_neg (by omega), p3]
        · rw [wd1, if_neg (by omega), wd1, if_neg (by omega), wd1, if_neg (by omega), wd1, if_neg (by omega), wd1, if_neg (by omega), p4]
    · show (aM _ _ _ _ _ _).1 c f = _
      unfold aM
      rw [wd1, if_neg q1, wd1, if_neg (by omega), wd1, if_neg (by omega), wd1, if_neg (by omega), wd1, if_neg (by omega)]
      exact i3 c f q1 (by omega) (by omega)
theorem rRow_fr {σ σ' : ZSt} {d s n : Nat} (h : rRow σ d s n) (e52 : σ'.1 52 d = σ.1 52 d) (e54 : σ'.1 54 d = σ.1 54 d) (e96 : σ'.1 96 d = σ.1 96 d) (e97 : σ'.1 97 d = σ.1 97 d) (e2 : σ'.2 = σ.2) : rRow σ' d s n := by
  unfold rRow at *
  rw [e52, e54, e96, e97, e2]
  exact h
/-- whether the window at place q of the row comes, as the one of number w -/
def PW (s w n : Nat) (X : Nat → Int32) (q : Nat) : Prop := q + 4 ≤ n ∧ w < 30 ∧ okW s (X q) (X (q + 1)) (X (q + 2)) (X (q + 3))
theorem cStepW {τ : ZSt} {s w n d : Nat} {X : Nat → Int32} (hs : s ≤ 6) (hw : w ≤ 30) (hd : d < 6) (t0 : τ.1 1 0 = nI s) (t5 : τ.1 1 5 = nI w) (hr : rRow τ d 1 n) (hX : ∀ q, q < n → τ.2 (56 + d) q = (X q).toInt64) {q : Nat} (hq : q ≤ 200) : (PW s w n X q → s_X9_comesFromRow (nI d) (nI q) τ = some (1, aC τ w (X q) (X (q + 1)) (X (q + 2)) (X (q + 3)))) ∧ (¬ PW s w n X q → s_X9_comesFromRow (nI d) (nI q) τ = some (0, τ)) := by
  have hn := hr.2.1
  have hpl := cPl hd hr (nI q) 4
  by_cases A : q + 4 ≤ n
  · have A' := Npl (n := n) (i := q) (m := 4) hn A
    have A'' : (0 ≤ nI q ∧ (0 : Int32) ≤ 4) ∧ ((4 : Int32) ≤ nI n ∧ nI q ≤ nI n - 4) := A'
    have base : s_X9_comesFromRow (nI d) (nI q) τ = if ¬ okW s (X q) (X (q + 1)) (X (q + 2)) (X (q + 3)) then some (0, τ) else (s_X7_addWindow (X q) (X (q + 1)) (X (q + 2)) (X (q + 3)) τ).bind fun r7 => (if r7.1 < (0 : Int32) then (some ((0 : Int32), r7.2)) else (some ((1 : Int32), r7.2))) := by
      unfold s_X9_comesFromRow
      rw [hpl, Option.bind_some, bI_n, if_neg (fun z => z A''), cElem hd hr (by omega), Option.bind_some, show nI q + 1 = nI (q + 1) from nI_1 q, cElem hd hr (by omega), Option.bind_some, show nI q + 2 = nI (q + 2) from nI_add q 2, cElem hd hr (by omega), Option.bind_some, show nI q + 3 = nI (q + 3) from nI_add q 3, cElem hd hr (by omega), Option.bind_some, hX _ (by omega), hX _ (by omega), hX _ (by omega), hX _ (by omega), Int32.toInt32_toInt64, Int32.toInt32_toInt64, Int32.toInt32_toInt64, Int32.toInt32_toInt64, cTakes0 t0 hs, Option.bind_some, bI_n]
    rw [base]
    by_cases B : okW s (X q) (X (q + 1)) (X (q + 2)) (X (q + 3))
    · rw [if_neg (fun z => z B)]
      by_cases C : w < 30
      · refine ⟨fun _ => ?_, fun z => absurd ⟨A, C, B⟩ z⟩
        rw [cAddW t5 C, Option.bind_some, if_neg (show ¬ nI w < 0 from nlt0 (by omega))]
      · refine ⟨fun z => absurd z.2.1 C, fun _ => ?_⟩
        unfold s_X7_addWindow
        rw [t5, if_neg (by rw [i30, nI_ltI (by omega) (by decide)]; exact C), Option.bind_some, if_pos (show (-3 : Int32) < 0 by decide)]
    · refine ⟨fun z => absurd z.2.2 B, fun _ => ?_⟩
      rw [if_pos B]
  · refine ⟨fun z => absurd z.1 A, fun _ => ?_⟩
    have A' : ¬ ((0 ≤ nI q ∧ (0 : Int32) ≤ 4) ∧ ((4 : Int32) ≤ nI n ∧ nI q ≤ nI n - 4)) := fun z => by
      obtain ⟨i', m', e1, e2, e3⟩ := plN hn z
      obtain ⟨-, q3, q4⟩ := z
      have e5 : 4 = m' := (nI_eq (by omega) (by omega)).mp e2
      have h4 := Int32.le_iff_toInt_le.mp q4
      rw [show (4 : Int32) = nI 4 by decide, sub_i hn (by omega), nI_toInt (by omega)] at h4
      omega
    unfold s_X9_comesFromRow
    rw [hpl, Option.bind_some, bI_n, if_pos A']
theorem c_win_L {σ : ZSt} {s w n d j N M : Nat} {X : Nat → Int32} (hs : s ≤ 6) (hd : d < 6) (hj : j ≤ 60) (hN : N ≤ 15) (t0 : σ.1 1 0 = nI s) (t5 : σ.1 1 5 = nI w) (hr : rRow σ d 1 n) (hX : ∀ q, q < n → σ.2 (56 + d) q = (X q).toInt64) (hM : M ≤ N) (hwM : w + M ≤ 30) (hP : ∀ k, k < M → PW s (w + k) n X (j + 4 * k)) (hE : M = N ∨ ¬ PW s (w + M) n X (j + 4 * M)) : ∀ (f m : Nat), N < f + m → m ≤ M → s_X9_windows_L53 (nI d) (nI j) (nI N) f (nI m) (aCn σ w X j m) = some (nI M, aCn σ w X j M) := by
  intro f
  induction f with
  | zero => intro m h1 h2; omega
  | succ f ih =>
    intro m h1 h2
    obtain ⟨a1, a2, a3, a4⟩ := aCn_at X j t5 m
    have b0 : (aCn σ w X j m).1 1 0 = nI s := by rw [a3 1 0 (by omega) (by omega), t0]
    have br : rRow (aCn σ w X j m) d 1 n := rRow_fr hr (a3 _ _ (by omega) (by omega)) (a3 _ _ (by omega) (by omega)) (a3 _ _ (by omega) (by omega)) (a3 _ _ (by omega) (by omega)) a4
    have bX : ∀ q, q < n → (aCn σ w X j m).2 (56 + d) q = (X q).toInt64 := fun q hq => by rw [a4]; exact hX q hq
    obtain ⟨st1, st2⟩ := cStepW (τ := aCn σ w X j m) (w := w + m) hs (by omega) hd b0 a1 br bX (q := j + 4 * m) (by omega)
    have e5 : (nI N ≤ nI m) = (N ≤ m) := nI_le_n (by omega) (by omega)
    have e4 : nI j + (4 : Int32) * nI m = nI (j + 4 * m) := by rw [i4, nI_mul (by omega) (by omega) (by omega), nI_add]
    by_cases hm : m = M
    · subst hm
      by_cases hq : N ≤ m
      · rw [s_X9_windows_L53, if_pos (by rw [e5]; exact hq)]
      · have nP : ¬ PW s (w + m) n X (j + 4 * m) := by
          rcases hE with hE | hE
          · omega
          · exact hE
        rw [s_X9_windows_L53, if_neg (by rw [e5]; exact hq), e4, st2 nP, Option.bind_some, if_pos rfl]
    · have hq : ¬ N ≤ m := by omega
      rw [s_X9_windows_L53, if_neg (by rw [e5]; exact hq), e4, st1 (hP m (by omega)), Option.bind_some, if_neg (show ¬ (1 : Int32) = 0 by decide), nI_1]
      exact ih (m + 1) (by omega) (by omega)
theorem mGo {n m j : Nat} (hn : n ≤ 60) (hm : m ≤ 15) (hj : j ≤ 60) : (((nI n - (4 : Int32)) - (4 : Int32) * nI m) < nI j) = (n < j + 4 * m + 4) := by
  rw [i4, nI_mul (by omega) (by omega) (by omega), Int32.lt_iff_toInt_lt, Int32.toInt_sub, sub_i hn (by omega), nI_toInt (n := 4 * m) (by omega), nI_toInt (n := j) (by omega), Int.bmod_def]
  exact propext (by omega)
theorem m_win_L {σ : ZSt} {s w n d j N M : Nat} {X : Nat → Int32} (hs : s ≤ 6) (hd : d < 6) (hj : j ≤ 60) (hN : N ≤ 15) (t0 : σ.1 68 6 = nI s) (t5 : σ.1 68 10 = nI w) (hr : rRow σ d 1 n) (hX : ∀ q, q < n → σ.2 98 (60 * d + q) = (X q).toInt64) (hM : M ≤ N) (hwM : w + M ≤ 30) (hP : ∀ k, k < M → PW s (w + k) n X (j + 4 * k)) (hE : M = N ∨ ¬ PW s (w + M) n X (j + 4 * M)) : ∀ (f m : Nat), N + 1 < f + m → m ≤ M → s_X10_windows_L69 (nI d) (nI j) (nI N) f (nI m) 1 (aMn σ w X j m) = some (nI M, aMn σ w X j M) := by
  intro f
  have hn := hr.2.1
  induction f with
  | zero => intro m h1 h2; omega
  | succ f ih =>
    intro m h1 h2
    obtain ⟨a1, a2, a3, a4⟩ := aMn_at X j t5 m (by omega)
    have b0 : (aMn σ w X j m).1 68 6 = nI s := by rw [a3 68 6 (by omega) (by omega) (by omega), t0]
    have b97 : (aMn σ w X j m).1 97 d = nI n := by rw [a3 97 d (by omega) (by omega) (by omega), hr.2.2.2.1.2]
    have bX : ∀ q, q < n → (aMn σ w X j m).2 98 (60 * d + q) = (X q).toInt64 := fun q hq => by rw [a4]; exact hX q hq
    generalize hτ : aMn σ w X j m = τ at *
    have e5 : (nI N ≤ nI m) = (N ≤ m) := nI_le_n (by omega) (by omega)
    have e30 : ((30 : Int32) ≤ nI (w + m)) = (30 ≤ w + m) := by rw [i30]; exact nI_le_n (by omega) (by omega)
    have hz := zIn_nI (a := d) (n := 6) hd (by decide)
    have hcl := nI_clamp (n := d) (by omega)
    have ek : (60 : Int32) * nI d + nI j + (4 : Int32) * nI m = nI (60 * d + (j + 4 * m)) := by
      rw [i60d d hd, i4, nI_mul (by omega) (by omega) (by omega), nI_add, nI_add]
      congr 1
      omega
    have stop0 : s_X10_windows_L69 (nI d) (nI j) (nI N) f (nI m) 0 τ = some (nI m, τ) := by
      obtain ⟨f', hf'⟩ : ∃ f', f = f' + 1 := ⟨f - 1, by omega⟩
      rw [hf', s_X10_windows_L69, if_pos rfl]
    have stop : s_X10_windows_C111 (s_X10_windows_L69 (nI d) (nI j) (nI N) f) (nI d) (nI j) (nI N) (nI m) 0 τ = some (nI m, τ) := by
      rw [s_X10_windows_C111, if_pos rfl, s_X10_windows_C177, if_pos rfl]
      exact stop0
    by_cases hq : N ≤ m
    · have hmM : m = M := by omega
      subst hmM
      rw [s_X10_windows_L69, if_neg (by decide), if_pos (by rw [e5]; exact hq), hτ]
    · rw [s_X10_windows_L69, if_neg (by decide), if_neg (by rw [e5]; exact hq), zLd_t hz, hcl, b97, a1]
      have nP : ¬ PW s (w + m) n X (j + 4 * m) → m = M := fun z => by
        rcases Nat.lt_or_ge m M with q | q
        · exact absurd (hP m q) z
        · omega
      by_cases A : n < j + 4 * m + 4
      · have hmM := nP (fun z => by have := z.1; omega)
        rw [if_pos (by rw [mGo hn (by omega) hj]; exact A), stop, hmM, ← hτ, hmM]
      · rw [if_neg (by rw [mGo hn (by omega) hj]; exact A)]
        by_cases B : 30 ≤ w + m
        · have hmM := nP (fun z => by have := z.2.1; omega)
          rw [if_pos (by rw [e30]; exact B), stop, hmM, ← hτ, hmM]
        · rw [if_neg (by rw [e30]; exact B)]
          have ld : ∀ (t : Nat) (K : Int64 → Option (Int32 × ZSt)), t < 4 → zLd (zIn (nI (60 * d + (j + 4 * m) + t)) 360) (τ.2 98 (nI (60 * d + (j + 4 * m) + t)).toNatClampNeg) K = K (X (j + 4 * m + t)).toInt64 := fun t K ht => by
            rw [zLd_t (zIn_nI (by omega) (by decide)), nI_clamp (by omega), show 60 * d + (j + 4 * m) + t = 60 * d + (j + 4 * m + t) by omega, bX _ (by omega)]
          have k0 : nI (60 * d + (j + 4 * m)) = nI (60 * d + (j + 4 * m) + 0) := rfl
          have k1 : nI (60 * d + (j + 4 * m)) + 1 = nI (60 * d + (j + 4 * m) + 1) := nI_1 _
          have k2 : nI (60 * d + (j + 4 * m)) + 2 = nI (60 * d + (j + 4 * m) + 2) := nI_add _ 2
          have k3 : nI (60 * d + (j + 4 * m)) + 3 = nI (60 * d + (j + 4 * m) + 3) := nI_add _ 3
          have one : s_X10_isOne (X (j + 4 * m + 0)).toInt64 (X (j + 4 * m + 1)).toInt64 (X (j + 4 * m + 2)).toInt64 (X (j + 4 * m + 3)).toInt64 τ = some (bI (okW s (X (j + 4 * m)) (X (j + 4 * m + 1)) (X (j + 4 * m + 2)) (X (j + 4 * m + 3)))) := mOne b0 hs _ _ _ _
          have c1 : s_X10_windows_C111 (s_X10_windows_L69 (nI d) (nI j) (nI N) f) (nI d) (nI j) (nI N) (nI m) 1 τ = if ¬ okW s (X (j + 4 * m)) (X (j + 4 * m + 1)) (X (j + 4 * m + 2)) (X (j + 4 * m + 3)) then s_X10_windows_C177 (s_X10_windows_L69 (nI d) (nI j) (nI N) f) (nI d) (nI j) (nI N) (nI m) (nI (60 * d + (j + 4 * m))) 0 τ else s_X10_windows_C177 (s_X10_windows_L69 (nI d) (nI j) (nI N) f) (nI d) (nI j) (nI N) (nI m) (nI (60 * d + (j + 4 * m))) 1 τ := by
            rw [s_X10_windows_C111, if_neg (by decide), ek, k1, k2, k3]
            rw [k0, ld 0 _ (by decide), ld 1 _ (by decide), ld 2 _ (by decide), ld 3 _ (by decide), one, Option.bind_some, bI_n]
          rw [c1]
          by_cases C : okW s (X (j + 4 * m)) (X (j + 4 * m + 1)) (X (j + 4 * m + 2)) (X (j + 4 * m + 3))
          · have hmM : m < M := by
              rcases Nat.lt_or_ge m M with q | q
              · exact q
              · have hmM : m = M := by omega
                subst hmM
                rcases hE with hE | hE
                · omega
                · exact absurd ⟨by omega, by omega, C⟩ hE
            rw [if_neg (fun z => z C), s_X10_windows_C177, if_neg (by decide), k1, k2, k3, k0, ld 0 _ (by decide), ld 1 _ (by decide), ld 2 _ (by decide), ld 3 _ (by decide), Int32.toInt32_toInt64, Int32.toInt32_toInt64, Int32.toInt32_toInt64, Int32.toInt32_toInt64, mAddW a1 (by omega), Option.bind_some, nI_1]
            have := ih (m + 1) (by omega) (by omega)
            rw [← this, ← hτ]
            rfl
          · have hmM := nP (fun z => C z.2.2)
            rw [if_pos C, s_X10_windows_C177, if_pos rfl, stop0, hmM, ← hτ, hmM]
theorem least_M (P : Nat → Prop) (N : Nat) : ∃ M, M ≤ N ∧ (∀ k, k < M → P k) ∧ (M = N ∨ ¬ P M) := by
  induction N with
  | zero => exact ⟨0, Nat.le_refl _, fun k hk => absurd hk (Nat.not_lt_zero k), Or.inl rfl⟩
  | succ N ih =>
    obtain ⟨M, h1, h2, h3⟩ := ih
    rcases h3 with h3 | h3
    · subst h3
      by_cases q : P M
      · refine ⟨M + 1, Nat.le_refl _, fun k hk => ?_, Or.inl rfl⟩
        by_cases e : k = M
        · rw [e]; exact q
        · exact h2 k (by omega)
      · exact ⟨M, by omega, h2, Or.inr q⟩
    · exact ⟨M, by omega, h2, Or.inr h3⟩
theorem rT_win {σ : ZSt} {s w p : Nat} (h : rT s w p σ) (X : Nat → Int32) (j M : Nat) (hM : w + M ≤ 30) (hP : ∀ k, k < M → okW s (X (j + 4 * k)) (X (j + 4 * k + 1)) (X (j + 4 * k + 2)) (X (j + 4 * k + 3))) : rT s (w + M) p (aMn (aCn σ w X j M) w X j M) := by
  obtain ⟨⟨hs, hw, hp⟩, ⟨h0, h1, h2, h3, h4, h5⟩, hS, hE, hW, hPp⟩ := h
  obtain ⟨a1, a2, a3, a4⟩ := aCn_at X j h2 M
  have t5 : (aCn σ w X j M).1 68 10 = nI w := by rw [a3 68 10 (by omega) (by omega), h3]
  obtain ⟨b1, b2, b3, b4⟩ := aMn_at X j t5 M hM
  have lo : ∀ c f, ¬ c = 68 → ¬ c = 69 → ¬ c = 76 → ¬ c = 77 → (aMn (aCn σ w X j M) w X j M).1 c f = (aCn σ w X j M).1 c f := fun c f q1 q2 q3 q4 => b3 c f (by omega) (by omega) (by omega)
  have un : ∀ c f, ¬ (c = 1 ∧ f = 5) → ¬ (c = 68 ∧ f = 10) → ¬ (c = 6 ∨ c = 7 ∨ c = 8 ∨ c = 9) → ¬ (c = 76 ∨ c = 77) → ¬ c = 69 → (aMn (aCn σ w X j M) w X j M).1 c f = σ.1 c f := fun c f q1 q2 q3 q4 q5 => by
    rw [b3 c f q2 (by omega) (by omega), a3 c f q1 (by omega)]
  have u69 : ∀ f, 60 ≤ f ∨ f < w → (aMn (aCn σ w X j M) w X j M).1 69 f = σ.1 69 f := fun f q => by
    rw [b3 69 f (by omega) (by omega) (by omega), a3 69 f (by omega) (by omega)]
  refine ⟨⟨hs, by omega, hp⟩, ⟨?_, ?_, ?_, b1, ?_, ?_⟩, fun k hk => ?_, fun k hk hk6 => ?_, fun i hi => ?_, fun q hq => ?_⟩
  · rw [un 1 0 (by omega) (by omega) (by omega) (by omega) (by omega), h0]
  · rw [un 68 6 (by omega) (by omega) (by omega) (by omega) (by omega), h1]
  · rw [lo 1 5 (by omega) (by omega) (by omega) (by omega), a1]
  · rw [un 1 10 (by omega) (by omega) (by omega) (by omega) (by omega), h4]
  · rw [un 68 13 (by omega) (by omega) (by omega) (by omega) (by omega), h5]
  · have := hS k hk
    unfold rTs at this ⊢
    rw [un 2 k (by omega) (by omega) (by omega) (by omega) (by omega), un 3 k (by omega) (by omega) (by omega) (by omega) (by omega), un 4 k (by omega) (by omega) (by omega) (by omega) (by omega), un 5 k (by omega) (by omega) (by omega) (by omega) (by omega), un 73 k (by omega) (by omega) (by omega) (by omega) (by omega), un 74 k (by omega) (by omega) (by omega) (by omega) (by omega), un 75 k (by omega) (by omega) (by omega) (by omega) (by omega), u69 (60 + k) (by omega)]
    exact this
  · rw [un 4 k (by omega) (by omega) (by omega) (by omega) (by omega), un 5 k (by omega) (by omega) (by omega) (by omega) (by omega)]
    exact hE k hk hk6
  · unfold rTw
    rw [lo 6 i (by omega) (by omega) (by omega) (by omega), lo 7 i (by omega) (by omega) (by omega) (by omega), lo 8 i (by omega) (by omega) (by omega) (by omega), lo 9 i (by omega) (by omega) (by omega) (by omega)]
    by_cases hiw : i < w
    · have := hW i hiw
      unfold rTw at this
      rw [a3 6 i (by omega) (by omega), a3 7 i (by omega) (by omega), a3 8 i (by omega) (by omega), a3 9 i (by omega) (by omega), u69 i (by omega), b3 69 (30 + i) (by omega) (by omega) (by omega), b3 76 i (by omega) (by omega) (by omega), b3 77 i (by omega) (by omega) (by omega), a3 69 (30 + i) (by omega) (by omega), a3 76 i (by omega) (by omega), a3 77 i (by omega) (by omega)]
      exact this
    · obtain ⟨k, rfl⟩ : ∃ k, i = w + k := ⟨i - w, by omega⟩
      obtain ⟨p1, p2, p3, p4⟩ := a2 k (by omega)
      obtain ⟨r1, r2, r3, r4⟩ := b2 k (by omega)
      obtain ⟨o1, o2, o3, o4⟩ := hP k (by omega)
      rw [p1, p2, p3, p4, r1, r2, r3, r4]
      exact ⟨⟨rfl, ofN (by omega) o1.1 o1.2⟩, ⟨rfl, o2⟩, ⟨rfl, o3⟩, ⟨rfl, o4⟩⟩
  · have := hPp q hq
    unfold rTp at this ⊢
    rw [un 10 q (by omega) (by omega) (by omega) (by omega) (by omega), un 11 q (by omega) (by omega) (by omega) (by omega) (by omega), un 12 q (by omega) (by omega) (by omega) (by omega) (by omega), un 13 q (by omega) (by omega) (by omega) (by omega) (by omega), un 78 q (by omega) (by omega) (by omega) (by omega) (by omega), un 79 q (by omega) (by omega) (by omega) (by omega) (by omega), un 80 q (by omega) (by omega) (by omega) (by omega) (by omega), un 81 q (by omega) (by omega) (by omega) (by omega) (by omega)]
    exact this
section WIN
variable {s w p bo : Nat} {σ : ZSt}
theorem cShorts {d : Nat} (hd : d < 6) (σ : ZSt) : s_X6_isRowOfShorts (nI d) σ = some (bI (σ.1 52 d = 1)) := by
  unfold s_X6_isRowOfShorts
  rw [cShf, Option.bind_some, bI_n, if_neg (fun q => q (shD hd)), zLd_t (zIn_nI hd (by decide)), nI_clamp (by omega)]
  by_cases h : σ.1 52 d = 1 <;> simp [h, bI]
theorem k_windows (h : rT s w p σ) (hSh : rSh bo σ) (hbo : bo ≤ 50) (a i c : Int32) : ∃ (r : Int32) (σ1 σ2 : ZSt) (w' : Nat), s_X9_windows a i c σ = some (r, σ1) ∧ s_X10_windows a i c σ1 = some (r, σ2) ∧ w ≤ w' ∧ rT s w' p σ2 := by
  have hs := h.1.1
  have hw := h.1.2.1
  obtain ⟨h0, h1, h2, h3, -, -⟩ := h.2.1
  unfold s_X9_windows s_X10_windows
  simp only [cShf, mShf, isW, mW32 c 1 15 (a' := 1) (b' := 15) (by decide) (by decide), Option.bind_some, bI_0]
  by_cases ha : 0 ≤ a ∧ a ≤ 5
  · have hna : ¬ ¬ (0 ≤ a ∧ a ≤ 5) := fun q => q ha
    simp only [if_neg hna]
    by_cases hc : 1 ≤ c ∧ c ≤ 15
    · have hnc : ¬ ¬ (1 ≤ c ∧ c ≤ 15) := fun q => q hc
      simp only [if_neg hnc]
      obtain ⟨d, hd, rfl⟩ := ofSh ha
      have b1 := inR_i (show inR c 1 15 from hc)
      rw [show (1 : Int32).toInt = 1 by decide, show (15 : Int32).toInt = 15 by decide] at b1
      obtain ⟨N, hN, rfl⟩ := ofI (x := c) (m := 15) (by omega) b1.2
      have hN1 : 1 ≤ N := by
        have := b1.1
        rw [nI_toInt (by omega)] at this
        omega
      have hz := zIn_nI (a := d) (n := 6) hd (by decide)
      have hcl := nI_clamp (n := d) (by omega)
      have L0 : ∀ τ : ZSt, s_X10_windows_L69 (nI d) i (nI N) 200 0 0 τ = some (0, τ) := fun τ => by rw [s_X10_windows_L69, if_pos rfl]
      simp only [cEmp hd, cShorts hd, Option.bind_some, bI_0, hcl, zLd_t hz]
      rcases hSh d hd with ⟨q1, q2⟩ | ⟨q1, k, hk, q2, q3⟩ | ⟨t, n, hr⟩
      · refine ⟨0, σ, σ, w, by rw [if_neg (fun q => q q1)], ?_, Nat.le_refl _, h⟩
        rw [q2, if_pos (by decide), s_X10_windows_C44, zLd_t hz, hcl, q2, if_neg (by decide), L0]
      · refine ⟨-12, σ, σ, w, ?_, ?_, Nat.le_refl _, h⟩
        · rw [q1, if_pos (by decide), if_pos (by decide)]
        · rw [q3, if_neg (nlt0 (by omega)), if_neg (by rw [show (51 : Int32) = nI 51 by decide, nI_eq (by omega) (by omega)]; omega)]
      · obtain ⟨r1, r2, ⟨r3, r4⟩, ⟨r5, r6⟩, r7⟩ := id hr
        have n1 : ¬ σ.1 52 d = -1 := by rw [r3]; exact ne1 (by omega)
        by_cases ht : t = 1
        · subst ht
          have X1 : σ.1 52 d = 1 := r3
          have X2 : σ.1 96 d = 51 := r4
          by_cases hi : 0 ≤ i ∧ i ≤ 60
          · have b2 := inR_i (show inR i 0 60 from hi)
            rw [show (0 : Int32).toInt = 0 by decide, show (60 : Int32).toInt = 60 by decide] at b2
            obtain ⟨j, hj, rfl⟩ := ofI (x := i) (m := 60) (by omega) b2.2
            obtain ⟨X, hX⟩ : ∃ X : Nat → Int32, ∀ q, q < n → σ.2 (56 + d) q = (X q).toInt64 := ⟨fun q => (σ.2 (56 + d) q).toInt32, fun q hq => by
              obtain ⟨x, hx⟩ := (r7 q hq).2 rfl
              show _ = ((σ.2 (56 + d) q).toInt32).toInt64
              rw [hx, Int32.toInt32_toInt64]⟩
            obtain ⟨M, m1, m2, m3⟩ : ∃ M, M ≤ N ∧ (∀ k, k < M → PW s (w + k) n X (j + 4 * k)) ∧ (M = N ∨ ¬ PW s (w + M) n X (j + 4 * M)) := least_M (fun k => PW s (w + k) n X (j + 4 * k)) N
            have hwM : w + M ≤ 30 := by
              rcases Nat.eq_zero_or_pos M with q | q
              · omega
              · have := (m2 (M - 1) (by omega)).2.1
                omega
            have m4 : ∀ k, k < M → okW s (X (j + 4 * k)) (X (j + 4 * k + 1)) (X (j + 4 * k + 2)) (X (j + 4 * k + 3)) := fun k hk => (m2 k hk).2.2
            obtain ⟨a1, a2, a3, a4⟩ := aCn_at X j h2 M
            have C := c_win_L (X := X) hs hd hj hN h0 h2 hr hX m1 hwM m2 m3 200 0 (by omega) (by omega)
            have rr := rT_win h X j M hwM m4
            have u6 : (aCn σ w X j M).1 68 6 = nI s := by rw [a3 68 6 (by omega) (by omega), h1]
            have u10 : (aCn σ w X j M).1 68 10 = nI w := by rw [a3 68 10 (by omega) (by omega), h3]
            have ur : rRow (aCn σ w X j M) d 1 n := rRow_fr hr (a3 _ _ (by omega) (by omega)) (a3 _ _ (by omega) (by omega)) (a3 _ _ (by omega) (by omega)) (a3 _ _ (by omega) (by omega)) a4
            have uX : ∀ q, q < n → (aCn σ w X j M).2 98 (60 * d + q) = (X q).toInt64 := fun q hq => by rw [a4, ← (r7 q hq).1]; exact hX q hq
            have X2' : (aCn σ w X j M).1 96 d = 51 := by rw [a3 96 d (by omega) (by omega), X2]
            generalize aCn σ w X j M = σ1 at *
            have D := m_win_L (σ := σ1) (X := X) hs hd hj hN u6 u10 ur uX m1 hwM m2 m3 200 0 (by omega) (by omega)
            generalize aMn σ1 w X j M = σ2 at *
            refine ⟨nI M, σ1, σ2, w + M, ?_, ?_, by omega, rr⟩
            · rw [if_pos n1, if_neg (fun q => q X1)]
              exact C
            · rw [X2', if_neg (by decide), if_pos rfl, s_X10_windows_C44, zLd_t hz, hcl, X2', if_pos rfl, if_neg (nlt0 (by omega))]
              exact D
          · have P0 : ¬ ((0 ≤ i ∧ (0 : Int32) ≤ 4) ∧ ((4 : Int32) ≤ nI n ∧ i ≤ nI n - 4)) := fun z => by
              obtain ⟨i', m', e1, e2, e3⟩ := plN r2 z
              exact hi (by
                rw [e1]
                exact inR_nI (k := i') (a := 0) (b := 60) (by omega) (by omega) (by decide))
            refine ⟨0, σ, σ, w, ?_, ?_, Nat.le_refl _, h⟩
            · rw [if_pos n1, if_neg (fun q => q X1), s_X9_windows_L53, if_neg (by rw [i0, nI_leI (by omega) (by omega)]; omega), show i + (4 : Int32) * 0 = i by rw [show (4 : Int32) * 0 = 0 by decide, Int32.add_zero], s_X9_comesFromRow, cPl hd hr, Option.bind_some, bI_n, if_pos P0, Option.bind_some, if_pos rfl]
            · rw [X2, if_neg (by decide), if_pos rfl, s_X10_windows_C44, zLd_t hz, hcl, X2, if_pos rfl]
              by_cases hi0 : i < 0
              · rw [if_pos hi0, L0]
              · have hi1 : 0 ≤ i := Int32.not_lt.mp hi0
                obtain ⟨j, hj, rfl⟩ := pNat hi1
                have hj60 : 60 < j := by
                  rcases Nat.lt_or_ge 60 j with q | q
                  · exact q
                  · exact absurd (inR_nI (k := j) (a := 0) (b := 60) (by omega) q (by decide)) hi
                have lt : ((nI n - (4 : Int32)) - (4 : Int32) * 0) < nI j := by
                  rw [show (4 : Int32) * 0 = 0 by decide, Int32.sub_zero, i4, Int32.lt_iff_toInt_lt, sub_i r2 (by omega), nI_toInt hj]
                  omega
                rw [if_neg hi0, s_X10_windows_L69, if_neg (by decide), if_neg (by rw [i0, nI_leI (by omega) (by omega)]; omega), zLd_t hz, hcl, r6, if_pos lt, s_X10_windows_C111, if_pos rfl, s_X10_windows_C177, if_pos rfl, s_X10_windows_L69, if_pos rfl]
        · have X1 : ¬ σ.1 52 d = 1 := by rw [r3, i1, nI_eq (by omega) (by omega)]; exact ht
          refine ⟨-12, σ, σ, w, ?_, ?_, Nat.le_refl _, h⟩
          · rw [if_pos n1, if_pos X1]
          · rw [r4, if_neg (nlt0 (by omega)), if_neg (by rw [show (51 : Int32) = nI 51 by decide, nI_eq (by omega) (by omega)]; omega)]
    · exact ⟨-1, σ, σ, w, by simp only [if_pos hc], by simp only [if_pos hc], Nat.le_refl _, h⟩
  · exact ⟨-1, σ, σ, w, by simp only [if_pos ha], by simp only [if_pos ha], Nat.le_refl _, h⟩
end WIN
