/-! WEEKS, the model: all go -/
def mK (σb τ : ZSt) (s : Nat) (W S : Nat → Int32) : Prop := (∀ c f, (c = 68 ∧ (f = 6 ∨ f = 10 ∨ f = 13 ∨ f = 21) ∨ c = 69 ∨ c = 73 ∨ (76 ≤ c ∧ c ≤ 81) ∨ c = 83) → τ.1 c f = σb.1 c f) ∧ ∀ k, k < s → τ.1 74 k = W k ∧ τ.1 75 k = S k
theorem mK.to {σb τ τ' : ZSt} {s : Nat} {W S : Nat → Int32} (h : mK σb τ s W S) (e : ∀ c f, ¬ (84 ≤ c ∧ c ≤ 90) → ¬ (c = 68 ∧ 22 ≤ f ∧ f ≤ 26) → τ'.1 c f = τ.1 c f) : mK σb τ' s W S := ⟨fun c f q => (e c f (by omega) (by omega)).trans (h.1 c f q), fun k hk => by rw [e 74 k (by omega) (by omega), e 75 k (by omega) (by omega)]; exact h.2 k hk⟩
def mLw (σb : ZSt) (code : List Int32) : Prop := (code = [] ∧ σb.1 68 21 = -1) ∨ (1 ≤ code.length ∧ ∃ N, N ≤ 120 ∧ σb.1 68 21 = nI N ∧ lSem (σb.1 83) N code)
def frM (τ τ' : ZSt) : Prop := ∀ c f, ¬ c = 84 → ¬ (c = 68 ∧ 22 ≤ f ∧ f ≤ 26) → τ'.1 c f = τ.1 c f
section MWEEK
variable {s w p : Nat} {σb : ZSt} {code : List Int32} {W S : Nat → Int32}
theorem mTake {τ : ZSt} (hb : rT s w p σb) (K : mK σb τ s W S) {k : Nat} (hk : k < s) : s_X10_take (nI k) τ = some (σb.1 2 k) := by
  have hs := hb.1.1
  obtain ⟨⟨q1, -⟩, -⟩ := hb.2.2.1 k hk
  unfold s_X10_take
  rw [i60, nI_add, zLd_t (zIn_nI (by omega) (by decide)), nI_clamp (by omega), K.1 69 (60 + k) (by omega), q1]
theorem m_worth {τ : ZSt} (hb : rT s w p σb) (hl : mLw σb code) (K : mK σb τ s W S) {q k : Nat} (hq : q < p) (hk : k < s) {X P : Nat → Int32} (hX : τ.1 86 q = X q) (hP : τ.1 88 k = P k) (hth : τ.1 87 k = yth X p k) : ∃ τ', s_X10_worthOf (nI q) (nI k) τ = some (wv code (yF σb P (yth X p) X q k), τ') ∧ frM τ τ' := by
  have hs := hb.1.1
  have hp := hb.1.2.2
  have hzk := zIn_nI (a := k) (n := 6) (by omega) (by decide)
  have hck := nI_clamp (n := k) (by omega)
  have hzq := zIn_nI (a := q) (n := 8) (by omega) (by decide)
  have hcq := nI_clamp (n := q) (by omega)
  obtain ⟨⟨p1, -⟩, ⟨p2, -⟩, ⟨p3, -⟩, -⟩ := hb.2.2.2.2.2 q hq
  have c78 : τ.1 78 q = σb.1 10 q := by rw [K.1 78 q (by omega), p1]
  have c79 : τ.1 79 q = σb.1 11 q := by rw [K.1 79 q (by omega), p2]
  have c80 : τ.1 80 q = σb.1 12 q := by rw [K.1 80 q (by omega), p3]
  have c21 := K.1 68 21 (by omega)
  unfold s_X10_worthOf
  rw [c21]
  rcases hl with ⟨rfl, e21⟩ | ⟨hc, N, hN, e21, hsem⟩
  · rw [e21, if_neg (by decide), mTake hb K hk, Option.bind_some, zLd_t hzq, zLd_t hzk, hcq, hck, c79, hth]
    refine ⟨τ, ?_, fun _ _ _ _ => rfl⟩
    unfold wv
    rw [if_pos rfl]
    rfl
  · have fin : ∀ b : Int32, b = bI (X q = nI k) → ∃ τ', (zSg (zIn (7 : Int32) 8) (zWD (zWD (zWD (zWD (zWD (zWD (zWD (zWD τ 84 0 (σb.1 2 k)) 84 1 (σb.1 11 q)) 84 2 (P k)) 84 3 (σb.1 12 q)) 84 4 (yth X p k)) 84 5 (σb.1 10 q)) 84 6 (nI k)) 84 (7 : Int32).toNatClampNeg b) fun σ17 => ((s_X10_workOut (0 : Int32) (σ17.1 68 21) σ17).bind fun r18 => (some (r18.1, r18.2)))) = some (wv code (yF σb P (yth X p) X q k), τ') ∧ frM τ τ' := fun b eb => by
      rw [zSg_t (show zIn (7 : Int32) 8 = true by decide), show (7 : Int32).toNatClampNeg = 7 from rfl]
      have eF : ∀ i, i < 8 → (zWD (zWD (zWD (zWD (zWD (zWD (zWD (zWD τ 84 0 (σb.1 2 k)) 84 1 (σb.1 11 q)) 84 2 (P k)) 84 3 (σb.1 12 q)) 84 4 (yth X p k)) 84 5 (σb.1 10 q)) 84 6 (nI k)) 84 7 b).1 84 i = yF σb P (yth X p) X q k i := fun i hi => by
        unfold yF
        rcases (show i = 0 ∨ i = 1 ∨ i = 2 ∨ i = 3 ∨ i = 4 ∨ i = 5 ∨ i = 6 ∨ i = 7 by omega) with rfl | rfl | rfl | rfl | rfl | rfl | rfl | rfl
        · simp [wd1]
        · simp [wd1]
        · simp [wd1]
        · simp [wd1]
        · simp [wd1]
        · simp [wd1]
        · simp [wd1]
        · simp [wd1, eb]
      have fr0 : ∀ c f, ¬ c = 84 → (zWD (zWD (zWD (zWD (zWD (zWD (zWD (zWD τ 84 0 (σb.1 2 k)) 84 1 (σb.1 11 q)) 84 2 (P k)) 84 3 (σb.1 12 q)) 84 4 (yth X p k)) 84 5 (σb.1 10 q)) 84 6 (nI k)) 84 7 b).1 c f = τ.1 c f := fun c f q1 => by rw [wd1, if_neg (by omega), wd1, if_neg (by omega), wd1, if_neg (by omega), wd1, if_neg (by omega), wd1, if_neg (by omega), wd1, if_neg (by omega), wd1, if_neg (by omega), wd1, if_neg (by omega)]
      generalize zWD (zWD (zWD (zWD (zWD (zWD (zWD (zWD τ 84 0 (σb.1 2 k)) 84 1 (σb.1 11 q)) 84 2 (P k)) 84 3 (σb.1 12 q)) 84 4 (yth X p k)) 84 5 (σb.1 10 q)) 84 6 (nI k)) 84 7 b = κ at *
      obtain ⟨κ', k1, k2, k3⟩ := hsem κ (fun i _ => by rw [fr0 83 i (by omega), K.1 83 i (by omega)])
      rw [fr0 68 21 (by omega), c21, e21, k1, Option.bind_some]
      refine ⟨κ', ?_, fun c f q1 q2 => by rw [k3 c f q2, fr0 c f q1]⟩
      unfold wv
      rw [if_neg (fun z => by rw [z] at hc; exact absurd hc (by decide)), wrun_congr eF]
    rw [e21, if_pos (nI_pos' (by omega)), mTake hb K hk, Option.bind_some, zSg_t (show zIn (0 : Int32) 8 = true by decide), show (0 : Int32).toNatClampNeg = 0 from rfl, zLd_t hzq, hcq, wd1, if_neg (by omega), c79, zSg_t (show zIn (1 : Int32) 8 = true by decide), show (1 : Int32).toNatClampNeg = 1 from rfl, zLd_t hzk, hck, wd1, if_neg (by omega), wd1, if_neg (by omega), hP, zSg_t (show zIn (2 : Int32) 8 = true by decide), show (2 : Int32).toNatClampNeg = 2 from rfl, zLd_t hzq, wd1, if_neg (by omega), wd1, if_neg (by omega), wd1, if_neg (by omega), c80, zSg_t (show zIn (3 : Int32) 8 = true by decide), show (3 : Int32).toNatClampNeg = 3 from rfl, zLd_t hzk, wd1, if_neg (by omega), wd1, if_neg (by omega), wd1, if_neg (by omega), wd1, if_neg (by omega), hth, zSg_t (show zIn (4 : Int32) 8 = true by decide), show (4 : Int32).toNatClampNeg = 4 from rfl, zLd_t hzq, wd1, if_neg (by omega), wd1, if_neg (by omega), wd1, if_neg (by omega), wd1, if_neg (by omega), wd1, if_neg (by omega), c78, zSg_t (show zIn (5 : Int32) 8 = true by decide), show (5 : Int32).toNatClampNeg = 5 from rfl, zSg_t (show zIn (6 : Int32) 8 = true by decide), show (6 : Int32).toNatClampNeg = 6 from rfl, zLd_t hzq, show (zWD (zWD (zWD (zWD (zWD (zWD (zWD τ 84 0 (σb.1 2 k)) 84 1 (σb.1 11 q)) 84 2 (P k)) 84 3 (σb.1 12 q)) 84 4 (yth X p k)) 84 5 (σb.1 10 q)) 84 6 (nI k)).1 86 q = X q by rw [wd1, if_neg (by omega), wd1, if_neg (by omega), wd1, if_neg (by omega), wd1, if_neg (by omega), wd1, if_neg (by omega), wd1, if_neg (by omega), wd1, if_neg (by omega), hX]]
    by_cases z : X q = nI k
    · rw [if_pos z]
      exact fin 1 (by rw [bI_t z])
    · rw [if_neg z]
      exact fin 0 (by rw [bI_f z])
theorem m_ch_L (hb : rT s w p σb) (hl : mLw σb code) {X P : Nat → Int32} {q : Nat} (hq : q < p) (Kk : Int32 → ZSt → Option ZSt) : ∀ (n k : Nat) (τ : ZSt), s < n + k → k ≤ s → mK σb τ s W S → τ.1 86 q = X q → (∀ k, k < s → τ.1 88 k = P k) → (∀ k, k < s → τ.1 87 k = yth X p k) → ∃ τ', s_X10_allGo_L45 Kk (nI q) n (yc σb code P (yth X p) X q k).2 (yc σb code P (yth X p) X q k).1 (nI k) τ = Kk (nI (q + 1)) (zWD τ' 85 q (ynx σb code s p (X, P) q)) ∧ frM τ τ' := by
  have hs := hb.1.1
  have hp := hb.1.2.2
  intro n
  induction n with
  | zero => intro k τ h1 h2; omega
  | succ n ih =>
    intro k τ h1 h2 K hX hP hth
    have e5 : (nI s ≤ nI k) = (s ≤ k) := nI_le_n (by omega) (by omega)
    have h6 : τ.1 68 6 = nI s := by rw [K.1 68 6 (by omega), hb.2.1.2.1]
    rw [s_X10_allGo_L45, h6]
    by_cases hk : s ≤ k
    · have : k = s := by omega
      subst this
      rw [if_pos (by rw [e5]; exact hk), s_X10_allGo_C81, zSg_t (zIn_nI (by omega) (by decide)), nI_clamp (by omega), nI_1]
      exact ⟨τ, rfl, fun _ _ _ _ => rfl⟩
    · obtain ⟨τ1, a1, a2⟩ := m_worth (X := X) (P := P) hb hl K hq (show k < s by omega) hX (hP k (by omega)) (hth k (by omega))
      have ey : yc σb code P (yth X p) X q (k + 1) = if wv code (yF σb P (yth X p) X q k) ≤ (yc σb code P (yth X p) X q k).1 then yc σb code P (yth X p) X q k else (wv code (yF σb P (yth X p) X q k), nI k) := by rw [yc]
      obtain ⟨τ', b1, b2⟩ := ih (k + 1) τ1 (by omega) (by omega) (K.to (fun c f q1 q2 => a2 c f (by omega) q2)) (by rw [a2 86 q (by omega) (by omega), hX]) (fun k hk => by rw [a2 88 k (by omega) (by omega), hP k hk]) (fun k hk => by rw [a2 87 k (by omega) (by omega), hth k hk])
      refine ⟨τ', ?_, fun c f q1 q2 => by rw [b2 c f q1 q2, a2 c f q1 q2]⟩
      rw [if_neg (by rw [e5]; exact hk), a1, Option.bind_some, nI_1]
      by_cases z : wv code (yF σb P (yth X p) X q k) ≤ (yc σb code P (yth X p) X q k).1
      · rw [if_pos z]
        rw [ey, if_pos z] at b1
        exact b1
      · rw [if_neg z]
        rw [ey, if_neg z] at b1
        exact b1
theorem m_go_L (hb : rT s w p σb) (hl : mLw σb code) {X P : Nat → Int32} : ∀ (n j : Nat) (τ : ZSt), p < n + j → j ≤ p → mK σb τ s W S → (∀ q, q < p → τ.1 86 q = X q) → (∀ k, k < s → τ.1 88 k = P k) → (∀ k, k < s → τ.1 87 k = yth X p k) → (∀ q, q < j → τ.1 85 q = ynx σb code s p (X, P) q) → ∃ τ', s_X10_allGo_L30 n (nI j) τ = some τ' ∧ (∀ q, q < p → τ'.1 85 q = ynx σb code s p (X, P) q) ∧ ∀ c f, ¬ c = 84 → ¬ c = 85 → ¬ (c = 68 ∧ 22 ≤ f ∧ f ≤ 26) → τ'.1 c f = τ.1 c f := by
  have hp := hb.1.2.2
  intro n
  induction n with
  | zero => intro j τ h1 h2; omega
  | succ n ih =>
    intro j τ h1 h2 K hX hP hth h85
    have e5 : (nI p ≤ nI j) = (p ≤ j) := nI_le_n (by omega) (by omega)
    have h13 : τ.1 68 13 = nI p := by rw [K.1 68 13 (by omega), hb.2.1.2.2.2.2.2]
    rw [s_X10_allGo_L30, h13]
    by_cases hj : p ≤ j
    · have : j = p := by omega
      subst this
      rw [if_pos (by rw [e5]; exact hj)]
      exact ⟨τ, rfl, h85, fun _ _ _ _ _ => rfl⟩
    · obtain ⟨τ1, a1, a2⟩ := m_ch_L (code := code) (P := P) hb hl (show j < p by omega) (s_X10_allGo_L30 n) 200 0 τ (by have := hb.1.1; omega) (Nat.zero_le _) K (hX j (by omega)) hP hth
      rw [if_neg (by rw [e5]; exact hj)]
      obtain ⟨τ', b1, b2, b3⟩ := ih (j + 1) (zWD τ1 85 j (ynx σb code s p (X, P) j)) (by omega) (by omega) (K.to (fun c f q1 q2 => by rw [wd1, if_neg (by omega), a2 c f (by omega) q2])) (fun q hq => by rw [wd1, if_neg (by omega), a2 86 q (by omega) (by omega), hX q hq]) (fun k hk => by rw [wd1, if_neg (by omega), a2 88 k (by omega) (by omega), hP k hk]) (fun k hk => by rw [wd1, if_neg (by omega), a2 87 k (by omega) (by omega), hth k hk]) (fun q hq => by
        rw [wd1]
        by_cases e : q = j
        · rw [if_pos ⟨rfl, e⟩, e]
        · rw [if_neg (fun y => e y.2), a2 85 q (by omega) (by omega), h85 q (by omega)])
      exact ⟨τ', (show s_X10_allGo_L45 (s_X10_allGo_L30 n) (nI j) 200 (-1) 0 0 τ = _ from a1).trans b1, b2, fun c f q1 q2 q3 => by rw [b3 c f q1 q2 q3, wd1, if_neg (by omega), a2 c f q1 q3]⟩
theorem m_bf_L (hp : p ≤ 8) {X : Nat → Int32} : ∀ (n j : Nat) (τ : ZSt), p < n + j → j ≤ p → τ.1 68 13 = nI p → (∀ q, q < p → τ.1 85 q = X q) → (∀ q, q < j → τ.1 86 q = X q) → ∃ τ', s_X10_allGo_L2 n (nI j) τ = s_X10_allGo_L30 200 0 τ' ∧ (∀ q, q < p → τ'.1 86 q = X q) ∧ ∀ c f, ¬ c = 86 → τ'.1 c f = τ.1 c f := by
  intro n
  induction n with
  | zero => intro j τ h1 h2; omega
  | succ n ih =>
    intro j τ h1 h2 h13 h85 h86
    have e5 : (nI p ≤ nI j) = (p ≤ j) := nI_le_n (by omega) (by omega)
    rw [s_X10_allGo_L2, h13]
    by_cases hj : p ≤ j
    · have : j = p := by omega
      subst this
      rw [if_pos (by rw [e5]; exact hj)]
      exact ⟨τ, rfl, h86, fun _ _ _ => rfl⟩
    · have hz := zIn_nI (a := j) (n := 8) (by omega) (by decide)
      rw [if_neg (by rw [e5]; exact hj), zLd_t hz, zSg_t hz, nI_clamp (by omega), h85 j (by omega), nI_1]
      obtain ⟨τ', a1, a2, a3⟩ := ih (j + 1) (zWD τ 86 j (X j)) (by omega) (by omega) (by rw [wd1, if_neg (by omega), h13]) (fun q hq => by rw [wd1, if_neg (by omega), h85 q hq]) (fun q hq => by
        rw [wd1]
        by_cases e : q = j
        · rw [if_pos ⟨rfl, e⟩, e]
        · rw [if_neg (fun y => e y.2), h86 q (by omega)])
      exact ⟨τ', a1, a2, fun c f q => by rw [a3 c f q, wd1, if_neg (by omega)]⟩
theorem m_allGo (hb : rT s w p σb) (hl : mLw σb code) {X P : Nat → Int32} {τ : ZSt} (K : mK σb τ s W S) (h85 : ∀ q, q < p → τ.1 85 q = X q) (hP : ∀ k, k < s → τ.1 88 k = P k) (hth : ∀ k, k < s → τ.1 87 k = yth X p k) : ∃ τ', s_X10_allGo τ = some τ' ∧ (∀ q, q < p → τ'.1 85 q = ynx σb code s p (X, P) q) ∧ ∀ c f, ¬ c = 84 → ¬ c = 85 → ¬ c = 86 → ¬ (c = 68 ∧ 22 ≤ f ∧ f ≤ 26) → τ'.1 c f = τ.1 c f := by
  have hp := hb.1.2.2
  obtain ⟨τ1, a1, a2, a3⟩ := m_bf_L hp 200 0 τ (by omega) (Nat.zero_le _) (by rw [K.1 68 13 (by omega), hb.2.1.2.2.2.2.2]) h85 (fun q hq => absurd hq (Nat.not_lt_zero q))
  obtain ⟨τ2, b1, b2, b3⟩ := m_go_L (code := code) hb hl 200 0 τ1 (by omega) (Nat.zero_le _) (K.to (fun c f q1 q2 => a3 c f (by omega))) a2 (fun k hk => by rw [a3 88 k (by omega), hP k hk]) (fun k hk => by rw [a3 87 k (by omega), hth k hk]) (fun q hq => absurd hq (Nat.not_lt_zero q))
  refine ⟨τ2, ?_, b2, fun c f q1 q2 q3 q4 => by rw [b3 c f q1 q2 q4, a3 c f q3]⟩
  unfold s_X10_allGo
  exact a1.trans b1
end MWEEK
