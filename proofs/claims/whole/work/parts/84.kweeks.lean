/-! WEEKS and WEEK, class and model -/
theorem rT_1 {s w p : Nat} {σ σ' : ZSt} (e : ∀ c f, zHit cT c f = true → σ'.1 c f = σ.1 c f) (h : rT s w p σ) : rT s w p σ' := show rT s w p (σ'.1, σ.2) from rT_at (fun c f q => ⟨e c f q, rfl⟩) h
theorem rT_pl {s w p : Nat} {σ σ' : ZSt} (h : rT s w p σ) (e : ∀ c f, zHit cT c f = true → ¬ c = 13 → ¬ c = 81 → σ'.1 c f = σ.1 c f) (e13 : ∀ q, q < p → σ'.1 13 q = σ'.1 81 q ∧ (σ'.1 13 q = -1 ∨ ∃ k, k < s ∧ σ'.1 13 q = nI k)) : rT s w p σ' := by
  obtain ⟨a, b, c, d, f, g⟩ := h
  refine ⟨a, ?_, fun k hk => ?_, fun k h1 h2 => ?_, fun j hj => ?_, fun q hq => ⟨?_, ?_, ?_, e13 q hq⟩⟩
  · rw [e 1 0 rfl (by decide) (by decide), e 68 6 rfl (by decide) (by decide), e 1 5 rfl (by decide) (by decide), e 68 10 rfl (by decide) (by decide), e 1 10 rfl (by decide) (by decide), e 68 13 rfl (by decide) (by decide)]
    exact b
  · unfold rTs
    rw [e 2 k rfl (by decide) (by decide), e 69 (60 + k) rfl (by decide) (by decide), e 3 k rfl (by decide) (by decide), e 73 k rfl (by decide) (by decide), e 4 k rfl (by decide) (by decide), e 74 k rfl (by decide) (by decide), e 5 k rfl (by decide) (by decide), e 75 k rfl (by decide) (by decide)]
    exact c k hk
  · rw [e 4 k rfl (by decide) (by decide), e 5 k rfl (by decide) (by decide)]
    exact d k h1 h2
  · unfold rTw
    rw [e 6 j rfl (by decide) (by decide), e 76 j rfl (by decide) (by decide), e 7 j rfl (by decide) (by decide), e 69 j rfl (by decide) (by decide), e 8 j rfl (by decide) (by decide), e 69 (30 + j) rfl (by decide) (by decide), e 9 j rfl (by decide) (by decide), e 77 j rfl (by decide) (by decide)]
    exact f j hj
  · rw [e 10 q rfl (by decide) (by decide), e 78 q rfl (by decide) (by decide)]
    exact (g q hq).1
  · rw [e 11 q rfl (by decide) (by decide), e 79 q rfl (by decide) (by decide)]
    exact (g q hq).2.1
  · rw [e 12 q rfl (by decide) (by decide), e 80 q rfl (by decide) (by decide)]
    exact (g q hq).2.2.1
/-- the latest weeks -/
def rWk (σ : ZSt) : Prop := ∃ (s p : Nat) (X : Nat → Int32), (s ≤ 6 ∧ p ≤ 8) ∧ (σ.1 19 11 = nI s ∧ σ.1 19 12 = nI p) ∧ ((s = 0 ∧ p = 0 ∧ σ.1 68 34 = -1) ∨ (σ.1 68 34 = nI s ∧ σ.1 68 35 = nI p)) ∧ (∀ q, q < p → σ.1 25 q = X q ∧ σ.1 91 q = X q ∧ σ.1 27 q = σ.1 92 q) ∧ ∀ k, k < s → σ.1 24 k = σ.1 93 k ∧ σ.1 22 k = nI (yt X k p)
def cWk : List (Nat × Nat) := [(19, 11), (19, 12), (22, 999), (24, 999), (25, 999), (27, 999), (68, 34), (68, 35), (91, 999), (92, 999), (93, 999)]
theorem rWk_at {σ σ' : ZSt} (e : ∀ c f, zHit cWk c f = true → σ'.1 c f = σ.1 c f ∧ σ'.2 c f = σ.2 c f) (h : rWk σ) : rWk σ' := by
  obtain ⟨s, p, X, a, ⟨b1, b2⟩, c, d, f⟩ := h
  refine ⟨s, p, X, a, ⟨by rw [(e 19 11 rfl).1, b1], by rw [(e 19 12 rfl).1, b2]⟩, ?_, fun q hq => ?_, fun k hk => ?_⟩
  · rw [(e 68 34 rfl).1, (e 68 35 rfl).1]
    exact c
  · rw [(e 25 q rfl).1, (e 91 q rfl).1, (e 27 q rfl).1, (e 92 q rfl).1]
    exact d q hq
  · rw [(e 24 k rfl).1, (e 93 k rfl).1, (e 22 k rfl).1]
    exact f k hk
theorem m_in {n : Nat} (hn : n ≤ 1000) (x : Int32) (σ : ZSt) : s_X10_within x.toInt64 0 (nI n - 1).toInt64 σ = some (bI (0 ≤ x ∧ x < nI n)) := by
  rw [mW32 x 0 (nI n - 1) (by decide) rfl]
  have e : (x ≤ nI n - 1) = (x < nI n) := by
    have := nI_toInt (n := n) (by omega)
    rw [Int32.le_iff_toInt_le, Int32.lt_iff_toInt_lt]
    have e2 : (nI n - 1).toInt = (n : Int) - 1 := by
      rw [Int32.toInt_sub, this]
      have : (1 : Int32).toInt = 1 := by decide
      rw [this]
      rw [Int.bmod_def]
      omega
    rw [e2, this]
    exact propext (by omega)
  simp only [e]
theorem led_L {σ : ZSt} {p : Nat} {X : Nat → Int32} (hp : p ≤ 8) (h12 : σ.1 19 12 = nI p) (h35 : σ.1 68 35 = nI p) (hq : ∀ q, q < p → σ.1 25 q = X q ∧ σ.1 91 q = X q ∧ σ.1 27 q = σ.1 92 q) (k : Nat) : ∀ (n j : Nat) (L : Int32), p < n + j → j ≤ p → (L = -1 ∨ ∃ o, o < p ∧ L = nI o) → ∃ L', s_X8_ledAt_L4 19 (nI k) σ n L (nI j) = some L' ∧ ∀ b, s_X10_week_L83 (nI k) b σ n (nI (yt X k j)) L (nI j) = s_X10_week_C143 (nI k) b (nI (yt X k p)) L' σ := by
  intro n
  induction n with
  | zero => intro j L h1 h2; omega
  | succ n ih =>
    intro j L h1 h2 hL
    have e5 : (nI p ≤ nI j) = (p ≤ j) := nI_le_n (by omega) (by omega)
    by_cases hj : p ≤ j
    · have : j = p := by omega
      subst this
      refine ⟨L, ?_, fun b => ?_⟩
      · rw [s_X8_ledAt_L4, h12, if_pos (by rw [e5]; exact hj)]
      · rw [s_X10_week_L83, h35, if_pos (by rw [e5]; exact hj)]
    · have hz := zIn_nI (a := j) (n := 8) (by omega) (by decide)
      have hcl := nI_clamp (n := j) (by omega)
      obtain ⟨x1, x2, x3⟩ := hq j (by omega)
      by_cases z : X j = nI k
      · have ey : yt X k (j + 1) = yt X k j + 1 := by rw [yt, if_pos z]
        rcases hL with e | ⟨o, ho, e⟩
        · obtain ⟨L', a1, a2⟩ := ih (j + 1) (nI j) (by omega) (by omega) (Or.inr ⟨j, by omega, rfl⟩)
          refine ⟨L', ?_, fun b => ?_⟩
          · rw [s_X8_ledAt_L4, h12, if_neg (by rw [e5]; exact hj), zLd_t hz, hcl, x1, if_pos z, if_pos e, nI_1, a1]
          · rw [s_X10_week_L83, h35, if_neg (by rw [e5]; exact hj), zLd_t hz, hcl, x2, if_pos z, if_pos (by rw [e]; decide), nI_1, nI_1, ← ey, a2]
        · subst e
          have hzo := zIn_nI (a := o) (n := 8) (by omega) (by decide)
          have hclo := nI_clamp (n := o) (by omega)
          have x4 := (hq o ho).2.2
          by_cases z5 : σ.1 92 j ≤ σ.1 92 o
          · obtain ⟨L', a1, a2⟩ := ih (j + 1) (nI o) (by omega) (by omega) (Or.inr ⟨o, ho, rfl⟩)
            refine ⟨L', ?_, fun b => ?_⟩
            · rw [s_X8_ledAt_L4, h12, if_neg (by rw [e5]; exact hj), zLd_t hz, hcl, x1, if_pos z, if_neg (ne1 (by omega)), zLd_t hz, zLd_t hzo, hclo, x3, x4, if_pos z5, nI_1, a1]
            · rw [s_X10_week_L83, h35, if_neg (by rw [e5]; exact hj), zLd_t hz, hcl, x2, if_pos z, if_neg (nlt0 (by omega)), zLd_t hz, zLd_t hzo, hclo, if_pos z5, nI_1, nI_1, ← ey, a2]
          · obtain ⟨L', a1, a2⟩ := ih (j + 1) (nI j) (by omega) (by omega) (Or.inr ⟨j, by omega, rfl⟩)
            refine ⟨L', ?_, fun b => ?_⟩
            · rw [s_X8_ledAt_L4, h12, if_neg (by rw [e5]; exact hj), zLd_t hz, hcl, x1, if_pos z, if_neg (ne1 (by omega)), zLd_t hz, zLd_t hzo, hclo, x3, x4, if_neg z5, nI_1, a1]
            · rw [s_X10_week_L83, h35, if_neg (by rw [e5]; exact hj), zLd_t hz, hcl, x2, if_pos z, if_neg (nlt0 (by omega)), zLd_t hz, zLd_t hzo, hclo, if_neg z5, nI_1, nI_1, ← ey, a2]
      · have ey : yt X k (j + 1) = yt X k j := by rw [yt, if_neg z]
        obtain ⟨L', a1, a2⟩ := ih (j + 1) L (by omega) (by omega) hL
        refine ⟨L', ?_, fun b => ?_⟩
        · rw [s_X8_ledAt_L4, h12, if_neg (by rw [e5]; exact hj), zLd_t hz, hcl, x1, if_neg z, nI_1, a1]
        · rw [s_X10_week_L83, h35, if_neg (by rw [e5]; exact hj), zLd_t hz, hcl, x2, if_neg z, nI_1, ← ey, a2]
theorem k_week {σ : ZSt} (h : rWk σ) (a b : Int32) : ∃ r, s_X9_week a b σ = some r ∧ s_X10_week a b σ = some r := by
  obtain ⟨s, p, X, ⟨hs, hp⟩, ⟨h11, h12⟩, h34, hq, hk⟩ := h
  have w04 : s_X10_within b.toInt64 0 4 σ = some (bI (0 ≤ b ∧ b ≤ 4)) := mW32 b 0 4 (by decide) (by decide) σ
  have m2 : ∀ n : Nat, n ≤ 1000 → ¬ (0 ≤ a ∧ a < nI n) → s_X10_week_C38 a b a.toInt64 0 (nI n) σ = some (-2000000000) := fun n hn z => by
    unfold s_X10_week_C38
    rw [m_in hn, Option.bind_some, bI_n, if_pos z]
  have cv : (0 ≤ b ∧ b ≤ 1) ∨ (2 ≤ b ∧ b ≤ 4) ∨ (¬ (0 ≤ b ∧ b ≤ 1) ∧ ¬ (2 ≤ b ∧ b ≤ 4)) := by
    by_cases y1 : 0 ≤ b ∧ b ≤ 1
    · exact Or.inl y1
    · by_cases y2 : 2 ≤ b ∧ b ≤ 4
      · exact Or.inr (Or.inl y2)
      · exact Or.inr (Or.inr ⟨y1, y2⟩)
  have i04 : ((0 : Int32).toInt = 0 ∧ (1 : Int32).toInt = 1) ∧ (2 : Int32).toInt = 2 ∧ (4 : Int32).toInt = 4 := by decide
  have c44 : ¬ (2 ≤ b ∧ b ≤ 4) → s_X9_week_C44 a b σ = some (-2000000000) := fun z => by
    unfold s_X9_week_C44
    rw [isW, Option.bind_some, bI_n, if_pos z]
  rcases cv with y | y | ⟨y1, y2⟩
  · have yb := inR_i (x := b) (a := 0) (b := 1) y
    rw [i04.1.1, i04.1.2] at yb
    have n2 : ¬ (2 : Int32) ≤ b := fun z => by
      have := Int32.le_iff_toInt_le.mp z
      rw [i04.2.1] at this
      omega
    have y4 : 0 ≤ b ∧ b ≤ 4 := ⟨y.1, by
      rw [Int32.le_iff_toInt_le, i04.2.2]
      omega⟩
    unfold s_X9_week s_X10_week
    rw [isW, Option.bind_some, bI_n, if_neg (not_not_intro y), c_knowP h12 hp, Option.bind_some, bI_n]
    by_cases za : 0 ≤ a ∧ a < nI p
    · obtain ⟨q, hq1, rfl⟩ := ofN (by omega) za.1 za.2
      obtain ⟨x1, x2, x3⟩ := hq q hq1
      have hz := zIn_nI (a := q) (n := 8) (by omega) (by decide)
      have hcl := nI_clamp (n := q) (by omega)
      obtain ⟨e34, e35⟩ : σ.1 68 34 = nI s ∧ σ.1 68 35 = nI p := h34.resolve_left (fun z => by omega)
      rw [if_neg (not_not_intro za), e34, if_neg (nlt0 (by omega)), w04, Option.bind_some, bI_n, if_neg (not_not_intro y4), if_neg n2, e35]
      unfold s_X10_week_C38
      rw [m_in (by omega), Option.bind_some, bI_n, if_neg (not_not_intro za), if_neg n2]
      by_cases z0 : b = 0
      · rw [if_pos z0, if_pos z0, zLd_t hz, hcl, x2]
        unfold s_X8_whereIs
        rw [c_knowP h12 hp, Option.bind_some, bI_n, if_neg (not_not_intro za), zLd_t hz, hcl, x1]
        exact ⟨X q, rfl, rfl⟩
      · rw [if_neg z0, if_neg z0, zLd_t hz, hcl]
        unfold s_X8_earnedBy
        rw [c_knowP h12 hp, Option.bind_some, bI_n, if_neg (not_not_intro za), zLd_t hz, hcl, x3]
        exact ⟨_, rfl, rfl⟩
    · have nc : ¬ (2 ≤ b ∧ b ≤ 4) := fun z => n2 z.1
      rw [if_pos za, c44 nc]
      refine ⟨_, rfl, ?_⟩
      rcases h34 with ⟨-, -, e⟩ | ⟨e34, e35⟩
      · rw [e, if_pos (by decide)]
      · rw [e34, if_neg (nlt0 (by omega)), w04, Option.bind_some, bI_n, if_neg (not_not_intro y4), if_neg n2, e35, m2 p (by omega) za]
  · have yb := inR_i (x := b) (a := 2) (b := 4) y
    rw [i04.2.1, i04.2.2] at yb
    have n01 : ¬ (0 ≤ b ∧ b ≤ 1) := fun z => by
      have := Int32.le_iff_toInt_le.mp z.2
      rw [i04.1.2] at this
      omega
    have y4 : 0 ≤ b ∧ b ≤ 4 := ⟨by
      rw [Int32.le_iff_toInt_le, i04.1.1]
      omega, y.2⟩
    unfold s_X9_week s_X9_week_C44 s_X10_week
    rw [isW, Option.bind_some, bI_n, if_pos n01, isW, Option.bind_some, bI_n, if_neg (not_not_intro y), c_know h11 hs, Option.bind_some, bI_n]
    by_cases za : 0 ≤ a ∧ a < nI s
    · obtain ⟨k, hk1, rfl⟩ := ofN (by omega) za.1 za.2
      obtain ⟨x1, x2⟩ := hk k hk1
      have hz := zIn_nI (a := k) (n := 6) (by omega) (by decide)
      have hcl := nI_clamp (n := k) (by omega)
      obtain ⟨e34, e35⟩ : σ.1 68 34 = nI s ∧ σ.1 68 35 = nI p := h34.resolve_left (fun z => by omega)
      rw [if_neg (not_not_intro za), e34, if_neg (nlt0 (by omega)), w04, Option.bind_some, bI_n, if_neg (not_not_intro y4), if_pos y.1]
      unfold s_X10_week_C38
      rw [m_in (by omega), Option.bind_some, bI_n, if_neg (not_not_intro za), if_pos y.1]
      obtain ⟨L', l1, l2⟩ := led_L hp h12 e35 hq k 200 0 (-1) (by omega) (Nat.zero_le _) (Or.inl rfl)
      rw [show s_X10_week_L83 (nI k) b σ 200 0 (-1) 0 = _ from l2 b]
      unfold s_X10_week_C143 s_X8_costOf s_X8_thereAt s_X8_ledAt
      rw [show s_X8_ledAt_L4 19 (nI k) σ 200 (-1) 0 = some L' from l1, c_know h11 hs, Option.bind_some, Option.bind_some, Option.bind_some, bI_n, bI_n, if_neg (not_not_intro za), if_neg (not_not_intro za), zLd_t hz, zLd_t hz, zLd_t hz, hcl, x1, x2]
      by_cases z2 : b = 2
      · rw [if_pos z2, if_pos z2]
        exact ⟨_, rfl, rfl⟩
      · rw [if_neg z2, if_neg z2]
        by_cases z3 : b = 3
        · rw [if_pos z3, if_pos z3]
          exact ⟨_, rfl, rfl⟩
        · rw [if_neg z3, if_neg z3]
          exact ⟨_, rfl, rfl⟩
    · rw [if_pos za]
      refine ⟨_, rfl, ?_⟩
      rcases h34 with ⟨-, -, e⟩ | ⟨e34, e35⟩
      · rw [e, if_pos (by decide)]
      · rw [e34, if_neg (nlt0 (by omega)), w04, Option.bind_some, bI_n, if_neg (not_not_intro y4), if_pos y.1, m2 s (by omega) za]
  · unfold s_X9_week s_X10_week
    rw [isW, Option.bind_some, bI_n, if_pos y1, c44 y2]
    refine ⟨_, rfl, ?_⟩
    rcases h34 with ⟨-, -, e⟩ | ⟨e34, e35⟩
    · rw [e, if_pos (by decide)]
    · rw [e34, if_neg (nlt0 (by omega)), w04, Option.bind_some, bI_n, if_pos]
      intro z
      have b1 := Int32.le_iff_toInt_le.mp z.1
      have b2 := Int32.le_iff_toInt_le.mp z.2
      rw [Int32.le_iff_toInt_le, Int32.le_iff_toInt_le, i04.1.1, i04.1.2] at y1
      rw [Int32.le_iff_toInt_le, Int32.le_iff_toInt_le, i04.2.1, i04.2.2] at y2
      rw [i04.1.1] at b1
      rw [i04.2.2] at b2
      omega
