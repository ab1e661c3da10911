/-! WEEKS, both -/
def ysw (X : Nat → Int32) : Nat → Nat
  | 0 => 0
  | q + 1 => if X q = -1 then ysw X q else ysw X q + 1
theorem c_some_L {τ : ZSt} {p : Nat} (hp : p ≤ 8) {X : Nat → Int32} (hX : okX 6 p X) (h12 : τ.1 19 12 = nI p) (h25 : ∀ q, q < p → τ.1 25 q = X q) : ∀ (n j : Nat), p < n + j → j ≤ p → s_X8_somewhere_L4 19 τ n (nI (ysw X j)) (nI j) = some (nI (ysw X p)) := by
  intro n
  induction n with
  | zero => intro j h1 h2; omega
  | succ n ih =>
    intro j h1 h2
    have e5 : (nI p ≤ nI j) = (p ≤ j) := nI_le_n (by omega) (by omega)
    rw [s_X8_somewhere_L4, h12]
    by_cases hj : p ≤ j
    · have : j = p := by omega
      subst this
      rw [if_pos (by rw [e5]; exact hj)]
    · have hz := zIn_nI (a := j) (n := 8) (by omega) (by decide)
      have hcl := nI_clamp (n := j) (by omega)
      have x1 : τ.1 (19 + 6) j = X j := h25 j (by omega)
      have nx := ih (j + 1) (by omega) (by omega)
      rw [if_neg (by rw [e5]; exact hj)]
      unfold s_X8_isSomewhere
      rw [zLd_t hz, zLd_t hz, hcl, x1]
      rcases hX j (by omega) with e | ⟨k, hk, e⟩
      · rw [ysw, if_pos e] at nx
        rw [if_pos (by rw [e]; decide), Option.bind_some, if_pos rfl, nI_1]
        exact nx
      · rw [ysw, if_neg (by rw [e]; exact ne1 (by omega)), ← nI_1] at nx
        rw [if_neg (by rw [e]; exact nlt0 (by omega)), if_neg (by rw [e, i6, nI_leI (by omega) (by omega)]; omega), Option.bind_some, if_neg (by decide), nI_1 j]
        exact nx
theorem cIsPl {τ : ZSt} {p q : Nat} (h : τ.1 1 10 = nI p) (hp : p ≤ 8) (hq : q < p) : s_X7_isPlayer (nI q) τ = some 1 := by
  unfold s_X7_isPlayer
  rw [if_neg (nlt0 (by omega)), h, if_neg (by rw [nI_leI (by omega) (by omega)]; omega), if_neg (by rw [i8, nI_leI (by omega) (by omega)]; omega)]
theorem c_leave_L {p : Nat} (hp : p ≤ 8) {X : Nat → Int32} : ∀ (n j : Nat) (τ : ZSt), p < n + j → j ≤ p → τ.1 1 10 = nI p → τ.1 19 12 = nI p → (∀ q, q < p → τ.1 25 q = X q) → (∀ q, q < j → τ.1 13 q = X q) → ∃ τ', s_X8_leaveThemThere_L2 19 n (nI j) τ = some τ' ∧ (∀ q, q < p → τ'.1 13 q = X q) ∧ ∀ c f, ¬ c = 13 → τ'.1 c f = τ.1 c f := by
  intro n
  induction n with
  | zero => intro j τ h1 h2; omega
  | succ n ih =>
    intro j τ h1 h2 h10 h12 h25 h13
    have e5 : (nI p ≤ nI j) = (p ≤ j) := nI_le_n (by omega) (by omega)
    rw [s_X8_leaveThemThere_L2, h12]
    by_cases hj : p ≤ j
    · have : j = p := by omega
      subst this
      rw [if_pos (by rw [e5]; exact hj)]
      exact ⟨τ, rfl, h13, fun _ _ _ => rfl⟩
    · have hz := zIn_nI (a := j) (n := 8) (by omega) (by decide)
      have x1 : τ.1 (19 + 6) j = X j := h25 j (by omega)
      rw [if_neg (by rw [e5]; exact hj), zLd_t hz, nI_clamp (by omega), x1]
      unfold s_X7_setPlace
      rw [cIsPl h10 hp (show j < p by omega), Option.bind_some, if_neg (by decide), zSg_t hz, nI_clamp (by omega), Option.bind_some, nI_1]
      obtain ⟨τ', a1, a2, a3⟩ := ih (j + 1) (zWD τ 13 j (X j)) (by omega) (by omega) (by rw [wd1, if_neg (by omega), h10]) (by rw [wd1, if_neg (by omega), h12]) (fun q hq => by rw [wd1, if_neg (by omega), h25 q hq]) (fun q hq => by
        rw [wd1]
        by_cases z : q = j
        · rw [if_pos ⟨rfl, z⟩, z]
        · rw [if_neg (fun y => z y.2), h13 q (by omega)])
      exact ⟨τ', a1, a2, fun c f q => by rw [a3 c f q, wd1, if_neg (by omega)]⟩
theorem m_138_L {s : Nat} (hs : s ≤ 6) (r : Int32) : ∀ (n j : Nat) (τ : ZSt), s < n + j → j ≤ s → τ.1 68 6 = nI s → (∀ k, k < j → τ.1 93 k = τ.1 89 k) → ∃ τ', s_X10_weeks_L138 r n (nI j) τ = some (r, τ') ∧ (∀ k, k < s → τ'.1 93 k = τ.1 89 k) ∧ ∀ c f, ¬ c = 93 → τ'.1 c f = τ.1 c f := by
  intro n
  induction n with
  | zero => intro j τ h1 h2; omega
  | succ n ih =>
    intro j τ h1 h2 h6 h
    have e5 : (nI s ≤ nI j) = (s ≤ j) := nI_le_n (by omega) (by omega)
    rw [s_X10_weeks_L138, h6]
    by_cases hj : s ≤ j
    · have : j = s := by omega
      subst this
      rw [if_pos (by rw [e5]; exact hj)]
      exact ⟨τ, rfl, h, fun _ _ _ => rfl⟩
    · have hz := zIn_nI (a := j) (n := 6) (by omega) (by decide)
      rw [if_neg (by rw [e5]; exact hj), zLd_t hz, zSg_t hz, nI_clamp (by omega), nI_1]
      obtain ⟨τ', a1, a2, a3⟩ := ih (j + 1) (zWD τ 93 j (τ.1 89 j)) (by omega) (by omega) (by rw [wd1, if_neg (by omega), h6]) (fun k hk => by
        rw [wd1, wd1, if_neg (show ¬ (89 = 93 ∧ k = j) by omega)]
        by_cases z : k = j
        · rw [if_pos ⟨rfl, z⟩, z]
        · rw [if_neg (fun y => z y.2), h k (by omega)])
      exact ⟨τ', a1, fun k hk => by rw [a2 k hk, wd1, if_neg (by omega)], fun c f q => by rw [a3 c f q, wd1, if_neg (by omega)]⟩
theorem m_45_L {p : Nat} (hp : p ≤ 8) {X : Nat → Int32} (hX : okX 6 p X) (b : Int32) (τ0 : ZSt) : ∀ (n j : Nat) (τ : ZSt), p < n + j → j ≤ p → τ.1 68 13 = nI p → (∀ q, q < p → τ.1 85 q = X q) → (∀ q, q < p → τ.1 90 q = τ0.1 90 q) → (∀ q, q < j → τ.1 91 q = X q ∧ τ.1 92 q = τ0.1 90 q) → (∀ q, τ.1 81 q = if b = 1 ∧ q < j then X q else τ0.1 81 q) → ∃ τ', s_X10_weeks_L45 b n (nI (ysw X j)) (nI j) τ = s_X10_weeks_L138 (nI (ysw X p)) 200 0 τ' ∧ (∀ q, q < p → τ'.1 91 q = X q ∧ τ'.1 92 q = τ0.1 90 q) ∧ (∀ q, τ'.1 81 q = if b = 1 ∧ q < p then X q else τ0.1 81 q) ∧ ∀ c f, ¬ c = 91 → ¬ c = 92 → ¬ c = 81 → τ'.1 c f = τ.1 c f := by
  intro n
  induction n with
  | zero => intro j τ h1 h2; omega
  | succ n ih =>
    intro j τ h1 h2 h13 h85 h90 h91 h81
    have e5 : (nI p ≤ nI j) = (p ≤ j) := nI_le_n (by omega) (by omega)
    rw [s_X10_weeks_L45, h13]
    by_cases hj : p ≤ j
    · have : j = p := by omega
      subst this
      rw [if_pos (by rw [e5]; exact hj)]
      exact ⟨τ, rfl, h91, h81, fun _ _ _ _ _ => rfl⟩
    · have hz := zIn_nI (a := j) (n := 8) (by omega) (by decide)
      have hcl := nI_clamp (n := j) (by omega)
      have y90 : ∀ v, (zWD τ 91 j v).1 90 j = τ0.1 90 j := fun v => by rw [wd1, if_neg (by omega), h90 j (by omega)]
      have y85 : ∀ v u, (zWD (zWD τ 91 j v) 92 j u).1 85 j = X j := fun v u => by rw [wd1, if_neg (by omega), wd1, if_neg (by omega), h85 j (by omega)]
      have y81 : ∀ v u, (zWD (zWD τ 91 j v) 92 j u).1 81 j = τ0.1 81 j := fun v u => by rw [wd1, if_neg (by omega), wd1, if_neg (by omega), h81 j, if_neg (by omega)]
      have main : ∀ v, v = (if b = 1 then X j else τ0.1 81 j) → ∃ τ', s_X10_weeks_C110 (s_X10_weeks_L45 b n) b (nI (ysw X j)) (nI j) (nI j) v (zWD (zWD τ 91 j (X j)) 92 j (τ0.1 90 j)) = s_X10_weeks_L138 (nI (ysw X p)) 200 0 τ' ∧ (∀ q, q < p → τ'.1 91 q = X q ∧ τ'.1 92 q = τ0.1 90 q) ∧ (∀ q, τ'.1 81 q = if b = 1 ∧ q < p then X q else τ0.1 81 q) ∧ ∀ c f, ¬ c = 91 → ¬ c = 92 → ¬ c = 81 → τ'.1 c f = τ.1 c f := fun v hv => by
        obtain ⟨τ', a1, a2, a3, a4⟩ := ih (j + 1) (zWD (zWD (zWD τ 91 j (X j)) 92 j (τ0.1 90 j)) 81 j v) (by omega) (by omega) (by rw [wd1, if_neg (by omega), wd1, if_neg (by omega), wd1, if_neg (by omega), h13]) (fun q hq => by rw [wd1, if_neg (by omega), wd1, if_neg (by omega), wd1, if_neg (by omega), h85 q hq]) (fun q hq => by rw [wd1, if_neg (by omega), wd1, if_neg (by omega), wd1, if_neg (by omega), h90 q hq]) (fun q hq => by
          have u1 : ∀ w : Int32, (zWD (zWD (zWD τ 91 j (X j)) 92 j w) 81 j v).1 91 q = if 91 = 91 ∧ q = j then X j else τ.1 91 q := fun w => by rw [wd1, if_neg (by omega), wd1, if_neg (by omega), wd1]
          have u2 : ∀ w : Int32, (zWD (zWD (zWD τ 91 j (X j)) 92 j w) 81 j v).1 92 q = if 92 = 92 ∧ q = j then w else τ.1 92 q := fun w => by rw [wd1, if_neg (by omega), wd1, wd1, if_neg (show ¬ (92 = 91 ∧ q = j) by omega)]
          rw [u1, u2]
          by_cases z : q = j
          · rw [if_pos ⟨rfl, z⟩, if_pos ⟨rfl, z⟩, z]
            exact ⟨rfl, rfl⟩
          · rw [if_neg (fun y => z y.2), if_neg (fun y => z y.2)]
            exact h91 q (by omega)) (fun q => by
          rw [wd1]
          by_cases z : q = j
          · rw [if_pos ⟨rfl, z⟩, hv, z]
            by_cases z1 : b = 1
            · rw [if_pos z1, if_pos ⟨z1, by omega⟩]
            · rw [if_neg z1, if_neg (fun y => z1 y.1)]
          · rw [if_neg (fun y => z y.2), wd1, if_neg (by omega), wd1, if_neg (by omega), h81 q]
            by_cases z1 : b = 1 ∧ q < j
            · rw [if_pos z1, if_pos ⟨z1.1, by omega⟩]
            · rw [if_neg z1, if_neg (fun y => z1 ⟨y.1, by omega⟩)])
        refine ⟨τ', ?_, a2, a3, fun c f q1 q2 q3 => by rw [a4 c f q1 q2 q3, wd1, if_neg (by omega), wd1, if_neg (by omega), wd1, if_neg (by omega)]⟩
        have y85' : (zWD (zWD (zWD τ 91 j (X j)) 92 j (τ0.1 90 j)) 81 j v).1 85 j = X j := by rw [wd1, if_neg (by omega), y85]
        unfold s_X10_weeks_C110
        rw [zSg_t hz, zLd_t hz, hcl, y85', nI_1 j]
        rcases hX j (by omega) with e | ⟨k, hk, e⟩
        · rw [ysw, if_pos e] at a1
          rw [if_pos (by rw [e]; decide), Int32.add_zero]
          exact a1
        · rw [ysw, if_neg (by rw [e]; exact ne1 (by omega)), ← nI_1] at a1
          rw [if_neg (by rw [e]; exact nlt0 (by omega))]
          exact a1
      rw [if_neg (by rw [e5]; exact hj), zLd_t hz, zSg_t hz, hcl, h85 j (by omega), zLd_t hz, zSg_t hz, y90]
      by_cases z1 : b = 1
      · rw [if_pos z1, zLd_t hz, y85]
        exact main _ (by rw [if_pos z1])
      · rw [if_neg z1, zLd_t hz, y81]
        exact main _ (by rw [if_neg z1])
section CWEEK
variable {s w p : Nat} {σ : ZSt}
theorem k_weeks (h : rT s w p σ) (hL : rLaw σ) (hk : rWk σ) (a b : Int32) : ∃ (r : Int32) (σ1 σ2 : ZSt), s_X9_weeks a b σ = some (r, σ1) ∧ s_X10_weeks a b σ1 = some (r, σ2) ∧ rT s w p σ2 ∧ rLaw σ2 ∧ rWk σ2 := by
  have hs := h.1.1
  have hp := h.1.2.2
  have aw : ∀ τ, s_X10_areWeeks a τ = some (bI (1 ≤ a ∧ a ≤ 60)) := fun τ => by
    unfold s_X10_areWeeks
    rw [mW32 a 1 60 (by decide) (by decide)]
    simp only [Option.bind_some, bI_01, if_true]
  have bw : ∀ τ, s_X10_within b.toInt64 0 1 τ = some (bI (0 ≤ b ∧ b ≤ 1)) := fun τ => mW32 b 0 1 (by decide) (by decide) τ
  by_cases ha : 1 ≤ a ∧ a ≤ 60
  · by_cases hb : 0 ≤ b ∧ b ≤ 1
    · have a1 := inR_i (x := a) (a := 1) (b := 60) ha
      rw [show (1 : Int32).toInt = 1 by decide, show (60 : Int32).toInt = 60 by decide] at a1
      obtain ⟨n, hn, rfl⟩ := ofI (x := a) (m := 60) (by omega) a1.2
      have hn1 : 1 ≤ n := by
        have := nI_toInt (n := n) (by omega)
        omega
      obtain ⟨tl, tt, htt, h9, h10, code, hc⟩ := hL
      have htl : tl = 62 ∨ tl = 65 := by omega
      have cl : cLw σ tl code := ⟨htl, hc.2.1, hc.1, hc.2.2.1⟩
      have ml : mLw σ code := hc.2.2.2
      have g0 : gK σ σ tl := ⟨rfl, fun _ _ _ => rfl⟩
      obtain ⟨τ1, b1, b2, b3, b4⟩ := c_ways (t := 19) (Or.inl rfl) htl h g0
      have hWr : ∀ k, k < s → inR (σ.1 4 k) 0 4 := fun k hk => (h.2.2.1 k hk).2.2.1.2
      obtain ⟨τ2, u, d, c1, c2, c3, c4⟩ := c_follow (t := 19) (Or.inl rfl) h cl ⟨hn1, hn⟩ b2 b3
      obtain ⟨τ3, d1, d2, d3, d4, d5, d6⟩ := c_settleAll (t := 19) (Or.inl rfl) htl h hWr c2
      obtain ⟨-, ⟨g3, ⟨e11, e12⟩, e13⟩, -, -, -⟩ := id d2
      have okX0 : okX s p (yA σ code (σ.1 4) (σ.1 5) s p (σ.1 13) (n - 1)) := by
        unfold yA
        rw [yI_succ]
        exact okX_nx _ _ _ _ _
      have e9 : τ1.1 0 9 = nI tl := by rw [b2.2 0 9 (by omega), h9]
      -- the class, to its end
      have cls : ∃ τ4, s_X9_weeks (nI n) b σ = some (nI (ysw (yA σ code (σ.1 4) (σ.1 5) s p (σ.1 13) (n - 1)) p), τ4) ∧ (∀ q, q < p → τ4.1 13 q = if b = 1 then yA σ code (σ.1 4) (σ.1 5) s p (σ.1 13) (n - 1) q else τ3.1 13 q) ∧ ∀ c f, ¬ c = 13 → τ4.1 c f = τ3.1 c f := by
        unfold s_X9_weeks
        rw [isW, Option.bind_some, bI_n, if_neg (not_not_intro ha), isW, Option.bind_some, bI_n, if_neg (not_not_intro hb), b1, Option.bind_some, dynN e9 htl, Option.bind_some, c1, Option.bind_some, d1, Option.bind_some]
        by_cases z : b = 1
        · obtain ⟨τ4, l1, l2, l3⟩ := c_leave_L hp 200 0 τ3 (by omega) (Nat.zero_le _) (by rw [g3.2 1 10 (by omega), h.2.1.2.2.2.2.1]) e12 d3 (fun q hq => absurd hq (Nat.not_lt_zero q))
          refine ⟨τ4, ?_, fun q hq => by rw [l2 q hq, if_pos z], l3⟩
          rw [if_pos z, show s_X8_leaveThemThere 19 τ3 = some τ4 from l1, Option.bind_some]
          have sw := c_some_L (τ := τ4) hp (okX6 hs okX0) (by rw [l3 19 12 (by decide), e12]) (fun q hq => by rw [l3 25 q (by decide), d3 q hq]) 200 0 (by omega) (Nat.zero_le _)
          rw [show s_X8_somewhere 19 τ4 = some _ from sw, Option.bind_some]
        · refine ⟨τ3, ?_, fun q hq => by rw [if_neg z], fun _ _ _ => rfl⟩
          rw [if_neg z]
          have sw := c_some_L (τ := τ3) hp (okX6 hs okX0) e12 d3 200 0 (by omega) (Nat.zero_le _)
          rw [show s_X8_somewhere 19 τ3 = some _ from sw, Option.bind_some]
      obtain ⟨τ4, f1, f2, f3⟩ := cls
      -- the model
      have K : mK σ τ4 s (σ.1 4) (σ.1 5) := ⟨fun c f q => by rw [f3 c f (by omega), g3.2 c f (by omega)], fun k hk => by
        obtain ⟨-, -, ⟨x4, -⟩, ⟨x5, -⟩⟩ := h.2.2.1 k hk
        rw [f3 74 k (by omega), g3.2 74 k (by omega), f3 75 k (by omega), g3.2 75 k (by omega), x4, x5]
        exact ⟨rfl, rfl⟩⟩
      obtain ⟨μ1, m1, m2, m3, m4, m5, m6⟩ := m_goes (code := code) h ml hWr (X0 := σ.1 13) (fun q _ => rfl) ⟨hn1, hn⟩ K
      have x6 : μ1.1 68 6 = nI s := by rw [m6 68 6 (by omega) (by omega), f3 68 6 (by omega), g3.2 68 6 (by omega), h.2.1.2.1]
      have x13 : μ1.1 68 13 = nI p := by rw [m6 68 13 (by omega) (by omega), f3 68 13 (by omega), g3.2 68 13 (by omega), h.2.1.2.2.2.2.2]
      have y : ∀ c f, ¬ c = 68 → (zWD (zWD μ1 68 34 (nI s)) 68 35 (nI p)).1 c f = μ1.1 c f := fun c f q => by rw [wd1, if_neg (by omega), wd1, if_neg (by omega)]
      obtain ⟨μ2, n1, n2, n3, n4⟩ := m_45_L hp (okX6 hs okX0) b μ1 200 0 (zWD (zWD μ1 68 34 (nI s)) 68 35 (nI p)) (by omega) (Nat.zero_le _) (by rw [wd1, if_neg (by omega), wd1, if_neg (by omega), x13]) (fun q hq => by rw [y 85 q (by decide), m2 q hq]) (fun q hq => by rw [y 90 q (by decide)]) (fun q hq => absurd hq (Nat.not_lt_zero q)) (fun q => by rw [y 81 q (by decide), if_neg (by omega)])
      obtain ⟨μ3, o1, o2, o3⟩ := m_138_L hs (nI (ysw (yA σ code (σ.1 4) (σ.1 5) s p (σ.1 13) (n - 1)) p)) 200 0 μ2 (by omega) (Nat.zero_le _) (by rw [n4 68 6 (by decide) (by decide) (by decide), wd1, if_neg (by omega), wd1, if_neg (by omega), x6]) (fun k hk => absurd hk (Nat.not_lt_zero k))
      have x13' : (zWD μ1 68 34 (nI s)).1 68 13 = nI p := by rw [wd1, if_neg (by omega), x13]
      have mo : s_X10_weeks (nI n) b τ4 = some (nI (ysw (yA σ code (σ.1 4) (σ.1 5) s p (σ.1 13) (n - 1)) p), μ3) := by
        unfold s_X10_weeks
        rw [aw, Option.bind_some, bI_n, if_neg (not_not_intro ha), bw, Option.bind_some, bI_n, if_neg (not_not_intro hb), m1, Option.bind_some, zSt_e, x6, zSt_e, x13']
        exact n1.trans o1
      -- what stays
      have fr : ∀ c f, ¬ c = 13 → ¬ (84 ≤ c ∧ c ≤ 93) → ¬ c = 81 → ¬ (c = 68 ∧ 22 ≤ f ∧ f ≤ 35) → μ3.1 c f = τ3.1 c f := fun c f q1 q2 q3 q4 => by
        rw [o3 c f (by omega), n4 c f (by omega) (by omega) q3, wd1, if_neg (by omega), wd1, if_neg (by omega), m6 c f (by omega) (by omega), f3 c f q1]
      have g81 : ∀ q, μ3.1 81 q = if b = 1 ∧ q < p then yA σ code (σ.1 4) (σ.1 5) s p (σ.1 13) (n - 1) q else σ.1 81 q := fun q => by
        rw [o3 81 q (by decide), n3 q, m6 81 q (by omega) (by omega), f3 81 q (by decide), g3.2 81 q (by omega)]
      have g13 : ∀ q, q < p → μ3.1 13 q = if b = 1 then yA σ code (σ.1 4) (σ.1 5) s p (σ.1 13) (n - 1) q else σ.1 13 q := fun q hq => by
        rw [o3 13 q (by decide), n4 13 q (by decide) (by decide) (by decide), y 13 q (by decide), m6 13 q (by omega) (by omega), f2 q hq, g3.2 13 q (by omega)]
      refine ⟨_, τ4, μ3, f1, mo, rT_pl h (fun c f q q13 q81 => ?_) (fun q hq => ?_), ⟨tl, tt, htt, ?_, ?_, code, lawIs_at htl ?_ (fun f => ?_) ?_ (fun f => ?_) hc⟩, ⟨s, p, yA σ code (σ.1 4) (σ.1 5) s p (σ.1 13) (n - 1), ⟨hs, hp⟩, ⟨?_, ?_⟩, Or.inr ⟨?_, ?_⟩, fun q hq => ⟨?_, ?_, ?_⟩, fun k hk => ⟨?_, ?_⟩⟩⟩
      · simp only [zHit, cT, List.any_cons, List.any_nil, Bool.or_false, Bool.or_eq_true, Bool.and_eq_true, beq_iff_eq] at q
        rw [fr c f q13 (by omega) q81 (by omega), g3.2 c f (by omega)]
      · rw [g13 q hq, g81 q]
        by_cases z : b = 1
        · rw [if_pos z, if_pos ⟨z, hq⟩]
          exact ⟨rfl, okX0 q hq⟩
        · rw [if_neg z, if_neg (fun y => z y.1)]
          exact (h.2.2.2.2.2 q hq).2.2.2
      · rw [fr 0 9 (by omega) (by omega) (by omega) (by omega), g3.2 0 9 (by omega), h9]
      · rw [fr 0 10 (by omega) (by omega) (by omega) (by omega), g3.2 0 10 (by omega), h10]
      · rw [fr tl 2 (by omega) (by omega) (by omega) (by omega), g3.2 tl 2 (by omega)]
      · rw [fr (tl + 1) f (by omega) (by omega) (by omega) (by omega), g3.2 (tl + 1) f (by omega)]
      · rw [fr 68 21 (by omega) (by omega) (by omega) (by omega), g3.2 68 21 (by omega)]
      · rw [fr 83 f (by omega) (by omega) (by omega) (by omega), g3.2 83 f (by omega)]
      · rw [fr 19 11 (by omega) (by omega) (by omega) (by omega), e11]
      · rw [fr 19 12 (by omega) (by omega) (by omega) (by omega), e12]
      · rw [o3 68 34 (by decide), n4 68 34 (by decide) (by decide) (by decide), wd1, if_neg (by omega), wd1, if_pos ⟨rfl, rfl⟩]
      · rw [o3 68 35 (by decide), n4 68 35 (by decide) (by decide) (by decide), wd1, if_pos ⟨rfl, rfl⟩]
      · rw [fr 25 q (by omega) (by omega) (by omega) (by omega), d3 q hq]
      · rw [o3 91 q (by decide), (n2 q hq).1]
      · rw [fr 27 q (by omega) (by omega) (by omega) (by omega), d6 q hq, o3 92 q (by decide), (n2 q hq).2, m5 q hq]
      · rw [fr 24 k (by omega) (by omega) (by omega) (by omega), d5 k (by omega), o2 k hk, n4 89 k (by decide) (by decide) (by decide), y 89 k (by decide), m4 k hk]
      · rw [fr 22 k (by omega) (by omega) (by omega) (by omega), d4 k (by omega)]
        rfl
    · refine ⟨-1, σ, σ, ?_, ?_, h, hL, hk⟩
      · unfold s_X9_weeks
        rw [isW, Option.bind_some, bI_n, if_neg (not_not_intro ha), isW, Option.bind_some, bI_n, if_pos hb]
      · unfold s_X10_weeks
        rw [aw, Option.bind_some, bI_n, if_neg (not_not_intro ha), bw, Option.bind_some, bI_n, if_pos hb]
  · refine ⟨-1, σ, σ, ?_, ?_, h, hL, hk⟩
    · unfold s_X9_weeks
      rw [isW, Option.bind_some, bI_n, if_pos ha]
    · unfold s_X10_weeks
      rw [aw, Option.bind_some, bI_n, if_pos ha]
end CWEEK
