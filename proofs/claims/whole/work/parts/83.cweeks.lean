/-! WEEKS, the class: from the start, the path, in thought -/
theorem w_split {a b : Int32} (ha : inR a 0 4) (hb : inR b 0 99) : ((100 : Int32) * a + b) / 100 = a ∧ zRem ((100 : Int32) * a + b) 100 = b := by
  have b1 := inR_i ha
  have b2 := inR_i hb
  rw [show (0 : Int32).toInt = 0 by decide, show (4 : Int32).toInt = 4 by decide] at b1
  rw [show (0 : Int32).toInt = 0 by decide, show (99 : Int32).toInt = 99 by decide] at b2
  obtain ⟨i, hi, rfl⟩ := ofI (x := a) (m := 4) b1.1 b1.2
  obtain ⟨j, hj, rfl⟩ := ofI (x := b) (m := 99) b2.1 b2.2
  rw [show (100 : Int32) = nI 100 from rfl, nI_mul (by omega) (by omega) (by omega), nI_add, nI_div (by omega) (by omega), nI_rem (by omega) (by omega)]
  exact ⟨congrArg nI (by omega), congrArg nI (by omega)⟩
section CWEEK
variable {s w p tl t : Nat} {σb : ZSt} {code : List Int32} {W S : Nat → Int32}
theorem gWay {τ : ZSt} (g : gK σb τ tl) (h : rT s w p σb) {k : Nat} (hk : k < 6) : ∃ r, s_X7_wayAndSum (nI k) τ = some r ∧ r / 100 = σb.1 4 k ∧ zRem r 100 = σb.1 5 k := by
  have hT := g.T h
  unfold s_X7_wayAndSum
  rw [cIsStreet hT, Option.bind_some, bI_n]
  by_cases z : k < s
  · have hin := nI_lt_s z (show s ≤ 1000 by have := h.1.1; omega)
    rw [if_neg (not_not_intro hin), zLd_t (zIn_nI hk (by decide)), zLd_t (zIn_nI hk (by decide)), nI_clamp (by omega), g.2 4 k (by omega), g.2 5 k (by omega)]
    obtain ⟨-, -, ⟨-, r4⟩, ⟨-, r5⟩⟩ := h.2.2.1 k z
    exact ⟨_, rfl, w_split r4 r5⟩
  · obtain ⟨e4, e5⟩ := h.2.2.2.1 k (by omega) hk
    rw [if_pos, e4, e5]
    · exact ⟨0, rfl, by decide, by decide⟩
    · rintro ⟨-, y⟩
      rw [nI_ltI (by omega) (by have := h.1.1; omega)] at y
      exact z y
theorem c_ways_L (ht : t = 19 ∨ t = 30) (htl : tl = 62 ∨ tl = 65) (hb : rT s w p σb) : ∀ (n j : Nat) (τ : ZSt), 6 < n + j → j ≤ 6 → gK σb τ tl → (∀ k, k < j → τ.1 (t + 1) k = σb.1 4 k ∧ τ.1 (t + 2) k = σb.1 5 k) → ∃ τ', s_X8_takeWays_L2 t n (nI j) τ = some τ' ∧ τ'.2 = τ.2 ∧ (∀ k, k < 6 → τ'.1 (t + 1) k = σb.1 4 k ∧ τ'.1 (t + 2) k = σb.1 5 k) ∧ ∀ c f, ¬ c = t + 1 → ¬ c = t + 2 → τ'.1 c f = τ.1 c f := by
  intro n
  induction n with
  | zero => intro j τ h1 h2; omega
  | succ n ih =>
    intro j τ h1 h2 g h
    have e5 : ((6 : Int32) ≤ nI j) = (6 ≤ j) := nI_le_n (a := 6) (by omega) (by omega)
    rw [s_X8_takeWays_L2]
    by_cases hj : 6 ≤ j
    · have : j = 6 := by omega
      subst this
      rw [if_pos (by rw [e5]; exact hj)]
      exact ⟨τ, rfl, rfl, h, fun _ _ _ _ => rfl⟩
    · obtain ⟨r, r1, r2, r3⟩ := gWay g hb (show j < 6 by omega)
      have hz := zIn_nI (a := j) (n := 6) (by omega) (by decide)
      rw [if_neg (by rw [e5]; exact hj), r1, Option.bind_some, zSg_t hz, zSg_t hz, nI_clamp (by omega), r2, r3, nI_1]
      obtain ⟨τ', a1, a2, a3, a4⟩ := ih (j + 1) (zWD (zWD τ (t + 1) j (σb.1 4 j)) (t + 2) j (σb.1 5 j)) (by omega) (by omega) ((g.wd (by omega)).wd (by omega)) (fun k hk => by
        rw [wd1, if_neg (by omega), wd1, wd1]
        by_cases z : k = j
        · rw [if_pos ⟨rfl, z⟩, if_pos ⟨rfl, z⟩, z]
          exact ⟨rfl, rfl⟩
        · rw [if_neg (fun y => z y.2), if_neg (fun y => z y.2), wd1, if_neg (by omega)]
          exact h k (by omega))
      exact ⟨τ', a1, a2, a3, fun c f q1 q2 => by rw [a4 c f q1 q2, wd1, if_neg (by omega), wd1, if_neg (by omega)]⟩
theorem c_ways (ht : t = 19 ∨ t = 30) (htl : tl = 62 ∨ tl = 65) (hb : rT s w p σb) {τ : ZSt} (g : gK σb τ tl) : ∃ τ', s_X8_takeWays t τ = some τ' ∧ gK σb τ' tl ∧ (∀ k, k < 6 → τ'.1 (t + 1) k = σb.1 4 k ∧ τ'.1 (t + 2) k = σb.1 5 k) ∧ ∀ c f, ¬ c = t + 1 → ¬ c = t + 2 → τ'.1 c f = τ.1 c f := by
  obtain ⟨τ', a1, a2, a3, a4⟩ := c_ways_L ht htl hb 200 0 τ (by omega) (Nat.zero_le _) g (fun k hk => absurd hk (Nat.not_lt_zero k))
  exact ⟨τ', a1, g.to a2 (fun c f q => a4 c f (by omega) (by omega)), a3, a4⟩
theorem c_b36_L (ht : t = 19 ∨ t = 30) : ∀ (n j : Nat) (τ : ZSt), 6 < n + j → j ≤ 6 → (∀ k, k < j → τ.1 (t + 4) k = 0) → ∃ τ', s_X8_begin_L36 t n (nI j) τ = some τ' ∧ τ'.2 = τ.2 ∧ (∀ k, k < 6 → τ'.1 (t + 4) k = 0) ∧ ∀ c f, ¬ c = t + 4 → τ'.1 c f = τ.1 c f := by
  intro n
  induction n with
  | zero => intro j τ h1 h2; omega
  | succ n ih =>
    intro j τ h1 h2 h
    have e5 : ((6 : Int32) ≤ nI j) = (6 ≤ j) := nI_le_n (a := 6) (by omega) (by omega)
    rw [s_X8_begin_L36]
    by_cases hj : 6 ≤ j
    · have : j = 6 := by omega
      subst this
      rw [if_pos (by rw [e5]; exact hj)]
      exact ⟨τ, rfl, rfl, h, fun _ _ _ => rfl⟩
    · rw [if_neg (by rw [e5]; exact hj), zSg_t (zIn_nI (by omega) (by decide)), nI_clamp (by omega), nI_1]
      obtain ⟨τ', a1, a2, a3, a4⟩ := ih (j + 1) (zWD τ (t + 4) j 0) (by omega) (by omega) (fun k hk => by
        rw [wd1]
        by_cases z : k = j
        · rw [if_pos ⟨rfl, z⟩]
        · rw [if_neg (fun y => z y.2), h k (by omega)])
      exact ⟨τ', a1, a2, a3, fun c f q => by rw [a4 c f q, wd1, if_neg (by omega)]⟩
theorem c_begin_L (ht : t = 19 ∨ t = 30) (htl : tl = 62 ∨ tl = 65) (hb : rT s w p σb) : ∀ (n j : Nat) (τ : ZSt), p < n + j → j ≤ p → gK σb τ tl → τ.1 t 12 = nI p → (∀ q, q < j → τ.1 (t + 6) q = σb.1 13 q) → ∃ τ', s_X8_begin_L2 t n (nI j) τ = ((s_X8_countThere t τ').bind fun σ1 => (s_X8_begin_L36 t 200 (0 : Int32) σ1)) ∧ τ'.2 = τ.2 ∧ (∀ q, q < p → τ'.1 (t + 6) q = σb.1 13 q) ∧ ∀ c f, ¬ c = t + 6 → τ'.1 c f = τ.1 c f := by
  have hp := hb.1.2.2
  intro n
  induction n with
  | zero => intro j τ h1 h2; omega
  | succ n ih =>
    intro j τ h1 h2 g h12 h
    have e5 : (nI p ≤ nI j) = (p ≤ j) := nI_le_n (by omega) (by omega)
    rw [s_X8_begin_L2, h12]
    by_cases hj : p ≤ j
    · have : j = p := by omega
      subst this
      rw [if_pos (by rw [e5]; exact hj)]
      exact ⟨τ, rfl, rfl, h, fun _ _ _ => rfl⟩
    · rw [if_neg (by rw [e5]; exact hj), gPlace g hb (show j < p by omega), Option.bind_some, zSg_t (zIn_nI (by omega) (by decide)), nI_clamp (by omega), nI_1]
      obtain ⟨τ', a1, a2, a3, a4⟩ := ih (j + 1) (zWD τ (t + 6) j (σb.1 13 j)) (by omega) (by omega) (g.wd (by omega)) (by rw [wd1, if_neg (by omega), h12]) (fun k hk => by
        rw [wd1]
        by_cases z : k = j
        · rw [if_pos ⟨rfl, z⟩, z]
        · rw [if_neg (fun y => z y.2), h k (by omega)])
      exact ⟨τ', a1, a2, a3, fun c f q => by rw [a4 c f q, wd1, if_neg (by omega)]⟩
theorem c_follow (ht : t = 19 ∨ t = 30) (hb : rT s w p σb) (hl : cLw σb tl code) {n : Nat} (hn : 1 ≤ n ∧ n ≤ 60) {τ : ZSt} (g : gK σb τ tl) (hWS : ∀ k, k < 6 → τ.1 (t + 1) k = W k ∧ τ.1 (t + 2) k = S k) : ∃ τ' u d, s_X8_follow t tl (nI n) τ = some τ' ∧ cFl σb code s p tl t W S (σb.1 13) n u d τ' ∧ (∀ q, q < p → τ'.1 (t + 6) q = yA σb code W S s p (σb.1 13) (n - 1) q) ∧ (∀ k, k < 6 → τ'.1 (t + 3) k = yth (yA σb code W S s p (σb.1 13) (n - 1)) p k) := by
  have htl := hl.1
  have hs := hb.1.1
  have hp := hb.1.2.2
  have ok0 : okX s p (σb.1 13) := fun q hq => (hb.2.2.2.2.2 q hq).2.2.2.2
  have l6 : (if (6 : Int32) < nI s then (6 : Int32) else nI s) = nI s := if_neg (by rw [i6, nI_ltI (by omega) (by omega)]; omega)
  have l8 : (if (8 : Int32) < nI p then (8 : Int32) else nI p) = nI p := if_neg (by rw [i8, nI_ltI (by omega) (by omega)]; omega)
  have g5 : gK σb (zWD (zWD (zWD (zWD (zWD τ t 11 (nI s)) t 12 (nI p)) t 13 (nI n)) t 14 0) t 15 0) tl := ((((g.wd (by omega)).wd (by omega)).wd (by omega)).wd (by omega)).wd (by omega)
  have x5 : ∀ c f, ¬ c = t → (zWD (zWD (zWD (zWD (zWD τ t 11 (nI s)) t 12 (nI p)) t 13 (nI n)) t 14 0) t 15 0).1 c f = τ.1 c f := fun c f q => by rw [wd1, if_neg (by omega), wd1, if_neg (by omega), wd1, if_neg (by omega), wd1, if_neg (by omega), wd1, if_neg (by omega)]
  have y11 : (zWD (zWD (zWD (zWD (zWD τ t 11 (nI s)) t 12 (nI p)) t 13 (nI n)) t 14 0) t 15 0).1 t 11 = nI s := by rw [wd1, if_neg (by omega), wd1, if_neg (by omega), wd1, if_neg (by omega), wd1, if_neg (by omega), wd1, if_pos ⟨rfl, rfl⟩]
  have y12 : (zWD (zWD (zWD (zWD (zWD τ t 11 (nI s)) t 12 (nI p)) t 13 (nI n)) t 14 0) t 15 0).1 t 12 = nI p := by rw [wd1, if_neg (by omega), wd1, if_neg (by omega), wd1, if_neg (by omega), wd1, if_pos ⟨rfl, rfl⟩]
  have y13 : (zWD (zWD (zWD (zWD (zWD τ t 11 (nI s)) t 12 (nI p)) t 13 (nI n)) t 14 0) t 15 0).1 t 13 = nI n := by rw [wd1, if_neg (by omega), wd1, if_neg (by omega), wd1, if_pos ⟨rfl, rfl⟩]
  have y14 : (zWD (zWD (zWD (zWD (zWD τ t 11 (nI s)) t 12 (nI p)) t 13 (nI n)) t 14 0) t 15 0).1 t 14 = nI 0 := by rw [wd1, if_neg (by omega), wd1, if_pos ⟨rfl, rfl⟩]; rfl
  have y15 : (zWD (zWD (zWD (zWD (zWD τ t 11 (nI s)) t 12 (nI p)) t 13 (nI n)) t 14 0) t 15 0).1 t 15 = nI 0 := by rw [wd1, if_pos ⟨rfl, rfl⟩]; rfl
  have x1 : (zWD τ t 11 (nI s)).1 1 10 = nI p := by rw [wd1, if_neg (by omega), g.2 1 10 (by omega), hb.2.1.2.2.2.2.1]
  unfold s_X8_follow s_X7_streets s_X7_players
  rw [Option.bind_some, g.2 1 0 (by omega), hb.2.1.1, l6, zSt_e, Option.bind_some, x1, l8, zSt_e, zSt_e, zSt_e, zSt_e]
  generalize zWD (zWD (zWD (zWD (zWD τ t 11 (nI s)) t 12 (nI p)) t 13 (nI n)) t 14 0) t 15 0 = κ at *
  obtain ⟨τ1, a1, a2, a3, a4⟩ := c_begin_L ht htl hb 200 0 κ (by omega) (Nat.zero_le _) g5 y12 (fun q hq => absurd hq (Nat.not_lt_zero q))
  obtain ⟨τ2, b1, b2, b3, b4⟩ := c_count ht hp (okX6 hs ok0) (τ := τ1) (by rw [a4 t 12 (by omega), y12]) a3
  obtain ⟨τ3, c1, c2, c3, c4⟩ := c_b36_L ht 200 0 τ2 (by omega) (Nat.zero_le _) (fun k hk => absurd hk (Nat.not_lt_zero k))
  have e3 : ∀ c f, ¬ c = t + 6 → ¬ c = t + 3 → ¬ c = t + 4 → τ3.1 c f = κ.1 c f := fun c f q1 q2 q3 => by rw [c4 c f q3, b4 c f q2, a4 c f q1]
  have bg : s_X8_begin t κ = some τ3 := by
    rw [show s_X8_begin t κ = _ from a1, b1, Option.bind_some]
    exact c1
  have g3 : gK σb τ3 tl := g5.to (c2.trans (b2.trans a2)) (fun c f q => e3 c f (by omega) (by omega) (by omega))
  have hW : cW σb s p tl t W S (yI σb code W S s p (σb.1 13) 0).1 (yI σb code W S s p (σb.1 13) 0).2 τ3 := by
    refine ⟨g3, ⟨by rw [e3 t 11 (by omega) (by omega) (by omega), y11], by rw [e3 t 12 (by omega) (by omega) (by omega), y12]⟩, fun k hk => ?_, fun q hq => ?_, fun k hk => ?_, fun k hk => ?_⟩
    · rw [e3 (t + 1) k (by omega) (by omega) (by omega), e3 (t + 2) k (by omega) (by omega) (by omega), x5 (t + 1) k (by omega), x5 (t + 2) k (by omega)]
      exact hWS k hk
    · rw [c4 (t + 6) q (by omega), b4 (t + 6) q (by omega), a3 q hq]
      rfl
    · rw [c4 (t + 3) k (by omega), b3 k hk]
      rfl
    · rw [c3 k (by omega)]
      rfl
  obtain ⟨τ', u, d, d1, d2, d3, d4⟩ := c_follow_L (X0 := σb.1 13) ht hb hl hn 200 0 τ3 (by omega) (Nat.zero_le _) hW (by rw [e3 t 13 (by omega) (by omega) (by omega), y13]) (by rw [e3 t 14 (by omega) (by omega) (by omega), y14]) (by rw [e3 t 15 (by omega) (by omega) (by omega), y15]) (fun j hj => absurd hj (Nat.not_lt_zero j))
  refine ⟨τ', u, d, ?_, d2, d3, d4⟩
  rw [bg, Option.bind_some]
  exact d1
/-- the latest weeks, as the class and the model hold them -/
theorem c_know (h11 : σb.1 t 11 = nI s) (hs : s ≤ 6) (x : Int32) : s_X8_knowsStreet t x σb = some (bI (0 ≤ x ∧ x < nI s)) := by
  unfold s_X8_knowsStreet
  rw [h11]
  exact cIsStreet0 (σ := zWD σb 1 0 (nI s)) (by rw [wd1, if_pos ⟨rfl, rfl⟩]) hs x |> fun h => by
    unfold s_X7_isStreet at h
    rw [show (zWD σb 1 0 (nI s)).1 1 0 = nI s by rw [wd1, if_pos ⟨rfl, rfl⟩]] at h
    exact h
theorem c_knowP (h12 : σb.1 t 12 = nI p) (hp : p ≤ 8) (x : Int32) : s_X8_knowsPlayer t x σb = some (bI (0 ≤ x ∧ x < nI p)) := by
  unfold s_X8_knowsPlayer
  rw [h12]
  by_cases h0 : x < 0
  · rw [if_pos h0, bI_f (fun y => absurd h0 (Int32.not_lt.mpr y.1))]
  · rw [if_neg h0]
    by_cases h1 : nI p ≤ x
    · rw [if_pos h1, bI_f (fun y => absurd y.2 (Int32.not_lt.mpr h1))]
    · have h1' : x < nI p := Int32.not_le.mp h1
      have h0' : 0 ≤ x := Int32.not_lt.mp h0
      obtain ⟨k, hk, rfl⟩ := ofN (by omega) h0' h1'
      rw [if_neg h1, if_neg (by rw [i8, nI_leI (by omega) (by omega)]; omega), bI_t ⟨h0', h1'⟩]
end CWEEK
