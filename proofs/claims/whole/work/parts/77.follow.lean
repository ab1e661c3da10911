/-! WEEKS, the class: all go, are paid; following the path -/
section CWEEK
variable {s w p tl t : Nat} {σb : ZSt} {code : List Int32} {W S : Nat → Int32}
def frG (t tl : Nat) (τ τ' : ZSt) : Prop := τ'.2 = τ.2 ∧ ∀ c f, ¬ c = t + 9 → ¬ (c = tl ∧ f = 3) → ¬ c = tl + 2 → ¬ c = t + 7 → ¬ c = t + 6 → ¬ c = t + 3 → ¬ c = t + 4 → τ'.1 c f = τ.1 c f
theorem frG.trans {a b c : ZSt} (h : frG t tl a b) (k : frG t tl b c) : frG t tl a c := ⟨k.1.trans h.1, fun x f q1 q2 q3 q4 q5 q6 q7 => (k.2 x f q1 q2 q3 q4 q5 q6 q7).trans (h.2 x f q1 q2 q3 q4 q5 q6 q7)⟩
theorem frG.of9 {a b : ZSt} (h : fr9 t tl a b) : frG t tl a b := ⟨h.1, fun x f q1 q2 q3 _ _ _ _ => h.2 x f q1 q2 q3⟩
theorem frG.gK {τ τ' : ZSt} (ht : t = 19 ∨ t = 30) (htl : tl = 62 ∨ tl = 65) (h : frG t tl τ τ') (g : gK σb τ tl) : gK σb τ' tl := g.to h.1 (fun c f q => h.2 c f (by omega) (by omega) (by omega) (by omega) (by omega) (by omega) (by omega))
theorem cW.w7 {X P : Nat → Int32} {τ : ZSt} (ht : t = 19 ∨ t = 30) (htl : tl = 62 ∨ tl = 65) (h : cW σb s p tl t W S X P τ) (i : Nat) (v : Int32) : cW σb s p tl t W S X P (zWD τ (t + 7) i v) := by
  obtain ⟨g, ⟨h1, h2⟩, h3, h4, h5, h6⟩ := h
  refine ⟨g.wd (by omega), ⟨by rw [wd1, if_neg (by omega), h1], by rw [wd1, if_neg (by omega), h2]⟩, fun k hk => ?_, fun q hq => ?_, fun k hk => ?_, fun k hk => ?_⟩
  · rw [wd1, if_neg (by omega), wd1, if_neg (by omega)]
    exact h3 k hk
  · rw [wd1, if_neg (by omega), h4 q hq]
  · rw [wd1, if_neg (by omega), h5 k hk]
  · rw [wd1, if_neg (by omega), h6 k hk]
theorem c_go_L (ht : t = 19 ∨ t = 30) (hb : rT s w p σb) (hl : cLw σb tl code) {X P : Nat → Int32} : ∀ (n j : Nat) (τ : ZSt), p < n + j → j ≤ p → cW σb s p tl t W S X P τ → (∀ i, i < j → τ.1 (t + 7) i = ynx σb code s p (X, P) i) → ∃ τ', s_X8_allGo_L2 t tl n (nI j) τ = s_X8_allGo_L30 t tl 200 0 τ' ∧ cW σb s p tl t W S X P τ' ∧ (∀ i, i < p → τ'.1 (t + 7) i = ynx σb code s p (X, P) i) ∧ frG t tl τ τ' := by
  have htl := hl.1
  have hp := hb.1.2.2
  intro n
  induction n with
  | zero => intro j τ h1 h2; omega
  | succ n ih =>
    intro j τ h1 h2 hW h7
    have e5 : (nI p ≤ nI j) = (p ≤ j) := nI_le_n (by omega) (by omega)
    rw [s_X8_allGo_L2, hW.2.1.2]
    by_cases hj : p ≤ j
    · have : j = p := by omega
      subst this
      rw [if_pos (by rw [e5]; exact hj)]
      exact ⟨τ, rfl, hW, h7, rfl, fun _ _ _ _ _ _ _ _ _ => rfl⟩
    · obtain ⟨τ1, c1, c2⟩ := c_choice (code := code) ht hb hl (show j < p by omega) hW
      have hW1 := hW.fr ht htl c2
      rw [if_neg (by rw [e5]; exact hj), c1, Option.bind_some, zSg_t (zIn_nI (by omega) (by decide)), nI_clamp (by omega), nI_1]
      obtain ⟨τ', a1, a2, a3, a4⟩ := ih (j + 1) (zWD τ1 (t + 7) j (ynx σb code s p (X, P) j)) (by omega) (by omega) (hW1.w7 ht htl _ _) (fun i hi => by
        by_cases e : i = j
        · subst e
          rw [wd1, if_pos ⟨rfl, rfl⟩]
        · rw [wd1, if_neg (by omega), c2.2 (t + 7) i (by omega) (by omega) (by omega), h7 i (by omega)])
      refine ⟨τ', a1, a2, a3, (frG.of9 c2).trans (frG.trans ?_ a4)⟩
      exact ⟨rfl, fun c f _ _ _ q4 _ _ _ => by rw [wd1, if_neg (by omega)]⟩
theorem c_mv_L (ht : t = 19 ∨ t = 30) (hp : p ≤ 8) {Y : Nat → Int32} : ∀ (n j : Nat) (τ : ZSt), p < n + j → j ≤ p → τ.1 t 12 = nI p → (∀ i, i < p → τ.1 (t + 7) i = Y i) → (∀ i, i < j → τ.1 (t + 6) i = Y i) → ∃ τ', s_X8_allGo_L30 t tl n (nI j) τ = ((s_X8_countThere t τ').bind fun σ1 => some σ1) ∧ τ'.2 = τ.2 ∧ (∀ i, i < p → τ'.1 (t + 6) i = Y i) ∧ ∀ c f, ¬ c = t + 6 → τ'.1 c f = τ.1 c f := by
  intro n
  induction n with
  | zero => intro j τ h1 h2; omega
  | succ n ih =>
    intro j τ h1 h2 h12 h7 h6
    have e5 : (nI p ≤ nI j) = (p ≤ j) := nI_le_n (by omega) (by omega)
    rw [s_X8_allGo_L30, h12]
    by_cases hj : p ≤ j
    · have : j = p := by omega
      subst this
      rw [if_pos (by rw [e5]; exact hj)]
      exact ⟨τ, rfl, rfl, h6, fun _ _ _ => rfl⟩
    · have hz := zIn_nI (a := j) (n := 8) (by omega) (by decide)
      rw [if_neg (by rw [e5]; exact hj), zLd_t hz, zSg_t hz, nI_clamp (by omega), h7 j (by omega), nI_1]
      obtain ⟨τ', a1, a2, a3, a4⟩ := ih (j + 1) (zWD τ (t + 6) j (Y j)) (by omega) (by omega) (by rw [wd1, if_neg (by omega), h12]) (fun i hi => by rw [wd1, if_neg (by omega), h7 i hi]) (fun i hi => by
        by_cases e : i = j
        · subst e
          rw [wd1, if_pos ⟨rfl, rfl⟩]
        · rw [wd1, if_neg (by omega), h6 i (by omega)])
      exact ⟨τ', a1, a2, a3, fun c f q => by rw [a4 c f q, wd1, if_neg (by omega)]⟩
theorem okX6 {X : Nat → Int32} (hs : s ≤ 6) (h : okX s p X) : okX 6 p X := fun q hq => (h q hq).imp id (fun ⟨k, hk, e⟩ => ⟨k, by omega, e⟩)
theorem c_allGo (ht : t = 19 ∨ t = 30) (hb : rT s w p σb) (hl : cLw σb tl code) {X P : Nat → Int32} {τ : ZSt} (hW : cW σb s p tl t W S X P τ) : ∃ τ', s_X8_allGo t tl τ = some τ' ∧ cW σb s p tl t W S (ynx σb code s p (X, P)) P τ' ∧ frG t tl τ τ' := by
  have htl := hl.1
  have hs := hb.1.1
  have hp := hb.1.2.2
  obtain ⟨τ1, a1, a2, a3, a4⟩ := c_go_L (code := code) ht hb hl 200 0 τ (by omega) (by omega) hW (fun i hi => absurd hi (Nat.not_lt_zero i))
  obtain ⟨g, ⟨w1, w2⟩, w3, w4, w5, w6⟩ := a2
  obtain ⟨τ2, b1, b2, b3, b4⟩ := c_mv_L (tl := tl) ht hp 200 0 τ1 (by omega) (by omega) w2 a3 (fun i hi => absurd hi (Nat.not_lt_zero i))
  obtain ⟨τ3, c1, c2, c3, c4⟩ := c_count ht hp (okX6 hs (okX_nx σb code s p (X, P))) (by rw [b4 t 12 (by omega), w2]) b3
  refine ⟨τ3, ?_, ?_, a4.trans ?_⟩
  · unfold s_X8_allGo
    refine a1.trans (b1.trans ?_)
    rw [c1, Option.bind_some]
  · refine ⟨(g.to b2 (fun c f q => b4 c f (by omega))).to c2 (fun c f q => c4 c f (by omega)), ⟨by rw [c4 t 11 (by omega), b4 t 11 (by omega), w1], by rw [c4 t 12 (by omega), b4 t 12 (by omega), w2]⟩, fun k hk => ?_, fun q hq => ?_, c3, fun k hk => ?_⟩
    · rw [c4 (t + 1) k (by omega), b4 (t + 1) k (by omega), c4 (t + 2) k (by omega), b4 (t + 2) k (by omega)]
      exact w3 k hk
    · rw [c4 (t + 6) q (by omega), b3 q hq]
    · rw [c4 (t + 4) k (by omega), b4 (t + 4) k (by omega), w6 k hk]
  · exact ⟨c2.trans b2, fun c f _ _ _ _ q5 q6 _ => by rw [c4 c f q6, b4 c f q5]⟩
theorem c_pay_L (ht : t = 19 ∨ t = 30) (htl : tl = 62 ∨ tl = 65) (hs : s ≤ 6) {X P : Nat → Int32} : ∀ (n j : Nat) (τ : ZSt), s < n + j → j ≤ s → cW σb s p tl t W S X P τ → (∀ k, k < j → P k = yp W S (yth X p) k) → ∃ τ', s_X8_payOut_L2 t n (nI j) τ = some τ' ∧ cW σb s p tl t W S X (yp W S (yth X p)) τ' ∧ τ'.2 = τ.2 ∧ ∀ c f, ¬ c = t + 4 → τ'.1 c f = τ.1 c f := by
  intro n
  induction n generalizing P with
  | zero => intro j τ h1 h2; omega
  | succ n ih =>
    intro j τ h1 h2 hW hP
    obtain ⟨g, ⟨w1, w2⟩, w3, w4, w5, w6⟩ := id hW
    have e5 : (nI s ≤ nI j) = (s ≤ j) := nI_le_n (by omega) (by omega)
    rw [s_X8_payOut_L2, w1]
    by_cases hj : s ≤ j
    · have : j = s := by omega
      subst this
      rw [if_pos (by rw [e5]; exact hj)]
      exact ⟨τ, rfl, ⟨g, ⟨w1, w2⟩, w3, w4, w5, fun k hk => by rw [w6 k hk, hP k hk]⟩, rfl, fun _ _ _ => rfl⟩
    · have hz := zIn_nI (a := j) (n := 6) (by omega) (by decide)
      have hcl := nI_clamp (n := j) (by omega)
      obtain ⟨v1, v2⟩ := w3 j (by omega)
      have v3 := w5 j (by omega)
      have fin : ∀ v : Int32, v = yp W S (yth X p) j → ∃ τ', s_X8_payOut_L2 t n (nI j + 1) (zWD τ (t + 4) j v) = some τ' ∧ cW σb s p tl t W S X (yp W S (yth X p)) τ' ∧ τ'.2 = τ.2 ∧ ∀ c f, ¬ c = t + 4 → τ'.1 c f = τ.1 c f := fun v ev => by
        rw [nI_1]
        obtain ⟨τ', a1, a2, a3, a4⟩ := ih (P := fun k => if k = j then v else P k) (j + 1) (zWD τ (t + 4) j v) (by omega) (by omega) ⟨g.wd (by omega), ⟨by rw [wd1, if_neg (by omega), w1], by rw [wd1, if_neg (by omega), w2]⟩, fun k hk => by
            rw [wd1, if_neg (by omega), wd1, if_neg (by omega)]
            exact w3 k hk, fun q hq => by rw [wd1, if_neg (by omega), w4 q hq], fun k hk => by rw [wd1, if_neg (by omega), w5 k hk], fun k hk => by
            rw [wd1]
            by_cases e : k = j
            · rw [if_pos ⟨rfl, e⟩]
              exact (if_pos e).symm
            · rw [if_neg (by omega)]
              exact (w6 k hk).trans (if_neg e).symm⟩ (fun k hk => by
          by_cases e : k = j
          · rw [if_pos e, ev, e]
          · rw [if_neg e, hP k (by omega)])
        exact ⟨τ', a1, a2, a3, fun c f q => by rw [a4 c f q, wd1, if_neg (by omega)]⟩
      rw [if_neg (by rw [e5]; exact hj), zLd_t hz, hcl, zLd_t hz, v1]
      by_cases q2 : W j = 2
      · rw [if_pos q2, s_X8_payOut_C35, if_neg (by decide), zLd_t hz, zLd_t hz, zSg_t hz, hcl, v3, v2]
        exact fin _ (by unfold yp; rw [if_pos (Or.inl q2)])
      · rw [if_neg q2]
        by_cases q4 : W j = 4
        · rw [if_pos q4, s_X8_payOut_C35, if_neg (by decide), zLd_t hz, zLd_t hz, zSg_t hz, hcl, v3, v2]
          exact fin _ (by unfold yp; rw [if_pos (Or.inr q4)])
        · rw [if_neg q4, s_X8_payOut_C35, if_pos rfl, zLd_t hz, hcl, v1]
          by_cases q1 : W j = 1
          · rw [if_pos q1, zLd_t hz, zLd_t hz, zSg_t hz, v3, v2]
            exact fin _ (by unfold yp; rw [if_neg (fun z => z.elim q2 q4), if_pos q1])
          · rw [if_neg q1, zLd_t hz, zSg_t hz]
            exact fin _ (by unfold yp; rw [if_neg (fun z => z.elim q2 q4), if_neg q1, Int32.zero_mul])
theorem c_pk_L (hp : p ≤ 8) {X : Nat → Int32} (hX : okX 6 p X) {τ : ZSt} (h12 : τ.1 t 12 = nI p) (hw : ∀ q, q < p → τ.1 (t + 6) q = X q) : ∀ (n j : Nat), p < n + j → j ≤ p → s_X8_packed_L4 t τ n (nI (pkN X j)) (nI j) = some (nI (pkN X p)) := by
  intro n
  induction n with
  | zero => intro j h1 h2; omega
  | succ n ih =>
    intro j h1 h2
    have e5 : (nI p ≤ nI j) = (p ≤ j) := nI_le_n (by omega) (by omega)
    rw [s_X8_packed_L4, h12]
    by_cases hj : p ≤ j
    · have : j = p := by omega
      subst this
      rw [if_pos (by rw [e5]; exact hj)]
    · obtain ⟨x1, x2, -⟩ := xN_ok (hX j (by omega))
      rw [if_neg (by rw [e5]; exact hj), zLd_t (zIn_nI (by omega) (by decide)), nI_clamp (by omega), hw j (by omega), x1, pk_step (by omega) (pkN_lt j (fun q hq => hX q (by omega))) x2, nI_1]
      exact ih (j + 1) (by omega) (by omega)
theorem c_un_L (ht : t = 19 ∨ t = 30) (hp : p ≤ 8) {X : Nat → Int32} (hX : okX 6 p X) : ∀ (n j : Nat) (τ : ZSt), p < n + j → j ≤ p → τ.1 t 12 = nI p → (∀ i, i < j → τ.1 (t + 6) i = X i) → ∃ τ', s_X8_unpack_L2 t (nI (pkN X p)) n (nI j) τ = ((s_X8_countThere t τ').bind fun σ1 => some σ1) ∧ τ'.2 = τ.2 ∧ (∀ i, i < p → τ'.1 (t + 6) i = X i) ∧ ∀ c f, ¬ c = t + 6 → τ'.1 c f = τ.1 c f := by
  intro n
  induction n with
  | zero => intro j τ h1 h2; omega
  | succ n ih =>
    intro j τ h1 h2 h12 h6
    have e5 : (nI p ≤ nI j) = (p ≤ j) := nI_le_n (by omega) (by omega)
    rw [s_X8_unpack_L2, h12]
    by_cases hj : p ≤ j
    · have : j = p := by omega
      subst this
      rw [if_pos (by rw [e5]; exact hj)]
      exact ⟨τ, rfl, rfl, h6, fun _ _ _ => rfl⟩
    · have ex : nI (pkN X p / 2 ^ (3 * j) % 8) - 1 = X j := by rw [pkN_get p hX j (by omega), (xN_ok (hX j (by omega))).2.2]
      rw [if_neg (by rw [e5]; exact hj), zSg_t (zIn_nI (by omega) (by decide)), nI_clamp (n := j) (by omega), unpk_at (by omega) (pkN_b hp hX), ex, nI_1]
      obtain ⟨τ', a1, a2, a3, a4⟩ := ih (j + 1) (zWD τ (t + 6) j (X j)) (by omega) (by omega) (by rw [wd1, if_neg (by omega), h12]) (fun i hi => by
        by_cases e : i = j
        · subst e
          rw [wd1, if_pos ⟨rfl, rfl⟩]
        · rw [wd1, if_neg (by omega), h6 i (by omega)])
      exact ⟨τ', a1, a2, a3, fun c f q => by rw [a4 c f q, wd1, if_neg (by omega)]⟩
theorem c_unpack (ht : t = 19 ∨ t = 30) (hp : p ≤ 8) {X : Nat → Int32} (hX : okX 6 p X) {τ : ZSt} (h12 : τ.1 t 12 = nI p) : ∃ τ', s_X8_unpack t (nI (pkN X p)) τ = some τ' ∧ τ'.2 = τ.2 ∧ (∀ i, i < p → τ'.1 (t + 6) i = X i) ∧ (∀ k, k < 6 → τ'.1 (t + 3) k = yth X p k) ∧ ∀ c f, ¬ c = t + 6 → ¬ c = t + 3 → τ'.1 c f = τ.1 c f := by
  obtain ⟨τ2, b1, b2, b3, b4⟩ := c_un_L ht hp hX 200 0 τ (by omega) (by omega) h12 (fun i hi => absurd hi (Nat.not_lt_zero i))
  obtain ⟨τ3, c1, c2, c3, c4⟩ := c_count ht hp hX (by rw [b4 t 12 (by omega), h12]) b3
  refine ⟨τ3, ?_, c2.trans b2, fun i hi => by rw [c4 (t + 6) i (by omega), b3 i hi], c3, fun c f q1 q2 => by rw [c4 c f q2, b4 c f q1]⟩
  unfold s_X8_unpack
  refine b1.trans ?_
  rw [c1, Option.bind_some]
theorem c_since (ht : t = 19 ∨ t = 30) {u : Nat} (hu : u < 60) {τ : ZSt} : ∀ (n j : Nat), u < n + j → j ≤ u → ∃ d, s_X8_sinceLikeWeek_L2 t (nI u) τ n (nI j) = some (nI d) ∧ (d = 0 ∨ (0 < d ∧ d ≤ u ∧ τ.1 (t + 10) (u - d) = τ.1 (t + 10) u)) := by
  intro n
  induction n with
  | zero => intro j h1 h2; omega
  | succ n ih =>
    intro j h1 h2
    have e5 : (nI u ≤ nI j) = (u ≤ j) := nI_le_n (by omega) (by omega)
    rw [s_X8_sinceLikeWeek_L2]
    by_cases hj : u ≤ j
    · rw [if_pos (by rw [e5]; exact hj)]
      exact ⟨0, rfl, Or.inl rfl⟩
    · rw [if_neg (by rw [e5]; exact hj), zLd_t (zIn_nI (by omega) (by decide)), zLd_t (zIn_nI hu (by decide)), nI_clamp (by omega), nI_clamp (by omega)]
      by_cases e : τ.1 (t + 10) j = τ.1 (t + 10) u
      · rw [if_pos e, nI_sub (by omega) (by omega)]
        exact ⟨u - j, rfl, Or.inr ⟨by omega, by omega, by rw [show u - (u - j) = j by omega]; exact e⟩⟩
      · rw [if_neg e, nI_1]
        exact ih (j + 1) (by omega) (by omega)
/-- behind follow: n weeks were followed; u of them unlike, a round of d (0: none) -/
def cFl (σb : ZSt) (code : List Int32) (s p tl t : Nat) (W S X0 : Nat → Int32) (n u d : Nat) (τ : ZSt) : Prop := (1 ≤ n ∧ n ≤ 60 ∧ u ≤ n ∧ 1 ≤ u) ∧ (gK σb τ tl ∧ (τ.1 t 11 = nI s ∧ τ.1 t 12 = nI p) ∧ ∀ k, k < 6 → τ.1 (t + 1) k = W k ∧ τ.1 (t + 2) k = S k) ∧ (τ.1 t 13 = nI n ∧ τ.1 t 14 = nI u ∧ τ.1 t 15 = nI d) ∧ (∀ j, j < u → τ.1 (t + 10) j = nI (pkN (yA σb code W S s p X0 j) p)) ∧ ((d = 0 ∧ u = n) ∨ (0 < d ∧ d ≤ u ∧ u < n ∧ ∀ q, q < p → yA σb code W S s p X0 u q = yA σb code W S s p X0 (u - d) q))
/-- the place of the last week on the path -/
def cLast (n u d : Nat) : Nat := if d = 0 then n - 1 else (u - d) + (n - 1 - (u - d)) % d
theorem cLast_lt {σb : ZSt} {X0 : Nat → Int32} {n u d : Nat} {τ : ZSt} (h : cFl σb code s p tl t W S X0 n u d τ) : cLast n u d < u ∧ ∀ q, q < p → yA σb code W S s p X0 (cLast n u d) q = yA σb code W S s p X0 (n - 1) q := by
  obtain ⟨⟨a1, a2, a3, a4⟩, -, -, -, h5⟩ := h
  unfold cLast
  rcases h5 with ⟨rfl, rfl⟩ | ⟨d1, d2, d3, d4⟩
  · rw [if_pos rfl]
    exact ⟨by omega, fun _ _ => rfl⟩
  · rw [if_neg (by omega)]
    have hm := Nat.mod_lt (n - 1 - (u - d)) d1
    refine ⟨by omega, fun q hq => ?_⟩
    have := yA_mod (f := u - d) d1 (fun q hq => by rw [show u - d + d = u by omega]; exact d4 q hq) (n - 1 - (u - d)) q hq
    rw [show u - d + (n - 1 - (u - d)) = n - 1 by omega] at this
    exact this.symm
theorem c_last {X0 : Nat → Int32} {n u d : Nat} {τ : ZSt} (h : cFl σb code s p tl t W S X0 n u d τ) : s_X8_lastUnlike t τ = some (nI (cLast n u d)) := by
  have hL := (cLast_lt h).1
  obtain ⟨⟨a1, a2, a3, a4⟩, -, ⟨b1, b2, b3⟩, -, h5⟩ := h
  have wi : ∀ (m : Nat) (σ : ZSt), m < 60 → s_X9_isWithin (nI m) 0 59 σ = some 1 := fun m σ hm => by
    rw [isW, bI_t]
    have := inR_nI (k := m) (a := 0) (b := 59) (by omega) (by omega) (by decide)
    exact this
  have en : nI n - 1 = nI (n - 1) := by rw [i1, nI_sub (by omega) (by omega)]
  unfold s_X8_lastUnlike
  rw [b1, b2, b3, en]
  unfold cLast at hL ⊢
  rcases h5 with ⟨rfl, rfl⟩ | ⟨d1, d2, d3, d4⟩
  · rw [if_pos (by decide), wi (u - 1) _ (by omega), Option.bind_some, if_neg (by decide), if_pos rfl]
  · rw [if_neg (by omega)] at hL
    rw [if_neg (by rw [i0, nI_leI (by omega) (by omega)]; omega), if_neg (by rw [nI_ltI (by omega) (by omega)]; omega), if_neg (by rw [i0, nI_eq (by omega) (by omega)]; omega), nI_sub (show d ≤ u by omega) (by omega), nI_sub (show u - d ≤ n - 1 by omega) (by omega), nI_rem (by omega) (by omega), nI_add, wi _ _ (by omega), Option.bind_some, if_neg (by decide), if_neg (by omega)]
theorem okA (hs : s ≤ 6) (X0 : Nat → Int32) (i : Nat) : okX 6 p (yA σb code W S s p X0 i) := by
  unfold yA
  rw [yI_succ]
  exact okX6 hs (okX_nx _ _ _ _ _)
/-- the last week is unpacked -/
theorem c_end (ht : t = 19 ∨ t = 30) (htl : tl = 62 ∨ tl = 65) (hs : s ≤ 6) (hp : p ≤ 8) {X0 : Nat → Int32} {n u d : Nat} {τ : ZSt} (h : cFl σb code s p tl t W S X0 n u d τ) : ∃ τ', ((s_X8_lastUnlike t τ).bind fun r1 => zLd (zIn r1 60) (τ.1 (t + 10) r1.toNatClampNeg) fun v2 => (s_X8_unpack t v2 τ).bind fun σ3 => some σ3) = some τ' ∧ cFl σb code s p tl t W S X0 n u d τ' ∧ (∀ q, q < p → τ'.1 (t + 6) q = yA σb code W S s p X0 (n - 1) q) ∧ (∀ k, k < 6 → τ'.1 (t + 3) k = yth (yA σb code W S s p X0 (n - 1)) p k) ∧ τ'.2 = τ.2 ∧ ∀ c f, ¬ c = t + 6 → ¬ c = t + 3 → τ'.1 c f = τ.1 c f := by
  obtain ⟨hL, hLe⟩ := cLast_lt h
  have hc := c_last h
  obtain ⟨a, ⟨g, ⟨b1, b2⟩, b3⟩, ⟨c1, c2, c3⟩, e, f⟩ := id h
  obtain ⟨τ', u1, u2, u3, u4, u5⟩ := c_unpack ht hp (okA (σb := σb) (code := code) (W := W) (S := S) hs X0 (cLast n u d)) b2
  rw [hc, Option.bind_some, zLd_t (zIn_nI (by omega) (by decide)), nI_clamp (by omega), e _ hL, u1, Option.bind_some]
  refine ⟨τ', rfl, ⟨a, ⟨g.to u2 (fun c f q => u5 c f (by omega) (by omega)), ⟨by rw [u5 t 11 (by omega) (by omega), b1], by rw [u5 t 12 (by omega) (by omega), b2]⟩, fun k hk => by rw [u5 (t + 1) k (by omega) (by omega), u5 (t + 2) k (by omega) (by omega)]; exact b3 k hk⟩, ⟨by rw [u5 t 13 (by omega) (by omega), c1], by rw [u5 t 14 (by omega) (by omega), c2], by rw [u5 t 15 (by omega) (by omega), c3]⟩, fun j hj => by rw [u5 (t + 10) j (by omega) (by omega), e j hj], f⟩, fun q hq => by rw [u3 q hq, hLe q hq], fun k hk => by rw [u4 k hk, yth_congr hLe], u2, u5⟩
theorem c_follow_L (ht : t = 19 ∨ t = 30) (hb : rT s w p σb) (hl : cLw σb tl code) {X0 : Nat → Int32} {n : Nat} (hn : 1 ≤ n ∧ n ≤ 60) : ∀ (f i : Nat) (τ : ZSt), n < f + i → i ≤ n → cW σb s p tl t W S (yI σb code W S s p X0 i).1 (yI σb code W S s p X0 i).2 τ → τ.1 t 13 = nI n → τ.1 t 14 = nI i → τ.1 t 15 = nI 0 → (∀ j, j < i → τ.1 (t + 10) j = nI (pkN (yA σb code W S s p X0 j) p)) → ∃ τ' u d, s_X8_follow_L53 t tl (nI n) f (nI i) τ = some τ' ∧ cFl σb code s p tl t W S X0 n u d τ' ∧ (∀ q, q < p → τ'.1 (t + 6) q = yA σb code W S s p X0 (n - 1) q) ∧ (∀ k, k < 6 → τ'.1 (t + 3) k = yth (yA σb code W S s p X0 (n - 1)) p k) := by
  have htl := hl.1
  have hs := hb.1.1
  have hp := hb.1.2.2
  intro f
  induction f with
  | zero => intro i τ h1 h2; omega
  | succ f ih =>
    intro i τ h1 h2 hW h13 h14 h15 hpath
    have e5 : (nI n ≤ nI i) = (n ≤ i) := nI_le_n (by omega) (by omega)
    rw [s_X8_follow_L53]
    by_cases hi : n ≤ i
    · have : i = n := by omega
      subst this
      have F : cFl σb code s p tl t W S X0 i i 0 τ := ⟨by omega, ⟨hW.1, hW.2.1, hW.2.2.1⟩, ⟨h13, h14, h15⟩, hpath, Or.inl ⟨rfl, rfl⟩⟩
      obtain ⟨τ', x1, x2, x3, x4, -⟩ := c_end ht htl hs hp F
      rw [if_pos (by rw [e5]; exact hi), s_X8_follow_C119]
      exact ⟨τ', i, 0, x1, x2, x3, x4⟩
    · obtain ⟨τ1, a1, a2, a3⟩ := c_allGo (code := code) ht hb hl hW
      obtain ⟨τ2, p1, p2, p3, p4⟩ := c_pay_L ht htl hs 200 0 τ1 (by omega) (by omega) a2 (fun k hk => absurd hk (Nat.not_lt_zero k))
      have eA : ynx σb code s p ((yI σb code W S s p X0 i).1, (yI σb code W S s p X0 i).2) = yA σb code W S s p X0 i := by
        unfold yA
        rw [yI_succ]
      rw [eA] at p2
      have hAok : okX 6 p (yA σb code W S s p X0 i) := okA hs X0 i
      have pk := c_pk_L (t := t) hp hAok p2.2.1.2 p2.2.2.2.1 200 0 (by omega) (by omega)
      have g12 : ∀ c f, ¬ c = t + 9 → ¬ (c = tl ∧ f = 3) → ¬ c = tl + 2 → ¬ c = t + 7 → ¬ c = t + 6 → ¬ c = t + 3 → ¬ c = t + 4 → τ2.1 c f = τ.1 c f := fun c f q1 q2 q3 q4 q5 q6 q7 => by rw [p4 c f q7, a3.2 c f q1 q2 q3 q4 q5 q6 q7]
      have path2 : ∀ j, j < i + 1 → (zWD τ2 (t + 10) i (nI (pkN (yA σb code W S s p X0 i) p))).1 (t + 10) j = nI (pkN (yA σb code W S s p X0 j) p) := fun j hj => by
        by_cases e : j = i
        · subst e
          rw [wd1, if_pos ⟨rfl, rfl⟩]
        · rw [wd1, if_neg (by omega), g12 (t + 10) j (by omega) (by omega) (by omega) (by omega) (by omega) (by omega) (by omega), hpath j (by omega)]
      obtain ⟨d, s1, s2⟩ := c_since ht (u := i) (by omega) (τ := zWD τ2 (t + 10) i (nI (pkN (yA σb code W S s p X0 i) p))) 200 0 (by omega) (by omega)
      have z15 : ¬ (60 : Int32) ≤ nI i := by rw [i60, nI_leI (by decide) (by omega)]; omega
      rw [if_neg (by rw [e5]; exact hi), if_neg z15, h15, if_pos (by decide), a1, Option.bind_some, show s_X8_payOut t τ1 = some τ2 from p1, Option.bind_some, show s_X8_packed t τ2 = some _ from pk, Option.bind_some, zSg_t (zIn_nI (by omega) (by decide)), nI_clamp (by omega), show s_X8_sinceLikeWeek t (nI i) _ = some _ from s1, Option.bind_some, zSt_e]
      rw [show (zWD (zWD τ2 (t + 10) i (nI (pkN (yA σb code W S s p X0 i) p))) t 15 (nI d)).1 t 15 = nI d by rw [wd1, if_pos ⟨rfl, rfl⟩]]
      have kW : ∀ (τ3 : ZSt), τ3.2 = τ2.2 → (∀ c f, ¬ c = t + 10 → ¬ (c = t ∧ (f = 14 ∨ f = 15)) → τ3.1 c f = τ2.1 c f) → cW σb s p tl t W S (yA σb code W S s p X0 i) (yp W S (yth (yA σb code W S s p X0 i) p)) τ3 := fun τ3 e2 e3 => by
        obtain ⟨q0, ⟨q1, q2⟩, q3, q4, q5, q6⟩ := p2
        refine ⟨q0.to e2 (fun c f q => e3 c f (by omega) (by omega)), ⟨by rw [e3 t 11 (by omega) (by omega), q1], by rw [e3 t 12 (by omega) (by omega), q2]⟩, fun k hk => ?_, fun q hq => ?_, fun k hk => ?_, fun k hk => ?_⟩
        · rw [e3 (t + 1) k (by omega) (by omega), e3 (t + 2) k (by omega) (by omega)]
          exact q3 k hk
        · rw [e3 (t + 6) q (by omega) (by omega), q4 q hq]
        · rw [e3 (t + 3) k (by omega) (by omega), q5 k hk]
        · rw [e3 (t + 4) k (by omega) (by omega), q6 k hk]
      by_cases hd : d = 0
      · subst hd
        rw [if_pos (by decide), zSt_e, nI_1]
        refine ih (i + 1) _ (by omega) (by omega) ?_ ?_ ?_ ?_ ?_
        · have := kW (zWD (zWD (zWD τ2 (t + 10) i (nI (pkN (yA σb code W S s p X0 i) p))) t 15 (nI 0)) t 14 (nI (i + 1))) rfl (fun c f q1 q2 => by rw [wd1, if_neg (by omega), wd1, if_neg (by omega), wd1, if_neg (by omega)])
          rw [yI_succ, eA]
          exact this
        · rw [wd1, if_neg (by omega), wd1, if_neg (by omega), wd1, if_neg (by omega), g12 t 13 (by omega) (by omega) (by omega) (by omega) (by omega) (by omega) (by omega), h13]
        · rw [wd1, if_pos ⟨rfl, rfl⟩]
        · rw [wd1, if_neg (by omega), wd1, if_pos ⟨rfl, rfl⟩]
        · intro j hj
          rw [wd1, if_neg (by omega), wd1, if_neg (by omega)]
          exact path2 j hj
      · obtain ⟨d1, d2, d3⟩ : 0 < d ∧ d ≤ i ∧ _ := s2.resolve_left hd
        have nd : ¬ nI d = 0 := by rw [i0, nI_eq (by omega) (by omega)]; omega
        rw [if_neg nd, nI_1]
        have eq : ∀ q, q < p → yA σb code W S s p X0 i q = yA σb code W S s p X0 (i - d) q := by
          rw [path2 (i - d) (by omega), path2 i (by omega)] at d3
          have b1 := pkN_b hp hAok
          have b2 := pkN_b hp (okA (σb := σb) (code := code) (W := W) (S := S) (p := p) hs X0 (i - d))
          have := (nI_eq (by omega) (by omega)).mp d3
          intro q hq
          exact (pkN_inj (okA hs X0 (i - d)) hAok this q hq).symm
        have F : cFl σb code s p tl t W S X0 n i d (zWD (zWD τ2 (t + 10) i (nI (pkN (yA σb code W S s p X0 i) p))) t 15 (nI d)) := by
          have kk := kW (zWD (zWD τ2 (t + 10) i (nI (pkN (yA σb code W S s p X0 i) p))) t 15 (nI d)) rfl (fun c f q1 q2 => by rw [wd1, if_neg (by omega), wd1, if_neg (by omega)])
          refine ⟨by omega, ⟨kk.1, kk.2.1, kk.2.2.1⟩, ⟨?_, ?_, ?_⟩, fun j hj => ?_, Or.inr ⟨d1, d2, by omega, eq⟩⟩
          · rw [wd1, if_neg (by omega), wd1, if_neg (by omega), g12 t 13 (by omega) (by omega) (by omega) (by omega) (by omega) (by omega) (by omega), h13]
          · rw [wd1, if_neg (by omega), wd1, if_neg (by omega), g12 t 14 (by omega) (by omega) (by omega) (by omega) (by omega) (by omega) (by omega), h14]
          · rw [wd1, if_pos ⟨rfl, rfl⟩]
          · rw [wd1, if_neg (by omega)]
            exact path2 j (by omega)
        obtain ⟨τ', x1, x2, x3, x4, -⟩ := c_end ht htl hs hp F
        obtain ⟨f', rfl⟩ : ∃ f', f = f' + 1 := ⟨f - 1, by omega⟩
        have e6 : (nI n ≤ nI (i + 1)) = (n ≤ i + 1) := nI_le_n (by omega) (by omega)
        refine ⟨τ', i, d, ?_, x2, x3, x4⟩
        rw [s_X8_follow_L53]
        have C : s_X8_follow_C119 t tl (zWD (zWD τ2 (t + 10) i (nI (pkN (yA σb code W S s p X0 i) p))) t 15 (nI d)) = some τ' := by
          unfold s_X8_follow_C119
          exact x1
        by_cases z1 : n ≤ i + 1
        · rw [if_pos (by rw [e6]; exact z1), C]
        · rw [if_neg (by rw [e6]; exact z1), if_neg (by rw [i60, nI_leI (by decide) (by omega)]; omega), show (zWD (zWD τ2 (t + 10) i (nI (pkN (yA σb code W S s p X0 i) p))) t 15 (nI d)).1 t 15 = nI d by rw [wd1, if_pos ⟨rfl, rfl⟩], if_neg nd, C]
end CWEEK
