/-! WEEKS: the class's settling of all weeks -/
section CWEEK
variable {s w p tl t : Nat} {σb : ZSt} {code : List Int32} {W S : Nat → Int32}
theorem c_how {X0 : Nat → Int32} {n u d : Nat} {τ : ZSt} (h : cFl σb code s p tl t W S X0 n u d τ) {i : Nat} (hi : i < u) : s_X8_howOften t (nI i) τ = some (nI (hw n u d i)) := by
  obtain ⟨⟨a1, a2, a3, a4⟩, -, ⟨b1, b2, b3⟩, -, h5⟩ := h
  have en : nI n - 1 = nI (n - 1) := by rw [i1, nI_sub (by omega) (by omega)]
  unfold s_X8_howOften hw
  rw [b1, b2, b3, en]
  rcases h5 with ⟨rfl, rfl⟩ | ⟨d1, d2, d3, -⟩
  · rw [if_pos (by decide), if_pos rfl]
    rfl
  · rw [if_neg (by rw [i0, nI_leI (by omega) (by omega)]; omega), nI_sub d2 (by omega), if_neg (show ¬ d = 0 by omega)]
    by_cases q : i < u - d
    · rw [if_neg (by rw [nI_leI (by omega) (by omega)]; omega), if_pos q]
      rfl
    · have hd : (n - 1 - i) / d ≤ n - 1 - i := Nat.div_le_self _ _
      rw [if_pos (by rw [nI_leI (by omega) (by omega)]; omega), if_neg (by rw [i0, nI_eq (by omega) (by omega)]; omega), nI_sub (show i ≤ n - 1 by omega) (by omega), nI_div (by omega) (by omega), i1, nI_add, if_neg q]
theorem cFl.to {X0 : Nat → Int32} {n u d : Nat} {τ τ' : ZSt} (ht : t = 19 ∨ t = 30) (htl : tl = 62 ∨ tl = 65) (h : cFl σb code s p tl t W S X0 n u d τ) (e2 : τ'.2 = τ.2) (e : ∀ c f, ¬ c = t + 3 → ¬ c = t + 5 → ¬ c = t + 6 → ¬ c = t + 8 → τ'.1 c f = τ.1 c f) : cFl σb code s p tl t W S X0 n u d τ' := by
  obtain ⟨a, ⟨g, ⟨b1, b2⟩, b3⟩, ⟨c1, c2, c3⟩, f, k⟩ := h
  refine ⟨a, ⟨g.to e2 (fun c f q => e c f (by omega) (by omega) (by omega) (by omega)), ⟨by rw [e t 11 (by omega) (by omega) (by omega) (by omega), b1], by rw [e t 12 (by omega) (by omega) (by omega) (by omega), b2]⟩, fun k hk => by rw [e (t + 1) k (by omega) (by omega) (by omega) (by omega), e (t + 2) k (by omega) (by omega) (by omega) (by omega)]; exact b3 k hk⟩, ⟨by rw [e t 13 (by omega) (by omega) (by omega) (by omega), c1], by rw [e t 14 (by omega) (by omega) (by omega) (by omega), c2], by rw [e t 15 (by omega) (by omega) (by omega) (by omega), c3]⟩, fun j hj => by rw [e (t + 10) j (by omega) (by omega) (by omega) (by omega), f j hj], k⟩
/-- one week is settled, times its number -/
theorem c_set_L (ht : t = 19 ∨ t = 30) (htl : tl = 62 ∨ tl = 65) (hb : rT s w p σb) (hWr : ∀ k, k < s → inR (W k) 0 4) {X0 : Nat → Int32} {n u d : Nat} {X : Nat → Int32} (hXo : okX s p X) {i : Nat} (hi : i < u) (K : Int32 → ZSt → Option ZSt) (c0 e0 : Nat → Int32) : ∀ (m j : Nat) (τ : ZSt), p < m + j → j ≤ p → cFl σb code s p tl t W S X0 n u d τ → (∀ q, q < p → τ.1 (t + 6) q = X q) → (∀ k, k < 6 → τ.1 (t + 5) k = c0 k + nI (hw n u d i) * yco σb W S X p k j) → (∀ q, q < p → τ.1 (t + 8) q = if q < j then e0 q + nI (hw n u d i) * yer σb W S X p q else e0 q) → ∃ τ', s_X8_settleAll_L64 t K (nI i) m (nI j) τ = K (nI i + 1) τ' ∧ cFl σb code s p tl t W S X0 n u d τ' ∧ (∀ k, k < 6 → τ'.1 (t + 5) k = c0 k + nI (hw n u d i) * yco σb W S X p k p) ∧ (∀ q, q < p → τ'.1 (t + 8) q = e0 q + nI (hw n u d i) * yer σb W S X p q) := by
  have hs := hb.1.1
  have hp := hb.1.2.2
  intro m
  induction m with
  | zero => intro j τ h1 h2; omega
  | succ m ih =>
    intro j τ h1 h2 hF hX hc he
    obtain ⟨-, ⟨g, ⟨b1, b2⟩, b3⟩, -⟩ := id hF
    have e5 : (nI p ≤ nI j) = (p ≤ j) := nI_le_n (by omega) (by omega)
    rw [s_X8_settleAll_L64, b2]
    by_cases hj : p ≤ j
    · have : j = p := by omega
      subst this
      rw [if_pos (by rw [e5]; exact hj)]
      exact ⟨τ, rfl, hF, hc, fun q hq => by rw [he q hq, if_pos hq]⟩
    · have hz := zIn_nI (a := j) (n := 8) (by omega) (by decide)
      have hcl := nI_clamp (n := j) (by omega)
      rw [if_neg (by rw [e5]; exact hj), s_X8_isSomewhere, zLd_t hz, zLd_t hz, hcl, hX j (by omega)]
      rcases hXo j (by omega) with e | ⟨k, hk, e⟩
      · rw [e, if_pos (by decide), Option.bind_some, if_pos rfl, nI_1]
        refine ih (j + 1) τ (by omega) (by omega) hF hX (fun k hk => ?_) (fun q hq => ?_)
        · rw [hc k hk, yco, e, if_neg (fun z => ne1 (by omega) z.symm)]
        · rw [he q hq]
          by_cases z : q < j
          · rw [if_pos z, if_pos (by omega)]
          · rw [if_neg z]
            by_cases z2 : q = j
            · subst z2
              rw [if_pos (by omega)]
              unfold yer
              rw [if_pos e, Int32.mul_zero, Int32.add_zero]
            · rw [if_neg (by omega)]
      · have hset := c_settle (S := S) ht htl hb hWr g b2 b3 hX (show j < p by omega) hk (nI (hw n u d i))
        rw [e, if_neg (nlt0 (by omega)), if_neg (by rw [i6, nI_leI (by decide) (by omega)]; omega), Option.bind_some, if_neg (by decide), zLd_t hz, c_how hF hi, Option.bind_some, hset, Option.bind_some, nI_1]
        obtain ⟨τ', a1, a2, a3, a4⟩ := ih (j + 1) (zWD (zWD τ (t + 5) k (τ.1 (t + 5) k + nI (hw n u d i) * ((yh σb W X p k j + yg σb W S X p k j) + ys σb W k))) (t + 8) j (τ.1 (t + 8) j + nI (hw n u d i) * ((yk σb W X p k j + yg σb W S X p k j) - σb.1 11 j))) (by omega) (by omega) (hF.to ht htl rfl (fun c f q1 q2 q3 q4 => by rw [wd1, if_neg (by omega), wd1, if_neg (by omega)])) (fun q hq => by rw [wd1, if_neg (by omega), wd1, if_neg (by omega), hX q hq]) (fun k' hk' => by
          rw [wd1, if_neg (by omega), wd1]
          have ey : yco σb W S X p k' (j + 1) = if X j = nI k' then yco σb W S X p k' j + ((yh σb W X p k' j + yg σb W S X p k' j) + ys σb W k') else yco σb W S X p k' j := by rw [yco]
          rw [ey, e]
          by_cases z : k' = k
          · subst z
            rw [if_pos ⟨rfl, rfl⟩, if_pos rfl, hc k' hk']
            grind
          · rw [if_neg (fun y => z y.2), if_neg (fun y => z ((nI_eq (by omega) (by omega)).mp y).symm), hc k' hk']) (fun q hq => by
          rw [wd1]
          by_cases z : q = j
          · subst z
            rw [if_pos ⟨rfl, rfl⟩, if_pos (by omega), he q hq, if_neg (by omega)]
            have ee : yer σb W S X p q = (yk σb W X p k q + yg σb W S X p k q) - σb.1 11 q := by
              unfold yer
              rw [e, if_neg (ne1 (by omega)), nI_clamp (by omega)]
            rw [ee]
          · rw [if_neg (fun y => z y.2), wd1, if_neg (by omega), he q hq]
            by_cases z2 : q < j
            · rw [if_pos z2, if_pos (by omega)]
            · rw [if_neg z2, if_neg (by omega)])
        exact ⟨τ', a1, a2, a3, a4⟩
theorem c_all_L (ht : t = 19 ∨ t = 30) (htl : tl = 62 ∨ tl = 65) (hb : rT s w p σb) (hWr : ∀ k, k < s → inR (W k) 0 4) {X0 : Nat → Int32} {n u d : Nat} : ∀ (m i : Nat) (τ : ZSt), u < m + i → i ≤ u → cFl σb code s p tl t W S X0 n u d τ → (∀ k, k < 6 → τ.1 (t + 5) k = sm (fun i => nI (hw n u d i)) (fun i => yco σb W S (yA σb code W S s p X0 i) p k p) i) → (∀ q, q < p → τ.1 (t + 8) q = sm (fun i => nI (hw n u d i)) (fun i => yer σb W S (yA σb code W S s p X0 i) p q) i) → ∃ τ', s_X8_settleAll_L44 t m (nI i) τ = some τ' ∧ cFl σb code s p tl t W S X0 n u d τ' ∧ (∀ q, q < p → τ'.1 (t + 6) q = yA σb code W S s p X0 (n - 1) q) ∧ (∀ k, k < 6 → τ'.1 (t + 3) k = yth (yA σb code W S s p X0 (n - 1)) p k) ∧ (∀ k, k < 6 → τ'.1 (t + 5) k = sm (fun i => nI (hw n u d i)) (fun i => yco σb W S (yA σb code W S s p X0 i) p k p) u) ∧ (∀ q, q < p → τ'.1 (t + 8) q = sm (fun i => nI (hw n u d i)) (fun i => yer σb W S (yA σb code W S s p X0 i) p q) u) := by
  have hs := hb.1.1
  have hp := hb.1.2.2
  intro m
  induction m with
  | zero => intro i τ h1 h2; omega
  | succ m ih =>
    intro i τ h1 h2 hF hc he
    obtain ⟨⟨a1, a2, a3, a4⟩, ⟨g, ⟨b1, b2⟩, b3⟩, ⟨d1, d2, d3⟩, hpath, -⟩ := id hF
    have e5 : (nI u ≤ nI i) = (u ≤ i) := nI_le_n (by omega) (by omega)
    rw [s_X8_settleAll_L44, d2]
    by_cases hi : u ≤ i
    · have : i = u := by omega
      subst this
      obtain ⟨τ', x1, x2, x3, x4, x5, x6⟩ := c_end ht htl hs hp hF
      rw [if_pos (by rw [e5]; exact hi), s_X8_settleAll_C108]
      exact ⟨τ', x1, x2, x3, x4, fun k hk => by rw [x6 (t + 5) k (by omega) (by omega), hc k hk], fun q hq => by rw [x6 (t + 8) q (by omega) (by omega), he q hq]⟩
    · have hXo : okX s p (yA σb code W S s p X0 i) := by
        unfold yA
        rw [yI_succ]
        exact okX_nx _ _ _ _ _
      obtain ⟨τ1, u1, u2, u3, u4, u5⟩ := c_unpack ht hp (okX6 hs hXo) b2
      rw [if_neg (by rw [e5]; exact hi), zLd_t (zIn_nI (by omega) (by decide)), nI_clamp (by omega), hpath i (by omega), u1, Option.bind_some]
      have hF1 : cFl σb code s p tl t W S X0 n u d τ1 := hF.to ht htl u2 (fun c f q1 q2 q3 q4 => u5 c f q3 q1)
      obtain ⟨τ2, v1, v2, v3, v4⟩ := c_set_L (code := code) ht htl hb hWr hXo (i := i) (by omega) (s_X8_settleAll_L44 t m) (fun k => sm (fun i => nI (hw n u d i)) (fun i => yco σb W S (yA σb code W S s p X0 i) p k p) i) (fun q => sm (fun i => nI (hw n u d i)) (fun i => yer σb W S (yA σb code W S s p X0 i) p q) i) 200 0 τ1 (by omega) (by omega) hF1 u3 (fun k hk => by
        rw [u5 (t + 5) k (by omega) (by omega), hc k hk]
        show _ = _ + _ * (0 : Int32)
        rw [Int32.mul_zero, Int32.add_zero]) (fun q hq => by rw [u5 (t + 8) q (by omega) (by omega), he q hq, if_neg (by omega)])
      obtain ⟨τ', x1, x2⟩ := ih (i + 1) τ2 (by omega) (by omega) v2 (fun k hk => by rw [v3 k hk, sm]) (fun q hq => by rw [v4 q hq, sm])
      exact ⟨τ', v1.trans (by rw [nI_1]; exact x1), x2⟩
theorem c_z8_L (ht : t = 19 ∨ t = 30) : ∀ (m i : Nat) (τ : ZSt), 8 < m + i → i ≤ 8 → (∀ q, q < i → τ.1 (t + 8) q = 0) → ∃ τ', s_X8_settleAll_L23 t m (nI i) τ = s_X8_settleAll_L44 t 200 0 τ' ∧ τ'.2 = τ.2 ∧ (∀ q, q < 8 → τ'.1 (t + 8) q = 0) ∧ ∀ c f, ¬ c = t + 8 → τ'.1 c f = τ.1 c f := by
  intro m
  induction m with
  | zero => intro i τ h1 h2; omega
  | succ m ih =>
    intro i τ h1 h2 h
    have e5 : ((8 : Int32) ≤ nI i) = (8 ≤ i) := by rw [i8]; exact nI_le_n (by omega) (by omega)
    rw [s_X8_settleAll_L23]
    by_cases hi : 8 ≤ i
    · rw [if_pos (by rw [e5]; exact hi)]
      exact ⟨τ, rfl, rfl, fun q hq => h q (by omega), fun _ _ _ => rfl⟩
    · rw [if_neg (by rw [e5]; exact hi), zSg_t (zIn_nI (by omega) (by decide)), nI_clamp (by omega), nI_1]
      obtain ⟨τ', a1, a2, a3, a4⟩ := ih (i + 1) (zWD τ (t + 8) i 0) (by omega) (by omega) (fun q hq => by
        rw [wd1]
        by_cases e : q = i
        · rw [if_pos ⟨rfl, e⟩]
        · rw [if_neg (fun y => e y.2), h q (by omega)])
      exact ⟨τ', a1, a2, a3, fun c f q => by rw [a4 c f q, wd1, if_neg (by omega)]⟩
theorem c_z6_L (ht : t = 19 ∨ t = 30) : ∀ (m i : Nat) (τ : ZSt), 6 < m + i → i ≤ 6 → (∀ q, q < i → τ.1 (t + 5) q = 0) → ∃ τ', s_X8_settleAll_L2 t m (nI i) τ = s_X8_settleAll_L23 t 200 0 τ' ∧ τ'.2 = τ.2 ∧ (∀ q, q < 6 → τ'.1 (t + 5) q = 0) ∧ ∀ c f, ¬ c = t + 5 → τ'.1 c f = τ.1 c f := by
  intro m
  induction m with
  | zero => intro i τ h1 h2; omega
  | succ m ih =>
    intro i τ h1 h2 h
    have e5 : ((6 : Int32) ≤ nI i) = (6 ≤ i) := by rw [i6]; exact nI_le_n (by omega) (by omega)
    rw [s_X8_settleAll_L2]
    by_cases hi : 6 ≤ i
    · rw [if_pos (by rw [e5]; exact hi)]
      exact ⟨τ, rfl, rfl, fun q hq => h q (by omega), fun _ _ _ => rfl⟩
    · rw [if_neg (by rw [e5]; exact hi), zSg_t (zIn_nI (by omega) (by decide)), nI_clamp (by omega), nI_1]
      obtain ⟨τ', a1, a2, a3, a4⟩ := ih (i + 1) (zWD τ (t + 5) i 0) (by omega) (by omega) (fun q hq => by
        rw [wd1]
        by_cases e : q = i
        · rw [if_pos ⟨rfl, e⟩]
        · rw [if_neg (fun y => e y.2), h q (by omega)])
      exact ⟨τ', a1, a2, a3, fun c f q => by rw [a4 c f q, wd1, if_neg (by omega)]⟩
/-- what settled weeks come to: each week once -/
theorem sm_weeks {X0 : Nat → Int32} {n u d : Nat} {τ : ZSt} (h : cFl σb code s p tl t W S X0 n u d τ) (f : (Nat → Int32) → Int32) (hf : ∀ X X', (∀ q, q < p → X q = X' q) → f X = f X') : sm (fun i => nI (hw n u d i)) (fun i => f (yA σb code W S s p X0 i)) u = s1 (fun i => f (yA σb code W S s p X0 i)) n := by
  obtain ⟨⟨a1, a2, a3, a4⟩, -, -, -, h5⟩ := h
  rcases h5 with ⟨rfl, rfl⟩ | ⟨d1, d2, d3, d4⟩
  · refine sm_one u (fun i hi => ?_)
    unfold hw
    rw [if_pos rfl]
    rfl
  · have := sm_all (f := fun i => f (yA σb code W S s p X0 i)) d1 d2 (fun m => hf _ _ (yA_mod (f := u - d) d1 (fun q hq => by rw [show u - d + d = u by omega]; exact d4 q hq) m)) (n - u)
    rw [show u + (n - u) = n by omega] at this
    exact this
theorem c_settleAll (ht : t = 19 ∨ t = 30) (htl : tl = 62 ∨ tl = 65) (hb : rT s w p σb) (hWr : ∀ k, k < s → inR (W k) 0 4) {X0 : Nat → Int32} {n u d : Nat} {τ : ZSt} (hF : cFl σb code s p tl t W S X0 n u d τ) : ∃ τ', s_X8_settleAll t τ = some τ' ∧ cFl σb code s p tl t W S X0 n u d τ' ∧ (∀ q, q < p → τ'.1 (t + 6) q = yA σb code W S s p X0 (n - 1) q) ∧ (∀ k, k < 6 → τ'.1 (t + 3) k = yth (yA σb code W S s p X0 (n - 1)) p k) ∧ (∀ k, k < 6 → τ'.1 (t + 5) k = s1 (fun i => yco σb W S (yA σb code W S s p X0 i) p k p) n) ∧ (∀ q, q < p → τ'.1 (t + 8) q = s1 (fun i => yer σb W S (yA σb code W S s p X0 i) p q) n) := by
  have hp := hb.1.2.2
  obtain ⟨τ1, a1, a2, a3, a4⟩ := c_z6_L ht 200 0 τ (by omega) (by omega) (fun q hq => absurd hq (Nat.not_lt_zero q))
  obtain ⟨τ2, b1, b2, b3, b4⟩ := c_z8_L ht 200 0 τ1 (by omega) (by omega) (fun q hq => absurd hq (Nat.not_lt_zero q))
  have hF2 : cFl σb code s p tl t W S X0 n u d τ2 := hF.to ht htl (b2.trans a2) (fun c f q1 q2 q3 q4 => by rw [b4 c f q4, a4 c f q2])
  obtain ⟨τ', c1, c2, c3, c4, c5, c6⟩ := c_all_L (code := code) ht htl hb hWr 200 0 τ2 (by have := hF.1; omega) (Nat.zero_le _) hF2 (fun k hk => by rw [b4 (t + 5) k (by omega), a3 k hk]; rfl) (fun q hq => by rw [b3 q (by omega)]; rfl)
  refine ⟨τ', ?_, c2, c3, c4, fun k hk => ?_, fun q hq => ?_⟩
  · unfold s_X8_settleAll
    exact a1.trans (b1.trans c1)
  · rw [c5 k hk]
    exact sm_weeks hF (fun X => yco σb W S X p k p) (fun X X' e => yco_congr e p (Nat.le_refl _))
  · rw [c6 q hq]
    exact sm_weeks hF (fun X => yer σb W S X p q) (fun X X' e => yer_congr e hq)
end CWEEK
