/-! WEEKS, the model: what is there, the weeks -/
theorem yer_at {σb : ZSt} {W S X : Nat → Int32} {p q k : Nat} (h : X q = nI k) (hk : k < 6) : yer σb W S X p q = (yk σb W X p k q + yg σb W S X p k q) - σb.1 11 q := by
  unfold yer
  rw [h, if_neg (ne1 (by omega)), nI_clamp (by omega)]
section MWEEK
variable {s w p : Nat} {σb : ZSt} {code : List Int32} {W S : Nat → Int32}
theorem m_ct_L (hs : s ≤ 6) (hp : p ≤ 8) {X : Nat → Int32} (hXo : okX s p X) : ∀ (n j : Nat) (τ : ZSt), p < n + j → j ≤ p → τ.1 68 13 = nI p → (∀ q, q < p → τ.1 85 q = X q) → (∀ k, k < s → τ.1 87 k = nI (yt X k j)) → ∃ τ', s_X10_countsThere_L25 n (nI j) τ = some τ' ∧ (∀ k, k < s → τ'.1 87 k = yth X p k) ∧ ∀ c f, ¬ c = 87 → τ'.1 c f = τ.1 c f := by
  intro n
  induction n with
  | zero => intro j τ h1 h2; omega
  | succ n ih =>
    intro j τ h1 h2 h13 hX h87
    have e5 : (nI p ≤ nI j) = (p ≤ j) := nI_le_n (by omega) (by omega)
    rw [s_X10_countsThere_L25, h13]
    by_cases hj : p ≤ j
    · have : j = p := by omega
      subst this
      rw [if_pos (by rw [e5]; exact hj)]
      exact ⟨τ, rfl, h87, fun _ _ _ => rfl⟩
    · have hz8 := zIn_nI (a := j) (n := 8) (by omega) (by decide)
      rw [if_neg (by rw [e5]; exact hj), zLd_t hz8, nI_clamp (n := j) (by omega), hX j (by omega), nI_1]
      rcases hXo j (by omega) with e | ⟨k, hk, e⟩
      · rw [e, if_pos (by decide)]
        exact ih (j + 1) τ (by omega) (by omega) h13 hX (fun k hk => by rw [h87 k hk, yt, if_neg (by rw [e]; exact fun y => ne1 (n := k) (by omega) y.symm)])
      · have hz := zIn_nI (a := k) (n := 6) (by omega) (by decide)
        rw [e, if_neg (nlt0 (by omega)), zLd_t hz8, zLd_t hz, zSg_t hz, nI_clamp (n := k) (by omega), h87 k hk, nI_1]
        obtain ⟨τ', a1, a2, a3⟩ := ih (j + 1) (zWD τ 87 k (nI (yt X k j + 1))) (by omega) (by omega) (by rw [wd1, if_neg (by omega), h13]) (fun q hq => by rw [wd1, if_neg (by omega), hX q hq]) (fun k' hk' => by
          rw [wd1, yt, e]
          by_cases z : k' = k
          · subst z
            rw [if_pos ⟨rfl, rfl⟩, if_pos rfl]
          · rw [if_neg (fun y => z y.2), if_neg (fun y => z ((nI_eq (by omega) (by omega)).mp y).symm), h87 k' hk'])
        exact ⟨τ', a1, a2, fun c f q => by rw [a3 c f q, wd1, if_neg (by omega)]⟩
theorem m_cz_L (hs : s ≤ 6) : ∀ (n j : Nat) (τ : ZSt), s < n + j → j ≤ s → τ.1 68 6 = nI s → (∀ k, k < j → τ.1 87 k = 0) → ∃ τ', s_X10_countsThere_L2 n (nI j) τ = s_X10_countsThere_L25 200 0 τ' ∧ (∀ k, k < s → τ'.1 87 k = 0) ∧ ∀ c f, ¬ c = 87 → τ'.1 c f = τ.1 c f := by
  intro n
  induction n with
  | zero => intro j τ h1 h2; omega
  | succ n ih =>
    intro j τ h1 h2 h6 h87
    have e5 : (nI s ≤ nI j) = (s ≤ j) := nI_le_n (by omega) (by omega)
    rw [s_X10_countsThere_L2, h6]
    by_cases hj : s ≤ j
    · have : j = s := by omega
      subst this
      rw [if_pos (by rw [e5]; exact hj)]
      exact ⟨τ, rfl, h87, fun _ _ _ => rfl⟩
    · rw [if_neg (by rw [e5]; exact hj), zSg_t (zIn_nI (by omega) (by decide)), nI_clamp (by omega), nI_1]
      obtain ⟨τ', a1, a2, a3⟩ := ih (j + 1) (zWD τ 87 j 0) (by omega) (by omega) (by rw [wd1, if_neg (by omega), h6]) (fun k hk => by
        rw [wd1]
        by_cases z : k = j
        · rw [if_pos ⟨rfl, z⟩]
        · rw [if_neg (fun y => z y.2), h87 k (by omega)])
      exact ⟨τ', a1, a2, fun c f q => by rw [a3 c f q, wd1, if_neg (by omega)]⟩
theorem m_count (hb : rT s w p σb) {X : Nat → Int32} (hXo : okX s p X) {τ : ZSt} (K : mK σb τ s W S) (hX : ∀ q, q < p → τ.1 85 q = X q) : ∃ τ', s_X10_countsThere τ = some τ' ∧ (∀ k, k < s → τ'.1 87 k = yth X p k) ∧ ∀ c f, ¬ c = 87 → τ'.1 c f = τ.1 c f := by
  have hs := hb.1.1
  have hp := hb.1.2.2
  obtain ⟨τ1, a1, a2, a3⟩ := m_cz_L hs 200 0 τ (by omega) (Nat.zero_le _) (by rw [K.1 68 6 (by omega), hb.2.1.2.1]) (fun k hk => absurd hk (Nat.not_lt_zero k))
  obtain ⟨τ2, b1, b2, b3⟩ := m_ct_L hs hp hXo 200 0 τ1 (by omega) (Nat.zero_le _) (by rw [a3 68 13 (by omega), K.1 68 13 (by omega), hb.2.1.2.2.2.2.2]) (fun q hq => by rw [a3 85 q (by omega), hX q hq]) (fun k hk => by rw [a2 k hk]; rfl)
  exact ⟨τ2, a1.trans b1, b2, fun c f q => by rw [b3 c f q, a3 c f q]⟩
/-- all streets of a week -/
theorem m_all_L (hb : rT s w p σb) (hWr : ∀ k, k < s → inR (W k) 0 4) {X : Nat → Int32} (hXo : okX s p X) (A B : Nat → Int32) (kk : Int32 → ZSt → Option ZSt) (l1 : Int32) (i : Nat) : ∀ (n j : Nat) (τ : ZSt), s < n + j → j ≤ s → mK σb τ s W S → (∀ q, q < p → τ.1 85 q = X q) → (∀ k, k < j → τ.1 88 k = yp W S (yth X p) k) → (∀ k, k < s → τ.1 89 k = if k < j then A k + yco σb W S X p k p else A k) → (∀ q, q < p → τ.1 90 q = B q + (if (∃ k, k < j ∧ X q = nI k) then yer σb W S X p q else 0)) → ∃ τ', s_X10_goesWeeks_L82 kk l1 (nI i) n (nI j) τ = kk (nI (i + 1)) τ' ∧ mK σb τ' s W S ∧ (∀ q, q < p → τ'.1 85 q = X q) ∧ (∀ k, k < s → τ'.1 87 k = yth X p k) ∧ (∀ k, k < s → τ'.1 88 k = yp W S (yth X p) k) ∧ (∀ k, k < s → τ'.1 89 k = A k + yco σb W S X p k p) ∧ (∀ q, q < p → τ'.1 90 q = B q + yer σb W S X p q) ∧ ∀ c f, ¬ (84 ≤ c ∧ c ≤ 90) → ¬ (c = 68 ∧ 22 ≤ f ∧ f ≤ 26) → τ'.1 c f = τ.1 c f := by
  have hs := hb.1.1
  have hp := hb.1.2.2
  intro n
  induction n with
  | zero => intro j τ h1 h2; omega
  | succ n ih =>
    intro j τ h1 h2 K hX h88 h89 h90
    have e5 : (nI s ≤ nI j) = (s ≤ j) := nI_le_n (by omega) (by omega)
    rw [s_X10_goesWeeks_L82, show τ.1 68 6 = nI s by rw [K.1 68 6 (by omega), hb.2.1.2.1]]
    by_cases hj : s ≤ j
    · have : j = s := by omega
      subst this
      obtain ⟨τ', a1, a2, a3⟩ := m_count hb hXo K hX
      rw [if_pos (by rw [e5]; exact hj), a1, Option.bind_some, nI_1]
      refine ⟨τ', rfl, K.to (fun c f q1 q2 => a3 c f (by omega)), fun q hq => by rw [a3 85 q (by omega), hX q hq], a2, fun k hk => by rw [a3 88 k (by omega), h88 k hk], fun k hk => by rw [a3 89 k (by omega), h89 k hk, if_pos hk], fun q hq => ?_, fun c f q1 q2 => a3 c f (by omega)⟩
      rw [a3 90 q (by omega), h90 q hq]
      rcases hXo q hq with e | ⟨k, hk, e⟩
      · have e0 : yer σb W S X p q = 0 := by unfold yer; rw [if_pos e]
        rw [e0]
        by_cases z : ∃ k, k < j ∧ X q = nI k
        · rw [if_pos z]
        · rw [if_neg z]
      · rw [if_pos ⟨k, hk, e⟩]
    · obtain ⟨τ1, a1, a2, a3, a4, a5⟩ := m_sw (S := S) hb (show j < s by omega) (hWr j (by omega)) (A j) (fun q => B q + (if (∃ k, k < j ∧ X q = nI k) then yer σb W S X p q else 0)) K hX (by rw [h89 j (by omega), if_neg (by omega)]) h90
      rw [if_neg (by rw [e5]; exact hj), a1, Option.bind_some, nI_1]
      obtain ⟨τ', b1, b2, b3, b4, b5, b6, b7, b8⟩ := ih (j + 1) τ1 (by omega) (by omega) (K.to (fun c f q1 q2 => a5 c f (by omega) (by omega) (by omega))) (fun q hq => by rw [a5 85 q (by omega) (by omega) (by omega), hX q hq]) (fun k hk => by
        by_cases z : k = j
        · rw [z, a2]
        · rw [a5 88 k (by omega) (by omega) (by omega), h88 k (by omega)]) (fun k hk => by
        by_cases z : k = j
        · subst z
          rw [a3, if_pos (by omega)]
        · rw [a5 89 k (by omega) (by omega) (by omega), h89 k hk]
          by_cases y : k < j
          · rw [if_pos y, if_pos (by omega)]
          · rw [if_neg y, if_neg (by omega)]) (fun q hq => by
        rw [a4 q hq]
        by_cases z : X q = nI j
        · rw [if_pos z, if_neg (show ¬ ∃ k, k < j ∧ X q = nI k from fun ⟨k, k1, k2⟩ => by
            rw [z, nI_eq (by omega) (by omega)] at k2
            omega), if_pos (show ∃ k, k < j + 1 ∧ X q = nI k from ⟨j, by omega, z⟩), yer_at z (by omega), Int32.add_zero]
        · rw [if_neg z, Int32.add_zero]
          by_cases y : ∃ k, k < j ∧ X q = nI k
          · rw [if_pos y, if_pos (y.elim fun k u => ⟨k, by omega, u.2⟩)]
          · rw [if_neg y, if_neg]
            rintro ⟨k, k1, k2⟩
            by_cases e : k = j
            · exact z (e ▸ k2)
            · exact y ⟨k, by omega, k2⟩)
      exact ⟨τ', b1, b2, b3, b4, b5, b6, b7, fun c f q1 q2 => by rw [b8 c f q1 q2, a5 c f (by omega) (by omega) (by omega)]⟩
theorem okX_I (X0 : Nat → Int32) (h0 : okX s p X0) : ∀ i, okX s p (yI σb code W S s p X0 i).1
  | 0 => h0
  | i + 1 => by
    rw [yI_succ]
    exact okX_nx _ _ _ _ _
theorem m_wk_L (hb : rT s w p σb) (hl : mLw σb code) (hWr : ∀ k, k < s → inR (W k) 0 4) (X0 : Nat → Int32) {n : Nat} (hn : n ≤ 60) : ∀ (m i : Nat) (τ : ZSt), n < m + i → i ≤ n → mK σb τ s W S → (∀ q, q < p → τ.1 85 q = (yI σb code W S s p X0 i).1 q) → (∀ k, k < s → τ.1 87 k = yth (yI σb code W S s p X0 i).1 p k) → (∀ k, k < s → τ.1 88 k = (yI σb code W S s p X0 i).2 k) → (∀ k, k < s → τ.1 89 k = s1 (fun i => yco σb W S (yA σb code W S s p X0 i) p k p) i) → (∀ q, q < p → τ.1 90 q = s1 (fun i => yer σb W S (yA σb code W S s p X0 i) p q) i) → ∃ τ', s_X10_goesWeeks_L71 (nI n) m (nI i) τ = some τ' ∧ (∀ q, q < p → τ'.1 85 q = (yI σb code W S s p X0 n).1 q) ∧ (∀ k, k < s → τ'.1 87 k = yth (yI σb code W S s p X0 n).1 p k) ∧ (∀ k, k < s → τ'.1 89 k = s1 (fun i => yco σb W S (yA σb code W S s p X0 i) p k p) n) ∧ (∀ q, q < p → τ'.1 90 q = s1 (fun i => yer σb W S (yA σb code W S s p X0 i) p q) n) ∧ ∀ c f, ¬ (84 ≤ c ∧ c ≤ 90) → ¬ (c = 68 ∧ 22 ≤ f ∧ f ≤ 26) → τ'.1 c f = τ.1 c f := by
  have hs := hb.1.1
  have hp := hb.1.2.2
  intro m
  induction m with
  | zero => intro i τ h1 h2; omega
  | succ m ih =>
    intro i τ h1 h2 K h85 h87 h88 h89 h90
    have e5 : (nI n ≤ nI i) = (n ≤ i) := nI_le_n (by omega) (by omega)
    rw [s_X10_goesWeeks_L71]
    by_cases hi : n ≤ i
    · have : i = n := by omega
      subst this
      rw [if_pos (by rw [e5]; exact hi)]
      exact ⟨τ, rfl, h85, h87, h89, h90, fun _ _ _ _ => rfl⟩
    · obtain ⟨τ1, a1, a2, a3⟩ := m_allGo (code := code) hb hl K h85 h88 h87
      have eA : ynx σb code s p ((yI σb code W S s p X0 i).1, (yI σb code W S s p X0 i).2) = yA σb code W S s p X0 i := by
        unfold yA
        rw [yI_succ]
      rw [eA] at a2
      have hXo : okX s p (yA σb code W S s p X0 i) := by
        unfold yA
        rw [yI_succ]
        exact okX_nx _ _ _ _ _
      obtain ⟨τ2, b1, b2, b3, b4, b5, b6, b7, b8⟩ := m_all_L (S := S) hb hWr hXo (fun k => s1 (fun i => yco σb W S (yA σb code W S s p X0 i) p k p) i) (fun q => s1 (fun i => yer σb W S (yA σb code W S s p X0 i) p q) i) (s_X10_goesWeeks_L71 (nI n) m) (nI n) i 200 0 τ1 (by omega) (Nat.zero_le _) (K.to (fun c f q1 q2 => a3 c f (by omega) (by omega) (by omega) q2)) a2 (fun k hk => absurd hk (Nat.not_lt_zero k)) (fun k hk => by rw [a3 89 k (by omega) (by omega) (by omega) (by omega), h89 k hk, if_neg (by omega)]) (fun q hq => by rw [a3 90 q (by omega) (by omega) (by omega) (by omega), h90 q hq, if_neg (fun ⟨k, u, _⟩ => absurd u (Nat.not_lt_zero k)), Int32.add_zero])
      obtain ⟨τ', c1, c2, c3, c4, c5, c6⟩ := ih (i + 1) τ2 (by omega) (by omega) b2 (fun q hq => by rw [b3 q hq]; rfl) (fun k hk => by rw [b4 k hk]; rfl) (fun k hk => by rw [b5 k hk, yI_2]) (fun k hk => by rw [b6 k hk, s1]) (fun q hq => by rw [b7 q hq, s1])
      rw [if_neg (by rw [e5]; exact hi), a1, Option.bind_some]
      exact ⟨τ', b1.trans c1, c2, c3, c4, c5, fun c f q1 q2 => by rw [c6 c f q1 q2, b8 c f q1 q2, a3 c f (by omega) (by omega) (by omega) q2]⟩
theorem m_z8_L (hs : s ≤ 6) (l1 : Int32) : ∀ (n j : Nat) (τ : ZSt), s < n + j → j ≤ s → τ.1 68 6 = nI s → (∀ k, k < j → τ.1 88 k = 0 ∧ τ.1 89 k = 0) → ∃ τ', s_X10_goesWeeks_L37 l1 n (nI j) τ = ((s_X10_countsThere τ').bind fun σ1 => (s_X10_goesWeeks_L71 l1 200 (0 : Int32) σ1)) ∧ (∀ k, k < s → τ'.1 88 k = 0 ∧ τ'.1 89 k = 0) ∧ ∀ c f, ¬ c = 88 → ¬ c = 89 → τ'.1 c f = τ.1 c f := by
  intro n
  induction n with
  | zero => intro j τ h1 h2; omega
  | succ n ih =>
    intro j τ h1 h2 h6 h
    have e5 : (nI s ≤ nI j) = (s ≤ j) := nI_le_n (by omega) (by omega)
    rw [s_X10_goesWeeks_L37, h6]
    by_cases hj : s ≤ j
    · have : j = s := by omega
      subst this
      rw [if_pos (by rw [e5]; exact hj)]
      exact ⟨τ, rfl, h, fun _ _ _ _ => rfl⟩
    · have hz := zIn_nI (a := j) (n := 6) (by omega) (by decide)
      rw [if_neg (by rw [e5]; exact hj), zSg_t hz, zSg_t hz, nI_clamp (by omega), nI_1]
      obtain ⟨τ', a1, a2, a3⟩ := ih (j + 1) (zWD (zWD τ 88 j 0) 89 j 0) (by omega) (by omega) (by rw [wd1, if_neg (by omega), wd1, if_neg (by omega), h6]) (fun k hk => by
        rw [wd1, if_neg (by omega), wd1, wd1]
        by_cases z : k = j
        · rw [if_pos ⟨rfl, z⟩, if_pos ⟨rfl, z⟩]
          exact ⟨rfl, rfl⟩
        · rw [if_neg (fun y => z y.2), if_neg (fun y => z y.2), wd1, if_neg (by omega)]
          exact h k (by omega))
      exact ⟨τ', a1, a2, fun c f q1 q2 => by rw [a3 c f q1 q2, wd1, if_neg (by omega), wd1, if_neg (by omega)]⟩
theorem m_z5_L (hp : p ≤ 8) {X0 : Nat → Int32} (l1 : Int32) : ∀ (n j : Nat) (τ : ZSt), p < n + j → j ≤ p → τ.1 68 13 = nI p → (∀ q, q < p → τ.1 81 q = X0 q) → (∀ q, q < j → τ.1 85 q = X0 q ∧ τ.1 90 q = 0) → ∃ τ', s_X10_goesWeeks_L2 l1 n (nI j) τ = s_X10_goesWeeks_L37 l1 200 0 τ' ∧ (∀ q, q < p → τ'.1 85 q = X0 q ∧ τ'.1 90 q = 0) ∧ ∀ c f, ¬ c = 85 → ¬ c = 90 → τ'.1 c f = τ.1 c f := by
  intro n
  induction n with
  | zero => intro j τ h1 h2; omega
  | succ n ih =>
    intro j τ h1 h2 h13 h81 h
    have e5 : (nI p ≤ nI j) = (p ≤ j) := nI_le_n (by omega) (by omega)
    rw [s_X10_goesWeeks_L2, h13]
    by_cases hj : p ≤ j
    · have : j = p := by omega
      subst this
      rw [if_pos (by rw [e5]; exact hj)]
      exact ⟨τ, rfl, h, fun _ _ _ _ => rfl⟩
    · have hz := zIn_nI (a := j) (n := 8) (by omega) (by decide)
      rw [if_neg (by rw [e5]; exact hj), zLd_t hz, zSg_t hz, zSg_t hz, nI_clamp (by omega), h81 j (by omega), nI_1]
      obtain ⟨τ', a1, a2, a3⟩ := ih (j + 1) (zWD (zWD τ 85 j (X0 j)) 90 j 0) (by omega) (by omega) (by rw [wd1, if_neg (by omega), wd1, if_neg (by omega), h13]) (fun q hq => by rw [wd1, if_neg (by omega), wd1, if_neg (by omega), h81 q hq]) (fun k hk => by
        rw [wd1, if_neg (by omega), wd1, wd1]
        by_cases z : k = j
        · rw [if_pos ⟨rfl, z⟩, if_pos ⟨rfl, z⟩, z]
          exact ⟨rfl, rfl⟩
        · rw [if_neg (fun y => z y.2), if_neg (fun y => z y.2), wd1, if_neg (by omega)]
          exact h k (by omega))
      exact ⟨τ', a1, a2, fun c f q1 q2 => by rw [a3 c f q1 q2, wd1, if_neg (by omega), wd1, if_neg (by omega)]⟩
theorem m_goes (hb : rT s w p σb) (hl : mLw σb code) (hWr : ∀ k, k < s → inR (W k) 0 4) {X0 : Nat → Int32} (hX0 : ∀ q, q < p → σb.1 13 q = X0 q) {n : Nat} (hn : 1 ≤ n ∧ n ≤ 60) {τ : ZSt} (K : mK σb τ s W S) : ∃ τ', s_X10_goesWeeks (nI n) τ = some τ' ∧ (∀ q, q < p → τ'.1 85 q = yA σb code W S s p X0 (n - 1) q) ∧ (∀ k, k < s → τ'.1 87 k = yth (yA σb code W S s p X0 (n - 1)) p k) ∧ (∀ k, k < s → τ'.1 89 k = s1 (fun i => yco σb W S (yA σb code W S s p X0 i) p k p) n) ∧ (∀ q, q < p → τ'.1 90 q = s1 (fun i => yer σb W S (yA σb code W S s p X0 i) p q) n) ∧ ∀ c f, ¬ (84 ≤ c ∧ c ≤ 90) → ¬ (c = 68 ∧ 22 ≤ f ∧ f ≤ 26) → τ'.1 c f = τ.1 c f := by
  have hs := hb.1.1
  have hp := hb.1.2.2
  have ok0 : okX s p X0 := fun q hq => by
    have := (hb.2.2.2.2.2 q hq).2.2.2.2
    rw [hX0 q hq] at this
    exact this
  obtain ⟨τ1, a1, a2, a3⟩ := m_z5_L hp (X0 := X0) (nI n) 200 0 τ (by omega) (Nat.zero_le _) (by rw [K.1 68 13 (by omega), hb.2.1.2.2.2.2.2]) (fun q hq => by rw [K.1 81 q (by omega), ← (hb.2.2.2.2.2 q hq).2.2.2.1, hX0 q hq]) (fun q hq => absurd hq (Nat.not_lt_zero q))
  have K1 := K.to (τ' := τ1) (fun c f q1 q2 => a3 c f (by omega) (by omega))
  obtain ⟨τ2, b1, b2, b3⟩ := m_z8_L hs (nI n) 200 0 τ1 (by omega) (Nat.zero_le _) (by rw [K1.1 68 6 (by omega), hb.2.1.2.1]) (fun k hk => absurd hk (Nat.not_lt_zero k))
  have K2 := K1.to (τ' := τ2) (fun c f q1 q2 => b3 c f (by omega) (by omega))
  obtain ⟨τ3, c1, c2, c3⟩ := m_count hb ok0 K2 (fun q hq => by rw [b3 85 q (by omega) (by omega), (a2 q hq).1])
  have K3 := K2.to (τ' := τ3) (fun c f q1 q2 => c3 c f (by omega))
  obtain ⟨τ', d1, d2, d3, d4, d5, d6⟩ := m_wk_L (code := code) hb hl hWr X0 hn.2 200 0 τ3 (by omega) (Nat.zero_le _) K3 (fun q hq => by rw [c3 85 q (by omega), b3 85 q (by omega) (by omega), (a2 q hq).1]; rfl) c2 (fun k hk => by rw [c3 88 k (by omega), (b2 k hk).1]; rfl) (fun k hk => by rw [c3 89 k (by omega), (b2 k hk).2]; rfl) (fun q hq => by rw [c3 90 q (by omega), b3 90 q (by omega) (by omega), (a2 q hq).2]; rfl)
  have en : (yI σb code W S s p X0 n).1 = yA σb code W S s p X0 (n - 1) := by
    unfold yA
    rw [show n - 1 + 1 = n by omega]
  rw [en] at d2 d3
  refine ⟨τ', ?_, d2, d3, d4, d5, fun c f q1 q2 => by rw [d6 c f q1 q2, c3 c f (by omega), b3 c f (by omega) (by omega), a3 c f (by omega) (by omega)]⟩
  have e0 : s_X10_goesWeeks_L37 (nI n) 200 0 τ1 = some τ' := by
    rw [show s_X10_goesWeeks_L37 (nI n) 200 0 τ1 = _ from b1, c1, Option.bind_some]
    exact d1
  exact (show s_X10_goesWeeks (nI n) τ = _ from a1).trans e0
end MWEEK
