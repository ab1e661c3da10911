/-! WEEKS, the model: a street's week, the weeks -/
def yHs (σb : ZSt) (W X : Nat → Int32) (p k : Nat) : Nat → Int32
  | 0 => 0
  | q + 1 => if X q = nI k then yHs σb W X p k q + yh σb W X p k q else yHs σb W X p k q
def yGs (σb : ZSt) (W S X : Nat → Int32) (p k : Nat) : Nat → Int32
  | 0 => 0
  | q + 1 => if X q = nI k then yGs σb W S X p k q + yg σb W S X p k q else yGs σb W S X p k q
theorem yco_split (σb : ZSt) (W S X : Nat → Int32) (p k : Nat) : ∀ j, yco σb W S X p k j = yHs σb W X p k j + (yGs σb W S X p k j + ys σb W k * nI (yt X k j)) := by
  intro j
  induction j with
  | zero =>
    rw [yco, yHs, yGs, yt, show nI 0 = (0 : Int32) from rfl, Int32.mul_zero]
    decide
  | succ j ih =>
    rw [yco, yHs, yGs, yt]
    by_cases z : X j = nI k
    · rw [if_pos z, if_pos z, if_pos z, if_pos z, ih, ← nI_1]
      grind
    · rw [if_neg z, if_neg z, if_neg z, if_neg z, ih]
theorem ya_none (σb : ZSt) (wk : Int32) (X : Nat → Int32) (k : Nat) : ∀ j, (yt X k j = 0 ∧ ya σb wk X k j = none) ∨ (0 < yt X k j ∧ ∃ o, ya σb wk X k j = some o ∧ o < j ∧ X o = nI k) := by
  intro j
  induction j with
  | zero => exact Or.inl ⟨rfl, rfl⟩
  | succ j ih =>
    rw [yt, ya]
    by_cases z : X j = nI k
    · rw [if_pos z, if_pos z]
      refine Or.inr ⟨by omega, ?_⟩
      rcases ih with ⟨-, e⟩ | ⟨-, o, e, o1, o2⟩
      · rw [e, Option.elim_none]
        exact ⟨j, rfl, by omega, z⟩
      · rw [e, Option.elim_some]
        by_cases z4 : wk = 4 ∧ ¬ σb.1 10 j ≤ σb.1 10 o
        · rw [if_pos z4]
          exact ⟨j, rfl, by omega, z⟩
        · rw [if_neg z4]
          exact ⟨o, rfl, by omega, o2⟩
    · rw [if_neg z, if_neg z]
      rcases ih with ⟨a, e⟩ | ⟨a, o, e, o1, o2⟩
      · exact Or.inl ⟨a, e⟩
      · exact Or.inr ⟨a, o, e, by omega, o2⟩
theorem yGs_eq {σb : ZSt} {W S X : Nat → Int32} {p k : Nat} (hp : p ≤ 8) : yGs σb W S X p k p = yp W S (yth X p) k := by
  unfold yp yth
  by_cases z24 : W k = 2 ∨ W k = 4
  · rw [if_pos z24]
    have n1 : ¬ W k = 1 := fun y => by
      rcases z24 with e | e <;> rw [e] at y <;> exact absurd y (by decide)
    have key : ∀ j, j ≤ p → yGs σb W S X p k j = if ∃ o, ya σb (W k) X k p = some o ∧ o < j ∧ X o = nI k then S k else 0 := by
      intro j
      induction j with
      | zero =>
        intro _
        rw [if_neg (fun ⟨o, _, b, _⟩ => absurd b (Nat.not_lt_zero o))]
        rfl
      | succ j ih =>
        intro hj
        rw [yGs, ih (by omega)]
        by_cases z : X j = nI k
        · rw [if_pos z]
          unfold yg
          by_cases za : ya σb (W k) X k p = some j
          · rw [if_neg (fun ⟨o, a, b, _⟩ => by rw [za] at a; have := Option.some.inj a; omega), if_pos (Or.inr ⟨z24, za⟩), if_pos ⟨j, za, by omega, z⟩, Int32.zero_add]
          · rw [if_neg (show ¬ yGp σb W X p k j from fun y => y.elim n1 (fun y => za y.2)), Int32.add_zero]
            by_cases zo : ∃ o, ya σb (W k) X k p = some o ∧ o < j ∧ X o = nI k
            · obtain ⟨o, a, b, c⟩ := zo
              rw [if_pos ⟨o, a, b, c⟩, if_pos ⟨o, a, by omega, c⟩]
            · rw [if_neg zo, if_neg]
              rintro ⟨o, a, b, c⟩
              by_cases e : o = j
              · exact za (e ▸ a)
              · exact zo ⟨o, a, by omega, c⟩
        · rw [if_neg z]
          by_cases zo : ∃ o, ya σb (W k) X k p = some o ∧ o < j ∧ X o = nI k
          · obtain ⟨o, a, b, c⟩ := zo
            rw [if_pos ⟨o, a, b, c⟩, if_pos ⟨o, a, by omega, c⟩]
          · rw [if_neg zo, if_neg]
            rintro ⟨o, a, b, c⟩
            by_cases e : o = j
            · exact z (e ▸ c)
            · exact zo ⟨o, a, by omega, c⟩
    rw [key p (Nat.le_refl _)]
    rcases ya_none σb (W k) X k p with ⟨a, e⟩ | ⟨a, o, e, o1, o2⟩
    · rw [if_neg (fun ⟨o, b, _, _⟩ => by rw [e] at b; cases b), a, if_neg (by decide), show nI 0 = (0 : Int32) from rfl, Int32.zero_mul]
    · rw [if_pos ⟨o, e, o1, o2⟩]
      have hle := yt_le X k p
      by_cases z1 : yt X k p = 1
      · rw [z1, if_neg (by decide), show nI 1 = (1 : Int32) from rfl, Int32.one_mul]
      · rw [if_pos (by rw [show (1 : Int32) = nI 1 from rfl, nI_ltI (by omega) (by omega)]; omega), Int32.one_mul]
  · rw [if_neg z24]
    by_cases z1 : W k = 1
    · rw [if_pos z1]
      have key : ∀ j, yGs σb W S X p k j = nI (yt X k j) * S k := by
        intro j
        induction j with
        | zero =>
          rw [yGs, yt, show nI 0 = (0 : Int32) from rfl, Int32.zero_mul]
        | succ j ih =>
          rw [yGs, yt, ih]
          by_cases z : X j = nI k
          · rw [if_pos z, if_pos z, ← nI_1]
            unfold yg
            rw [if_pos (Or.inl z1)]
            grind
          · rw [if_neg z, if_neg z]
      exact key p
    · rw [if_neg z1]
      have key : ∀ j, yGs σb W S X p k j = 0 := by
        intro j
        induction j with
        | zero => rfl
        | succ j ih =>
          rw [yGs, ih]
          unfold yg
          rw [if_neg (show ¬ yGp σb W X p k j from fun y => y.elim z1 (fun y => z24 y.1))]
          by_cases z : X j = nI k
          · rw [if_pos z]; rfl
          · rw [if_neg z]
      exact key p
section MWEEK
variable {s w p : Nat} {σb : ZSt} {code : List Int32} {W S : Nat → Int32}
theorem m_harm {τ : ZSt} (hb : rT s w p σb) (K : mK σb τ s W S) (x g : Int32) : ∃ r, s_X7_harmOfStreet x g σb = some r ∧ s_X10_streetHarm g x τ = some r := by
  obtain ⟨r, r1, r2⟩ := k_streetHarm hb x g
  refine ⟨r, r1, ?_⟩
  have e10 : τ.1 68 10 = σb.1 68 10 := K.1 68 10 (by omega)
  have e76 : τ.1 76 = σb.1 76 := funext fun f => K.1 76 f (by omega)
  have e69 : τ.1 69 = σb.1 69 := funext fun f => K.1 69 f (by omega)
  have hc : ∀ n acc j, s_X10_streetHarm_L5 g x τ n acc j = s_X10_streetHarm_L5 g x σb n acc j := by
    intro n
    induction n with
    | zero => intro acc j; rfl
    | succ n ih =>
      intro acc j
      simp only [s_X10_streetHarm_L5, s_X10_harmBy, e10, e76, e69, ih]
  exact (hc 200 0 0).trans r2
theorem m_one_L (hb : rT s w p σb) {X : Nat → Int32} {τ : ZSt} (K : mK σb τ s W S) (hX : ∀ q, q < p → τ.1 85 q = X q) {k : Nat} (hk : k < s) : ∀ (n j : Nat), p < n + j → j ≤ p → s_X10_theOne_L4 (nI k) τ n (fE id (ya σb (W k) X k j)) (nI j) = some (fE id (ya σb (W k) X k p)) := by
  have hs := hb.1.1
  have hp := hb.1.2.2
  intro n
  induction n with
  | zero => intro j h1 h2; omega
  | succ n ih =>
    intro j h1 h2
    have e5 : (nI p ≤ nI j) = (p ≤ j) := nI_le_n (by omega) (by omega)
    have h13 : τ.1 68 13 = nI p := by rw [K.1 68 13 (by omega), hb.2.1.2.2.2.2.2]
    have h78 : ∀ q, q < p → τ.1 78 q = σb.1 10 q := fun q hq => by rw [K.1 78 q (by omega), (hb.2.2.2.2.2 q hq).1.1]
    rw [s_X10_theOne_L4, h13]
    by_cases hj : p ≤ j
    · have : j = p := by omega
      subst this
      rw [if_pos (by rw [e5]; exact hj)]
    · have ih' := ih (j + 1) (by omega) (by omega)
      rw [ya] at ih'
      rw [if_neg (by rw [e5]; exact hj), zLd_t (zIn_nI (by omega) (by decide)), nI_clamp (n := j) (by omega), hX j (by omega), nI_1]
      by_cases z : X j = nI k
      · rw [if_pos z] at ih' ⊢
        cases e : ya σb (W k) X k j with
        | none =>
          rw [e, Option.elim_none] at ih'
          rw [if_pos (show fE id (none : Option Nat) < 0 by decide)]
          exact ih'
        | some o =>
          have ho := ya_lt _ _ _ _ _ _ e
          rw [e, Option.elim_some] at ih'
          rw [if_neg (show ¬ fE id (some o) < 0 from nlt0 (n := o) (by omega)), zLd_t (zIn_nI (by omega) (by decide)), nI_clamp (n := k) (by omega), (K.2 k hk).1]
          by_cases z4 : W k = 4
          · rw [if_pos z4, zLd_t (zIn_nI (by omega) (by decide)), h78 j (by omega), show fE id (some o) = nI o from rfl, zLd_t (zIn_nI (by omega) (by decide)), nI_clamp (n := o) (by omega), h78 o (by omega)]
            by_cases z5 : σb.1 10 j ≤ σb.1 10 o
            · rw [if_pos z5]
              rw [if_neg (fun y => y.2 z5)] at ih'
              exact ih'
            · rw [if_neg z5]
              rw [if_pos ⟨z4, z5⟩] at ih'
              exact ih'
          · rw [if_neg z4]
            rw [if_neg (fun y => z4 y.1)] at ih'
            exact ih'
      · rw [if_neg z] at ih' ⊢
        exact ih'
/-- one step: the player q is there -/
theorem m_step (hb : rT s w p σb) {X : Nat → Int32} {τ : ZSt} (K : mK σb τ s W S) {q k : Nat} (hq : q < p) (hk : k < s) {R : Int32} (hR : nI q = R ↔ ((W k = 2 ∨ W k = 4) ∧ ya σb (W k) X k p = some q)) (kk : Int32 → Int32 → ZSt → Option ZSt) (l3 : Int32) : ∀ (fl : Int32), (fl = if yPl σb W X p k q then 1 else 0) → s_X10_streetWeek_C107 kk (nI k) R l3 (nI q) fl τ = kk l3 (nI (q + 1)) (zWD (zWD (zWD τ 88 k (τ.1 88 k + yg σb W S X p k q)) 89 k (τ.1 89 k + yh σb W X p k q)) 90 q (τ.1 90 q + ((yk σb W X p k q + yg σb W S X p k q) - σb.1 11 q))) := by
  intro fl hfl
  have hs := hb.1.1
  have hp := hb.1.2.2
  have hz := zIn_nI (a := k) (n := 6) (by omega) (by decide)
  have hcl := nI_clamp (n := k) (by omega)
  have hzq := zIn_nI (a := q) (n := 8) (by omega) (by decide)
  have hclq := nI_clamp (n := q) (by omega)
  obtain ⟨w1, w2⟩ := K.2 k hk
  obtain ⟨⟨p1, -⟩, ⟨p2, -⟩, -, -⟩ := hb.2.2.2.2.2 q hq
  have c78 : τ.1 78 q = σb.1 10 q := by rw [K.1 78 q (by omega), p1]
  have c79 : τ.1 79 q = σb.1 11 q := by rw [K.1 79 q (by omega), p2]
  have main : ∀ g : Int32, g = yg σb W S X p k q → s_X10_streetWeek_C135 kk (nI k) R l3 (nI q) fl g τ = kk l3 (nI (q + 1)) (zWD (zWD (zWD τ 88 k (τ.1 88 k + yg σb W S X p k q)) 89 k (τ.1 89 k + yh σb W X p k q)) 90 q (τ.1 90 q + ((yk σb W X p k q + yg σb W S X p k q) - σb.1 11 q))) := fun g hg => by
    subst hg
    unfold s_X10_streetWeek_C135
    have v1 : ∀ (v : Int32) (c f : Nat), ¬ c = 88 → (zWD τ 88 k v).1 c f = τ.1 c f := fun v c f h => by rw [wd1, if_neg (by omega)]
    have v2 : ∀ (v u : Int32) (c f : Nat), ¬ c = 88 → ¬ c = 89 → (zWD (zWD τ 88 k v) 89 k u).1 c f = τ.1 c f := fun v u c f h h' => by rw [wd1, if_neg (by omega), v1 _ _ _ h]
    rw [zLd_t hz, hcl, zSg_t hz, zLd_t hz, v1 _ 89 k (by decide)]
    have K2 : mK σb (zWD τ 88 k (τ.1 88 k + yg σb W S X p k q)) s W S := K.to (fun c f q1 q2 => by rw [wd1, if_neg (by omega)])
    by_cases z : yPl σb W X p k q
    · obtain ⟨r, r1, r2⟩ := m_harm hb K2 (nI k) (σb.1 10 q)
      have e1 : yh σb W X p k q = r := by unfold yh; rw [if_pos z, r1]; rfl
      have e2 : yk σb W X p k q = σb.1 2 k := by unfold yk; rw [if_pos z]
      have K3 : mK σb (zWD (zWD τ 88 k (τ.1 88 k + yg σb W S X p k q)) 89 k (τ.1 89 k + r)) s W S := K2.to (fun c f q1 q2 => by rw [wd1, if_neg (by omega)])
      rw [if_pos z] at hfl
      rw [hfl, if_neg (show ¬ (1 : Int32) = 0 by decide), zLd_t hzq, hclq, v1 _ 78 q (by decide), c78, r2, Option.bind_some]
      unfold s_X10_streetWeek_C176
      rw [zSg_t hz, hcl, zLd_t hzq, hclq, v2 _ _ 90 q (by decide) (by decide), if_neg (show ¬ (1 : Int32) = 0 by decide), mTake hb K3 hk, Option.bind_some, zLd_t hzq, v2 _ _ 79 q (by decide) (by decide), c79, zSg_t hzq, nI_1, e1, e2]
    · have e1 : yh σb W X p k q = 0 := by unfold yh; rw [if_neg z]
      have e2 : yk σb W X p k q = 0 := by unfold yk; rw [if_neg z]
      rw [if_neg z] at hfl
      rw [hfl, if_pos (show (0 : Int32) = 0 from rfl)]
      unfold s_X10_streetWeek_C176
      rw [zSg_t hz, hcl, zLd_t hzq, hclq, v2 _ _ 90 q (by decide) (by decide), if_pos (show (0 : Int32) = 0 from rfl), zLd_t hzq, v2 _ _ 79 q (by decide) (by decide), c79, zSg_t hzq, nI_1, e1, e2]
  unfold s_X10_streetWeek_C107
  rw [zLd_t hz, hcl, w1]
  by_cases z1 : W k = 1
  · rw [if_pos z1, zLd_t hz, w2]
    exact main _ (by unfold yg; rw [if_pos (Or.inl z1)])
  · rw [if_neg z1]
    by_cases zr : nI q = R
    · rw [if_pos zr, zLd_t hz, w2]
      exact main _ (by unfold yg; rw [if_pos (Or.inr (hR.mp zr))])
    · rw [if_neg zr]
      exact main _ (by unfold yg; rw [if_neg (fun y => y.elim z1 (fun y => zr (hR.mpr y)))])
theorem m_sw_L (hb : rT s w p σb) {X : Nat → Int32} {k : Nat} (hk : k < s) (hWr : inR (W k) 0 4) {R : Int32} (hR : ∀ q, q < p → (nI q = R ↔ ((W k = 2 ∨ W k = 4) ∧ ya σb (W k) X k p = some q))) (A : Int32) (B : Nat → Int32) : ∀ (n j : Nat) (τ : ZSt), p < n + j → j ≤ p → mK σb τ s W S → (∀ q, q < p → τ.1 85 q = X q) → τ.1 88 k = yGs σb W S X p k j → τ.1 89 k = A + yHs σb W X p k j → (∀ q, q < p → τ.1 90 q = B q + (if X q = nI k ∧ q < j then (yk σb W X p k q + yg σb W S X p k q) - σb.1 11 q else 0)) → ∃ τ', s_X10_streetWeek_L42 (nI k) R n (nI (yt X k j)) (nI j) τ = some τ' ∧ τ'.1 88 k = yp W S (yth X p) k ∧ τ'.1 89 k = A + yco σb W S X p k p ∧ (∀ q, q < p → τ'.1 90 q = B q + (if X q = nI k then (yk σb W X p k q + yg σb W S X p k q) - σb.1 11 q else 0)) ∧ ∀ c f, ¬ (c = 88 ∧ f = k) → ¬ (c = 89 ∧ f = k) → ¬ c = 90 → τ'.1 c f = τ.1 c f := by
  have hs := hb.1.1
  have hp := hb.1.2.2
  have hz := zIn_nI (a := k) (n := 6) (by omega) (by decide)
  have hcl := nI_clamp (n := k) (by omega)
  have w04 : W k = 0 ∨ W k = 1 ∨ W k = 2 ∨ W k = 3 ∨ W k = 4 := by
    have b := inR_i hWr
    rw [show (0 : Int32).toInt = 0 by decide, show (4 : Int32).toInt = 4 by decide] at b
    obtain ⟨c, hc, e⟩ := ofI (x := W k) (m := 4) b.1 b.2
    rw [e]
    rcases (show c = 0 ∨ c = 1 ∨ c = 2 ∨ c = 3 ∨ c = 4 by omega) with rfl | rfl | rfl | rfl | rfl
    · exact Or.inl rfl
    · exact Or.inr (Or.inl rfl)
    · exact Or.inr (Or.inr (Or.inl rfl))
    · exact Or.inr (Or.inr (Or.inr (Or.inl rfl)))
    · exact Or.inr (Or.inr (Or.inr (Or.inr rfl)))
  intro n
  induction n with
  | zero => intro j τ h1 h2; omega
  | succ n ih =>
    intro j τ h1 h2 K hX h88 h89 h90
    have e5 : (nI p ≤ nI j) = (p ≤ j) := nI_le_n (by omega) (by omega)
    have h13 : τ.1 68 13 = nI p := by rw [K.1 68 13 (by omega), hb.2.1.2.2.2.2.2]
    obtain ⟨w1, w2⟩ := K.2 k hk
    have w3 : τ.1 73 k = σb.1 3 k := by rw [K.1 73 k (by omega), (hb.2.2.1 k hk).2.1.1]
    rw [s_X10_streetWeek_L42, h13]
    by_cases hj : p ≤ j
    · have : j = p := by omega
      subst this
      have fin : ∀ v : Int32, v = ys σb W k * nI (yt X k j) → ∃ τ', zSg (zIn (nI k) 6) (zWD τ 89 k (A + yHs σb W X j k j + (yGs σb W S X j k j + v))) (fun σ6 => (some σ6)) = some τ' ∧ τ'.1 88 k = yp W S (yth X j) k ∧ τ'.1 89 k = A + yco σb W S X j k j ∧ (∀ q, q < j → τ'.1 90 q = B q + (if X q = nI k then (yk σb W X j k q + yg σb W S X j k q) - σb.1 11 q else 0)) ∧ ∀ c f, ¬ (c = 88 ∧ f = k) → ¬ (c = 89 ∧ f = k) → ¬ c = 90 → τ'.1 c f = τ.1 c f := fun v ev => by
        rw [zSg_t hz]
        refine ⟨_, rfl, by rw [wd1, if_neg (by omega), h88, yGs_eq hp], by rw [wd1, if_pos ⟨rfl, rfl⟩, yco_split, ev, Int32.add_assoc], fun q hq => ?_, fun c f q1 q2 q3 => by rw [wd1, if_neg (by omega)]⟩
        rw [wd1, if_neg (by omega), h90 q hq]
        by_cases z : X q = nI k
        · rw [if_pos ⟨z, hq⟩, if_pos z]
        · rw [if_neg (fun y => z y.1), if_neg z]
      rw [if_pos (by rw [e5]; exact hj), s_X10_streetWeek_C219, zLd_t hz, hcl, zLd_t hz, zLd_t hz, w1, h88, h89]
      by_cases z3 : W k = 3
      · rw [if_pos z3, zLd_t hz, w3]
        exact fin _ (by unfold ys; rw [if_pos z3])
      · rw [if_neg z3]
        exact fin _ (by unfold ys; rw [if_neg z3, Int32.zero_mul])
    · have hz8 := zIn_nI (a := j) (n := 8) (by omega) (by decide)
      rw [if_neg (by rw [e5]; exact hj), zLd_t hz8, nI_clamp (n := j) (by omega), hX j (by omega), hcl, w1, w3]
      by_cases z : X j = nI k
      · have st := m_step (S := S) hb K (show j < p by omega) hk (hR j (by omega)) (s_X10_streetWeek_L42 (nI k) R n) (nI (yt X k j) + 1)
        have ey : yt X k (j + 1) = yt X k j + 1 := by rw [yt, if_pos z]
        have nx : ∃ τ', s_X10_streetWeek_L42 (nI k) R n (nI (yt X k j) + 1) (nI (j + 1)) (zWD (zWD (zWD τ 88 k (τ.1 88 k + yg σb W S X p k j)) 89 k (τ.1 89 k + yh σb W X p k j)) 90 j (τ.1 90 j + ((yk σb W X p k j + yg σb W S X p k j) - σb.1 11 j))) = some τ' ∧ τ'.1 88 k = yp W S (yth X p) k ∧ τ'.1 89 k = A + yco σb W S X p k p ∧ (∀ q, q < p → τ'.1 90 q = B q + (if X q = nI k then (yk σb W X p k q + yg σb W S X p k q) - σb.1 11 q else 0)) ∧ ∀ c f, ¬ (c = 88 ∧ f = k) → ¬ (c = 89 ∧ f = k) → ¬ c = 90 → τ'.1 c f = τ.1 c f := by
          rw [nI_1, ← ey]
          obtain ⟨τ', a1, a2, a3, a4, a5⟩ := ih (j + 1) (zWD (zWD (zWD τ 88 k (τ.1 88 k + yg σb W S X p k j)) 89 k (τ.1 89 k + yh σb W X p k j)) 90 j (τ.1 90 j + ((yk σb W X p k j + yg σb W S X p k j) - σb.1 11 j))) (by omega) (by omega) (K.to (fun c f q1 q2 => by rw [wd1, if_neg (by omega), wd1, if_neg (by omega), wd1, if_neg (by omega)])) (fun q hq => by rw [wd1, if_neg (by omega), wd1, if_neg (by omega), wd1, if_neg (by omega), hX q hq]) (by rw [wd1, if_neg (by omega), wd1, if_neg (by omega), wd1, if_pos ⟨rfl, rfl⟩, h88, yGs, if_pos z]) (by rw [wd1, if_neg (by omega), wd1, if_pos ⟨rfl, rfl⟩, h89, yHs, if_pos z, Int32.add_assoc]) (fun q hq => by
            rw [wd1]
            by_cases e : q = j
            · subst e
              rw [if_pos ⟨rfl, rfl⟩, h90 q hq, if_neg (by omega), if_pos ⟨z, by omega⟩, Int32.add_zero]
            · rw [if_neg (by omega), wd1, if_neg (by omega), wd1, if_neg (by omega), h90 q hq]
              by_cases y : X q = nI k ∧ q < j
              · rw [if_pos y, if_pos ⟨y.1, by omega⟩]
              · rw [if_neg y, if_neg (fun u => y ⟨u.1, by omega⟩)])
          exact ⟨τ', a1, a2, a3, a4, fun c f q1 q2 q3 => by rw [a5 c f q1 q2 q3, wd1, if_neg (by omega), wd1, if_neg (by omega), wd1, if_neg (by omega)]⟩
        have hRj := hR j (by omega)
        rw [if_pos z, zLd_t hz]
        by_cases z0 : W k = 0
        · rw [if_pos z0, st 1 (by rw [if_pos (Or.inl z0)])]
          exact nx
        · rw [if_neg z0, zLd_t hz]
          by_cases z3 : W k = 3
          · rw [if_pos z3, zLd_t hz]
            by_cases zl : σb.1 3 k = 0
            · rw [if_pos zl, st 1 (by rw [if_pos (Or.inr (Or.inl ⟨z3, zl⟩))])]
              exact nx
            · have nr : ¬ nI j = R := fun y => by
                rcases (hRj.mp y).1 with e | e <;> rw [z3] at e <;> exact absurd e (by decide)
              rw [if_neg zl, if_neg nr, st 0 (by
                rw [if_neg]
                rintro (y | ⟨-, y⟩ | y)
                · exact z0 y
                · exact zl y
                · exact nr (hRj.mpr y))]
              exact nx
          · rw [if_neg z3]
            by_cases zr : nI j = R
            · rw [if_pos zr, st 1 (by rw [if_pos (Or.inr (Or.inr (hRj.mp zr)))])]
              exact nx
            · rw [if_neg zr, st 0 (by
                rw [if_neg]
                rintro (y | ⟨y, -⟩ | y)
                · exact z0 y
                · exact z3 y
                · exact zr (hRj.mpr y))]
              exact nx
      · rw [if_neg z, nI_1]
        have ey : yt X k (j + 1) = yt X k j := by rw [yt, if_neg z]
        rw [← ey]
        exact ih (j + 1) τ (by omega) (by omega) K hX (by rw [h88, yGs, if_neg z]) (by rw [h89, yHs, if_neg z]) (fun q hq => by
          rw [h90 q hq]
          by_cases y : X q = nI k ∧ q < j
          · rw [if_pos y, if_pos ⟨y.1, by omega⟩]
          · rw [if_neg y, if_neg]
            rintro ⟨u1, u2⟩
            by_cases e : q = j
            · exact z (e ▸ u1)
            · exact y ⟨u1, by omega⟩)
theorem m_sw (hb : rT s w p σb) {X : Nat → Int32} {k : Nat} (hk : k < s) (hWr : inR (W k) 0 4) (A : Int32) (B : Nat → Int32) {τ : ZSt} (K : mK σb τ s W S) (hX : ∀ q, q < p → τ.1 85 q = X q) (h89 : τ.1 89 k = A) (h90 : ∀ q, q < p → τ.1 90 q = B q) : ∃ τ', s_X10_streetWeek (nI k) τ = some τ' ∧ τ'.1 88 k = yp W S (yth X p) k ∧ τ'.1 89 k = A + yco σb W S X p k p ∧ (∀ q, q < p → τ'.1 90 q = B q + (if X q = nI k then (yk σb W X p k q + yg σb W S X p k q) - σb.1 11 q else 0)) ∧ ∀ c f, ¬ (c = 88 ∧ f = k) → ¬ (c = 89 ∧ f = k) → ¬ c = 90 → τ'.1 c f = τ.1 c f := by
  have hs := hb.1.1
  have hp := hb.1.2.2
  have hz := zIn_nI (a := k) (n := 6) (by omega) (by decide)
  have hcl := nI_clamp (n := k) (by omega)
  obtain ⟨w1, w2⟩ := K.2 k hk
  have one : s_X10_theOne (nI k) τ = some (fE id (ya σb (W k) X k p)) := m_one_L hb K hX hk 200 0 (by omega) (by omega)
  have go : ∀ R : Int32, (∀ q, q < p → (nI q = R ↔ ((W k = 2 ∨ W k = 4) ∧ ya σb (W k) X k p = some q))) → ∃ τ', s_X10_streetWeek_L42 (nI k) R 200 0 0 (zWD τ 88 k 0) = some τ' ∧ τ'.1 88 k = yp W S (yth X p) k ∧ τ'.1 89 k = A + yco σb W S X p k p ∧ (∀ q, q < p → τ'.1 90 q = B q + (if X q = nI k then (yk σb W X p k q + yg σb W S X p k q) - σb.1 11 q else 0)) ∧ ∀ c f, ¬ (c = 88 ∧ f = k) → ¬ (c = 89 ∧ f = k) → ¬ c = 90 → τ'.1 c f = τ.1 c f := fun R hR => by
    obtain ⟨τ', a1, a2, a3, a4, a5⟩ := m_sw_L (S := S) hb hk hWr hR A B 200 0 (zWD τ 88 k 0) (by omega) (Nat.zero_le _) (K.to (fun c f q1 q2 => by rw [wd1, if_neg (by omega)])) (fun q hq => by rw [wd1, if_neg (by omega), hX q hq]) (by rw [wd1, if_pos ⟨rfl, rfl⟩]; rfl) (by rw [wd1, if_neg (by omega), h89, yHs, Int32.add_zero]) (fun q hq => by rw [wd1, if_neg (by omega), h90 q hq, if_neg (by omega), Int32.add_zero])
    exact ⟨τ', a1, a2, a3, a4, fun c f q1 q2 q3 => by rw [a5 c f q1 q2 q3, wd1, if_neg (by omega)]⟩
  have hRf : (W k = 2 ∨ W k = 4) → ∀ q, q < p → (nI q = fE id (ya σb (W k) X k p) ↔ ((W k = 2 ∨ W k = 4) ∧ ya σb (W k) X k p = some q)) := fun z q hq => by
    have f1 := fE_eq (o := ya σb (W k) X k p) (q := q) (by omega) (fun i e => by have := ya_lt _ _ _ _ _ _ e; omega)
    exact ⟨fun y => ⟨z, f1.mp y.symm⟩, fun y => (f1.mpr y.2).symm⟩
  unfold s_X10_streetWeek
  rw [zLd_t hz, hcl, w1]
  by_cases z2 : W k = 2
  · rw [if_pos z2, one, Option.bind_some, zSg_t hz]
    exact go _ (hRf (Or.inl z2))
  · rw [if_neg z2, zLd_t hz]
    by_cases z4 : W k = 4
    · rw [if_pos z4, one, Option.bind_some, zSg_t hz]
      exact go _ (hRf (Or.inr z4))
    · rw [if_neg z4, zSg_t hz]
      exact go _ (fun q hq => ⟨fun y => absurd y (ne1 (by omega)), fun y => y.1.elim (fun e => absurd e z2) (fun e => absurd e z4)⟩)
end MWEEK
