/-! waiting -/
section TOWN
variable {s w p : Nat} {σ : ZSt}
def wR (b l4 l5 l6 : Int32) (σ : ZSt) (c m : Option Int32) : Prop := (c = some b ∧ m = s_X10_waiting_C210 l4 l5 l6 b b σ) ∨ ∃ d j, d < 60 ∧ j < 30 ∧ c = some (nI (d * 30 + j)) ∧ m = s_X10_waiting_C210 l4 l5 l6 (nI d) (nI j) σ
def lcg (v : Int32) : Int32 := v * (1103515245 : Int32) + (12345 : Int32)
def rnd (v : Int32) : Int32 := zRem (((lcg v).toUInt32 >>> ((8 : Int32).toUInt32 &&& Int32.toUInt32 31)).toInt32) (1000 : Int32)
theorem L48_step (K : Int32 → Int32 → Option Int32) (l2 l4 l5 l6 l7 l9 : Int32) (σ : ZSt) (n : Nat) (l8 l10 : Int32) : s_X5_firstToPay_L48 K l2 l4 l5 l6 l7 l9 σ (n + 1) l8 l10 = if (30 : Int32) ≤ l10 then (K l8 (l9 + (1 : Int32))) else ((s_X7_isHarmed l10 l5 l6 σ).bind fun r1 => (if r1 = (0 : Int32) then (s_X5_firstToPay_L48 K l2 l4 l5 l6 l7 l9 σ n l8 (l10 + (1 : Int32))) else ((s_X7_harmTo l10 l6 σ).bind fun r2 => ((s_X5_haste r2 l2 l7 σ).bind fun r3 => (if r3 ≤ rnd l8 then (s_X5_firstToPay_L48 K l2 l4 l5 l6 l7 l9 σ n (lcg l8) (l10 + (1 : Int32))) else (s_X5_firstToPay_C114 l9 l10 σ)))))) := rfl
theorem L102_step (K : Int32 → Int32 → Int32 → Int32 → Option Int32) (l2 l4 l5 l6 l7 l11 : Int32) (σ : ZSt) (n : Nat) (l8 l9 l10 l12 : Int32) : s_X10_waiting_L102 K l2 l4 l5 l6 l7 l11 σ (n + 1) l8 l9 l10 l12 = if (σ.1 68 10) ≤ l12 then (K l8 l9 l10 (l11 + (1 : Int32))) else (if (0 : Int32) ≤ l10 then (K l8 l9 l10 (l11 + (1 : Int32))) else ((s_X10_isHarmed l5 l6 l12 σ).bind fun r1 => (if r1 = (0 : Int32) then (s_X10_waiting_L102 K l2 l4 l5 l6 l7 l11 σ n l8 l9 l10 (l12 + (1 : Int32))) else ((s_X10_haste l5 l12 l2 l7 σ).bind fun r2 => (if r2 ≤ rnd l8 then (s_X10_waiting_C168 (s_X10_waiting_L102 K l2 l4 l5 l6 l7 l11 σ n) l2 l4 l5 l6 l7 (lcg l8) l9 l10 l11 l12 (0 : Int32) σ) else (s_X10_waiting_C168 (s_X10_waiting_L102 K l2 l4 l5 l6 l7 l11 σ n) l2 l4 l5 l6 l7 (lcg l8) l9 l10 l11 l12 (1 : Int32) σ)))))) := rfl
theorem w_tail (h : rT s w p σ) (K : Int32 → Int32 → Option Int32) (c d x g m v y : Int32) : ∀ (n j : Nat), w ≤ j → j ≤ 30 → 30 < n + j → s_X5_firstToPay_L48 K c d x g m y σ n v (nI j) = K v (y + 1) := by
  intro n
  induction n with
  | zero => intro j _ _ _; omega
  | succ n ih =>
    intro j hw hj hn
    have e5 : ((30 : Int32) ≤ nI j) = (30 ≤ j) := by
      rw [i30]
      exact propext (nI_leI (by decide) (by omega))
    have e1 : nI j + 1 = nI (j + 1) := nI_1 j
    simp only [L48_step, e5, cIsHarmed_out h hw (by omega), Option.bind_some, e1, if_true]
    by_cases hq : 30 ≤ j
    · simp only [hq, if_true]
    · simp only [hq, if_false]
      exact ih (j + 1) (by omega) (by omega) (by omega)
theorem lt_m2 : ¬ (0 : Int32) ≤ -2 := by decide
theorem k_waiting_L (h : rT s w p σ) {b : Int32} (hb2 : ¬ 0 ≤ b) {q c m : Nat} (hq : q < p) (hc : c ≤ 99) (hm : m ≤ w) {l4 x : Int32} (hH : ∀ j', j' < w → σ.1 6 j' = x → 0 < σ.1 7 j' - σ.1 8 j' * σ.1 10 q / 10 → 1 ≤ m) (D : Int32) {y : Nat} (hy : y < 60) (hyl : ¬ l4 / 10 ≤ nI y) (n0 : Nat) (K1 : Int32 → Int32 → Option Int32) (hK : ∀ v, wR b l4 (nI q) x σ (K1 v (nI (y + 1))) (s_X10_waiting_L84 (nI c) l4 (nI q) x (nI m) σ n0 v b b (nI (y + 1)))) (hn0 : 1 ≤ n0) : ∀ (n j : Nat) (v : Int32), 30 < n + j → j ≤ w → wR b l4 (nI q) x σ (s_X5_firstToPay_L48 K1 (nI c) D x (σ.1 10 q) (nI m) (nI y) σ n v (nI j)) (s_X10_waiting_L102 (s_X10_waiting_L84 (nI c) l4 (nI q) x (nI m) σ n0) (nI c) l4 (nI q) x (nI m) (nI y) σ n v b b (nI j)) := by
  obtain ⟨⟨hs, hw, hp⟩, ⟨h0, h1, h2, h3, h4, h5⟩, hS, hE, hW, hP⟩ := id h
  intro n
  induction n with
  | zero => intro j v hn hj; omega
  | succ n ih =>
    intro j v hn hj
    by_cases hjw : w ≤ j
    · rw [w_tail h K1 (nI c) D x (σ.1 10 q) (nI m) v (nI y) (n + 1) j hjw (by omega) (by omega)]
      simp only [L102_step, h3, nI_le_n (a := w) (b := j) (by omega) (by omega), hjw, if_true, nI_1]
      exact hK v
    · have hj' : j < w := by omega
      have e5 : ((30 : Int32) ≤ nI j) = (30 ≤ j) := by
        rw [i30]
        exact propext (nI_leI (by decide) (by omega))
      have h30 : ¬ 30 ≤ j := by omega
      have e1 : nI j + 1 = nI (j + 1) := nI_1 j
      rw [L48_step, L102_step]
      generalize rnd v = z
      generalize lcg v = u
      rw [if_neg (show ¬ (30 : Int32) ≤ nI j by rw [e5]; exact h30), if_neg (show ¬ σ.1 68 10 ≤ nI j by rw [h3, nI_le_n (by omega) (by omega)]; exact hjw), if_neg hb2, cIsHarmed h hj', mIsHarmed h hj' hq, cHarmTo h hj']
      rw [Option.bind_some, Option.bind_some, Option.bind_some]
      simp only [bI_0]
      rw [e1]
      by_cases hx : σ.1 6 j = x ∧ 0 < σ.1 7 j - σ.1 8 j * σ.1 10 q / 10
      · have m1 := hH j hj' hx.1 hx.2
        obtain ⟨⟨-, hg⟩, -⟩ := hP q hq
        have b1 := hN_i h hj' hg
        have b2 := Int32.lt_iff_toInt_lt.mp hx.2
        rw [toI0] at b2
        obtain ⟨r, hr, e2⟩ := ofI (m := 198) (by omega) b1.2
        rw [e2] at b2
        rw [nI_toInt (by omega)] at b2
        have hr1 : 1 ≤ r ∧ r ≤ 198 := ⟨by omega, hr⟩
        have hn : ¬ ¬ (σ.1 6 j = x ∧ 0 < σ.1 7 j - σ.1 8 j * σ.1 10 q / 10) := fun q => q hx
        rw [if_neg hn, if_neg hn, mHaste h hq hj' e2 hr1 hc ⟨m1, by omega⟩, e2, cHaste hr1 hc ⟨m1, by omega⟩, Option.bind_some, Option.bind_some]
        generalize 1000 * r / (r + c * (m - 1)) = k
        by_cases hb : nI k ≤ z
        · simp only [hb, if_true, s_X10_waiting_C168]
          rw [e1]
          exact ih (j + 1) u (by omega) (by omega)
        · simp only [hb, if_false, s_X10_waiting_C168, s_X5_firstToPay_C114, show ¬ (1 : Int32) = 0 by decide]
          refine Or.inr ⟨y, j, hy, by omega, ?_, ?_⟩
          · rw [i30, nI_mul (by omega) (by omega) (by omega), nI_add]
          · have hz : (0 : Int32) ≤ nI j := (nI_lt_s hj' (by omega)).1
            have L : ∀ n', 1 ≤ n' → ∀ v', s_X10_waiting_L84 (nI c) l4 (nI q) x (nI m) σ n' v' (nI y) (nI j) (nI y + 1) = s_X10_waiting_C210 l4 (nI q) x (nI y) (nI j) σ := by
              intro n' hn' v'
              obtain ⟨n'', rfl⟩ : ∃ n'', n' = n'' + 1 := ⟨n' - 1, by omega⟩
              simp only [s_X10_waiting_L84, hz, if_true, ite_self]
            obtain ⟨n', rfl⟩ : ∃ n', n = n' + 1 := ⟨n - 1, by omega⟩
            simp only [L102_step, hz, if_true, ite_self]
            exact L n0 hn0 u
      · rw [if_pos hx, if_pos hx]
        exact ih (j + 1) v (by omega) (by omega)
theorem k_waiting_M (h : rT s w p σ) {b : Int32} (hb2 : ¬ 0 ≤ b) (hb3 : b = -2) {q c m : Nat} (hq : q < p) (hc : c ≤ 99) (hm : m ≤ w) {l4 x : Int32} (hH : ∀ j', j' < w → σ.1 6 j' = x → 0 < σ.1 7 j' - σ.1 8 j' * σ.1 10 q / 10 → 1 ≤ m) {d : Nat} (hd : d ≤ 60) (hl4 : l4 / 10 = nI d) : ∀ (n y : Nat) (v : Int32), d + 1 < n + y → y ≤ d → wR b l4 (nI q) x σ (s_X5_firstToPay_L38 (nI c) (nI d) x (σ.1 10 q) (nI m) σ n v (nI y)) (s_X10_waiting_L84 (nI c) l4 (nI q) x (nI m) σ n v b b (nI y)) := by
  have hw := h.1.2.1
  intro n
  induction n with
  | zero => intro y v hn hj; omega
  | succ n ih =>
    intro y v hn hy
    simp only [s_X5_firstToPay_L38, s_X10_waiting_L84, hl4, nI_le_n (a := d) (b := y) (by omega) (by omega)]
    by_cases hq' : d ≤ y
    · simp only [hq', if_true]
      exact Or.inl ⟨by rw [hb3], rfl⟩
    · simp only [hq', if_false, hb2]
      refine k_waiting_L h hb2 hq hc hm hH (nI d) (by omega) ?_ n _ (fun v' => ih (y + 1) v' (by omega) (by omega)) (by omega) 200 0 v (by omega) (by omega)
      rw [hl4, nI_le_n (by omega) (by omega)]
      exact hq'
theorem nI_ne2 {n : Nat} (h : n ≤ 10000) : ¬ nI n = -2 := fun q => by
  have e := nI_toInt (n := n) (by omega)
  rw [q, show (-2 : Int32).toInt = -2 by decide] at e
  omega
theorem k_waiting (h : rT s w p σ) (a b c e : Int32) : ∃ r, s_X9_waiting a b c e σ = some r ∧ s_X10_waiting a b c e σ = some r := by
  obtain ⟨⟨hs, hw, hp⟩, -, hS, hE, hW, hP⟩ := id h
  unfold s_X9_waiting s_X10_waiting
  simp only [cPair h, mPs h, isW, mTwo, mW32 (e / 10) 1 60 (a' := 1) (b' := 60) (by decide) (by decide), Option.bind_some, bI_0]
  by_cases ca : 0 ≤ a ∧ (0 ≤ a / 10 ∧ a / 10 < nI p) ∧ (0 ≤ zRem a 10 ∧ zRem a 10 < nI s)
  · by_cases cb : 0 ≤ b ∧ b ≤ 99
    · by_cases ce : e < 0
      · have : ¬ 0 ≤ e := Int32.not_le.mpr ce
        exact ⟨-1, by simp [ca, cb, this], by simp [ca, cb, ce]⟩
      · have ce' : 0 ≤ e := Int32.not_lt.mp ce
        by_cases cc : 1 ≤ e / 10 ∧ e / 10 ≤ 60
        · by_cases cm : zRem e 10 ≤ 2
          · simp only [ca, cb, cc, ce, ce', cm, and_self, not_true_eq_false, if_false, if_true]
            obtain ⟨-, ⟨c1, c2⟩, ⟨c3, c4⟩⟩ := ca
            obtain ⟨q, hq, e1⟩ := ofN (by omega) c1 c2
            have b1 := inR_i (show inR b 0 99 from cb)
            have b2 := inR_i (show inR (e / 10) 1 60 from cc)
            rw [show (0 : Int32).toInt = 0 by decide, show (99 : Int32).toInt = 99 by decide] at b1
            rw [show (1 : Int32).toInt = 1 by decide, show (60 : Int32).toInt = 60 by decide] at b2
            obtain ⟨b', hb, rfl⟩ := ofI (m := 99) b1.1 b1.2
            obtain ⟨d, hd, e2⟩ := ofI (x := e / 10) (m := 60) (by omega) b2.2
            obtain ⟨m, m1, m2, m3, m4⟩ := k_manyN h (zRem a 10) hq
            obtain ⟨t, t1, t2⟩ := k_most h (zRem a 10) (σ.1 10 q)
            obtain ⟨⟨q1, -⟩, -⟩ := hP q hq
            unfold s_X5_firstToPay s_X5_lost
            simp only [e1, e2, cGoodOf h hq, m2, m3, t1, Option.bind_some]
            have he0 : ∃ f, zRem e 10 = nI f ∧ f ≤ 2 := by
              obtain ⟨ee, h1, rfl⟩ := pNat ce'
              rw [i10, nI_rem (by omega) (by decide)] at cm ⊢
              rw [show (2 : Int32) = nI 2 by decide, nI_leI (by omega) (by decide)] at cm
              exact ⟨_, rfl, cm⟩
            obtain ⟨f, hf, hf2⟩ := he0
            have f0 : (nI f = 0) = (f = 0) := by rw [i0]; exact propext (nI_eq (by omega) (by omega))
            have f1 : (nI f = 1) = (f = 1) := by rw [i1]; exact propext (nI_eq (by omega) (by omega))
            have f2 : (nI f = 2) = (f = 2) := by rw [show (2 : Int32) = nI 2 by decide]; exact propext (nI_eq (by omega) (by omega))
            rcases k_waiting_M h lt_m2 rfl hq hb m1 (l4 := e) (x := zRem a 10) m4 hd e2 200 0 c (by omega) (by omega) with ⟨w1, w2⟩ | ⟨y, j, hy, hj, w1, w2⟩
            · rw [show (0 : Int32) = nI 0 from rfl, w1, w2]
              unfold s_X10_waiting_C210
              simp only [hf, e2, f0, f1, f2, ← q1, zIn_nI (a := q) (n := 8) (by omega) (by decide), zLd_t, nI_clamp (n := q) (by omega), t2, Option.bind_some, lt_m2, if_true, if_false, ← i0]
              by_cases g2 : f = 2
              · subst g2
                exact ⟨_, by simp; rfl, by simp⟩
              · by_cases g0 : f = 0
                · subst g0
                  exact ⟨_, by simp; rfl, by simp⟩
                · have g1 : f = 1 := by omega
                  subst g1
                  exact ⟨_, by simp; rfl, by simp⟩
            · rw [show (0 : Int32) = nI 0 from rfl, w1, w2]
              have z1 : nI (y * 30 + j) / 30 = nI y := by
                rw [i30, nI_div (by omega) (by decide)]
                congr 1
                omega
              have z2 : zRem (nI (y * 30 + j)) 30 = nI j := by
                rw [i30, nI_rem (by omega) (by decide)]
                congr 1
                omega
              have z3 : (0 : Int32) ≤ nI j := by
                rw [i0, nI_leI (by decide) (by omega)]
                omega
              unfold s_X10_waiting_C210
              simp only [hf, e2, ← i0, f0, f1, f2, ← q1, zIn_nI (a := q) (n := 8) (by omega) (by decide), zLd_t, nI_clamp (n := q) (by omega), t2, Option.bind_some, z1, z2, z3, nI_ne2 (n := y * 30 + j) (by omega), if_true, if_false]
              by_cases g2 : f = 2
              · subst g2
                exact ⟨_, by simp; rfl, by simp⟩
              · by_cases g0 : f = 0
                · subst g0
                  exact ⟨_, by simp; rfl, by simp⟩
                · have g1 : f = 1 := by omega
                  subst g1
                  exact ⟨_, by simp; rfl, by simp⟩
          · exact ⟨-1, by simp [ca, cb, cc, ce', cm], by simp [ca, cb, cc, ce, cm]⟩
        · exact ⟨-1, by simp [ca, cb, cc], by simp [ca, cb, cc]⟩
    · exact ⟨-1, by simp [ca, cb], by simp [ca, cb]⟩
  · exact ⟨-1, by simp [ca], by simp [ca]⟩
end TOWN
