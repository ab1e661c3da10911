/-! CALLED and OFF -/
theorem yI_congrS {σb : ZSt} {code : List Int32} {W S S' : Nat → Int32} {s p : Nat} {X0 : Nat → Int32} (e : ∀ th i, yp W S th i = yp W S' th i) : ∀ m, yI σb code W S s p X0 m = yI σb code W S' s p X0 m := by
  intro m
  induction m with
  | zero => rfl
  | succ m ih =>
    rw [yI_succ, yI_succ, ih]
    exact congrArg (Prod.mk _) (funext fun k => e _ k)
theorem tth_0 (σ : ZSt) (code : List Int32) (s p k n b : Nat) : tth σ code s p k n 0 b = tth σ code s p k n 0 0 := by
  unfold tth yA
  rw [yI_congrS (S := tS σ k b) (S' := tS σ k 0) (fun th i => by
    unfold yp tW tS up
    by_cases z : i = k
    · rw [if_pos z, if_pos z, if_pos z, if_neg (show ¬ (nI 0 = 2 ∨ nI 0 = 4) by decide), if_neg (show ¬ nI 0 = 1 by decide), if_neg (show ¬ (nI 0 = 2 ∨ nI 0 = 4) by decide), if_neg (show ¬ nI 0 = 1 by decide)]
    · rw [if_neg z, if_neg z, if_neg z])]
/-- the least sum at which at most one is there -/
def pof (v : Nat → Int32) : Nat → Nat → Int32
  | 0, _ => -2
  | m + 1, j => if 1 < v j then pof v m (j + 1) else nI j
section THINK
variable {s w p tl k n : Nat} {σ : ZSt} {code : List Int32}
theorem isTh (h : rT s w p σ) (a b : Int32) : s_X9_isThought a b σ = some (bI ((0 ≤ a ∧ a < nI s) ∧ 1 ≤ b ∧ b ≤ 60)) := by
  unfold s_X9_isThought
  rw [cIsStreet h, Option.bind_some, bI_n, isW, Option.bind_some, bI_n]
  by_cases y1 : 0 ≤ a ∧ a < nI s
  · rw [if_neg (not_not_intro y1)]
    by_cases y2 : 1 ≤ b ∧ b ≤ 60
    · rw [if_neg (not_not_intro y2), bI_t ⟨y1, y2⟩]
    · rw [if_pos y2, bI_f (fun y => y2 y.2)]
  · rw [if_pos y1, bI_f (fun y => y1 y.1)]
theorem areW (b : Int32) (τ : ZSt) : s_X10_areWeeks b τ = some (bI (1 ≤ b ∧ b ≤ 60)) := by
  unfold s_X10_areWeeks
  rw [mW32 b 1 60 (by decide) (by decide)]
  simp only [Option.bind_some, bI_01, if_true]
theorem wk60 {b : Int32} (y2 : 1 ≤ b ∧ b ≤ 60) : ∃ n, (1 ≤ n ∧ n ≤ 60) ∧ b = nI n := by
  have b1 := inR_i (x := b) (a := 1) (b := 60) y2
  rw [show (1 : Int32).toInt = 1 by decide, show (60 : Int32).toInt = 60 by decide] at b1
  obtain ⟨n, hn, rfl⟩ := ofI (x := b) (m := 60) (by omega) b1.2
  have := nI_toInt (n := n) (by omega)
  exact ⟨n, ⟨by omega, hn⟩, rfl⟩
theorem k_called (h : rT s w p σ) (hL : rLaw σ) (a b : Int32) : ∃ (r : Int32) (σ1 σ2 : ZSt), s_X9_called a b σ = some (r, σ1) ∧ s_X10_called a b σ1 = some (r, σ2) ∧ rT s w p σ2 ∧ rLaw σ2 := by
  have hs := h.1.1
  by_cases y1 : 0 ≤ a ∧ a < nI s
  · by_cases y2 : 1 ≤ b ∧ b ≤ 60
    · obtain ⟨k, hk, rfl⟩ := ofN (by omega) y1.1 y1.2
      obtain ⟨n, hn, rfl⟩ := wk60 y2
      obtain ⟨tl, tt, htt, h9, h10, code, hc⟩ := hL
      have cl : cLw σ tl code := ⟨by omega, hc.2.1, hc.1, hc.2.2.1⟩
      have g0 : gK σ σ tl := ⟨rfl, fun _ _ _ => rfl⟩
      obtain ⟨r, r1, r2, r3⟩ := gWay g0 h (show k < 6 by omega)
      obtain ⟨-, -, ⟨x4, i4⟩, ⟨x5, i5⟩⟩ := h.2.2.1 k hk
      have b4 := inR_i i4
      have b5 := inR_i i5
      rw [show (0 : Int32).toInt = 0 by decide, show (4 : Int32).toInt = 4 by decide] at b4
      rw [show (0 : Int32).toInt = 0 by decide, show (99 : Int32).toInt = 99 by decide] at b5
      obtain ⟨a0, ha0, e4⟩ := ofI (x := σ.1 4 k) (m := 4) b4.1 b4.2
      obtain ⟨b0, hb0, e5⟩ := ofI (x := σ.1 5 k) (m := 99) b5.1 b5.2
      obtain ⟨τ1, c1, c2⟩ := c_there h cl h9 hk hn a0 b0 g0
      obtain ⟨τ2, d1, d2⟩ := c_there h cl h9 hk hn 0 0 c2
      have hz := zIn_nI (a := k) (n := 6) (by omega) (by decide)
      have hcl := nI_clamp (n := k) (by omega)
      have f0 : fM k τ2 τ2 := fun _ _ _ _ _ _ => rfl
      obtain ⟨μ1, m1, m2, m3, m4, m5, m6⟩ := m_think (code := code) h hc.2.2.2 hk hn ha0 b0 d2 f0 (by rw [d2.2 74 k (by omega), ← x4, e4]) (by rw [d2.2 75 k (by omega), ← x5, e5])
      obtain ⟨μ2, n1, n2, n3, n4, n5, n6⟩ := m_think (code := code) (a := 0) h hc.2.2.2 hk hn (by omega) b0 (κ := zWD μ1 74 k (nI 0)) d2 (m2.set 74 (Or.inl rfl) _) (by rw [wd1, if_pos ⟨rfl, rfl⟩]) (by rw [wd1, if_neg (by omega), m6])
      refine ⟨tth σ code s p k n a0 b0 - tth σ code s p k n 0 0, τ2, zWD μ2 74 k (nI a0), ?_, ?_, rT_m h d2 hk (n2.set 74 (Or.inl rfl) _) ?_ ?_, rLaw_m htt h9 h10 hc d2 (n2.set 74 (Or.inl rfl) _)⟩
      · unfold s_X9_called
        rw [isTh h, Option.bind_some, bI_n, if_neg (not_not_intro ⟨y1, y2⟩), r1, Option.bind_some, r2, r3, e4, e5, c1, Option.bind_some]
        rw [show s_X9_thereInThought (nI k) (nI n) 0 0 τ1 = _ from d1, Option.bind_some]
      · unfold s_X10_called
        rw [mIsStreet (d2.T h), Option.bind_some, bI_n, if_neg (not_not_intro y1), areW, Option.bind_some, bI_n, if_neg (not_not_intro y2), m1, Option.bind_some, zLd_t hz, zLd_t hz, zSg_t hz, hcl, m4, m5]
        rw [show s_X10_goesWeeks (nI n) (zWD μ1 74 k 0) = some μ2 from n1, Option.bind_some, zSg_t hz, zLd_t hz, wd1, if_neg (by omega), n4, tth_0]
      · rw [wd1, if_pos ⟨rfl, rfl⟩, e4]
      · rw [wd1, if_neg (by omega), n6, e5]
    · refine ⟨-2000000000, σ, σ, ?_, ?_, h, hL⟩
      · unfold s_X9_called
        rw [isTh h, Option.bind_some, bI_n, if_pos (fun y => y2 y.2)]
      · unfold s_X10_called
        rw [mIsStreet h, Option.bind_some, bI_n, if_neg (not_not_intro y1), areW, Option.bind_some, bI_n, if_pos y2]
  · refine ⟨-2000000000, σ, σ, ?_, ?_, h, hL⟩
    · unfold s_X9_called
      rw [isTh h, Option.bind_some, bI_n, if_pos (fun y => y1 y.1)]
    · unfold s_X10_called
      rw [mIsStreet h, Option.bind_some, bI_n, if_pos y1]
theorem co_13 (h : rT s w p σ) (hl : cLw σ tl code) (h9 : σ.1 0 9 = nI tl) (hk : k < s) (hn : 1 ≤ n ∧ n ≤ 60) : ∀ (m j f : Nat) (τ : ZSt), m + j = 100 → m < f → gK σ τ tl → ∃ τ', s_X9_off_L13 (nI k) (nI n) f (nI j) τ = some (pof (tth σ code s p k n 2) m j, τ') ∧ gK σ τ' tl := by
  intro m
  induction m with
  | zero =>
    intro j f τ h1 h2 g
    obtain ⟨f', rfl⟩ : ∃ f', f = f' + 1 := ⟨f - 1, by omega⟩
    rw [s_X9_off_L13, if_pos (by rw [show (99 : Int32) = nI 99 from rfl, nI_ltI (by omega) (by omega)]; omega)]
    exact ⟨τ, rfl, g⟩
  | succ m ih =>
    intro j f τ h1 h2 g
    obtain ⟨f', rfl⟩ : ∃ f', f = f' + 1 := ⟨f - 1, by omega⟩
    obtain ⟨τ1, a1, a2⟩ := c_there h hl h9 hk hn 2 j g
    rw [s_X9_off_L13, if_neg (by rw [show (99 : Int32) = nI 99 from rfl, nI_ltI (by omega) (by omega)]; omega), show s_X9_thereInThought (nI k) (nI n) 2 (nI j) τ = _ from a1, Option.bind_some, nI_1, pof]
    by_cases z : 1 < tth σ code s p k n 2 j
    · rw [if_pos z, if_pos z]
      exact ih (j + 1) f' τ1 (by omega) (by omega) a2
    · rw [if_neg z, if_neg z]
      exact ⟨τ1, rfl, a2⟩
theorem mo_96 (hs : s ≤ 6) (hk : k < s) {τ κ : ZSt} (f : fM k τ κ) (x y r : Int32) : ∃ κ', s_X10_off_C96 (nI k) x y r κ = some (r, κ') ∧ fM k τ κ' ∧ κ'.1 74 k = x ∧ κ'.1 75 k = y := by
  have hz := zIn_nI (a := k) (n := 6) (by omega) (by decide)
  unfold s_X10_off_C96
  rw [zSg_t hz, zSg_t hz, nI_clamp (by omega)]
  exact ⟨_, rfl, (f.set 74 (Or.inl rfl) _).set 75 (Or.inr rfl) _, by rw [wd1, if_neg (by omega), wd1, if_pos ⟨rfl, rfl⟩], by rw [wd1, if_pos ⟨rfl, rfl⟩]⟩
theorem mo_46 (h : rT s w p σ) (hl : mLw σ code) (hk : k < s) (hn : 1 ≤ n ∧ n ≤ 60) (x y : Int32) {τ : ZSt} (g : gK σ τ tl) : ∀ (m j f : Nat) (κ : ZSt), m + j = 100 → m + 1 < f → fM k τ κ → κ.1 74 k = nI 2 → ∃ κ', s_X10_off_L46 (nI k) (nI n) x y f (-2) (nI j) κ = some (pof (tth σ code s p k n 2) m j, κ') ∧ fM k τ κ' ∧ κ'.1 74 k = x ∧ κ'.1 75 k = y := by
  have hs := h.1.1
  have hz := zIn_nI (a := k) (n := 6) (by omega) (by decide)
  have hcl := nI_clamp (n := k) (by omega)
  intro m
  induction m with
  | zero =>
    intro j f κ h1 h2 fm h74
    obtain ⟨f', rfl⟩ : ∃ f', f = f' + 1 := ⟨f - 1, by omega⟩
    rw [s_X10_off_L46, if_pos (by rw [show (99 : Int32) = nI 99 from rfl, nI_ltI (by omega) (by omega)]; omega)]
    exact mo_96 hs hk fm x y _
  | succ m ih =>
    intro j f κ h1 h2 fm h74
    obtain ⟨f', rfl⟩ : ∃ f', f = f' + 2 := ⟨f - 2, by omega⟩
    obtain ⟨μ, m1, m2, m3, m4, m5, m6⟩ := m_think (code := code) (a := 2) h hl hk hn (by omega) j (κ := zWD κ 75 k (nI j)) g (fm.set 75 (Or.inr rfl) _) (by rw [wd1, if_neg (by omega), h74]) (by rw [wd1, if_pos ⟨rfl, rfl⟩])
    rw [s_X10_off_L46, if_neg (by rw [show (99 : Int32) = nI 99 from rfl, nI_ltI (by omega) (by omega)]; omega), if_neg (by decide), zSg_t hz, hcl, m1, Option.bind_some, zLd_t hz, m4, nI_1, pof]
    by_cases z : 1 < tth σ code s p k n 2 j
    · rw [if_pos z, if_pos z]
      exact ih (j + 1) (f' + 1) μ (by omega) (by omega) m2 m5
    · rw [if_neg z, if_neg z, s_X10_off_L46]
      by_cases z1 : (99 : Int32) < nI (j + 1)
      · rw [if_pos z1]
        exact mo_96 hs hk m2 x y _
      · rw [if_neg z1, if_pos (nI_pos' (by omega))]
        exact mo_96 hs hk m2 x y _
theorem k_off (h : rT s w p σ) (hL : rLaw σ) (a b : Int32) : ∃ (r : Int32) (σ1 σ2 : ZSt), s_X9_off a b σ = some (r, σ1) ∧ s_X10_off a b σ1 = some (r, σ2) ∧ rT s w p σ2 ∧ rLaw σ2 := by
  have hs := h.1.1
  by_cases y1 : 0 ≤ a ∧ a < nI s
  · by_cases y2 : 1 ≤ b ∧ b ≤ 60
    · obtain ⟨k, hk, rfl⟩ := ofN (by omega) y1.1 y1.2
      obtain ⟨n, hn, rfl⟩ := wk60 y2
      obtain ⟨tl, tt, htt, h9, h10, code, hc⟩ := hL
      have cl : cLw σ tl code := ⟨by omega, hc.2.1, hc.1, hc.2.2.1⟩
      have g0 : gK σ σ tl := ⟨rfl, fun _ _ _ => rfl⟩
      obtain ⟨-, -, ⟨x4, i4⟩, ⟨x5, i5⟩⟩ := h.2.2.1 k hk
      obtain ⟨τ, c1, c2⟩ := co_13 h cl h9 hk hn 100 0 200 σ (by omega) (by omega) g0
      have hz := zIn_nI (a := k) (n := 6) (by omega) (by decide)
      have hcl := nI_clamp (n := k) (by omega)
      have f0 : fM k τ τ := fun _ _ _ _ _ _ => rfl
      obtain ⟨κ, d1, d2, d3, d4⟩ := mo_46 (code := code) h hc.2.2.2 hk hn (τ.1 74 k) (τ.1 75 k) c2 100 0 200 (zWD τ 74 k (nI 2)) (by omega) (by omega) (f0.set 74 (Or.inl rfl) _) (by rw [wd1, if_pos ⟨rfl, rfl⟩])
      refine ⟨pof (tth σ code s p k n 2) 100 0, τ, κ, ?_, ?_, rT_m h c2 hk d2 (by rw [d3, c2.2 74 k (by omega), x4]) (by rw [d4, c2.2 75 k (by omega), x5]), rLaw_m htt h9 h10 hc c2 d2⟩
      · unfold s_X9_off
        rw [isTh h, Option.bind_some, bI_n, if_neg (not_not_intro ⟨y1, y2⟩)]
        exact c1
      · unfold s_X10_off
        rw [mIsStreet (c2.T h), Option.bind_some, bI_n, if_neg (not_not_intro y1), areW, Option.bind_some, bI_n, if_neg (not_not_intro y2), zLd_t hz, zLd_t hz, zSg_t hz, hcl]
        exact d1
    · refine ⟨-1, σ, σ, ?_, ?_, h, hL⟩
      · unfold s_X9_off
        rw [isTh h, Option.bind_some, bI_n, if_pos (fun y => y2 y.2)]
      · unfold s_X10_off
        rw [mIsStreet h, Option.bind_some, bI_n, if_neg (not_not_intro y1), areW, Option.bind_some, bI_n, if_pos y2]
  · refine ⟨-1, σ, σ, ?_, ?_, h, hL⟩
    · unfold s_X9_off
      rw [isTh h, Option.bind_some, bI_n, if_pos (fun y => y1 y.1)]
    · unfold s_X10_off
      rw [mIsStreet h, Option.bind_some, bI_n, if_pos y1]
end THINK
