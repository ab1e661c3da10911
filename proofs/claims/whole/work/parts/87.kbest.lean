/-! BEST, CALLED, OFF: the calls -/
section THINK
variable {s w p tl k n : Nat} {σ : ZSt} {code : List Int32}
theorem j10 (j : Nat) : nI (10 * j) + 10 = nI (10 * (j + 1)) := by
  rw [show (10 : Int32) = nI 10 from rfl, nI_add]
  rfl
theorem j100 (a b : Nat) (ha : a ≤ 5) : (100 : Int32) * nI a + nI b = nI (100 * a + b) := by
  rw [show (100 : Int32) = nI 100 from rfl, nI_mul (by omega) (by omega) (by omega), nI_add]
theorem cb_59 (h : rT s w p σ) (hl : cLw σ tl code) (h9 : σ.1 0 9 = nI tl) (hk : k < s) (hn : 1 ≤ n ∧ n ≤ 60) {a : Nat} (ha : a ≤ 4) (kk : Int32 → Int32 → Int32 → ZSt → Option (Int32 × ZSt)) (l3 : Int32) {o : Option (Nat × Int32)} (ho : okB o) {c : Nat} (hc : 1 ≤ c ∧ c ≤ 10) : ∀ (m j : Nat) (τ : ZSt), c < m + j → j ≤ c → gK σ τ tl → ∃ τ', s_X9_best_L59 kk (nI k) (nI n) l3 (nI a) (nI (10 * (c - 1))) m (bV (bi (tc σ code s p k n) o a j)) (bC (-2) (bi (tc σ code s p k n) o a j)) (nI (10 * j)) τ = kk (bV (bi (tc σ code s p k n) o a c)) (bC (-2) (bi (tc σ code s p k n) o a c)) (nI (a + 1)) τ' ∧ gK σ τ' tl := by
  intro m
  induction m with
  | zero => intro j τ h1 h2; omega
  | succ m ih =>
    intro j τ h1 h2 g
    have e5 : (nI (10 * (c - 1)) < nI (10 * j)) = (10 * (c - 1) < 10 * j) := propext (nI_ltI (by omega) (by omega))
    rw [s_X9_best_L59]
    by_cases hj : c ≤ j
    · have : j = c := by omega
      subst this
      rw [if_pos (by rw [e5]; omega), nI_1]
      exact ⟨τ, rfl, g⟩
    · obtain ⟨τ1, a1, a2⟩ := c_cost h hl h9 hk hn ha (10 * j) g
      obtain ⟨τ', b1, b2⟩ := ih (j + 1) τ1 (by omega) (by omega) a2
      refine ⟨τ', ?_, b2⟩
      have ok := bi_ok (v := tc σ code s p k n) ho ha j (by omega)
      rw [if_neg (by rw [e5]; omega), a1, Option.bind_some, j10, j100 a _ (by omega)]
      rw [bi] at b1
      cases e : bi (tc σ code s p k n) o a j with
      | none =>
        rw [e] at b1
        rw [show bC (-2) (none : Option (Nat × Int32)) = -2 from rfl, if_pos rfl]
        exact b1
      | some q =>
        have := ok q e
        rw [e] at b1
        rw [show bC (-2) (some q) = nI q.1 from rfl, show bV (some q) = q.2 from rfl, if_neg (nI_ne2 (by omega))]
        unfold bst at b1
        rw [Option.elim_some] at b1
        by_cases z : q.2 ≤ tc σ code s p k n a (10 * j)
        · rw [if_pos z]
          rw [if_pos z] at b1
          exact b1
        · rw [if_neg z]
          rw [if_neg z] at b1
          exact b1
theorem cb_31 (h : rT s w p σ) (hl : cLw σ tl code) (h9 : σ.1 0 9 = nI tl) (hk : k < s) (hn : 1 ≤ n ∧ n ≤ 60) (l3 : Int32) : ∀ (m a : Nat) (τ : ZSt), 5 < m + a → a ≤ 5 → gK σ τ tl → ∃ τ', s_X9_best_L31 (nI k) (nI n) l3 m (bV (bo (tc σ code s p k n) a)) (bC (-2) (bo (tc σ code s p k n) a)) (nI a) τ = some (if l3 = 0 then bC (-2) (bo (tc σ code s p k n) 5) else bV (bo (tc σ code s p k n) 5), τ') ∧ gK σ τ' tl := by
  intro m
  induction m with
  | zero => intro a τ h1 h2; omega
  | succ m ih =>
    intro a τ h1 h2 g
    have e5 : ((4 : Int32) < nI a) = (4 < a) := propext (nI_ltI (a := 4) (by omega) (by omega))
    rw [s_X9_best_L31]
    by_cases hj : 4 < a
    · have : a = 5 := by omega
      subst this
      rw [if_pos (by rw [e5]; exact hj), s_X9_best_C118]
      by_cases z : l3 = 0
      · rw [if_pos z, if_pos z]
        exact ⟨τ, rfl, g⟩
      · rw [if_neg z, if_neg z]
        exact ⟨τ, rfl, g⟩
    · have ok := bo_ok (tc σ code s p k n) a (by omega)
      obtain ⟨τ1, a1, a2⟩ := cb_59 h hl h9 hk hn (a := a) (by omega) (s_X9_best_L31 (nI k) (nI n) l3 m) l3 ok (bcn_le a) 200 0 τ (by have := bcn_le a; omega) (Nat.zero_le _) g
      obtain ⟨τ', b1, b2⟩ := ih (a + 1) τ1 (by omega) (by omega) a2
      refine ⟨τ', ?_, b2⟩
      have a1' := a1.trans b1
      have e0 : (nI a = 0) = (a = 0) := by rw [i0]; exact propext (nI_eq (by omega) (by omega))
      have e3 : (nI a = 3) = (a = 3) := by rw [show (3 : Int32) = nI 3 from rfl]; exact propext (nI_eq (by omega) (by omega))
      rw [if_neg (by rw [e5]; exact hj)]
      unfold bcn at a1'
      by_cases z0 : a = 0
      · rw [if_pos (Or.inl z0)] at a1'
        rw [if_pos (by rw [e0]; exact z0)]
        exact a1'
      · rw [if_neg (by rw [e0]; exact z0)]
        by_cases z3 : a = 3
        · rw [if_pos (Or.inr z3)] at a1'
          rw [if_pos (by rw [e3]; exact z3)]
          exact a1'
        · rw [if_neg (by omega)] at a1'
          rw [if_neg (by rw [e3]; exact z3)]
          exact a1'
theorem mb_62 (h : rT s w p σ) (hl : mLw σ code) (hk : k < s) (hn : 1 ≤ n ∧ n ≤ 60) {a : Nat} (ha : a ≤ 4) (kk : Int32 → Int32 → Int32 → ZSt → Option (Int32 × ZSt)) (l3 l4 l5 : Int32) {o : Option (Nat × Int32)} (ho : okB o) {τ : ZSt} (g : gK σ τ tl) : ∀ (m j : Nat) (κ : ZSt), bcn a < m + j → j ≤ bcn a → fM k τ κ → ∃ κ', s_X10_best_L62 kk (nI k) (nI n) l3 l4 l5 (nI a) m (bC (-1) (bi (tc σ code s p k n) o a j)) (bV (bi (tc σ code s p k n) o a j)) (nI (10 * j)) κ = kk (bC (-1) (bi (tc σ code s p k n) o a (bcn a))) (bV (bi (tc σ code s p k n) o a (bcn a))) (nI (a + 1)) κ' ∧ fM k τ κ' := by
  have hs := h.1.1
  have hc := bcn_le a
  have hz := zIn_nI (a := k) (n := 6) (by omega) (by decide)
  have hcl := nI_clamp (n := k) (by omega)
  have e0 : (nI a = 0) = (a = 0) := by rw [i0]; exact propext (nI_eq (by omega) (by omega))
  have e3 : (nI a = 3) = (a = 3) := by rw [show (3 : Int32) = nI 3 from rfl]; exact propext (nI_eq (by omega) (by omega))
  intro m
  induction m with
  | zero => intro j κ h1 h2; omega
  | succ m ih =>
    intro j κ h1 h2 f
    have hd : s_X10_best_L62 kk (nI k) (nI n) l3 l4 l5 (nI a) (m + 1) (bC (-1) (bi (tc σ code s p k n) o a j)) (bV (bi (tc σ code s p k n) o a j)) (nI (10 * j)) κ = s_X10_best_C81 kk (s_X10_best_L62 kk (nI k) (nI n) l3 l4 l5 (nI a) m) (nI k) (nI n) l3 l4 l5 (bC (-1) (bi (tc σ code s p k n) o a j)) (bV (bi (tc σ code s p k n) o a j)) (nI a) (nI (10 * j)) (nI (10 * j)) (nI (10 * (bcn a - 1))) κ := by
      rw [s_X10_best_L62]
      unfold bcn
      by_cases z0 : a = 0
      · rw [if_pos (by rw [e0]; exact z0), if_pos (Or.inl z0)]
        rfl
      · rw [if_neg (by rw [e0]; exact z0)]
        by_cases z3 : a = 3
        · rw [if_pos (by rw [e3]; exact z3), if_pos (Or.inr z3)]
          rfl
        · rw [if_neg (by rw [e3]; exact z3), if_neg (by omega)]
          rfl
    rw [hd, s_X10_best_C81]
    have e5 : (nI (10 * (bcn a - 1)) < nI (10 * j)) = (10 * (bcn a - 1) < 10 * j) := propext (nI_ltI (by omega) (by omega))
    by_cases hj : bcn a ≤ j
    · have ej : j = bcn a := by omega
      rw [if_pos (by rw [e5]; omega), nI_1, ej]
      exact ⟨κ, rfl, f⟩
    · obtain ⟨μ, m1, m2, m3, m4, m5, m6⟩ := m_think (code := code) h hl hk hn ha (10 * j) (κ := zWD (zWD κ 74 k (nI a)) 75 k (nI (10 * j))) g ((f.set 74 (Or.inl rfl) _).set 75 (Or.inr rfl) _) (by rw [wd1, if_neg (by omega), wd1, if_pos ⟨rfl, rfl⟩]) (by rw [wd1, if_pos ⟨rfl, rfl⟩])
      obtain ⟨κ', b1, b2⟩ := ih (j + 1) μ (by omega) (by omega) m2
      refine ⟨κ', ?_, b2⟩
      have ok := bi_ok (v := tc σ code s p k n) ho ha j (by omega)
      rw [if_neg (by rw [e5]; omega), zSg_t hz, hcl, zSg_t hz, m1, Option.bind_some, j10, j100 a _ (by omega), zLd_t hz, m3]
      rw [bi] at b1
      cases e : bi (tc σ code s p k n) o a j with
      | none =>
        rw [e] at b1
        rw [if_pos (show bC (-1) (none : Option (Nat × Int32)) < 0 by decide)]
        exact b1
      | some q =>
        have := ok q e
        rw [e] at b1
        rw [show bC (-1) (some q) = nI q.1 from rfl, show bV (some q) = q.2 from rfl, if_neg (nlt0 (by omega)), zLd_t hz]
        unfold bst at b1
        rw [Option.elim_some] at b1
        by_cases z : q.2 ≤ tc σ code s p k n a (10 * j)
        · rw [if_pos z]
          rw [if_pos z] at b1
          exact b1
        · rw [if_neg z]
          rw [if_neg z] at b1
          exact b1
theorem mb_53 (h : rT s w p σ) (hl : mLw σ code) (hk : k < s) (hn : 1 ≤ n ∧ n ≤ 60) (l3 l4 l5 : Int32) {τ : ZSt} (g : gK σ τ tl) : ∀ (m a : Nat) (κ : ZSt), 5 < m + a → a ≤ 5 → fM k τ κ → ∃ κ', s_X10_best_L53 (nI k) (nI n) l3 l4 l5 m (bC (-1) (bo (tc σ code s p k n) a)) (bV (bo (tc σ code s p k n) a)) (nI a) κ = some (if l3 = 0 then bC (-1) (bo (tc σ code s p k n) 5) else bV (bo (tc σ code s p k n) 5), κ') ∧ fM k τ κ' ∧ κ'.1 74 k = l4 ∧ κ'.1 75 k = l5 := by
  have hs := h.1.1
  have hz := zIn_nI (a := k) (n := 6) (by omega) (by decide)
  have hcl := nI_clamp (n := k) (by omega)
  intro m
  induction m with
  | zero => intro a κ h1 h2; omega
  | succ m ih =>
    intro a κ h1 h2 f
    have e5 : ((4 : Int32) < nI a) = (4 < a) := propext (nI_ltI (a := 4) (by omega) (by omega))
    rw [s_X10_best_L53]
    by_cases hj : 4 < a
    · have : a = 5 := by omega
      subst this
      have r1 : (zWD (zWD κ 74 k l4) 75 k l5).1 74 k = l4 := by rw [wd1, if_neg (by omega), wd1, if_pos ⟨rfl, rfl⟩]
      have r2 : (zWD (zWD κ 74 k l4) 75 k l5).1 75 k = l5 := by rw [wd1, if_pos ⟨rfl, rfl⟩]
      rw [if_pos (by rw [e5]; exact hj), s_X10_best_C151, zSg_t hz, hcl, zSg_t hz]
      by_cases z : l3 = 0
      · rw [if_pos z, if_pos z]
        exact ⟨_, rfl, (f.set 74 (Or.inl rfl) _).set 75 (Or.inr rfl) _, r1, r2⟩
      · rw [if_neg z, if_neg z]
        exact ⟨_, rfl, (f.set 74 (Or.inl rfl) _).set 75 (Or.inr rfl) _, r1, r2⟩
    · have ok := bo_ok (tc σ code s p k n) a (by omega)
      obtain ⟨κ1, a1, a2⟩ := mb_62 h hl hk hn (a := a) (by omega) (s_X10_best_L53 (nI k) (nI n) l3 l4 l5 m) l3 l4 l5 ok g 200 0 κ (by have := bcn_le a; omega) (Nat.zero_le _) f
      obtain ⟨κ', b1, b2⟩ := ih (a + 1) κ1 (by omega) (by omega) a2
      refine ⟨κ', ?_, b2⟩
      rw [if_neg (by rw [e5]; exact hj)]
      exact a1.trans b1
theorem rT_m {τ κ : ZSt} (h : rT s w p σ) (g : gK σ τ tl) (hk : k < s) (f : fM k τ κ) (h74 : κ.1 74 k = σ.1 4 k) (h75 : κ.1 75 k = σ.1 5 k) : rT s w p κ := rT_1 (fun c e q => by
  by_cases z : e = k ∧ (c = 74 ∨ c = 75)
  · obtain ⟨rfl, rfl | rfl⟩ := z
    · rw [h74, (h.2.2.1 e hk).2.2.1.1]
    · rw [h75, (h.2.2.1 e hk).2.2.2.1]
  · simp only [zHit, cT, List.any_cons, List.any_nil, Bool.or_false, Bool.or_eq_true, Bool.and_eq_true, beq_iff_eq] at q
    rw [f c e (by omega) (by omega) (by omega) (by omega), g.2 c e (by omega)]) h
theorem rLaw_m {τ κ : ZSt} {tt : Nat} (htt : (tl = 62 ∧ tt = 65) ∨ (tl = 65 ∧ tt = 62)) (h9 : σ.1 0 9 = nI tl) (h10 : σ.1 0 10 = nI tt) (hc : lawIs σ tl code) (g : gK σ τ tl) (f : fM k τ κ) : rLaw κ := by
  have fr : ∀ c e, ¬ (84 ≤ c ∧ c ≤ 90) → ¬ (c = 68 ∧ 22 ≤ e ∧ e ≤ 26) → ¬ c = 74 → ¬ c = 75 → (c ≤ 13 ∨ 68 ≤ c ∨ (c = tl ∧ e = 2) ∨ c = tl + 1) → κ.1 c e = σ.1 c e := fun c e q1 q2 q3 q4 q5 => by rw [f c e q1 q2 (by omega) (by omega), g.2 c e q5]
  refine ⟨tl, tt, htt, ?_, ?_, code, lawIs_at (by omega) ?_ (fun e => ?_) ?_ (fun e => ?_) hc⟩
  · rw [fr 0 9 (by omega) (by omega) (by omega) (by omega) (by omega), h9]
  · rw [fr 0 10 (by omega) (by omega) (by omega) (by omega) (by omega), h10]
  · exact fr tl 2 (by omega) (by omega) (by omega) (by omega) (by omega)
  · exact fr (tl + 1) e (by omega) (by omega) (by omega) (by omega) (by omega)
  · exact fr 68 21 (by omega) (by omega) (by omega) (by omega) (by omega)
  · exact fr 83 e (by omega) (by omega) (by omega) (by omega) (by omega)
theorem k_best (h : rT s w p σ) (hL : rLaw σ) (a b c : Int32) : ∃ (r : Int32) (σ1 σ2 : ZSt), s_X9_best a b c σ = some (r, σ1) ∧ s_X10_best a b c σ1 = some (r, σ2) ∧ rT s w p σ2 ∧ rLaw σ2 := by
  have hs := h.1.1
  have th : s_X9_isThought a b σ = some (bI ((0 ≤ a ∧ a < nI s) ∧ 1 ≤ b ∧ b ≤ 60)) := by
    unfold s_X9_isThought
    rw [cIsStreet h, Option.bind_some, bI_n, isW, Option.bind_some, bI_n]
    by_cases y1 : 0 ≤ a ∧ a < nI s
    · rw [if_neg (not_not_intro y1)]
      by_cases y2 : 1 ≤ b ∧ b ≤ 60
      · rw [if_neg (not_not_intro y2), bI_t ⟨y1, y2⟩]
      · rw [if_pos y2, bI_f (fun y => y2 y.2)]
    · rw [if_pos y1, bI_f (fun y => y1 y.1)]
  have aw : ∀ τ, s_X10_areWeeks b τ = some (bI (1 ≤ b ∧ b ≤ 60)) := fun τ => by
    unfold s_X10_areWeeks
    rw [mW32 b 1 60 (by decide) (by decide)]
    simp only [Option.bind_some, bI_01, if_true]
  have cw : ∀ τ, s_X10_within c.toInt64 0 1 τ = some (bI (0 ≤ c ∧ c ≤ 1)) := fun τ => mW32 c 0 1 (by decide) (by decide) τ
  by_cases y1 : 0 ≤ a ∧ a < nI s
  · by_cases y2 : 1 ≤ b ∧ b ≤ 60
    · by_cases y3 : 0 ≤ c ∧ c ≤ 1
      · obtain ⟨k, hk, rfl⟩ := ofN (by omega) y1.1 y1.2
        have b1 := inR_i (x := b) (a := 1) (b := 60) y2
        rw [show (1 : Int32).toInt = 1 by decide, show (60 : Int32).toInt = 60 by decide] at b1
        obtain ⟨n, hn, rfl⟩ := ofI (x := b) (m := 60) (by omega) b1.2
        have hn1 : 1 ≤ n := by
          have := nI_toInt (n := n) (by omega)
          omega
        obtain ⟨tl, tt, htt, h9, h10, code, hc⟩ := hL
        have cl : cLw σ tl code := ⟨by omega, hc.2.1, hc.1, hc.2.2.1⟩
        have g0 : gK σ σ tl := ⟨rfl, fun _ _ _ => rfl⟩
        obtain ⟨τ, a1, a2⟩ := cb_31 h cl h9 hk ⟨hn1, hn⟩ c 200 0 σ (by omega) (by omega) g0
        have hT1 := a2.T h
        have hz := zIn_nI (a := k) (n := 6) (by omega) (by decide)
        have hcl := nI_clamp (n := k) (by omega)
        obtain ⟨κ, d1, d2, d3, d4⟩ := mb_53 h hc.2.2.2 hk ⟨hn1, hn⟩ c (τ.1 74 k) (τ.1 75 k) a2 200 0 τ (by omega) (by omega) (fun _ _ _ _ _ _ => rfl)
        obtain ⟨q, hq⟩ := bo_some (tc σ code s p k n)
        refine ⟨(if c = 0 then bC (-2) (bo (tc σ code s p k n) 5) else bV (bo (tc σ code s p k n) 5)), τ, κ, ?_, ?_, rT_m h a2 hk d2 ?_ ?_, rLaw_m htt h9 h10 hc a2 d2⟩
        · unfold s_X9_best
          rw [th, Option.bind_some, bI_n, if_neg (not_not_intro ⟨y1, y2⟩), isW, Option.bind_some, bI_n, if_neg (not_not_intro y3)]
          exact a1
        · unfold s_X10_best
          rw [mIsStreet hT1, Option.bind_some, bI_n, if_neg (not_not_intro y1), aw, Option.bind_some, bI_n, if_neg (not_not_intro y2), cw, Option.bind_some, bI_n, if_neg (not_not_intro y3), zLd_t hz, zLd_t hz, hcl]
          rw [hq] at d1 ⊢
          exact d1
        · rw [d3, a2.2 74 k (by omega), ← (h.2.2.1 k hk).2.2.1.1]
        · rw [d4, a2.2 75 k (by omega), ← (h.2.2.1 k hk).2.2.2.1]
      · refine ⟨-2000000000, σ, σ, ?_, ?_, h, hL⟩
        · unfold s_X9_best
          rw [th, Option.bind_some, bI_n, if_neg (not_not_intro ⟨y1, y2⟩), isW, Option.bind_some, bI_n, if_pos y3]
        · unfold s_X10_best
          rw [mIsStreet h, Option.bind_some, bI_n, if_neg (not_not_intro y1), aw, Option.bind_some, bI_n, if_neg (not_not_intro y2), cw, Option.bind_some, bI_n, if_pos y3]
    · refine ⟨-2000000000, σ, σ, ?_, ?_, h, hL⟩
      · unfold s_X9_best
        rw [th, Option.bind_some, bI_n, if_pos (fun y => y2 y.2)]
      · unfold s_X10_best
        rw [mIsStreet h, Option.bind_some, bI_n, if_neg (not_not_intro y1), aw, Option.bind_some, bI_n, if_pos y2]
  · refine ⟨-2000000000, σ, σ, ?_, ?_, h, hL⟩
    · unfold s_X9_best
      rw [th, Option.bind_some, bI_n, if_pos (fun y => y1 y.1)]
    · unfold s_X10_best
      rw [mIsStreet h, Option.bind_some, bI_n, if_pos y1]
end THINK
