/-! BEST, CALLED, OFF: weeks in thought -/
def up (f : Nat → Int32) (k : Nat) (v : Int32) : Nat → Int32 := fun i => if i = k then v else f i
def tW (σ : ZSt) (k a : Nat) : Nat → Int32 := up (σ.1 4) k (nI a)
def tS (σ : ZSt) (k b : Nat) : Nat → Int32 := up (σ.1 5) k (nI b)
def tc (σ : ZSt) (code : List Int32) (s p k n a b : Nat) : Int32 := s1 (fun i => yco σ (tW σ k a) (tS σ k b) (yA σ code (tW σ k a) (tS σ k b) s p (σ.1 13) i) p k p) n
def tth (σ : ZSt) (code : List Int32) (s p k n a b : Nat) : Int32 := yth (yA σ code (tW σ k a) (tS σ k b) s p (σ.1 13) (n - 1)) p k
def fM (k : Nat) (τ κ : ZSt) : Prop := ∀ c f, ¬ (84 ≤ c ∧ c ≤ 90) → ¬ (c = 68 ∧ 22 ≤ f ∧ f ≤ 26) → ¬ (c = 74 ∧ f = k) → ¬ (c = 75 ∧ f = k) → κ.1 c f = τ.1 c f
theorem fM.trans {k : Nat} {a b c : ZSt} (h : fM k a b) (h' : fM k b c) : fM k a c := fun x f q1 q2 q3 q4 => (h' x f q1 q2 q3 q4).trans (h x f q1 q2 q3 q4)
theorem fM.set {k : Nat} {a b : ZSt} (h : fM k a b) (c : Nat) (hc : c = 74 ∨ c = 75) (v : Int32) : fM k a (zWD b c k v) := fun x f q1 q2 q3 q4 => by rw [wd1, if_neg (by omega)]; exact h x f q1 q2 q3 q4
section THINK
variable {s w p tl k n : Nat} {σ : ZSt} {code : List Int32}
theorem tW_r (h : rT s w p σ) {a : Nat} (ha : a ≤ 4) : ∀ i, i < s → inR (tW σ k a i) 0 4 := fun i hi => by
  unfold tW up
  by_cases z : i = k
  · rw [if_pos z]
    exact inR_nI (k := a) (a := 0) (b := 4) (by omega) ha (by decide)
  · rw [if_neg z]
    exact (h.2.2.1 i hi).2.2.1.2
theorem c_pre (h : rT s w p σ) (hl : cLw σ tl code) (hk : k < s) (a b : Nat) {τ : ZSt} (g : gK σ τ tl) : ∃ τ2, ((s_X8_takeWays 30 τ).bind fun σ1 => s_X8_supposeWay 30 (nI k) (nI a) (nI b) σ1) = some τ2 ∧ gK σ τ2 tl ∧ ∀ i, i < 6 → τ2.1 (30 + 1) i = tW σ k a i ∧ τ2.1 (30 + 2) i = tS σ k b i := by
  have hs := h.1.1
  have htl := hl.1
  obtain ⟨τ1, b1, b2, b3, b4⟩ := c_ways (t := 30) (Or.inr rfl) htl h g
  have hz := zIn_nI (a := k) (n := 6) (by omega) (by decide)
  refine ⟨zWD (zWD τ1 (30 + 1) k (nI a)) (30 + 2) k (nI b), ?_, (b2.wd (by omega)).wd (by omega), fun i hi => ?_⟩
  · rw [b1, Option.bind_some]
    unfold s_X8_supposeWay
    rw [if_neg (nlt0 (by omega)), if_pos (by rw [i6, nI_ltI (by omega) (by omega)]; omega), zSg_t hz, zSg_t hz, nI_clamp (by omega)]
  · obtain ⟨x1, x2⟩ := b3 i hi
    rw [wd1, if_neg (by omega), wd1, wd1, wd1, if_neg (show ¬ (30 + 2 = 30 + 1 ∧ i = k) by omega), x1, x2]
    unfold tW tS up
    by_cases z : i = k
    · exact ⟨(if_pos ⟨rfl, z⟩).trans (if_pos z).symm, (if_pos ⟨rfl, z⟩).trans (if_pos z).symm⟩
    · exact ⟨(if_neg (fun y => z y.2)).trans (if_neg z).symm, (if_neg (fun y => z y.2)).trans (if_neg z).symm⟩
theorem c_cost (h : rT s w p σ) (hl : cLw σ tl code) (h9 : σ.1 0 9 = nI tl) (hk : k < s) (hn : 1 ≤ n ∧ n ≤ 60) {a : Nat} (ha : a ≤ 4) (b : Nat) {τ : ZSt} (g : gK σ τ tl) : ∃ τ', s_X9_costInThought (nI k) (nI n) (nI a) (nI b) τ = some (tc σ code s p k n a b, τ') ∧ gK σ τ' tl := by
  have hs := h.1.1
  have htl := hl.1
  obtain ⟨τ2, a1, a2, a3⟩ := c_pre h hl hk a b g
  obtain ⟨τ3, u, d, c1, c2, c3, c4⟩ := c_follow (t := 30) (Or.inr rfl) h hl hn a2 a3
  obtain ⟨τ4, d1, d2, d3, d4, d5, d6⟩ := c_settleAll (t := 30) (Or.inr rfl) htl h (tW_r h ha) c2
  obtain ⟨-, ⟨g4, ⟨e11, e12⟩, e13⟩, -, -, -⟩ := id d2
  refine ⟨τ4, ?_, g4⟩
  unfold s_X9_costInThought
  cases e1 : s_X8_takeWays 30 τ with
  | none => rw [e1] at a1; cases a1
  | some τ1 =>
    rw [e1, Option.bind_some] at a1
    have in1 := nI_lt_s hk (show s ≤ 1000 by omega)
    rw [Option.bind_some, a1, Option.bind_some, dynN (show τ2.1 0 9 = nI tl by rw [a2.2 0 9 (by omega), h9]) htl, Option.bind_some, c1, Option.bind_some, d1, Option.bind_some]
    unfold s_X8_costOf
    rw [c_know e11 hs, Option.bind_some, bI_n, if_neg (not_not_intro in1), zLd_t (zIn_nI (by omega) (by decide)), nI_clamp (by omega), d5 k (by omega)]
    rfl
theorem c_there (h : rT s w p σ) (hl : cLw σ tl code) (h9 : σ.1 0 9 = nI tl) (hk : k < s) (hn : 1 ≤ n ∧ n ≤ 60) (a b : Nat) {τ : ZSt} (g : gK σ τ tl) : ∃ τ', s_X9_thereInThought (nI k) (nI n) (nI a) (nI b) τ = some (tth σ code s p k n a b, τ') ∧ gK σ τ' tl := by
  have hs := h.1.1
  have htl := hl.1
  obtain ⟨τ2, a1, a2, a3⟩ := c_pre h hl hk a b g
  obtain ⟨τ3, u, d, c1, c2, c3, c4⟩ := c_follow (t := 30) (Or.inr rfl) h hl hn a2 a3
  obtain ⟨-, ⟨g4, ⟨e11, e12⟩, e13⟩, -, -, -⟩ := id c2
  refine ⟨τ3, ?_, g4⟩
  unfold s_X9_thereInThought
  cases e1 : s_X8_takeWays 30 τ with
  | none => rw [e1] at a1; cases a1
  | some τ1 =>
    rw [e1, Option.bind_some] at a1
    have in1 := nI_lt_s hk (show s ≤ 1000 by omega)
    rw [Option.bind_some, a1, Option.bind_some, dynN (show τ2.1 0 9 = nI tl by rw [a2.2 0 9 (by omega), h9]) htl, Option.bind_some, c1, Option.bind_some]
    unfold s_X8_thereAt
    rw [c_know e11 hs, Option.bind_some, bI_n, if_neg (not_not_intro in1), zLd_t (zIn_nI (by omega) (by decide)), nI_clamp (by omega), c4 k (by omega)]
    rfl
theorem m_think (h : rT s w p σ) (hl : mLw σ code) (hk : k < s) (hn : 1 ≤ n ∧ n ≤ 60) {a : Nat} (ha : a ≤ 4) (b : Nat) {τ κ : ZSt} (g : gK σ τ tl) (f : fM k τ κ) (h74 : κ.1 74 k = nI a) (h75 : κ.1 75 k = nI b) : ∃ μ, s_X10_goesWeeks (nI n) κ = some μ ∧ fM k τ μ ∧ μ.1 89 k = tc σ code s p k n a b ∧ μ.1 87 k = tth σ code s p k n a b ∧ μ.1 74 k = nI a ∧ μ.1 75 k = nI b := by
  have K : mK σ κ s (tW σ k a) (tS σ k b) := ⟨fun c e q => by rw [f c e (by omega) (by omega) (by omega) (by omega), g.2 c e (by omega)], fun i hi => by
    unfold tW tS up
    by_cases z : i = k
    · rw [if_pos z, if_pos z, z, h74, h75]
      exact ⟨rfl, rfl⟩
    · obtain ⟨-, -, ⟨x4, -⟩, ⟨x5, -⟩⟩ := h.2.2.1 i hi
      rw [if_neg z, if_neg z, f 74 i (by omega) (by omega) (by omega) (by omega), f 75 i (by omega) (by omega) (by omega) (by omega), g.2 74 i (by omega), g.2 75 i (by omega), x4, x5]
      exact ⟨rfl, rfl⟩⟩
  obtain ⟨μ, m1, m2, m3, m4, m5, m6⟩ := m_goes (code := code) h hl (tW_r h ha) (X0 := σ.1 13) (fun q _ => rfl) hn K
  exact ⟨μ, m1, fun c e q1 q2 q3 q4 => by rw [m6 c e q1 q2, f c e q1 q2 q3 q4], m4 k hk, m3 k hk, by rw [m6 74 k (by omega) (by omega), h74], by rw [m6 75 k (by omega) (by omega), h75]⟩
/-- the best so far: its code and its cost -/
def bst (v : Nat → Nat → Int32) (o : Option (Nat × Int32)) (a b : Nat) : Option (Nat × Int32) := o.elim (some (100 * a + b, v a b)) (fun q => if q.2 ≤ v a b then some q else some (100 * a + b, v a b))
def bi (v : Nat → Nat → Int32) (o : Option (Nat × Int32)) (a : Nat) : Nat → Option (Nat × Int32)
  | 0 => o
  | j + 1 => bst v (bi v o a j) a (10 * j)
def bcn (a : Nat) : Nat := if a = 0 ∨ a = 3 then 1 else 10
def bo (v : Nat → Nat → Int32) : Nat → Option (Nat × Int32)
  | 0 => none
  | a + 1 => bi v (bo v a) a (bcn a)
def okB (o : Option (Nat × Int32)) : Prop := ∀ q, o = some q → q.1 ≤ 1000
def bC (e : Int32) (o : Option (Nat × Int32)) : Int32 := o.elim e (fun q => nI q.1)
def bV (o : Option (Nat × Int32)) : Int32 := o.elim 0 (fun q => q.2)
theorem bst_ok {v : Nat → Nat → Int32} {o : Option (Nat × Int32)} (h : okB o) {a b : Nat} (ha : a ≤ 4) (hb : b ≤ 99) : okB (bst v o a b) ∧ (bst v o a b).isSome = true := by
  unfold bst
  cases o with
  | none =>
    rw [Option.elim_none]
    exact ⟨fun q e => by cases e; show 100 * a + b ≤ 1000; omega, rfl⟩
  | some r =>
    rw [Option.elim_some]
    by_cases z : r.2 ≤ v a b
    · rw [if_pos z]
      exact ⟨h, rfl⟩
    · rw [if_neg z]
      exact ⟨fun q e => by cases e; show 100 * a + b ≤ 1000; omega, rfl⟩
theorem bi_ok {v : Nat → Nat → Int32} {o : Option (Nat × Int32)} (h : okB o) {a : Nat} (ha : a ≤ 4) : ∀ j, j ≤ 10 → okB (bi v o a j) := by
  intro j
  induction j with
  | zero => intro _; exact h
  | succ j ih => intro hj; exact (bst_ok (ih (by omega)) ha (by omega)).1
theorem bcn_le (a : Nat) : 1 ≤ bcn a ∧ bcn a ≤ 10 := by
  unfold bcn
  by_cases z : a = 0 ∨ a = 3
  · rw [if_pos z]; omega
  · rw [if_neg z]; omega
theorem bo_ok (v : Nat → Nat → Int32) : ∀ a, a ≤ 5 → okB (bo v a) := by
  intro a
  induction a with
  | zero => intro _ q e; cases e
  | succ a ih =>
    intro ha
    exact bi_ok (ih (by omega)) (by omega) _ (bcn_le a).2
theorem bo_some (v : Nat → Nat → Int32) : ∃ q : Nat × Int32, bo v 5 = some q := by
  have h := (bst_ok (v := v) (bi_ok (v := v) (bo_ok v 4 (by omega)) (show 4 ≤ 4 by omega) 9 (by omega)) (show 4 ≤ 4 by omega) (show 10 * 9 ≤ 99 by omega)).2
  exact Option.isSome_iff_exists.mp h
end THINK
