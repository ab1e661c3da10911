/-! WEEKS: what they are, and the class's, up to what is paid -/
def yF (σb : ZSt) (P th X : Nat → Int32) (q k : Nat) : Nat → Int32 := fun i => if i = 0 then σb.1 2 k else if i = 1 then σb.1 11 q else if i = 2 then P k else if i = 3 then σb.1 12 q else if i = 4 then th k else if i = 5 then σb.1 10 q else if i = 6 then nI k else bI (X q = nI k)
def yc (σb : ZSt) (code : List Int32) (P th X : Nat → Int32) (q : Nat) : Nat → Int32 × Int32
  | 0 => (0, -1)
  | k + 1 => if wv code (yF σb P th X q k) ≤ (yc σb code P th X q k).1 then yc σb code P th X q k else (wv code (yF σb P th X q k), nI k)
def yt (X : Nat → Int32) (k : Nat) : Nat → Nat
  | 0 => 0
  | q + 1 => if X q = nI k then yt X k q + 1 else yt X k q
def yth (X : Nat → Int32) (p k : Nat) : Int32 := nI (yt X k p)
def yp (W S th : Nat → Int32) (k : Nat) : Int32 := if W k = 2 ∨ W k = 4 then (if 1 < th k then 1 else th k) * S k else if W k = 1 then th k * S k else 0
def ynx (σb : ZSt) (code : List Int32) (s p : Nat) (r : (Nat → Int32) × (Nat → Int32)) : Nat → Int32 := fun q => (yc σb code r.2 (yth r.1 p) r.1 q s).2
def yI (σb : ZSt) (code : List Int32) (W S : Nat → Int32) (s p : Nat) (X0 : Nat → Int32) : Nat → (Nat → Int32) × (Nat → Int32)
  | 0 => (X0, fun _ => 0)
  | n + 1 => (ynx σb code s p (yI σb code W S s p X0 n), fun k => yp W S (yth (ynx σb code s p (yI σb code W S s p X0 n)) p) k)
def okX (s p : Nat) (X : Nat → Int32) : Prop := ∀ q, q < p → X q = -1 ∨ ∃ k, k < s ∧ X q = nI k
theorem clampLt {x : Int32} (h : ¬ (8 : Int32) ≤ x) : x.toNatClampNeg < 8 := by
  by_cases q : 0 ≤ x
  · obtain ⟨k, hk, rfl⟩ := ofN (s := 8) (by omega) q (by rw [← i8]; exact Int32.not_le.mp h)
    rw [nI_clamp (by omega)]
    exact hk
  · have q' := Int32.not_le.mp q
    rw [Int32.lt_iff_toInt_lt, toI0] at q'
    show x.toInt.toNat < 8
    omega
theorem stp_congr {F F' : Nat → Int32} (h : ∀ i, i < 8 → F i = F' i) (v : Int32) (s : List Int32) : stp F v s = stp F' v s := by
  unfold stp
  by_cases g : (0 : Int32) ≤ -100 - v
  · rw [if_pos g, if_pos g]
  · rw [if_neg g, if_neg g]
    by_cases g2 : v < 0
    · rw [if_pos g2, if_pos g2]
      by_cases g3 : (8 : Int32) ≤ -1 - v
      · rw [if_pos g3, if_pos g3]
      · rw [if_neg g3, if_neg g3, h _ (clampLt g3)]
    · rw [if_neg g2, if_neg g2]
theorem wstp_congr {F F' : Nat → Int32} (h : ∀ i, i < 8 → F i = F' i) (st : WS) (v : Int32) : wstp F st v = wstp F' st v := by
  unfold wstp
  rw [stp_congr h]
theorem wrun_congr {F F' : Nat → Int32} (h : ∀ i, i < 8 → F i = F' i) (c : List Int32) : ∀ st, wrun F c st = wrun F' c st := by
  induction c with
  | nil => intro st; rw [wrun_nil, wrun_nil]
  | cons v c ih => intro st; rw [wrun_cons, wrun_cons, wstp_congr h, ih]
theorem wv_congr {F F' : Nat → Int32} (h : ∀ i, i < 8 → F i = F' i) (c : List Int32) : wv c F = wv c F' := by
  unfold wv
  rw [wrun_congr h, h 0 (by omega), h 1 (by omega), h 4 (by omega)]
theorem yc_ok (σb : ZSt) (code : List Int32) (P th X : Nat → Int32) (q : Nat) : ∀ k, (yc σb code P th X q k).2 = -1 ∨ ∃ j, j < k ∧ (yc σb code P th X q k).2 = nI j := by
  intro k
  induction k with
  | zero => exact Or.inl rfl
  | succ k ih =>
    have e : yc σb code P th X q (k + 1) = if wv code (yF σb P th X q k) ≤ (yc σb code P th X q k).1 then yc σb code P th X q k else (wv code (yF σb P th X q k), nI k) := by rw [yc]
    rw [e]
    by_cases g : wv code (yF σb P th X q k) ≤ (yc σb code P th X q k).1
    · rw [if_pos g]
      rcases ih with i | ⟨j, hj, i⟩
      · exact Or.inl i
      · exact Or.inr ⟨j, by omega, i⟩
    · rw [if_neg g]
      exact Or.inr ⟨k, by omega, rfl⟩
theorem okX_nx (σb : ZSt) (code : List Int32) (s p : Nat) (r : (Nat → Int32) × (Nat → Int32)) : okX s p (ynx σb code s p r) := fun q _ => yc_ok _ _ _ _ _ q s
theorem yt_le (X : Nat → Int32) (k : Nat) : ∀ p, yt X k p ≤ p := by
  intro p
  induction p with
  | zero => exact Nat.le_refl _
  | succ p ih =>
    rw [yt]
    split <;> omega
theorem yt_congr {X X' : Nat → Int32} (k : Nat) : ∀ p, (∀ q, q < p → X q = X' q) → yt X k p = yt X' k p := by
  intro p
  induction p with
  | zero => intro _; rfl
  | succ p ih =>
    intro h
    rw [yt, yt, h p (by omega), ih (fun q hq => h q (by omega))]
theorem yth_congr {X X' : Nat → Int32} {p : Nat} (h : ∀ q, q < p → X q = X' q) : yth X p = yth X' p := funext fun k => by
  unfold yth
  rw [yt_congr k p h]
theorem yF_congr {σb : ZSt} {P th X X' : Nat → Int32} {q k : Nat} (h : X q = X' q) : yF σb P th X q k = yF σb P th X' q k := by
  unfold yF
  rw [h]
theorem yc_congr {σb : ZSt} {code : List Int32} {P th X X' : Nat → Int32} {q : Nat} (h : X q = X' q) : ∀ k, yc σb code P th X q k = yc σb code P th X' q k := by
  intro k
  induction k with
  | zero => rfl
  | succ k ih => rw [yc, yc, ih, yF_congr h]
theorem ynx_congr {σb : ZSt} {code : List Int32} {s p : Nat} {r r' : (Nat → Int32) × (Nat → Int32)} (h1 : ∀ q, q < p → r.1 q = r'.1 q) (h2 : r.2 = r'.2) : ∀ q, q < p → ynx σb code s p r q = ynx σb code s p r' q := fun q hq => by
  unfold ynx
  rw [h2, yth_congr h1, yc_congr (h1 q hq)]
/-- where all are behind week i + 1 -/
def yA (σb : ZSt) (code : List Int32) (W S : Nat → Int32) (s p : Nat) (X0 : Nat → Int32) (i : Nat) : Nat → Int32 := (yI σb code W S s p X0 (i + 1)).1
section CYCLE
variable {σb : ZSt} {code : List Int32} {W S : Nat → Int32} {s p : Nat} {X0 : Nat → Int32}
theorem yI_succ (n : Nat) : yI σb code W S s p X0 (n + 1) = (ynx σb code s p (yI σb code W S s p X0 n), fun k => yp W S (yth (ynx σb code s p (yI σb code W S s p X0 n)) p) k) := by rw [yI]
theorem yI_2 (n : Nat) : (yI σb code W S s p X0 (n + 1)).2 = fun k => yp W S (yth (yA σb code W S s p X0 n) p) k := by
  unfold yA
  rw [yI_succ]
theorem yA_shift {i j : Nat} (h : ∀ q, q < p → yA σb code W S s p X0 i q = yA σb code W S s p X0 j q) : ∀ m, ∀ q, q < p → yA σb code W S s p X0 (i + m) q = yA σb code W S s p X0 (j + m) q := by
  intro m
  induction m with
  | zero => exact h
  | succ m ih =>
    intro q hq
    show (yI σb code W S s p X0 (i + m + 1 + 1)).1 q = (yI σb code W S s p X0 (j + m + 1 + 1)).1 q
    rw [yI_succ, yI_succ (j + m + 1)]
    refine ynx_congr (r := yI σb code W S s p X0 (i + m + 1)) (r' := yI σb code W S s p X0 (j + m + 1)) ih ?_ q hq
    rw [yI_2, yI_2, yth_congr ih]
theorem yA_mod {f d : Nat} (hd : 0 < d) (h : ∀ q, q < p → yA σb code W S s p X0 (f + d) q = yA σb code W S s p X0 f q) : ∀ m, ∀ q, q < p → yA σb code W S s p X0 (f + m) q = yA σb code W S s p X0 (f + m % d) q := by
  intro m
  induction m using Nat.strongRecOn with
  | _ m ih =>
    intro q hq
    rcases Nat.lt_or_ge m d with g | g
    · rw [Nat.mod_eq_of_lt g]
    · have e1 := yA_shift h (m - d) q hq
      rw [show f + d + (m - d) = f + m by omega] at e1
      rw [e1, ih (m - d) (by omega) q hq, Nat.mod_eq_sub_mod g]
end CYCLE
/-- what the class's weeks leave alone -/
def gK (σb τ : ZSt) (tl : Nat) : Prop := τ.2 = σb.2 ∧ ∀ c f, (c ≤ 13 ∨ 68 ≤ c ∨ (c = tl ∧ f = 2) ∨ c = tl + 1) → τ.1 c f = σb.1 c f
theorem gK.T {s w p tl : Nat} {σb τ : ZSt} (g : gK σb τ tl) (h : rT s w p σb) : rT s w p τ := rT_at (fun c f q => by
  refine ⟨g.2 c f ?_, by rw [g.1]⟩
  by_cases q1 : c ≤ 13
  · exact Or.inl q1
  · by_cases q2 : 68 ≤ c
    · exact Or.inr (Or.inl q2)
    · exfalso
      simp only [zHit, cT, List.any_cons, List.any_nil, Bool.or_false, Bool.or_eq_true, Bool.and_eq_true, beq_iff_eq] at q
      omega) h
theorem gK.wd {σb τ : ZSt} {tl c f : Nat} {v : Int32} (g : gK σb τ tl) (h : 14 ≤ c ∧ c < 68 ∧ ¬ (c = tl ∧ f = 2) ∧ ¬ c = tl + 1) : gK σb (zWD τ c f v) tl := ⟨g.1, fun x e q => by rw [wd1, if_neg (by omega)]; exact g.2 x e q⟩
theorem gK.to {σb τ τ' : ZSt} {tl : Nat} (g : gK σb τ tl) (h2 : τ'.2 = τ.2) (h : ∀ c f, (c ≤ 13 ∨ 68 ≤ c ∨ (c = tl ∧ f = 2) ∨ c = tl + 1) → τ'.1 c f = τ.1 c f) : gK σb τ' tl := ⟨h2.trans g.1, fun c f q => (h c f q).trans (g.2 c f q)⟩
section TOWN
variable {s w p tl : Nat} {σb τ : ZSt}
theorem gTake (g : gK σb τ tl) (h : rT s w p σb) {k : Nat} (hk : k < s) : s_X7_take (nI k) τ = some (σb.1 2 k) := by
  have hs := h.1.1
  unfold s_X7_take
  rw [cIsStreet (g.T h), Option.bind_some, bI_n, if_neg (fun z => z (nI_lt_s hk (by omega))), zLd_t (zIn_nI (by omega) (by decide)), nI_clamp (by omega), g.2 2 k (Or.inl (by omega))]
theorem gLaw (g : gK σb τ tl) (h : rT s w p σb) {k : Nat} (hk : k < s) : s_X7_lawOfQuiet (nI k) τ = some (σb.1 3 k) := by
  have hs := h.1.1
  unfold s_X7_lawOfQuiet
  rw [cIsStreet (g.T h), Option.bind_some, bI_n, if_neg (fun z => z (nI_lt_s hk (by omega))), zLd_t (zIn_nI (by omega) (by decide)), nI_clamp (by omega), g.2 3 k (Or.inl (by omega))]
theorem gCost (g : gK σb τ tl) (h : rT s w p σb) {q : Nat} (hq : q < p) : s_X7_cost (nI q) τ = some (σb.1 11 q) := by
  have hp := h.1.2.2
  unfold s_X7_cost
  rw [cIsPlayer (g.T h), Option.bind_some, bI_n, if_neg (fun z => z (nI_lt_s hq (by omega))), zLd_t (zIn_nI (by omega) (by decide)), nI_clamp (by omega), g.2 11 q (Or.inl (by omega))]
theorem gHear (g : gK σb τ tl) (h : rT s w p σb) {q : Nat} (hq : q < p) : s_X7_hearing (nI q) τ = some (σb.1 12 q) := by
  have hp := h.1.2.2
  unfold s_X7_hearing
  rw [cIsPlayer (g.T h), Option.bind_some, bI_n, if_neg (fun z => z (nI_lt_s hq (by omega))), zLd_t (zIn_nI (by omega) (by decide)), nI_clamp (by omega), g.2 12 q (Or.inl (by omega))]
theorem gGood (g : gK σb τ tl) (h : rT s w p σb) {q : Nat} (hq : q < p) : s_X7_goodOf (nI q) τ = some (σb.1 10 q) := by
  rw [cGoodOf (g.T h) hq, g.2 10 q (Or.inl (by omega))]
theorem gPlace (g : gK σb τ tl) (h : rT s w p σb) {q : Nat} (hq : q < p) : s_X7_place (nI q) τ = some (σb.1 13 q) := by
  have hp := h.1.2.2
  unfold s_X7_place
  rw [cIsPlayer (g.T h), Option.bind_some, bI_n, if_neg (fun z => z (nI_lt_s hq (by omega))), zLd_t (zIn_nI (by omega) (by decide)), nI_clamp (by omega), g.2 13 q (Or.inl (by omega))]
end TOWN
section CWEEK
variable {s w p tl t : Nat} {σb : ZSt} {code : List Int32} {W S : Nat → Int32}
theorem c_cnt_L (ht : t = 19 ∨ t = 30) (hp : p ≤ 8) {X : Nat → Int32} (hX : okX 6 p X) : ∀ (n j : Nat) (τ : ZSt), p < n + j → j ≤ p → τ.1 t 12 = nI p → (∀ q, q < p → τ.1 (t + 6) q = X q) → (∀ k, k < 6 → τ.1 (t + 3) k = nI (yt X k j)) → ∃ τ', s_X8_countThere_L23 t n (nI j) τ = some τ' ∧ τ'.2 = τ.2 ∧ (∀ k, k < 6 → τ'.1 (t + 3) k = yth X p k) ∧ ∀ c f, ¬ c = t + 3 → τ'.1 c f = τ.1 c f := by
  intro n
  induction n with
  | zero => intro j τ h1 h2; omega
  | succ n ih =>
    intro j τ h1 h2 hp12 hw hc
    have e5 : (nI p ≤ nI j) = (p ≤ j) := nI_le_n (by omega) (by omega)
    rw [s_X8_countThere_L23, hp12]
    by_cases hj : p ≤ j
    · have : j = p := by omega
      subst this
      rw [if_pos (by rw [e5]; exact hj)]
      exact ⟨τ, rfl, rfl, hc, fun c f _ => rfl⟩
    · have hz := zIn_nI (a := j) (n := 8) (by omega) (by decide)
      have hcl := nI_clamp (n := j) (by omega)
      rw [if_neg (by rw [e5]; exact hj), s_X8_isSomewhere, zLd_t hz, zLd_t hz, hcl, hw j (by omega)]
      rcases hX j (by omega) with e | ⟨k, hk, e⟩
      · rw [e, if_pos (by decide), Option.bind_some, if_pos rfl, nI_1]
        refine ih (j + 1) τ (by omega) (by omega) hp12 hw (fun k hk => ?_)
        rw [hc k hk, yt, e, if_neg (fun q => ne1 (by omega) q.symm)]
      · have hzk := zIn_nI (a := k) (n := 6) hk (by decide)
        have hck := nI_clamp (n := k) (by omega)
        have hyl := yt_le X k j
        rw [e, if_neg (nlt0 (by omega)), if_neg (by rw [i6, nI_leI (by decide) (by omega)]; omega), Option.bind_some, if_neg (by decide), zLd_t hz, zLd_t hzk, zSg_t hzk, hck, hc k hk, nI_1, nI_1]
        obtain ⟨τ', a1, a2, a3, a4⟩ := ih (j + 1) (zWD τ (t + 3) k (nI (yt X k j + 1))) (by omega) (by omega) (by rw [wd1, if_neg (by omega), hp12]) (fun q hq => by rw [wd1, if_neg (by omega), hw q hq]) (fun k' hk' => by
          rw [wd1, yt, e]
          by_cases ek : k' = k
          · subst ek
            rw [if_pos ⟨rfl, rfl⟩, if_pos rfl]
          · rw [if_neg (fun q => ek q.2), hc k' hk', if_neg (fun q => ek ((nI_eq (by omega) (by omega)).mp q).symm)])
        exact ⟨τ', a1, a2, a3, fun c f q => by rw [a4 c f q, wd1, if_neg (by omega)]⟩
theorem c_zero_L (ht : t = 19 ∨ t = 30) : ∀ (n j : Nat) (τ : ZSt), 6 < n + j → j ≤ 6 → ∃ τ', s_X8_countThere_L2 t n (nI j) τ = s_X8_countThere_L23 t 200 0 τ' ∧ τ'.2 = τ.2 ∧ (∀ k, j ≤ k → k < 6 → τ'.1 (t + 3) k = 0) ∧ ∀ c f, ¬ (c = t + 3 ∧ j ≤ f ∧ f < 6) → τ'.1 c f = τ.1 c f := by
  intro n
  induction n with
  | zero => intro j τ h1 h2; omega
  | succ n ih =>
    intro j τ h1 h2
    have e5 : ((6 : Int32) ≤ nI j) = (6 ≤ j) := by rw [i6]; exact nI_le_n (by omega) (by omega)
    rw [s_X8_countThere_L2]
    by_cases hj : 6 ≤ j
    · rw [if_pos (by rw [e5]; exact hj)]
      exact ⟨τ, rfl, rfl, fun k q1 q2 => by omega, fun c f _ => rfl⟩
    · rw [if_neg (by rw [e5]; exact hj), zSg_t (zIn_nI (by omega) (by decide)), nI_clamp (by omega), nI_1]
      obtain ⟨τ', a1, a2, a3, a4⟩ := ih (j + 1) (zWD τ (t + 3) j 0) (by omega) (by omega)
      refine ⟨τ', a1, a2, fun k q1 q2 => ?_, fun c f q => by rw [a4 c f (by omega), wd1, if_neg (by omega)]⟩
      by_cases e : k = j
      · subst e
        rw [a4 (t + 3) k (by omega), wd1, if_pos ⟨rfl, rfl⟩]
      · exact a3 k (by omega) q2
theorem c_count (ht : t = 19 ∨ t = 30) (hp : p ≤ 8) {X : Nat → Int32} (hX : okX 6 p X) {τ : ZSt} (h12 : τ.1 t 12 = nI p) (hw : ∀ q, q < p → τ.1 (t + 6) q = X q) : ∃ τ', s_X8_countThere t τ = some τ' ∧ τ'.2 = τ.2 ∧ (∀ k, k < 6 → τ'.1 (t + 3) k = yth X p k) ∧ ∀ c f, ¬ c = t + 3 → τ'.1 c f = τ.1 c f := by
  obtain ⟨τ1, a1, a2, a3, a4⟩ := c_zero_L ht 200 0 τ (by omega) (by omega)
  obtain ⟨τ2, b1, b2, b3, b4⟩ := c_cnt_L ht hp hX 200 0 τ1 (by omega) (by omega) (by rw [a4 t 12 (by omega), h12]) (fun q hq => by rw [a4 (t + 6) q (by omega), hw q hq]) (fun k hk => a3 k (by omega) hk)
  refine ⟨τ2, ?_, b2.trans a2, b3, fun c f q => by rw [b4 c f q, a4 c f (by omega)]⟩
  unfold s_X8_countThere
  exact a1.trans b1
/-- the class's weeks: ways W, sums S, all at X, paid P -/
def cW (σb : ZSt) (s p tl t : Nat) (W S X P : Nat → Int32) (τ : ZSt) : Prop := gK σb τ tl ∧ (τ.1 t 11 = nI s ∧ τ.1 t 12 = nI p) ∧ (∀ k, k < 6 → τ.1 (t + 1) k = W k ∧ τ.1 (t + 2) k = S k) ∧ (∀ q, q < p → τ.1 (t + 6) q = X q) ∧ (∀ k, k < 6 → τ.1 (t + 3) k = yth X p k) ∧ ∀ k, k < s → τ.1 (t + 4) k = P k
/-- the law in force, as the class has it -/
def cLw (σb : ZSt) (tl : Nat) (code : List Int32) : Prop := (tl = 62 ∨ tl = 65) ∧ code.length ≤ 121 ∧ σb.1 tl 2 = nI code.length ∧ ∀ j, j < code.length → σb.1 (tl + 1) j = code.getD j 0
def fr9 (t tl : Nat) (τ τ' : ZSt) : Prop := τ'.2 = τ.2 ∧ ∀ c f, ¬ c = t + 9 → ¬ (c = tl ∧ f = 3) → ¬ c = tl + 2 → τ'.1 c f = τ.1 c f
theorem fr9.trans {a b c : ZSt} (h : fr9 t tl a b) (k : fr9 t tl b c) : fr9 t tl a c := ⟨k.1.trans h.1, fun x f q1 q2 q3 => (k.2 x f q1 q2 q3).trans (h.2 x f q1 q2 q3)⟩
theorem cW.fr {X P : Nat → Int32} {τ τ' : ZSt} (ht : t = 19 ∨ t = 30) (htl : tl = 62 ∨ tl = 65) (h : cW σb s p tl t W S X P τ) (f : fr9 t tl τ τ') : cW σb s p tl t W S X P τ' := by
  obtain ⟨g, ⟨h1, h2⟩, h3, h4, h5, h6⟩ := h
  obtain ⟨f1, f2⟩ := f
  refine ⟨g.to f1 (fun c e q => f2 c e (by omega) (by omega) (by omega)), ⟨by rw [f2 t 11 (by omega) (by omega) (by omega), h1], by rw [f2 t 12 (by omega) (by omega) (by omega), h2]⟩, fun k hk => ?_, fun q hq => ?_, fun k hk => ?_, fun k hk => ?_⟩
  · rw [f2 (t + 1) k (by omega) (by omega) (by omega), f2 (t + 2) k (by omega) (by omega) (by omega)]
    exact h3 k hk
  · rw [f2 (t + 6) q (by omega) (by omega) (by omega), h4 q hq]
  · rw [f2 (t + 3) k (by omega) (by omega) (by omega), h5 k hk]
  · rw [f2 (t + 4) k (by omega) (by omega) (by omega), h6 k hk]
theorem z8 {n : Nat} (h : n < 8) : zIn (nI n) 8 = true := zIn_nI h (by decide)
theorem c_choice_L (ht : t = 19 ∨ t = 30) (hb : rT s w p σb) (hl : cLw σb tl code) {X P : Nat → Int32} {q : Nat} (hq : q < p) : ∀ (n k : Nat) (τ : ZSt), s < n + k → k ≤ s → cW σb s p tl t W S X P τ → τ.1 (t + 9) 1 = σb.1 11 q → τ.1 (t + 9) 3 = σb.1 12 q → τ.1 (t + 9) 5 = σb.1 10 q → ∃ τ', s_X8_choice_L50 t tl (nI q) n (yc σb code P (yth X p) X q k).1 (yc σb code P (yth X p) X q k).2 (nI k) τ = some ((yc σb code P (yth X p) X q s).2, τ') ∧ fr9 t tl τ τ' := by
  obtain ⟨htl, hc, hl1, hl2⟩ := hl
  have hs := hb.1.1
  have hp := hb.1.2.2
  intro n
  induction n with
  | zero => intro k τ h1 h2; omega
  | succ n ih =>
    intro k τ h1 h2 hW g1 g3 g5
    obtain ⟨g, ⟨w1, w2⟩, w3, w4, w5, w6⟩ := id hW
    have e5 : (nI s ≤ nI k) = (s ≤ k) := nI_le_n (by omega) (by omega)
    rw [s_X8_choice_L50, w1]
    by_cases hk : s ≤ k
    · have : k = s := by omega
      subst this
      rw [if_pos (by rw [e5]; exact hk)]
      exact ⟨τ, rfl, rfl, fun _ _ _ _ _ => rfl⟩
    · have hzk := zIn_nI (a := k) (n := 6) (by omega) (by decide)
      have hck := nI_clamp (n := k) (by omega)
      have hzq := zIn_nI (a := q) (n := 8) (by omega) (by decide)
      have hcq := nI_clamp (n := q) (by omega)
      rw [if_neg (by rw [e5]; exact hk), gTake g hb (by omega), Option.bind_some, zSg_t (show zIn (0 : Int32) 8 = true by decide), show (0 : Int32).toNatClampNeg = 0 from rfl, zLd_t hzk, hck, wd1, if_neg (by omega), w6 k (by omega), zSg_t (show zIn (2 : Int32) 8 = true by decide), show (2 : Int32).toNatClampNeg = 2 from rfl, zLd_t hzk, wd1, if_neg (by omega), wd1, if_neg (by omega), w5 k (by omega), zSg_t (show zIn (4 : Int32) 8 = true by decide), show (4 : Int32).toNatClampNeg = 4 from rfl, zSg_t (show zIn (6 : Int32) 8 = true by decide), show (6 : Int32).toNatClampNeg = 6 from rfl, zLd_t hzq, hcq, show (zWD (zWD (zWD (zWD τ (t + 9) 0 (σb.1 2 k)) (t + 9) 2 (P k)) (t + 9) 4 (yth X p k)) (t + 9) 6 (nI k)).1 (t + 6) q = X q by rw [wd1, if_neg (by omega), wd1, if_neg (by omega), wd1, if_neg (by omega), wd1, if_neg (by omega), w4 q hq]]
      have fin : ∀ b : Int32, b = bI (X q = nI k) → ∃ τ', s_X8_choice_C131 t tl (s_X8_choice_L50 t tl (nI q) n) (nI q) (yc σb code P (yth X p) X q k).1 (yc σb code P (yth X p) X q k).2 (nI k) 7 b (zWD (zWD (zWD (zWD τ (t + 9) 0 (σb.1 2 k)) (t + 9) 2 (P k)) (t + 9) 4 (yth X p k)) (t + 9) 6 (nI k)) = some ((yc σb code P (yth X p) X q s).2, τ') ∧ fr9 t tl τ τ' := fun b eb => by
        have fr0 : fr9 t tl τ (zWD (zWD (zWD (zWD (zWD τ (t + 9) 0 (σb.1 2 k)) (t + 9) 2 (P k)) (t + 9) 4 (yth X p k)) (t + 9) 6 (nI k)) (t + 9) 7 b) := ⟨rfl, fun c f q1 _ _ => by rw [wd1, if_neg (by omega), wd1, if_neg (by omega), wd1, if_neg (by omega), wd1, if_neg (by omega), wd1, if_neg (by omega)]⟩
        have eF : ∀ i, i < 8 → (zWD (zWD (zWD (zWD (zWD τ (t + 9) 0 (σb.1 2 k)) (t + 9) 2 (P k)) (t + 9) 4 (yth X p k)) (t + 9) 6 (nI k)) (t + 9) 7 b).1 (t + 9) i = yF σb P (yth X p) X q k i := fun i hi => by
          unfold yF
          rcases (show i = 0 ∨ i = 1 ∨ i = 2 ∨ i = 3 ∨ i = 4 ∨ i = 5 ∨ i = 6 ∨ i = 7 by omega) with rfl | rfl | rfl | rfl | rfl | rfl | rfl | rfl
          · simp [wd1]
          · simp [wd1, g1]
          · simp [wd1]
          · simp [wd1, g3]
          · simp [wd1]
          · simp [wd1, g5]
          · simp [wd1]
          · simp [wd1, eb]
        have g1' : (zWD (zWD (zWD (zWD (zWD τ (t + 9) 0 (σb.1 2 k)) (t + 9) 2 (P k)) (t + 9) 4 (yth X p k)) (t + 9) 6 (nI k)) (t + 9) 7 b).1 (t + 9) 1 = σb.1 11 q := by simp [wd1, g1]
        have g3' : (zWD (zWD (zWD (zWD (zWD τ (t + 9) 0 (σb.1 2 k)) (t + 9) 2 (P k)) (t + 9) 4 (yth X p k)) (t + 9) 6 (nI k)) (t + 9) 7 b).1 (t + 9) 3 = σb.1 12 q := by simp [wd1, g3]
        have g5' : (zWD (zWD (zWD (zWD (zWD τ (t + 9) 0 (σb.1 2 k)) (t + 9) 2 (P k)) (t + 9) 4 (yth X p k)) (t + 9) 6 (nI k)) (t + 9) 7 b).1 (t + 9) 5 = σb.1 10 q := by simp [wd1, g5]
        have hW0 := hW.fr ht htl fr0
        unfold s_X8_choice_C131
        rw [zSg_t (show zIn (7 : Int32) 8 = true by decide), show (7 : Int32).toNatClampNeg = 7 from rfl]
        generalize zWD (zWD (zWD (zWD (zWD τ (t + 9) 0 (σb.1 2 k)) (t + 9) 2 (P k)) (t + 9) 4 (yth X p k)) (t + 9) 6 (nI k)) (t + 9) 7 b = κ at *
        obtain ⟨κ', k1, k2⟩ := c_worth (τ := κ) (tl := tl) (p0 := t + 9) (code := code) ⟨by omega, by omega, by omega⟩ hc (by rw [hW0.1.2 tl 2 (by omega), hl1]) (fun j hj => by rw [hW0.1.2 (tl + 1) j (by omega), hl2 j hj])
        have fk : fr9 t tl κ κ' := ⟨k2.1, fun c f q1 q2 q3 => k2.2 c f q2 q3⟩
        have e1 : wv code (κ.1 (t + 9)) = wv code (yF σb P (yth X p) X q k) := wv_congr eF code
        have step := ih (k + 1) κ' (by omega) (by omega) (hW0.fr ht htl fk) (by rw [k2.2 _ _ (by omega) (by omega), g1']) (by rw [k2.2 _ _ (by omega) (by omega), g3']) (by rw [k2.2 _ _ (by omega) (by omega), g5'])
        have ey : yc σb code P (yth X p) X q (k + 1) = if wv code (yF σb P (yth X p) X q k) ≤ (yc σb code P (yth X p) X q k).1 then yc σb code P (yth X p) X q k else (wv code (yF σb P (yth X p) X q k), nI k) := by rw [yc]
        obtain ⟨τ', s1, s2⟩ := step
        rw [k1, Option.bind_some, e1, nI_1]
        refine ⟨τ', ?_, (fr0.trans fk).trans s2⟩
        by_cases z : wv code (yF σb P (yth X p) X q k) ≤ (yc σb code P (yth X p) X q k).1
        · rw [if_pos z]
          rw [ey, if_pos z] at s1
          exact s1
        · rw [if_neg z]
          rw [ey, if_neg z] at s1
          exact s1
      by_cases z : X q = nI k
      · rw [if_pos z]
        exact fin 1 (by rw [bI_t z])
      · rw [if_neg z]
        exact fin 0 (by rw [bI_f z])
theorem c_choice (ht : t = 19 ∨ t = 30) (hb : rT s w p σb) (hl : cLw σb tl code) {X P : Nat → Int32} {q : Nat} (hq : q < p) {τ : ZSt} (hW : cW σb s p tl t W S X P τ) : ∃ τ', s_X8_choice t tl (nI q) τ = some (ynx σb code s p (X, P) q, τ') ∧ fr9 t tl τ τ' := by
  have htl := hl.1
  have hs := hb.1.1
  have g := hW.1
  have f1 : ∀ (τ0 : ZSt) (i : Nat) (v : Int32), fr9 t tl τ0 (zWD τ0 (t + 9) i v) := fun τ0 i v => ⟨rfl, fun c f q1 _ _ => by rw [wd1, if_neg (by omega)]⟩
  unfold s_X8_choice
  rw [gCost g hb hq, Option.bind_some, zSg_t (show zIn (1 : Int32) 8 = true by decide), show (1 : Int32).toNatClampNeg = 1 from rfl, gHear (hW.fr ht htl (f1 τ 1 (σb.1 11 q))).1 hb hq, Option.bind_some, zSg_t (show zIn (3 : Int32) 8 = true by decide), show (3 : Int32).toNatClampNeg = 3 from rfl, gGood ((hW.fr ht htl (f1 τ 1 (σb.1 11 q))).fr ht htl (f1 _ 3 (σb.1 12 q))).1 hb hq, Option.bind_some, zSg_t (show zIn (5 : Int32) 8 = true by decide), show (5 : Int32).toNatClampNeg = 5 from rfl]
  have W3 := ((hW.fr ht htl (f1 τ 1 (σb.1 11 q))).fr ht htl (f1 _ 3 (σb.1 12 q))).fr ht htl (f1 _ 5 (σb.1 10 q))
  obtain ⟨τ', a1, a2⟩ := c_choice_L (code := code) ht hb hl hq 200 0 _ (by omega) (by omega) W3 (by simp [wd1]) (by simp [wd1]) (by simp [wd1])
  exact ⟨τ', a1, (((f1 τ 1 (σb.1 11 q)).trans (f1 _ 3 (σb.1 12 q))).trans (f1 _ 5 (σb.1 10 q))).trans a2⟩
end CWEEK
