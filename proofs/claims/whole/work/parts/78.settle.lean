/-! WEEKS: what a week costs and brings; the class's settling -/
def ya (σb : ZSt) (wk : Int32) (X : Nat → Int32) (k : Nat) : Nat → Option Nat
  | 0 => none
  | q + 1 => if X q = nI k then (ya σb wk X k q).elim (some q) (fun o => if wk = 4 ∧ ¬ σb.1 10 q ≤ σb.1 10 o then some q else some o) else ya σb wk X k q
/-- plays; gets; is sent off at; harm -/
abbrev yPl (σb : ZSt) (W X : Nat → Int32) (p k q : Nat) : Prop := W k = 0 ∨ (W k = 3 ∧ σb.1 3 k = 0) ∨ ((W k = 2 ∨ W k = 4) ∧ ya σb (W k) X k p = some q)
abbrev yGp (σb : ZSt) (W X : Nat → Int32) (p k q : Nat) : Prop := W k = 1 ∨ ((W k = 2 ∨ W k = 4) ∧ ya σb (W k) X k p = some q)
def yg (σb : ZSt) (W S X : Nat → Int32) (p k q : Nat) : Int32 := if yGp σb W X p k q then S k else 0
def yh (σb : ZSt) (W X : Nat → Int32) (p k q : Nat) : Int32 := if yPl σb W X p k q then (s_X7_harmOfStreet (nI k) (σb.1 10 q) σb).getD 0 else 0
def ys (σb : ZSt) (W : Nat → Int32) (k : Nat) : Int32 := if W k = 3 then σb.1 3 k else 0
def yk (σb : ZSt) (W X : Nat → Int32) (p k q : Nat) : Int32 := if yPl σb W X p k q then σb.1 2 k else 0
/-- COST of a street, EARNED of a player, in one week -/
def yco (σb : ZSt) (W S X : Nat → Int32) (p k : Nat) : Nat → Int32
  | 0 => 0
  | q + 1 => if X q = nI k then yco σb W S X p k q + ((yh σb W X p k q + yg σb W S X p k q) + ys σb W k) else yco σb W S X p k q
def yer (σb : ZSt) (W S X : Nat → Int32) (p q : Nat) : Int32 := if X q = -1 then 0 else (yk σb W X p (X q).toNatClampNeg q + yg σb W S X p (X q).toNatClampNeg q) - σb.1 11 q
theorem ya_lt (σb : ZSt) (wk : Int32) (X : Nat → Int32) (k : Nat) : ∀ j o, ya σb wk X k j = some o → o < j := by
  intro j
  induction j with
  | zero => intro o h; cases h
  | succ j ih =>
    intro o h
    rw [ya] at h
    by_cases q : X j = nI k
    · rw [if_pos q] at h
      cases e : ya σb wk X k j with
      | none =>
        rw [e, Option.elim_none] at h
        have := Option.some.inj h
        omega
      | some o' =>
        have := ih o' e
        rw [e, Option.elim_some] at h
        split at h
        · have := Option.some.inj h
          omega
        · have := Option.some.inj h
          omega
    · rw [if_neg q] at h
      have := ih o h
      omega
theorem ya_congr {σb : ZSt} {wk : Int32} {X X' : Nat → Int32} {k : Nat} : ∀ j, (∀ q, q < j → X q = X' q) → ya σb wk X k j = ya σb wk X' k j := by
  intro j
  induction j with
  | zero => intro _; rfl
  | succ j ih =>
    intro h
    rw [ya, ya, h j (by omega), ih (fun q hq => h q (by omega))]
theorem yco_congr {σb : ZSt} {W S X X' : Nat → Int32} {p k : Nat} (h : ∀ q, q < p → X q = X' q) : ∀ j, j ≤ p → yco σb W S X p k j = yco σb W S X' p k j := by
  intro j
  induction j with
  | zero => intro _; rfl
  | succ j ih =>
    intro hj
    have e := ya_congr (σb := σb) (wk := W k) (k := k) p h
    rw [yco, yco, h j (by omega), ih (by omega)]
    unfold yh yg yPl yGp
    rw [e]
theorem yer_congr {σb : ZSt} {W S X X' : Nat → Int32} {p q : Nat} (h : ∀ q, q < p → X q = X' q) (hq : q < p) : yer σb W S X p q = yer σb W S X' p q := by
  unfold yer
  rw [h q hq]
  unfold yk yg yPl yGp
  rw [ya_congr (σb := σb) (wk := W (X' q).toNatClampNeg) (k := (X' q).toNatClampNeg) p h]
/-- sums over weeks -/
def sm (h f : Nat → Int32) : Nat → Int32
  | 0 => 0
  | i + 1 => sm h f i + h i * f i
def s1 (f : Nat → Int32) : Nat → Int32
  | 0 => 0
  | i + 1 => s1 f i + f i
def hw (n u d i : Nat) : Nat := if d = 0 then 1 else if i < u - d then 1 else 1 + (n - 1 - i) / d
theorem sm_congr {h h' f : Nat → Int32} : ∀ u, (∀ i, i < u → h i = h' i) → sm h f u = sm h' f u := by
  intro u
  induction u with
  | zero => intro _; rfl
  | succ u ih =>
    intro e
    rw [sm, sm, ih (fun i hi => e i (by omega)), e u (by omega)]
theorem sm_one {h f : Nat → Int32} : ∀ u, (∀ i, i < u → h i = 1) → sm h f u = s1 f u := by
  intro u
  induction u with
  | zero => intro _; rfl
  | succ u ih =>
    intro e
    rw [sm, s1, ih (fun i hi => e i (by omega)), e u (by omega), Int32.one_mul]
theorem sm_bump {h h' f : Nat → Int32} {i0 : Nat} : ∀ u, i0 < u → (∀ i, i < u → h' i = if i = i0 then h i + 1 else h i) → sm h' f u = sm h f u + f i0 := by
  intro u
  induction u with
  | zero => intro q _; omega
  | succ u ih =>
    intro q e
    rw [sm, sm]
    by_cases z : i0 = u
    · subst z
      rw [sm_congr i0 (fun i hi => (e i (by omega)).trans (if_neg (by omega))), e i0 (by omega), if_pos rfl]
      grind
    · rw [ih (by omega) (fun i hi => e i (by omega)), e u (by omega), if_neg (by omega)]
      grind
theorem hw_step {n u d : Nat} (hd : 0 < d) (hdu : d ≤ u) (hn : u ≤ n) {i : Nat} (hi : i < u) : hw (n + 1) u d i = if i = (u - d) + (n - (u - d)) % d then hw n u d i + 1 else hw n u d i := by
  have hm := Nat.mod_lt (n - (u - d)) hd
  have e0 : ∀ n i, hw n u d i = if i < u - d then 1 else 1 + (n - 1 - i) / d := fun n i => by
    unfold hw
    rw [if_neg (by omega)]
  rw [e0, e0]
  by_cases q : i < u - d
  · rw [if_pos q, if_pos q, if_neg (by omega)]
  · rw [if_neg q, if_neg q]
    obtain ⟨e, he⟩ : ∃ e, n - 1 - i = e := ⟨_, rfl⟩
    have e1 : n + 1 - 1 - i = e + 1 := by omega
    rw [he, e1, Nat.succ_div]
    obtain ⟨b, hb, rfl⟩ : ∃ b, b < d ∧ i = (u - d) + b := ⟨i - (u - d), by omega, by omega⟩
    have key : (d ∣ e + 1) ↔ b = (n - (u - d)) % d := by
      have e2 : n - (u - d) = e + 1 + b := by omega
      rw [e2]
      constructor
      · rintro ⟨c, hc⟩
        rw [hc, Nat.mul_add_mod, Nat.mod_eq_of_lt hb]
      · intro hbm
        have h1 := Nat.div_add_mod (e + 1 + b) d
        rw [← hbm] at h1
        exact ⟨(e + 1 + b) / d, by omega⟩
    by_cases z : d ∣ e + 1
    · have z2 := key.mp z
      rw [if_pos z, if_pos (by omega)]
      omega
    · have z2 : ¬ b = (n - (u - d)) % d := fun y => z (key.mpr y)
      rw [if_neg z, if_neg (by omega)]
      omega
theorem sm_all {f : Nat → Int32} {u d : Nat} (hd : 0 < d) (hdu : d ≤ u) (hf : ∀ m, f ((u - d) + m) = f ((u - d) + m % d)) : ∀ m, sm (fun i => nI (hw (u + m) u d i)) f u = s1 f (u + m) := by
  intro m
  induction m with
  | zero =>
    refine sm_one u (fun i hi => ?_)
    unfold hw
    rw [if_neg (by omega)]
    by_cases q : i < u - d
    · rw [if_pos q]; rfl
    · rw [if_neg q, Nat.div_eq_of_lt (by omega)]
      rfl
  | succ m ih =>
    have e := sm_bump (f := f) (h := fun i => nI (hw (u + m) u d i)) (h' := fun i => nI (hw (u + m + 1) u d i)) (i0 := (u - d) + (u + m - (u - d)) % d) u (by have := Nat.mod_lt (u + m - (u - d)) hd; omega) (fun i hi => by
      show nI (hw (u + m + 1) u d i) = if i = _ then nI (hw (u + m) u d i) + 1 else nI (hw (u + m) u d i)
      rw [hw_step hd hdu (by omega) hi]
      by_cases q : i = (u - d) + (u + m - (u - d)) % d
      · rw [if_pos q, if_pos q, nI_1]
      · rw [if_neg q, if_neg q])
    show sm (fun i => nI (hw (u + m + 1) u d i)) f u = s1 f (u + m) + f (u + m)
    rw [e, ih, ← hf, show u - d + (u + m - (u - d)) = u + m by omega]
section CWEEK
variable {s w p tl t : Nat} {σb : ZSt} {code : List Int32} {W S : Nat → Int32}
theorem c_al_L (ht : t = 19 ∨ t = 30) (hb : rT s w p σb) {X : Nat → Int32} {τ : ZSt} (g : gK σb τ tl) (h12 : τ.1 t 12 = nI p) {k : Nat} (hk : k < 6) (hW : τ.1 (t + 1) k = W k) (hX : ∀ q, q < p → τ.1 (t + 6) q = X q) : ∀ (n j : Nat), p < n + j → j ≤ p → s_X8_aloneAt_L4 t (nI k) τ n (fE id (ya σb (W k) X k j)) (nI j) = some (fE id (ya σb (W k) X k p)) := by
  have hp := hb.1.2.2
  intro n
  induction n with
  | zero => intro j h1 h2; omega
  | succ n ih =>
    intro j h1 h2
    have e5 : (nI p ≤ nI j) = (p ≤ j) := nI_le_n (by omega) (by omega)
    rw [s_X8_aloneAt_L4, h12]
    by_cases hj : p ≤ j
    · have : j = p := by omega
      subst this
      rw [if_pos (by rw [e5]; exact hj)]
    · have ih' := ih (j + 1) (by omega) (by omega)
      rw [ya] at ih'
      rw [if_neg (by rw [e5]; exact hj), zLd_t (zIn_nI (by omega) (by decide)), nI_clamp (n := j) (by omega), hX j (by omega), nI_1]
      by_cases z : X j = nI k
      · rw [if_pos z] at ih' ⊢
        cases e : ya σb (W k) X k j with
        | none =>
          rw [e, Option.elim_none] at ih'
          rw [if_pos (show fE id none = -1 from rfl)]
          exact ih'
        | some o =>
          have ho := ya_lt _ _ _ _ _ _ e
          rw [e, Option.elim_some] at ih'
          rw [if_neg (show ¬ fE id (some o) = -1 from ne1 (n := o) (by omega)), zLd_t (zIn_nI hk (by decide)), nI_clamp (n := k) (by omega), hW]
          by_cases z4 : W k = 4
          · rw [if_pos z4, gGood g hb (show j < p by omega), Option.bind_some, show s_X7_goodOf (fE id (some o)) τ = some (σb.1 10 o) from gGood g hb (show o < p by omega), Option.bind_some]
            by_cases z5 : σb.1 10 j ≤ σb.1 10 o
            · rw [if_pos z5]
              rw [if_neg (fun y => y.2 z5)] at ih'
              exact ih'
            · rw [if_neg z5]
              rw [if_pos ⟨z4, z5⟩] at ih'
              exact ih'
          · rw [if_neg z4]
            rw [if_neg (fun y => z4 y.1)] at ih'
            exact ih'
      · rw [if_neg z] at ih' ⊢
        exact ih'
theorem fE_eq {o : Option Nat} {q : Nat} (hq : q < 8) (ho : ∀ i, o = some i → i < 8) : (fE id o = nI q) ↔ o = some q := by
  cases o with
  | none => exact ⟨fun h => absurd h.symm (ne1 (by omega)), fun h => by cases h⟩
  | some i =>
    have := ho i rfl
    refine ⟨fun h => ?_, fun h => ?_⟩
    · have e : nI i = nI q := h
      rw [(nI_eq (by omega) (by omega)).mp e]
    · cases h
      rfl
theorem c_settle (ht : t = 19 ∨ t = 30) (htl : tl = 62 ∨ tl = 65) (hb : rT s w p σb) (hWr : ∀ k, k < s → inR (W k) 0 4) {X : Nat → Int32} {τ : ZSt} (g : gK σb τ tl) (h12 : τ.1 t 12 = nI p) (hWS : ∀ k, k < 6 → τ.1 (t + 1) k = W k ∧ τ.1 (t + 2) k = S k) (hX : ∀ q, q < p → τ.1 (t + 6) q = X q) {q k : Nat} (hq : q < p) (hk : k < s) (times : Int32) : s_X8_settle t (nI q) (nI k) times τ = some (zWD (zWD τ (t + 5) k (τ.1 (t + 5) k + times * ((yh σb W X p k q + yg σb W S X p k q) + ys σb W k))) (t + 8) q (τ.1 (t + 8) q + times * ((yk σb W X p k q + yg σb W S X p k q) - σb.1 11 q))) := by
  have hs := hb.1.1
  have hp := hb.1.2.2
  have hz := zIn_nI (a := k) (n := 6) (by omega) (by decide)
  have hcl := nI_clamp (n := k) (by omega)
  have hzq := zIn_nI (a := q) (n := 8) (by omega) (by decide)
  have hclq := nI_clamp (n := q) (by omega)
  obtain ⟨w1, w2⟩ := hWS k (by omega)
  have al : s_X8_aloneAt t (nI k) τ = some (fE id (ya σb (W k) X k p)) := c_al_L ht hb g h12 (by omega) w1 hX 200 0 (by omega) (by omega)
  have alq : (fE id (ya σb (W k) X k p) = nI q) ↔ ya σb (W k) X k p = some q := fE_eq (by omega) (fun i e => by have := ya_lt _ _ _ _ _ _ e; omega)
  have w04 : W k = 0 ∨ W k = 1 ∨ W k = 2 ∨ W k = 3 ∨ W k = 4 := by
    have b := inR_i (hWr k hk)
    rw [show (0 : Int32).toInt = 0 by decide, show (4 : Int32).toInt = 4 by decide] at b
    obtain ⟨c, hc, e⟩ := ofI (x := W k) (m := 4) b.1 b.2
    rw [e]
    rcases (show c = 0 ∨ c = 1 ∨ c = 2 ∨ c = 3 ∨ c = 4 by omega) with rfl | rfl | rfl | rfl | rfl
    · exact Or.inl rfl
    · exact Or.inr (Or.inl rfl)
    · exact Or.inr (Or.inr (Or.inl rfl))
    · exact Or.inr (Or.inr (Or.inr (Or.inl rfl)))
    · exact Or.inr (Or.inr (Or.inr (Or.inr rfl)))
  have pl : s_X8_isPlaying t (nI q) (nI k) τ = some (if yPl σb W X p k q then 1 else 0) := by
    unfold s_X8_isPlaying
    rw [zLd_t hz, hcl, w1]
    rcases w04 with e | e | e | e | e
    · rw [if_pos e, if_pos (Or.inl e)]
    · rw [if_neg (by rw [e]; decide), if_pos e, if_neg]
      rintro (z | ⟨z, -⟩ | ⟨z | z, -⟩) <;> rw [e] at z <;> exact absurd z (by decide)
    · rw [if_neg (by rw [e]; decide), if_neg (by rw [e]; decide), if_pos e, al, Option.bind_some]
      by_cases z : ya σb (W k) X k p = some q
      · rw [if_pos (alq.mpr z), if_pos (Or.inr (Or.inr ⟨Or.inl e, z⟩))]
      · rw [if_neg (fun y => z (alq.mp y)), if_neg]
        rintro (y | ⟨y, -⟩ | ⟨-, y⟩)
        · rw [e] at y; exact absurd y (by decide)
        · rw [e] at y; exact absurd y (by decide)
        · exact z y
    · rw [if_neg (by rw [e]; decide), if_neg (by rw [e]; decide), if_neg (by rw [e]; decide), if_pos e, gLaw g hb hk, Option.bind_some]
      by_cases z : σb.1 3 k = 0
      · rw [if_pos z, if_pos (Or.inr (Or.inl ⟨e, z⟩))]
      · rw [if_neg z, if_neg]
        rintro (y | ⟨-, y⟩ | ⟨y | y, -⟩)
        · rw [e] at y; exact absurd y (by decide)
        · exact z y
        · rw [e] at y; exact absurd y (by decide)
        · rw [e] at y; exact absurd y (by decide)
    · rw [if_neg (by rw [e]; decide), if_neg (by rw [e]; decide), if_neg (by rw [e]; decide), if_neg (by rw [e]; decide), al, Option.bind_some]
      by_cases z : ya σb (W k) X k p = some q
      · rw [if_pos (alq.mpr z), if_pos (Or.inr (Or.inr ⟨Or.inr e, z⟩))]
      · rw [if_neg (fun y => z (alq.mp y)), if_neg]
        rintro (y | ⟨y, -⟩ | ⟨-, y⟩)
        · rw [e] at y; exact absurd y (by decide)
        · rw [e] at y; exact absurd y (by decide)
        · exact z y
  have gt : s_X8_getsPaid t (nI q) (nI k) τ = some (yg σb W S X p k q) := by
    unfold s_X8_getsPaid yg
    rw [zLd_t hz, hcl, w1]
    rcases w04 with e | e | e | e | e
    · rw [if_neg (by rw [e]; decide), if_neg (by rw [e]; decide), if_neg (by rw [e]; decide), if_neg (by rw [e]; decide), if_neg]
      rintro (y | ⟨y | y, -⟩) <;> rw [e] at y <;> exact absurd y (by decide)
    · rw [if_pos e, zLd_t hz, w2, if_pos (Or.inl e)]
    · rw [if_neg (by rw [e]; decide), if_pos e, al, Option.bind_some]
      by_cases z : ya σb (W k) X k p = some q
      · rw [if_pos (alq.mpr z), zLd_t hz, w2, if_pos (Or.inr ⟨Or.inl e, z⟩)]
      · rw [if_neg (fun y => z (alq.mp y)), if_neg]
        rintro (y | ⟨-, y⟩)
        · rw [e] at y; exact absurd y (by decide)
        · exact z y
    · rw [if_neg (by rw [e]; decide), if_neg (by rw [e]; decide), if_pos e, if_neg]
      rintro (y | ⟨y | y, -⟩) <;> rw [e] at y <;> exact absurd y (by decide)
    · rw [if_neg (by rw [e]; decide), if_neg (by rw [e]; decide), if_neg (by rw [e]; decide), if_pos e, al, Option.bind_some]
      by_cases z : ya σb (W k) X k p = some q
      · rw [if_pos (alq.mpr z), zLd_t hz, w2, if_pos (Or.inr ⟨Or.inr e, z⟩)]
      · rw [if_neg (fun y => z (alq.mp y)), if_neg]
        rintro (y | ⟨-, y⟩)
        · rw [e] at y; exact absurd y (by decide)
        · exact z y
  have c88 : ∀ (l5 l7 l8 k0 : Int32), s_X8_settle_C88 t (nI q) (nI k) times l5 l7 l8 k0 τ = some (zWD (zWD τ (t + 5) k (τ.1 (t + 5) k + times * ((l7 + l5) + l8))) (t + 8) q (τ.1 (t + 8) q + times * ((k0 + l5) - σb.1 11 q))) := fun l5 l7 l8 k0 => by
    unfold s_X8_settle_C88
    rw [zLd_t hz, zSg_t hz, hcl, zLd_t hzq, hclq, gCost (g.wd (by omega)) hb hq, Option.bind_some, zSg_t hzq, wd1, if_neg (by omega)]
  have c51 : ∀ (l5 k0 : Int32), s_X8_settle_C51 t (nI q) (nI k) times (if yPl σb W X p k q then 1 else 0) l5 (σb.1 3 k) k0 τ = some (zWD (zWD τ (t + 5) k (τ.1 (t + 5) k + times * ((k0 + l5) + ys σb W k))) (t + 8) q (τ.1 (t + 8) q + times * ((yk σb W X p k q + l5) - σb.1 11 q))) := fun l5 k0 => by
    unfold s_X8_settle_C51 ys yk
    rw [zLd_t hz, hcl, w1, gTake g hb hk]
    by_cases z3 : W k = 3
    · rw [if_pos z3, if_pos z3]
      by_cases z : yPl σb W X p k q
      · rw [if_pos z, if_pos z, if_neg (by decide), Option.bind_some, c88]
      · rw [if_neg z, if_neg z, if_pos rfl, c88]
    · rw [if_neg z3, if_neg z3]
      by_cases z : yPl σb W X p k q
      · rw [if_pos z, if_pos z, if_neg (by decide), Option.bind_some, c88]
      · rw [if_neg z, if_neg z, if_pos rfl, c88]
  have hm : s_X7_harmOfStreet (nI k) (σb.1 10 q) τ = s_X7_harmOfStreet (nI k) (σb.1 10 q) σb := by
    have hc : ∀ n acc j, s_X7_harmOfStreet_L5 (nI k) (σb.1 10 q) τ n acc j = s_X7_harmOfStreet_L5 (nI k) (σb.1 10 q) σb n acc j := by
      intro n
      induction n with
      | zero => intro acc j; rfl
      | succ n ih =>
        intro acc j
        have e6 : τ.1 6 = σb.1 6 := funext fun f => g.2 6 f (Or.inl (by omega))
        have e7 : τ.1 7 = σb.1 7 := funext fun f => g.2 7 f (Or.inl (by omega))
        have e8 : τ.1 8 = σb.1 8 := funext fun f => g.2 8 f (Or.inl (by omega))
        have e15 : τ.1 1 5 = σb.1 1 5 := g.2 1 5 (Or.inl (by omega))
        simp only [s_X7_harmOfStreet_L5, s_X7_isOf, s_X7_isWindow, s_X7_harmTo, e6, e7, e8, e15, ih]
    exact hc 200 0 0
  obtain ⟨hr, hr1, -⟩ := k_streetHarm hb (nI k) (σb.1 10 q)
  unfold s_X8_settle
  rw [pl, Option.bind_some, gt, Option.bind_some, gLaw g hb hk, Option.bind_some]
  by_cases z : yPl σb W X p k q
  · have e1 : yh σb W X p k q = hr := by unfold yh; rw [if_pos z, hr1]; rfl
    have := c51 (yg σb W S X p k q) hr
    rw [if_pos z] at this
    rw [if_pos z, if_neg (by decide), gGood g hb hq, Option.bind_some, hm, hr1, Option.bind_some, this, e1]
  · have e1 : yh σb W X p k q = 0 := by unfold yh; rw [if_neg z]
    have := c51 (yg σb W S X p k q) 0
    rw [if_neg z] at this
    rw [if_neg z, if_pos rfl, this, e1]
end CWEEK
