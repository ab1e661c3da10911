/-! fund -/
section FUNDF
variable (a H : Nat → Int32) (x S A : Int32)
abbrev fHm (j : Nat) : Prop := a j = x ∧ 0 < H j
def fV (j : Nat) : Int32 := if fHm a H x j then S * H j / A else 0
def fC : Nat → Nat
  | 0 => 0
  | j + 1 => if a j = x then fC j + 1 else fC j
def fL : Nat → Int32
  | 0 => S
  | j + 1 => if fHm a H x j then fL j - fV a H x S A j else fL j
def fF : Nat → Option Nat
  | 0 => none
  | j + 1 => (fF j).elim (if fHm a H x j then some j else none) some
def fP (w j : Nat) : Int32 := if fF a H x w = some j then fV a H x S A j + fL a H x S A w else fV a H x S A j
variable {a H x S A}
theorem fC_le : ∀ j, fC a x j ≤ j
  | 0 => Nat.le_refl _
  | j + 1 => by
    have := fC_le j
    unfold fC
    split <;> omega
theorem fC_mono {i j : Nat} (h : i ≤ j) : fC a x i ≤ fC a x j := by
  induction j with
  | zero => rw [Nat.le_zero.mp h]; exact Nat.le_refl _
  | succ j ih =>
    by_cases e : i = j + 1
    · rw [e]; exact Nat.le_refl _
    · have := ih (by omega)
      show _ ≤ (if a j = x then fC a x j + 1 else fC a x j)
      split <;> omega
theorem fC_of {j : Nat} (h : a j = x) : fC a x (j + 1) = fC a x j + 1 := if_pos h
theorem fC_no {j : Nat} (h : ¬ a j = x) : fC a x (j + 1) = fC a x j := if_neg h
theorem fC_lt {i j : Nat} (h : a i = x) (hij : i < j) : fC a x i < fC a x j := by
  have h1 := fC_of h
  have h2 := fC_mono (a := a) (x := x) (show i + 1 ≤ j from hij)
  omega
theorem fC_inj {i j : Nat} (h : a i = x) (h2 : a j = x) (e : fC a x i = fC a x j) : i = j := by
  rcases Nat.lt_trichotomy i j with q | q | q
  · have := fC_lt h q; omega
  · exact q
  · have := fC_lt h2 q; omega
theorem fF_some : ∀ {j i : Nat}, fF a H x j = some i → i < j ∧ fHm a H x i
  | 0, i, h => by cases h
  | j + 1, i, h => by
    unfold fF at h
    cases e : fF a H x j with
    | some k =>
      rw [e] at h
      have : k = i := Option.some.inj h
      subst this
      obtain ⟨q1, q2⟩ := fF_some e
      exact ⟨by omega, q2⟩
    | none =>
      rw [e] at h
      have h' : (if fHm a H x j then some j else none) = some i := h
      by_cases q : fHm a H x j
      · rw [if_pos q] at h'
        have : j = i := Option.some.inj h'
        subst this
        exact ⟨by omega, q⟩
      · rw [if_neg q] at h'
        cases h'
theorem fV_no {j : Nat} (h : ¬ fHm a H x j) : fV a H x S A j = 0 := if_neg h
theorem fV_yes {j : Nat} (h : fHm a H x j) : fV a H x S A j = S * H j / A := if_pos h
theorem fP_no {w j : Nat} (h : ¬ fHm a H x j) : fP a H x S A w j = 0 := by
  unfold fP
  rw [if_neg (fun q => h (fF_some q).2), fV_no h]
end FUNDF
def sH (σ : ZSt) (g : Int32) : Nat → Int32 := fun j => σ.1 7 j - σ.1 8 j * g / 10
/-- the first's number in the class (among members), in the model (among windows) -/
def fE (f : Nat → Nat) (o : Option Nat) : Int32 := o.elim (-1) fun i => nI (f i)
section FUND
variable {s w p : Nat} {σ : ZSt}
theorem cPurse (h : rT s w p σ) {j : Nat} (hj : j < w) : s_X7_purse (nI j) σ = some (σ.1 9 j) := by
  unfold s_X7_purse
  rw [cIsWindow h]
  have hw := h.1.2.1
  have := nI_lt_s hj (by omega)
  simp only [this, and_self, bI_t, Option.bind_some, zIn_nI (a := j) (n := 30) (by omega) (by decide), zLd_t, nI_clamp (n := j) (by omega)]
  simp
theorem cIsOf_out (h : rT s w p σ) {j : Nat} (hj : w ≤ j) (hj2 : j ≤ 1000) (x : Int32) : s_X7_isOf (nI j) x σ = some 0 := by
  have hw := h.1.2.1
  unfold s_X7_isOf
  rw [cIsWindow h]
  have : ¬ (0 ≤ nI j ∧ nI j < nI w) := fun q => by
    have := q.2
    rw [nI_ltI (by omega) (by omega)] at this
    omega
  simp [this, bI]
/-- the class's cells of the fund do not touch the town -/
theorem rT_fund {τ : ZSt} (h : rT s w p σ) (e : ∀ c f, ¬ (c = 15 ∧ f = 4) → ¬ c = 16 → ¬ c = 17 → ¬ c = 18 → τ.1 c f = σ.1 c f) (e2 : τ.2 = σ.2) : rT s w p τ := rT_at (fun c f q => by
  refine ⟨e c f ?_ ?_ ?_ ?_, by rw [e2]⟩
  · rintro ⟨rfl, rfl⟩; exact absurd q (by decide)
  · rintro rfl; exact absurd q (by simp [zHit, cT])
  · rintro rfl; exact absurd q (by simp [zHit, cT])
  · rintro rfl; exact absurd q (by simp [zHit, cT])) h
theorem c_share_step {τ : ZSt} (hT : rT s w p τ) {j k n : Nat} (hj : j < w) (hm : τ.1 15 4 = nI k) (hk : k < 30) {x : Int32} (of : τ.1 6 j = x) (g S A l5 l6 : Int32) (hA : 0 < sH τ g j → 0 < A) : s_X2_share_L25 x g S A (n + 1) l5 l6 (nI j) τ = s_X2_share_L25 x g S A n (l5 - (if 0 < sH τ g j then S * sH τ g j / A else 0)) (if l6 = -1 then (if 0 < sH τ g j then nI k else l6) else l6) (nI (j + 1)) (zWD (zWD (zWD (zWD τ 17 k (sH τ g j)) 18 k (τ.1 9 j)) 16 k (if 0 < sH τ g j then S * sH τ g j / A else 0)) 15 4 (nI (k + 1))) := by
  have hw := hT.1.2.1
  have hz := zIn_nI (a := k) (n := 30) hk (by decide)
  have hcl := nI_clamp (n := k) (by omega)
  have e30 : ¬ (30 : Int32) ≤ nI j := by rw [i30, nI_leI (by decide) (by omega)]; omega
  have hT1 : rT s w p (zWD τ 17 k (sH τ g j)) := rT_fund hT (fun c f _ _ q _ => by rw [wd1, if_neg (by omega)]) rfl
  have m1 : (zWD τ 17 k (sH τ g j)).1 15 4 = nI k := by rw [wd1, if_neg (by omega), hm]
  have p1 : (zWD τ 17 k (sH τ g j)).1 9 j = τ.1 9 j := by rw [wd1, if_neg (by omega)]
  have m2 : (zWD (zWD τ 17 k (sH τ g j)) 18 k (τ.1 9 j)).1 15 4 = nI k := by rw [wd1, if_neg (by omega), m1]
  have v2 : (zWD (zWD τ 17 k (sH τ g j)) 18 k (τ.1 9 j)).1 17 k = sH τ g j := by rw [wd1, if_neg (by omega), wd1, if_pos ⟨rfl, rfl⟩]
  have c128 : ∀ v : Int32, s_X2_share_C128 (s_X2_share_L25 x g S A n) x g S A l5 l6 (nI j) (nI k) v (zWD (zWD τ 17 k (sH τ g j)) 18 k (τ.1 9 j)) = s_X2_share_L25 x g S A n (l5 - v) (if l6 = -1 then (if 0 < sH τ g j then nI k else l6) else l6) (nI (j + 1)) (zWD (zWD (zWD (zWD τ 17 k (sH τ g j)) 18 k (τ.1 9 j)) 16 k v) 15 4 (nI (k + 1))) := fun v => by
    have m3 : (zWD (zWD (zWD τ 17 k (sH τ g j)) 18 k (τ.1 9 j)) 16 k v).1 15 4 = nI k := by rw [wd1, if_neg (by omega), m2]
    have v3 : (zWD (zWD (zWD τ 17 k (sH τ g j)) 18 k (τ.1 9 j)) 16 k v).1 17 k = sH τ g j := by rw [wd1, if_neg (by omega), v2]
    have v4 : (zWD (zWD (zWD τ 17 k (sH τ g j)) 18 k (τ.1 9 j)) 16 k v).1 16 k = v := by rw [wd1, if_pos ⟨rfl, rfl⟩]
    unfold s_X2_share_C128
    rw [zSg_t hz, hcl, m3, zLd_t hz, hcl, v4]
    by_cases q : l6 = -1
    · rw [if_pos q, if_pos q, zLd_t hz, v3]
      by_cases r : 0 < sH τ g j
      · rw [if_neg (Int32.not_le.mpr r), if_pos r, zSt_e, nI_1, nI_1]
      · rw [if_pos (Int32.not_lt.mp r), if_neg r, zSt_e, nI_1, nI_1]
    · rw [if_neg q, if_neg q, zSt_e, nI_1, nI_1]
  rw [s_X2_share_L25, if_neg e30, cIsOf hT hj, Option.bind_some, bI_n, if_neg (fun z => z of), cHarmTo hT hj, Option.bind_some]
  show zSg (zIn (τ.1 15 4) 30) (zWD τ 17 (τ.1 15 4).toNatClampNeg (sH τ g j)) _ = _
  rw [hm, zSg_t hz, hcl, cPurse hT1 hj, Option.bind_some, p1, m1, zSg_t hz, hcl, m2, zLd_t hz, hcl, v2]
  by_cases r : 0 < sH τ g j
  · rw [if_neg (Int32.not_le.mpr r), if_neg (Int32.not_le.mpr (hA r)), zLd_t hz, if_neg (fun z => by rw [z] at hA; exact absurd (hA r) (by decide)), c128]
    simp only [if_pos r]
  · rw [if_pos (Int32.not_lt.mp r), c128]
    simp only [if_neg r]
theorem c_share_tail {τ : ZSt} (hT : rT s w p τ) (x g S A l5 l6 : Int32) : ∀ (n j : Nat), w ≤ j → j ≤ 30 → 30 < n + j → s_X2_share_L25 x g S A n l5 l6 (nI j) τ = s_X2_share_C183 l5 l6 τ := by
  intro n
  induction n with
  | zero => intro j h1 h2 h3; omega
  | succ n ih =>
    intro j h1 h2 h3
    have e5 : ((30 : Int32) ≤ nI j) = (30 ≤ j) := by rw [i30]; exact nI_le_n (by omega) (by omega)
    by_cases hq : 30 ≤ j
    · rw [s_X2_share_L25, if_pos (by rw [e5]; exact hq)]
    · rw [s_X2_share_L25, if_neg (by rw [e5]; exact hq), cIsOf_out hT h1 (by omega), Option.bind_some, if_pos rfl, nI_1]
      exact ih (j + 1) (by omega) (by omega) (by omega)
theorem c_share_L (h : rT s w p σ) (x g S A : Int32) (hA : ∀ j, j < w → fHm (σ.1 6) (sH σ g) x j → 0 < A) : ∀ (n j : Nat) (τ : ZSt), 30 < n + j → j ≤ w → (∀ c f, ¬ (c = 15 ∧ f = 4) → ¬ c = 16 → ¬ c = 17 → ¬ c = 18 → τ.1 c f = σ.1 c f) → τ.2 = σ.2 → τ.1 15 4 = nI (fC (σ.1 6) x j) → (∀ i, i < j → σ.1 6 i = x → τ.1 16 (fC (σ.1 6) x i) = fV (σ.1 6) (sH σ g) x S A i ∧ τ.1 17 (fC (σ.1 6) x i) = sH σ g i ∧ τ.1 18 (fC (σ.1 6) x i) = σ.1 9 i) → ∃ τ', s_X2_share_L25 x g S A n (fL (σ.1 6) (sH σ g) x S A j) (fE (fC (σ.1 6) x) (fF (σ.1 6) (sH σ g) x j)) (nI j) τ = some τ' ∧ (∀ c f, ¬ (c = 15 ∧ f = 4) → ¬ c = 16 → ¬ c = 17 → ¬ c = 18 → τ'.1 c f = σ.1 c f) ∧ τ'.2 = σ.2 ∧ τ'.1 15 4 = nI (fC (σ.1 6) x w) ∧ (∀ i, i < w → σ.1 6 i = x → τ'.1 16 (fC (σ.1 6) x i) = fP (σ.1 6) (sH σ g) x S A w i ∧ τ'.1 17 (fC (σ.1 6) x i) = sH σ g i ∧ τ'.1 18 (fC (σ.1 6) x i) = σ.1 9 i) := by
  intro n
  have hw := h.1.2.1
  induction n with
  | zero => intro j τ h1 h2; omega
  | succ n ih =>
    intro j τ h1 h2 e e2 hm hI
    have hT := rT_fund h e e2
    have hcj := fC_le (a := σ.1 6) (x := x) j
    by_cases hq : j = w
    · subst hq
      rw [c_share_tail hT _ _ _ _ _ _ (n + 1) j (Nat.le_refl _) hw h1]
      unfold s_X2_share_C183
      cases hF : fF (σ.1 6) (sH σ g) x j with
      | none =>
        refine ⟨τ, if_pos rfl, e, e2, hm, fun i hi hx => ?_⟩
        have := hI i hi hx
        unfold fP
        rw [hF, if_neg (by simp)]
        exact this
      | some i0 =>
        obtain ⟨hi0, hh0⟩ := fF_some hF
        have hc0 := fC_lt (a := σ.1 6) hh0.1 hi0
        refine ⟨zWD τ 16 (fC (σ.1 6) x i0) (fV (σ.1 6) (sH σ g) x S A i0 + fL (σ.1 6) (sH σ g) x S A j), ?_, fun c f q1 q2 q3 q4 => ?_, e2, ?_, fun i hi hx => ?_⟩
        · rw [show fE (fC (σ.1 6) x) (some i0) = nI (fC (σ.1 6) x i0) from rfl, if_neg (ne1 (by omega)), zLd_t (zIn_nI (by omega) (by decide)), zSg_t (zIn_nI (by omega) (by decide)), nI_clamp (by omega), (hI i0 hi0 hh0.1).1]
        · rw [wd1, if_neg (by omega)]
          exact e c f q1 q2 q3 q4
        · rw [wd1, if_neg (by omega), hm]
        · obtain ⟨p1, p2, p3⟩ := hI i hi hx
          refine ⟨?_, ?_, ?_⟩
          · unfold fP
            rw [hF, wd1]
            by_cases hii : i = i0
            · subst hii
              rw [if_pos ⟨rfl, rfl⟩, if_pos rfl]
            · rw [if_neg (fun q => hii (fC_inj hx hh0.1 q.2)), if_neg (fun q => hii (Option.some.inj q).symm), p1]
          · rw [wd1, if_neg (by omega), p2]
          · rw [wd1, if_neg (by omega), p3]
    · have hj : j < w := by omega
      have eH : sH τ g j = sH σ g j := by
        unfold sH
        rw [e 7 j (by omega) (by omega) (by omega) (by omega), e 8 j (by omega) (by omega) (by omega) (by omega)]
      have e6 : τ.1 6 j = σ.1 6 j := e 6 j (by omega) (by omega) (by omega) (by omega)
      by_cases hx : σ.1 6 j = x
      · rw [c_share_step (x := x) hT hj hm (by omega) (by rw [e6, hx]) g S A _ _ (fun q => hA j hj ⟨hx, by rw [← eH]; exact q⟩), eH]
        have eV : (if 0 < sH σ g j then S * sH σ g j / A else 0) = fV (σ.1 6) (sH σ g) x S A j := by
          unfold fV
          by_cases r : 0 < sH σ g j
          · rw [if_pos r, if_pos ⟨hx, r⟩]
          · rw [if_neg r, if_neg (fun q => r q.2)]
        have eL : fL (σ.1 6) (sH σ g) x S A j - fV (σ.1 6) (sH σ g) x S A j = fL (σ.1 6) (sH σ g) x S A (j + 1) := by
          show _ = (if fHm (σ.1 6) (sH σ g) x j then _ else _)
          by_cases r : fHm (σ.1 6) (sH σ g) x j
          · rw [if_pos r]
          · rw [if_neg r, fV_no r, Int32.sub_zero]
        have eF : (if fE (fC (σ.1 6) x) (fF (σ.1 6) (sH σ g) x j) = -1 then (if 0 < sH σ g j then nI (fC (σ.1 6) x j) else fE (fC (σ.1 6) x) (fF (σ.1 6) (sH σ g) x j)) else fE (fC (σ.1 6) x) (fF (σ.1 6) (sH σ g) x j)) = fE (fC (σ.1 6) x) (fF (σ.1 6) (sH σ g) x (j + 1)) := by
          show _ = fE _ ((fF (σ.1 6) (sH σ g) x j).elim _ some)
          cases hF : fF (σ.1 6) (sH σ g) x j with
          | none =>
            show (if (-1 : Int32) = -1 then (if 0 < sH σ g j then nI (fC (σ.1 6) x j) else -1) else -1) = fE _ (if fHm (σ.1 6) (sH σ g) x j then some j else none)
            rw [if_pos rfl]
            by_cases r : 0 < sH σ g j
            · rw [if_pos r, if_pos ⟨hx, r⟩]
              rfl
            · rw [if_neg r, if_neg (fun q => r q.2)]
              rfl
          | some i0 =>
            have hi0 := (fF_some hF).1
            have := fC_le (a := σ.1 6) (x := x) i0
            show (if nI (fC (σ.1 6) x i0) = -1 then _ else nI (fC (σ.1 6) x i0)) = nI (fC (σ.1 6) x i0)
            rw [if_neg (ne1 (by omega))]
        rw [eV, eL, eF, e 9 j (by omega) (by omega) (by omega) (by omega)]
        refine ih (j + 1) _ (by omega) (by omega) (fun c f q1 q2 q3 q4 => ?_) e2 ?_ (fun i hi hix => ?_)
        · rw [wd1, if_neg q1, wd1, if_neg (by omega), wd1, if_neg (by omega), wd1, if_neg (by omega)]
          exact e c f q1 q2 q3 q4
        · rw [wd1, if_pos ⟨rfl, rfl⟩, fC_of hx]
        · by_cases hij : i = j
          · subst hij
            refine ⟨?_, ?_, ?_⟩
            · rw [wd1, if_neg (by omega), wd1, if_pos ⟨rfl, rfl⟩]
            · rw [wd1, if_neg (by omega), wd1, if_neg (by omega), wd1, if_neg (by omega), wd1, if_pos ⟨rfl, rfl⟩]
            · rw [wd1, if_neg (by omega), wd1, if_neg (by omega), wd1, if_pos ⟨rfl, rfl⟩]
          · have hne := fC_lt (a := σ.1 6) hix (show i < j by omega)
            obtain ⟨p1, p2, p3⟩ := hI i (by omega) hix
            refine ⟨?_, ?_, ?_⟩
            · rw [wd1, if_neg (by omega), wd1, if_neg (by omega), wd1, if_neg (by omega), wd1, if_neg (by omega), p1]
            · rw [wd1, if_neg (by omega), wd1, if_neg (by omega), wd1, if_neg (by omega), wd1, if_neg (by omega), p2]
            · rw [wd1, if_neg (by omega), wd1, if_neg (by omega), wd1, if_neg (by omega), wd1, if_neg (by omega), p3]
      · have e30 : ¬ (30 : Int32) ≤ nI j := by rw [i30, nI_leI (by decide) (by omega)]; omega
        have nH : ¬ fHm (σ.1 6) (sH σ g) x j := fun q => hx q.1
        rw [s_X2_share_L25, if_neg e30, cIsOf hT hj, Option.bind_some, bI_n, if_pos (by rw [e6]; exact hx), nI_1]
        have eL : fL (σ.1 6) (sH σ g) x S A (j + 1) = fL (σ.1 6) (sH σ g) x S A j := if_neg nH
        have eF : fF (σ.1 6) (sH σ g) x (j + 1) = fF (σ.1 6) (sH σ g) x j := by
          show (fF (σ.1 6) (sH σ g) x j).elim (if fHm (σ.1 6) (sH σ g) x j then some j else none) some = _
          rw [if_neg nH]
          cases fF (σ.1 6) (sH σ g) x j <;> rfl
        rw [← eL, ← eF]
        refine ih (j + 1) τ (by omega) (by omega) e e2 (by rw [hm, fC_no hx]) (fun i hi hix => ?_)
        exact hI i (by
          rcases Nat.lt_or_ge i j with q | q
          · exact q
          · have : i = j := by omega
            subst this
            exact absurd hix hx) hix
end FUND
