/-! Shelves -/
def rRow (σ : ZSt) (d s n : Nat) : Prop := s ≤ 4 ∧ n ≤ 60 ∧ (σ.1 52 d = nI s ∧ σ.1 96 d = nI (50 + s)) ∧ (σ.1 54 d = nI n ∧ σ.1 97 d = nI n) ∧ ∀ i, i < n → σ.2 (56 + d) i = σ.2 98 (60 * d + i) ∧ (s = 1 → ∃ x : Int32, σ.2 (56 + d) i = x.toInt64)
def rS1 (bo : Nat) (σ : ZSt) (d : Nat) : Prop := (σ.1 52 d = -1 ∧ σ.1 96 d = -1) ∨ (σ.1 52 d = -2 ∧ ∃ k, k < bo ∧ σ.1 53 d = nI k ∧ σ.1 96 d = nI k) ∨ ∃ s n, rRow σ d s n
def rSh (bo : Nat) (σ : ZSt) : Prop := ∀ d, d < 6 → rS1 bo σ d
def cSh : List (Nat × Nat) := [(52, 999), (53, 999), (54, 999), (56, 999), (57, 999), (58, 999), (59, 999), (60, 999), (61, 999), (96, 999), (97, 999), (98, 999)]
theorem rS1_fr {bo d : Nat} {σ σ' : ZSt} (h : rS1 bo σ d) (e52 : σ'.1 52 d = σ.1 52 d) (e53 : σ'.1 53 d = σ.1 53 d) (e54 : σ'.1 54 d = σ.1 54 d) (e96 : σ'.1 96 d = σ.1 96 d) (e97 : σ'.1 97 d = σ.1 97 d) (ex : ∀ i, i < 60 → σ'.2 (56 + d) i = σ.2 (56 + d) i) (ey : ∀ i, i < 60 → σ'.2 98 (60 * d + i) = σ.2 98 (60 * d + i)) : rS1 bo σ' d := by
  unfold rS1 rRow at *
  rw [e52, e53, e54, e96, e97]
  rcases h with h | h | ⟨s, n, h1, h2, h3, h4, h5⟩
  · exact Or.inl h
  · exact Or.inr (Or.inl h)
  · refine Or.inr (Or.inr ⟨s, n, h1, h2, h3, h4, fun i hi => ?_⟩)
    rw [ex i (by omega), ey i (by omega)]
    exact h5 i hi
theorem rSh_at {bo : Nat} {σ σ' : ZSt} (e : ∀ c f, zHit cSh c f = true → σ'.1 c f = σ.1 c f ∧ σ'.2 c f = σ.2 c f) (h : rSh bo σ) : rSh bo σ' := by
  intro d hd
  refine rS1_fr (h d hd) (e 52 d rfl).1 (e 53 d rfl).1 (e 54 d rfl).1 (e 96 d rfl).1 (e 97 d rfl).1 (fun i hi => ?_) (fun i hi => (e 98 _ rfl).2)
  rcases (show d = 0 ∨ d = 1 ∨ d = 2 ∨ d = 3 ∨ d = 4 ∨ d = 5 by omega) with rfl | rfl | rfl | rfl | rfl | rfl <;> exact (e _ _ rfl).2
theorem rSh_up {bo bo' : Nat} {σ : ZSt} (hb : bo ≤ bo') (h : rSh bo σ) : rSh bo' σ := fun d hd => by
  rcases h d hd with h | ⟨h1, k, hk, h2⟩ | h
  · exact Or.inl h
  · exact Or.inr (Or.inl ⟨h1, k, by omega, h2⟩)
  · exact Or.inr (Or.inr h)
theorem cShf (a : Int32) (σ : ZSt) : s_X6_isShelf a σ = some (bI (0 ≤ a ∧ a ≤ 5)) := by
  unfold s_X6_isShelf
  by_cases h1 : a < 0
  · have : ¬ 0 ≤ a := Int32.not_le.mpr h1
    simp [h1, this, bI]
  · have g1 : 0 ≤ a := Int32.not_lt.mp h1
    by_cases h2 : 6 ≤ a
    · have : ¬ a ≤ 5 := by grind
      simp [h1, h2, this, bI]
    · have : a ≤ 5 := by grind
      simp [h1, h2, this, g1, bI]
theorem mShf (a : Int32) (σ : ZSt) : s_X10_isShelf a σ = some (bI (0 ≤ a ∧ a ≤ 5)) := by
  unfold s_X10_isShelf
  rw [mW32 a 0 5 (by decide) (by decide)]
  simp only [Option.bind_some, bI_01, if_true]
theorem ofSh {a : Int32} (h : 0 ≤ a ∧ a ≤ 5) : ∃ d, d < 6 ∧ a = nI d := by
  have b := inR_i (show inR a 0 5 from h)
  rw [show (0 : Int32).toInt = 0 by decide, show (5 : Int32).toInt = 5 by decide] at b
  obtain ⟨d, hd, e⟩ := ofI (x := a) (m := 5) (by omega) b.2
  exact ⟨d, by omega, e⟩
theorem shD {d : Nat} (hd : d < 6) : 0 ≤ nI d ∧ nI d ≤ 5 := by
  refine ⟨?_, ?_⟩
  · rw [i0, nI_leI (by omega) (by omega)]; omega
  · rw [show (5 : Int32) = nI 5 by decide, nI_leI (by omega) (by omega)]; omega
theorem ne1 {n : Nat} (h : n ≤ 10000) : ¬ nI n = -1 := fun q => by
  have e := nI_toInt (n := n) (by omega)
  rw [q, show (-1 : Int32).toInt = -1 by decide] at e
  omega
theorem nlt0 {n : Nat} (h : n ≤ 10000) : ¬ nI n < 0 := by
  rw [i0, nI_ltI (by omega) (by omega)]; omega
theorem sub_i {n m : Nat} (hn : n ≤ 60) (hm : m < 2 ^ 31) : (nI n - nI m).toInt = (n : Int) - m := by
  rw [Int32.toInt_sub, nI_toInt (by omega), nI_toInt hm, Int.bmod_def]
  omega
section SHELF
variable {bo d : Nat} {σ : ZSt}
theorem cEmp (hd : d < 6) (σ : ZSt) : s_X6_isEmpty (nI d) σ = some (bI (σ.1 52 d = -1)) := by
  unfold s_X6_isEmpty
  rw [cShf, Option.bind_some, bI_n, if_neg (fun q => q (shD hd)), zLd_t (zIn_nI hd (by decide)), nI_clamp (by omega)]
  by_cases h : σ.1 52 d = -1 <;> simp [h, bI]
theorem cRow (hd : d < 6) (σ : ZSt) : s_X6_isRow (nI d) σ = some (bI (0 ≤ σ.1 52 d ∧ σ.1 52 d ≤ 4)) := by
  unfold s_X6_isRow s_X6_isSort
  rw [cShf, Option.bind_some, bI_n, if_neg (fun q => q (shD hd)), zLd_t (zIn_nI hd (by decide)), nI_clamp (by omega)]
  by_cases h : σ.1 52 d < 0
  · have : ¬ 0 ≤ σ.1 52 d := Int32.not_le.mpr h
    simp [h, this, bI]
  · have g : 0 ≤ σ.1 52 d := Int32.not_lt.mp h
    by_cases h2 : 4 < σ.1 52 d
    · have : ¬ σ.1 52 d ≤ 4 := Int32.not_le.mpr h2
      simp [h, h2, this, bI]
    · have : σ.1 52 d ≤ 4 := Int32.not_lt.mp h2
      simp [h, h2, this, g, bI]
theorem rowIs {s n : Nat} (h : rRow σ d s n) : 0 ≤ σ.1 52 d ∧ σ.1 52 d ≤ 4 := by
  rw [h.2.2.1.1]
  have := h.1
  refine ⟨?_, ?_⟩
  · rw [i0, nI_leI (by omega) (by omega)]; omega
  · rw [i4, nI_leI (by omega) (by omega)]; omega
theorem cPl (hd : d < 6) {s n : Nat} (h : rRow σ d s n) (i m : Int32) : s_X6_hasPlaces (nI d) i m σ = some (bI ((0 ≤ i ∧ 0 ≤ m) ∧ (m ≤ nI n ∧ i ≤ nI n - m))) := by
  have h54 := h.2.2.2.1.1
  unfold s_X6_hasPlaces
  rw [cRow hd, Option.bind_some, bI_n, if_neg (fun q => q (rowIs h)), zLd_t (zIn_nI hd (by decide)), nI_clamp (by omega), zLd_t (zIn_nI hd (by decide)), h54]
  by_cases h1 : i < 0
  · have : ¬ 0 ≤ i := Int32.not_le.mpr h1
    simp [h1, this, bI]
  · have g1 : 0 ≤ i := Int32.not_lt.mp h1
    by_cases h2 : m < 0
    · have : ¬ 0 ≤ m := Int32.not_le.mpr h2
      simp [h1, h2, this, bI]
    · have g2 : 0 ≤ m := Int32.not_lt.mp h2
      by_cases h3 : nI n < m
      · have : ¬ m ≤ nI n := Int32.not_le.mpr h3
        simp [h1, h2, h3, this, bI]
      · have g3 : m ≤ nI n := Int32.not_lt.mp h3
        by_cases h4 : nI n - m < i
        · have : ¬ i ≤ nI n - m := Int32.not_le.mpr h4
          simp [h1, h2, h3, h4, this, bI]
        · have : i ≤ nI n - m := Int32.not_lt.mp h4
          simp [h1, h2, h3, h4, this, g1, g2, g3, bI]
/-- places i, .., i + m - 1 are there: whole numbers -/
theorem plN {n : Nat} (hn : n ≤ 60) {i m : Int32} (h : (0 ≤ i ∧ 0 ≤ m) ∧ (m ≤ nI n ∧ i ≤ nI n - m)) : ∃ i' m' : Nat, i = nI i' ∧ m = nI m' ∧ i' + m' ≤ n := by
  obtain ⟨⟨h1, h2⟩, h3, h4⟩ := h
  obtain ⟨m', hm, rfl⟩ := pNat h2
  obtain ⟨i', hi, rfl⟩ := pNat h1
  rw [nI_leI (by omega) (by omega)] at h3
  rw [nI_sub h3 (by omega), nI_leI (by omega) (by omega)] at h4
  exact ⟨i', m', rfl, rfl, by omega⟩
theorem Npl {n i m : Nat} (hn : n ≤ 60) (h : i + m ≤ n) : (0 ≤ nI i ∧ 0 ≤ nI m) ∧ (nI m ≤ nI n ∧ nI i ≤ nI n - nI m) := by
  refine ⟨⟨nI_pos' (by omega), nI_pos' (by omega)⟩, ?_, ?_⟩
  · rw [nI_leI (by omega) (by omega)]; omega
  · rw [nI_sub (by omega) (by omega), nI_leI (by omega) (by omega)]; omega
/-- why there is no element; else where it is -/
theorem k_ref (h : rSh bo σ) (hbo : bo ≤ 50) (a i : Int32) : ∃ r, s_X6_refusalOf a i σ = some r ∧ s_X10_refusal a i σ = some r ∧ (r = 0 → ∃ d j s n, d < 6 ∧ a = nI d ∧ rRow σ d s n ∧ j < n ∧ i = nI j) := by
  unfold s_X6_refusalOf s_X10_refusal
  rw [cShf, mShf, Option.bind_some, Option.bind_some, bI_n, bI_n]
  by_cases ha : 0 ≤ a ∧ a ≤ 5
  · have hna : ¬ ¬ (0 ≤ a ∧ a ≤ 5) := fun q => q ha
    rw [if_neg hna, if_neg hna]
    obtain ⟨d, hd, rfl⟩ := ofSh ha
    have hz := zIn_nI (a := d) (n := 6) hd (by decide)
    have hcl := nI_clamp (n := d) (by omega)
    rw [cEmp hd, cRow hd, Option.bind_some, Option.bind_some, bI_n, bI_n, hcl]
    rcases h d hd with ⟨q1, q2⟩ | ⟨q1, k, hk, q2, q3⟩ | ⟨s, n, hr⟩
    · refine ⟨-11, ?_, ?_, fun q => absurd q (by decide)⟩
      · rw [if_neg (fun q => q q1)]
      · rw [zLd_t hz, q2, if_neg (by decide)]
    · refine ⟨-12, ?_, ?_, fun q => absurd q (by decide)⟩
      · rw [q1, if_pos (by decide), if_pos (by decide)]
      · rw [zLd_t hz, q3, if_pos (nI_pos' (by omega)), zLd_t hz, if_neg (by rw [i50, nI_leI (by decide) (by omega)]; omega)]
    · obtain ⟨r1, r2, ⟨r3, r4⟩, ⟨r5, r6⟩, r7⟩ := id hr
      have n1 : ¬ σ.1 52 d = -1 := by rw [r3]; exact ne1 (by omega)
      rw [if_pos n1, if_neg (fun q => q (rowIs hr)), cPl hd hr, Option.bind_some, bI_n]
      have mm : ∀ A B C D E : Option Int32, (if 0 ≤ σ.1 96 d then zLd (zIn (nI d) 6) (σ.1 96 d) fun v3 => (if 50 ≤ v3 then (if i < 0 then A else zLd (zIn (nI d) 6) (σ.1 97 d) fun v4 => if v4 ≤ i then B else C) else D) else E) = if i < 0 then A else if nI n ≤ i then B else C := fun A B C D E => by
        rw [r4, if_pos (nI_pos' (by omega)), zLd_t hz, if_pos (by rw [i50, nI_leI (by decide) (by omega)]; omega), zLd_t hz, r6]
      by_cases hi : i < 0
      · have g : ¬ ((0 ≤ i ∧ (0 : Int32) ≤ 1) ∧ ((1 : Int32) ≤ nI n ∧ i ≤ nI n - 1)) := fun q => Int32.not_le.mpr hi q.1.1
        refine ⟨-13, ?_, ?_, fun q => absurd q (by decide)⟩
        · rw [if_pos g]
        · rw [zLd_t hz, mm, if_pos hi]
      · have g : 0 ≤ i := Int32.not_lt.mp hi
        obtain ⟨j, hj, rfl⟩ := pNat g
        by_cases hjn : j < n
        · refine ⟨0, ?_, ?_, fun _ => ⟨d, j, s, n, hd, rfl, hr, hjn, rfl⟩⟩
          · rw [if_neg (fun q => q (Npl (i := j) (m := 1) r2 (by omega)))]
          · rw [zLd_t hz, mm, if_neg hi, if_neg (by rw [nI_leI (by omega) (by omega)]; omega)]
        · refine ⟨-13, ?_, ?_, fun q => absurd q (by decide)⟩
          · have g : ¬ ((0 ≤ nI j ∧ (0 : Int32) ≤ 1) ∧ ((1 : Int32) ≤ nI n ∧ nI j ≤ nI n - 1)) := fun q => by
              obtain ⟨i', m', e1, e2, e3⟩ := plN r2 q
              have e4 : j = i' := by
                obtain ⟨-, q3, q4⟩ := q
                have := Int32.le_iff_toInt_le.mp q4
                rw [i1, sub_i r2 (by omega), nI_toInt hj] at this
                have e5 := congrArg Int32.toInt e1
                rw [nI_toInt hj, nI_toInt (by omega)] at e5
                omega
              have e5 : 1 = m' := (nI_eq (by omega) (by omega)).mp e2
              omega
            rw [if_pos g]
          · rw [zLd_t hz, mm, if_neg hi, if_pos (by rw [nI_leI (by omega) (by omega)]; omega)]
  · exact ⟨-1, by rw [if_pos ha], by rw [if_pos ha], fun q => absurd q (by decide)⟩
theorem cElem (hd : d < 6) {s n j : Nat} (h : rRow σ d s n) (hj : j < n) : s_X6_elementAt (nI d) (nI j) σ = some (σ.2 (56 + d) j) := by
  have hn := h.2.1
  unfold s_X6_elementAt
  rw [cPl hd h, Option.bind_some, bI_n, if_neg (fun q => q (Npl (i := j) (m := 1) hn (by omega))), zLd_t (zIn_nI hd (by decide)), nI_clamp (by omega), zLd_t (zIn_nI (by omega) (by decide)), nI_clamp (by omega)]
theorem i60d (d : Nat) (hd : d < 6) : (60 : Int32) * nI d = nI (60 * d) := by rw [i60, nI_mul (by omega) (by omega) (by omega)]
theorem k_element (h : rSh bo σ) (hbo : bo ≤ 50) (a i : Int32) : ∃ r, s_X9_element a i σ = some r ∧ s_X10_element a i σ = some r := by
  obtain ⟨r, r1, r2, r3⟩ := k_ref h hbo a i
  unfold s_X9_element s_X10_element
  rw [r1, r2, Option.bind_some, Option.bind_some]
  by_cases hr : r = 0
  · obtain ⟨d, j, s, n, hd, rfl, hR, hj, rfl⟩ := r3 hr
    have hn := hR.2.1
    rw [if_pos hr, if_pos hr, cElem hd hR hj, Option.bind_some, i60d d hd, nI_add, zLd_t (zIn_nI (by omega) (by decide)), nI_clamp (by omega)]
    exact ⟨_, rfl, by rw [(hR.2.2.2.2 j hj).1]⟩
  · exact ⟨_, by rw [if_neg hr], by rw [if_neg hr]⟩
theorem lowB {s : Nat} (hs : s ≤ 4) (v : Int64) (σ σ' : ZSt) : ∃ r, s_X6_lowestBits (nI s) v σ = some r ∧ s_X10_asSort (nI (50 + s) - 50) v σ' = some r ∧ (s = 1 → ∃ x : Int32, r = x.toInt64) := by
  have e : nI (50 + s) - 50 = nI s := by
    rw [i50, nI_sub (by omega) (by omega)]
    congr 1
    omega
  rw [e]
  unfold s_X6_lowestBits s_X10_asSort
  rcases (show s = 0 ∨ s = 1 ∨ s = 2 ∨ s = 3 ∨ s = 4 by omega) with rfl | rfl | rfl | rfl | rfl
  · exact ⟨_, by rw [if_pos (by decide)], by rw [if_pos (by decide)], fun q => absurd q (by decide)⟩
  · exact ⟨_, by rw [if_neg (by decide), if_pos (by decide)], by rw [if_neg (by decide), if_pos (by decide)], fun _ => ⟨_, rfl⟩⟩
  · exact ⟨_, by rw [if_neg (by decide), if_neg (by decide), if_pos (by decide)], by rw [if_neg (by decide), if_neg (by decide), if_pos (by decide)], fun q => absurd q (by decide)⟩
  · exact ⟨_, by rw [if_neg (by decide), if_neg (by decide), if_neg (by decide), if_pos (by decide)], by rw [if_neg (by decide), if_neg (by decide), if_neg (by decide), if_neg (by decide)], fun q => absurd q (by decide)⟩
  · by_cases q : lg_cmp v 0 = 0
    · exact ⟨_, by rw [if_neg (by decide), if_neg (by decide), if_neg (by decide), if_neg (by decide), if_pos (by decide), if_pos q], by rw [if_neg (by decide), if_neg (by decide), if_neg (by decide), if_pos (by decide), if_pos q], fun q => absurd q (by decide)⟩
    · exact ⟨_, by rw [if_neg (by decide), if_neg (by decide), if_neg (by decide), if_neg (by decide), if_pos (by decide), if_neg q], by rw [if_neg (by decide), if_neg (by decide), if_neg (by decide), if_pos (by decide), if_neg q], fun q => absurd q (by decide)⟩
theorem refC {σ σ' : ZSt} (h : σ'.1 = σ.1) (a i : Int32) : s_X10_refusal a i σ' = s_X10_refusal a i σ := by
  unfold s_X10_refusal s_X10_isShelf s_X10_within
  rw [h]
theorem k_put (h : rSh bo σ) (hbo : bo ≤ 50) (a i : Int32) (v : Int64) : ∃ (r : Int32) (σ1 σ2 : ZSt), s_X9_put a i v σ = some (r, σ1) ∧ s_X10_put a i v σ1 = some (r, σ2) ∧ rSh bo σ2 := by
  obtain ⟨r, r1, r2, r3⟩ := k_ref h hbo a i
  unfold s_X9_put s_X10_put
  rw [r1, Option.bind_some]
  by_cases hr : r = 0
  · obtain ⟨d, j, s, n, hd, rfl, hR, hj, rfl⟩ := r3 hr
    obtain ⟨s4, hn, ⟨x1, x2⟩, ⟨x3, x4⟩, hel⟩ := id hR
    obtain ⟨y, y1, y2, y3⟩ := lowB s4 v σ (zWE σ (56 + d) j (0 : Int64))
    refine ⟨1, zWE σ (56 + d) j y, zWE (zWE σ (56 + d) j y) 98 (60 * d + j) y, ?_, ?_, fun d' hd' => ?_⟩
    · rw [if_pos hr]
      unfold s_X6_set
      rw [cPl hd hR, Option.bind_some, bI_n, if_neg (fun q => q (Npl (i := j) (m := 1) hn (by omega))), zLd_t (zIn_nI hd (by decide)), nI_clamp (by omega), zLd_t (zIn_nI hd (by decide)), x1, y1, Option.bind_some, zSg_t (zIn_nI (by omega) (by decide)), nI_clamp (by omega)]
      rfl
    · rw [refC (σ := σ) (σ' := zWE σ (56 + d) j y) rfl, r2, Option.bind_some, if_pos hr, zLd_t (zIn_nI hd (by decide)), nI_clamp (by omega)]
      show (s_X10_asSort (σ.1 96 d - 50) v _).bind _ = _
      have y2' : s_X10_asSort (nI (50 + s) - 50) v (zWE σ (56 + d) j y) = some y := y2
      rw [x2, y2', Option.bind_some, i60d d hd, nI_add, zSg_t (zIn_nI (by omega) (by decide)), nI_clamp (by omega), if_pos hr]
    · by_cases hdd : d' = d
      · subst hdd
        refine Or.inr (Or.inr ⟨s, n, s4, hn, ⟨x1, x2⟩, ⟨x3, x4⟩, fun i' hi' => ?_⟩)
        by_cases hij : i' = j
        · subst hij
          refine ⟨?_, fun q => ?_⟩
          · rw [we2, if_neg (by omega), we2, if_pos ⟨rfl, rfl⟩, we2, if_pos ⟨rfl, rfl⟩]
          · rw [we2, if_neg (by omega), we2, if_pos ⟨rfl, rfl⟩]
            exact y3 q
        · have := hel i' hi'
          rw [we2, if_neg (by omega), we2, if_neg (by omega), we2, if_neg (by omega), we2, if_neg (by omega)]
          exact this
      · refine rS1_fr (h d' hd') rfl rfl rfl rfl rfl (fun i' hi' => ?_) (fun i' hi' => ?_)
        · rw [we2, if_neg (by omega), we2, if_neg (by omega)]
        · rw [we2, if_neg (by omega), we2, if_neg (by omega)]
  · refine ⟨r, σ, σ, by rw [if_neg hr], ?_, h⟩
    rw [r2, Option.bind_some, if_neg hr, if_neg hr]
theorem k_keep (h : rSh bo σ) (hA : rAc bo σ) (a b : Int32) : ∃ (r : Int32) (σ1 σ2 : ZSt), s_X9_keep a b σ = some (r, σ1) ∧ s_X10_keep a b σ1 = some (r, σ2) ∧ rSh bo σ2 := by
  obtain ⟨hb, ⟨h1, h2⟩, -⟩ := hA
  unfold s_X9_keep s_X10_keep
  simp only [cShf, mShf, Option.bind_some, bI_0]
  by_cases ha : 0 ≤ a ∧ a ≤ 5
  · have hna : ¬ ¬ (0 ≤ a ∧ a ≤ 5) := fun q => q ha
    simp only [if_neg hna]
    obtain ⟨d, hd, rfl⟩ := ofSh ha
    have hz := zIn_nI (a := d) (n := 6) hd (by decide)
    have hcl := nI_clamp (n := d) (by omega)
    by_cases hb1 : b = -1
    · subst hb1
      refine ⟨1, zWD σ 52 d (-1), zWD (zWD (zWD σ 52 d (-1)) 96 d (-1)) 97 d 0, ?_, ?_, fun d' hd' => ?_⟩
      · rw [if_pos rfl, s_X9_keep_C31, if_pos rfl, s_X6_clearShelf, cShf, Option.bind_some, bI_n, if_neg hna, zSg_t hz, hcl]
        rfl
      · rw [if_pos rfl, zSg_t hz, hcl, zSg_t hz]
      · by_cases hdd : d' = d
        · subst hdd
          exact Or.inl ⟨by simp [wd1], by simp [wd1]⟩
        · exact rS1_fr (h d' hd') (by simp [wd1, hdd]) (by simp [wd1]) (by simp [wd1]) (by simp [wd1, hdd]) (by simp [wd1, hdd]) (fun _ _ => rfl) (fun _ _ => rfl)
    · simp only [if_neg hb1]
      rw [cIsBody0 h1 hb, Option.bind_some, bI_n]
      by_cases hbb : 0 ≤ b ∧ b < nI bo
      · have hnb : ¬ ¬ (0 ≤ b ∧ b < nI bo) := fun q => q hbb
        obtain ⟨k, hk, rfl⟩ := ofN (by omega) hbb.1 hbb.2
        refine ⟨1, zWD (zWD σ 52 d (-2)) 53 d (nI k), zWD (zWD (zWD (zWD σ 52 d (-2)) 53 d (nI k)) 96 d (nI k)) 97 d 0, ?_, ?_, fun d' hd' => ?_⟩
        · rw [if_neg hnb, s_X9_keep_C31, if_neg hb1, s_X6_holdBody, cShf, Option.bind_some, bI_n, if_neg hna, zSg_t hz, hcl, zSg_t hz]
          rfl
        · rw [mIsBody0 (bo := bo) (by rw [wd1, if_neg (by omega), wd1, if_neg (by omega), h2]) hb, Option.bind_some, bI_n, if_neg hnb, zSg_t hz, hcl, zSg_t hz]
        · by_cases hdd : d' = d
          · subst hdd
            exact Or.inr (Or.inl ⟨by simp [wd1], k, hk, by simp [wd1], by simp [wd1]⟩)
          · exact rS1_fr (h d' hd') (by simp [wd1, hdd]) (by simp [wd1, hdd]) (by simp [wd1]) (by simp [wd1, hdd]) (by simp [wd1, hdd]) (fun _ _ => rfl) (fun _ _ => rfl)
      · refine ⟨-1, σ, σ, by rw [if_pos hbb], ?_, h⟩
        rw [mIsBody0 h2 hb, Option.bind_some, bI_n, if_pos hbb]
  · exact ⟨-1, σ, σ, by simp only [if_pos ha], by simp only [if_pos ha], h⟩
theorem c_row_L (hd : d < 6) : ∀ (n j : Nat) (τ : ZSt), 60 < n + j → j ≤ 60 → ∃ τ', s_X6_holdRow_L26 (nI d) n (nI j) τ = some τ' ∧ τ'.1 = τ.1 ∧ (∀ i, j ≤ i → i < 60 → τ'.2 (56 + d) i = 0) ∧ ∀ c f, ¬ (c = 56 + d ∧ j ≤ f ∧ f < 60) → τ'.2 c f = τ.2 c f := by
  intro n
  induction n with
  | zero => intro j τ h1 h2; omega
  | succ n ih =>
    intro j τ h1 h2
    have e : ((60 : Int32) ≤ nI j) = (60 ≤ j) := by rw [i60]; exact nI_le_n (by omega) (by omega)
    by_cases hj : 60 ≤ j
    · exact ⟨τ, by rw [s_X6_holdRow_L26, if_pos (by rw [e]; exact hj)], rfl, fun i q1 q2 => by omega, fun c f q => rfl⟩
    · obtain ⟨τ', s1, s2, s3, s4⟩ := ih (j + 1) (zWE τ (56 + d) j 0) (by omega) (by omega)
      refine ⟨τ', ?_, s2, fun i q1 q2 => ?_, fun c f q => ?_⟩
      · rw [s_X6_holdRow_L26, if_neg (by rw [e]; exact hj), zLd_t (zIn_nI hd (by decide)), nI_clamp (n := d) (by omega), zSg_t (zIn_nI (by omega) (by decide)), nI_clamp (n := j) (by omega), nI_1, s1]
      · by_cases hij : i = j
        · subst hij
          rw [s4 _ _ (by omega), we2, if_pos ⟨rfl, rfl⟩]
        · exact s3 i (by omega) q2
      · rw [s4 c f (by omega), we2, if_neg (by omega)]
theorem m_row_L (hd : d < 6) : ∀ (n j : Nat) (τ : ZSt), 60 < n + j → j ≤ 60 → ∃ τ', s_X10_row_L57 (nI d) n (nI (60 * d + j)) τ = some (1, τ') ∧ τ'.1 = τ.1 ∧ (∀ i, j ≤ i → i < 60 → τ'.2 98 (60 * d + i) = 0) ∧ ∀ c f, ¬ (c = 98 ∧ 60 * d + j ≤ f ∧ f < 60 * d + 60) → τ'.2 c f = τ.2 c f := by
  intro n
  induction n with
  | zero => intro j τ h1 h2; omega
  | succ n ih =>
    intro j τ h1 h2
    have e : (((60 : Int32) * nI d + (60 : Int32)) ≤ nI (60 * d + j)) = (60 ≤ j) := by
      rw [i60d d hd, i60, nI_add, nI_le_n (by omega) (by omega)]
      exact propext (by omega)
    by_cases hj : 60 ≤ j
    · exact ⟨τ, by rw [s_X10_row_L57, if_pos (by rw [e]; exact hj)], rfl, fun i q1 q2 => by omega, fun c f q => rfl⟩
    · obtain ⟨τ', s1, s2, s3, s4⟩ := ih (j + 1) (zWE τ 98 (60 * d + j) 0) (by omega) (by omega)
      refine ⟨τ', ?_, s2, fun i q1 q2 => ?_, fun c f q => ?_⟩
      · rw [s_X10_row_L57, if_neg (by rw [e]; exact hj), zSg_t (zIn_nI (by omega) (by decide)), nI_clamp (n := 60 * d + j) (by omega), nI_1]
        exact s1
      · by_cases hij : i = j
        · subst hij
          rw [s4 _ _ (by omega), we2, if_pos ⟨rfl, rfl⟩]
        · exact s3 i (by omega) q2
      · rw [s4 c f (by omega), we2, if_neg (by omega)]
theorem k_row (h : rSh bo σ) (a b c : Int32) : ∃ (r : Int32) (σ1 σ2 : ZSt), s_X9_row a b c σ = some (r, σ1) ∧ s_X10_row a b c σ1 = some (r, σ2) ∧ rSh bo σ2 := by
  unfold s_X9_row s_X10_row
  have esort : s_X6_isSort b σ = some (bI (0 ≤ b ∧ b ≤ 4)) := by
    unfold s_X6_isSort
    by_cases h1 : b < 0
    · have : ¬ 0 ≤ b := Int32.not_le.mpr h1
      simp [h1, this, bI]
    · have g1 : 0 ≤ b := Int32.not_lt.mp h1
      by_cases h2 : 4 < b
      · have : ¬ b ≤ 4 := Int32.not_le.mpr h2
        simp [h1, h2, this, bI]
      · have : b ≤ 4 := Int32.not_lt.mp h2
        simp [h1, h2, this, g1, bI]
  simp only [cShf, mShf, mW32 b 0 4 (a' := 0) (b' := 4) (by decide) (by decide), esort, Option.bind_some, bI_0]
  by_cases ha : 0 ≤ a ∧ a ≤ 5
  · have hna : ¬ ¬ (0 ≤ a ∧ a ≤ 5) := fun q => q ha
    simp only [if_neg hna]
    by_cases hb : 0 ≤ b ∧ b ≤ 4
    · have hnb : ¬ ¬ (0 ≤ b ∧ b ≤ 4) := fun q => q hb
      simp only [if_neg hnb]
      by_cases hc : c ≤ 60
      · simp only [if_pos hc]
        by_cases hc0 : 0 ≤ c
        · simp only [if_pos hc0]
          obtain ⟨d, hd, rfl⟩ := ofSh ha
          have b1 := inR_i (show inR b 0 4 from hb)
          rw [show (0 : Int32).toInt = 0 by decide, show (4 : Int32).toInt = 4 by decide] at b1
          obtain ⟨s, hs, rfl⟩ := ofI (x := b) (m := 4) (by omega) b1.2
          have b2 := inR_i (show inR c 0 60 from ⟨hc0, hc⟩)
          rw [show (0 : Int32).toInt = 0 by decide, show (60 : Int32).toInt = 60 by decide] at b2
          obtain ⟨n, hn, rfl⟩ := ofI (x := c) (m := 60) (by omega) b2.2
          have hz := zIn_nI (a := d) (n := 6) hd (by decide)
          have hcl := nI_clamp (n := d) (by omega)
          obtain ⟨τ1, s1, s2, s3, s4⟩ := c_row_L hd 200 0 (zWD (zWD σ 52 d (nI s)) 54 d (nI n)) (by omega) (by omega)
          obtain ⟨τ2, t1, t2, t3, t4⟩ := m_row_L hd 200 0 (zWD (zWD τ1 96 d (nI (50 + s))) 97 d (nI n)) (by omega) (by omega)
          have u : ∀ k f, τ2.1 k f = (zWD (zWD (zWD (zWD σ 52 d (nI s)) 54 d (nI n)) 96 d (nI (50 + s))) 97 d (nI n)).1 k f := fun k f => by
            rw [t2, wd1, wd1, s2]
            rfl
          refine ⟨1, τ1, τ2, ?_, ?_, fun d' hd' => ?_⟩
          · unfold s_X6_holdRow
            rw [cShf, Option.bind_some, bI_n, if_neg hna, zSg_t hz, hcl, zSg_t hz, show (0 : Int32) = nI 0 from rfl, s1]
            rfl
          · rw [zSg_t hz, hcl, zSg_t hz, i50, nI_add, i60d d hd]
            exact t1
          · by_cases hdd : d' = d
            · subst hdd
              refine Or.inr (Or.inr ⟨s, n, hs, hn, ⟨?_, ?_⟩, ⟨?_, ?_⟩, fun i hi => ⟨?_, fun _ => ⟨0, ?_⟩⟩⟩)
              · rw [u]; simp [wd1]
              · rw [u]; simp [wd1]
              · rw [u]; simp [wd1]
              · rw [u]; simp [wd1]
              · rw [t3 i (by omega) (by omega), t4 (56 + d') i (by omega)]
                show τ1.2 (56 + d') i = 0
                exact s3 i (by omega) (by omega)
              · rw [t4 (56 + d') i (by omega)]
                show τ1.2 (56 + d') i = _
                rw [s3 i (by omega) (by omega)]
                rfl
            · refine rS1_fr (h d' hd') ?_ ?_ ?_ ?_ ?_ (fun i hi => ?_) (fun i hi => ?_)
              · rw [u]; simp [wd1, hdd]
              · rw [u]; simp [wd1]
              · rw [u]; simp [wd1, hdd]
              · rw [u]; simp [wd1, hdd]
              · rw [u]; simp [wd1, hdd]
              · rw [t4 (56 + d') i (by omega)]
                show τ1.2 (56 + d') i = _
                rw [s4 (56 + d') i (by omega)]
                rfl
              · rw [t4 98 (60 * d' + i) (by omega)]
                show τ1.2 98 (60 * d' + i) = _
                rw [s4 98 (60 * d' + i) (by omega)]
                rfl
        · exact ⟨-14, σ, σ, by simp only [if_neg hc0], by simp only [if_neg hc0], h⟩
      · exact ⟨-1, σ, σ, by simp only [if_neg hc], by simp only [if_neg hc], h⟩
    · exact ⟨-1, σ, σ, by simp only [if_pos hb], by simp only [if_pos hb], h⟩
  · exact ⟨-1, σ, σ, by simp only [if_pos ha], by simp only [if_pos ha], h⟩
end SHELF
