/-! fund, by the model; both -/
theorem div64 {S r A : Nat} (hS : S ≤ 9999) (hr : r ≤ 198) (hA : 1 ≤ A ∧ A ≤ 6000) : (((nI S).toInt64 * (nI r).toInt64) / (nI A).toInt64).toInt32 = nI S * nI r / nI A := by
  have h1 : S * r ≤ 9999 * 198 := Nat.mul_le_mul hS hr
  rw [nI_l (by omega), nI_l (by omega), nI_l (by omega), lN_mul, pk_lDiv (by omega) (by omega) (by omega), nI_mul (by omega) (by omega) (by omega), nI_div (by omega) (by omega)]
  exact Int64.toInt32_ofNat'
section FUND
variable {s w p : Nat} {σ : ZSt}
theorem cMostP_L (h : rT s w p σ) (x : Int32) {g : Int32} (hg : inR g 0 10) : ∀ (n j a : Nat), w < n + j → j ≤ w → a ≤ 198 * j → ∃ r, r ≤ 198 * w ∧ a ≤ r ∧ s_X7_most_L5 x g σ n (nI a) (nI j) = some (nI r) ∧ ∀ j', j ≤ j' → j' < w → fHm (σ.1 6) (sH σ g) x j' → 1 ≤ r := by
  intro n
  obtain ⟨⟨hs, hw, hp⟩, ⟨h0, h1, h2, h3, h4, h5⟩, hS, hE, hW, hP⟩ := id h
  induction n with
  | zero => intro j acc hn hj; omega
  | succ n ih =>
    intro j a hn hj ha
    simp only [s_X7_most_L5, h2, nI_le_n (a := w) (b := j) (by omega) (by omega)]
    by_cases hq : w ≤ j
    · exact ⟨a, by omega, Nat.le_refl _, by simp [hq], fun j' q1 q2 => by omega⟩
    · have hj' : j < w := by omega
      have e1 : nI j + 1 = nI (j + 1) := nI_1 j
      simp only [hq, if_false, cIsHarmed h hj', cHarmTo h hj', Option.bind_some, bI_0, e1]
      by_cases hx : σ.1 6 j = x ∧ 0 < σ.1 7 j - σ.1 8 j * g / 10
      · have b1 := hN_i h hj' hg
        have b2 := Int32.lt_iff_toInt_lt.mp hx.2
        rw [toI0] at b2
        obtain ⟨m, hm, e2⟩ := ofI (m := 198) (by omega) b1.2
        simp only [hx, and_self, not_true_eq_false, if_false]
        rw [e2] at b2
        rw [nI_toInt (by omega)] at b2
        rw [e2, nI_add]
        obtain ⟨r, r1, r2, r3, r4⟩ := ih (j + 1) (a + m) (by omega) (by omega) (by omega)
        exact ⟨r, r1, by omega, r3, fun j' _ _ _ => by omega⟩
      · simp only [hx, not_false_eq_true, if_true]
        obtain ⟨r, r1, r2, r3, r4⟩ := ih (j + 1) a (by omega) (by omega) (by omega)
        refine ⟨r, r1, r2, r3, fun j' q1 q2 q3 => ?_⟩
        by_cases e : j' = j
        · subst e
          exact absurd q3 hx
        · exact r4 j' (by omega) q2 q3
theorem k_mostP (h : rT s w p σ) (x : Int32) {g : Int32} (hg : inR g 0 10) : ∃ r, r ≤ 198 * w ∧ s_X7_most x g σ = some (nI r) ∧ s_X10_mostBy g x σ = some (nI r) ∧ ∀ j, j < w → fHm (σ.1 6) (sH σ g) x j → 1 ≤ r := by
  have hw := h.1.2.1
  obtain ⟨r, r1, r2, r3⟩ := k_mostN h x hg
  obtain ⟨t, t1, t2, t3, t4⟩ := cMostP_L h x hg 200 0 0 (by omega) (by omega) (by omega)
  have t3' : s_X7_most x g σ = some (nI t) := t3
  rw [r2] at t3'
  have e := Option.some.inj t3'
  rw [nI_eq (by omega) (by omega)] at e
  subst e
  exact ⟨r, r1, r2, r3, fun j q1 q2 => t4 j (by omega) q1 q2⟩
theorem hNat (h : rT s w p σ) {g : Int32} (hg : inR g 0 10) {j : Nat} (hj : j < w) {x : Int32} (hh : fHm (σ.1 6) (sH σ g) x j) : ∃ r, r ≤ 198 ∧ sH σ g j = nI r := by
  have b1 := hN_i h hj hg
  have b2 := Int32.lt_iff_toInt_lt.mp hh.2
  rw [toI0] at b2
  have b2' : 0 < (σ.1 7 j - σ.1 8 j * g / 10).toInt := b2
  exact ofI (m := 198) (by omega) b1.2
theorem m_part_L (h : rT s w p σ) {q S A w0 : Nat} (hq : q < p) (hS : S ≤ 9999) (hA : A ≤ 6000) {x : Int32} (hA1 : ∀ j, j < w → fHm (σ.1 6) (sH σ (σ.1 10 q)) x j → 1 ≤ A) (hw0 : w0 < w) (hh : fHm (σ.1 6) (sH σ (σ.1 10 q)) x w0) : ∀ (n i : Nat), w < n + i → i ≤ w → s_X10_partOf_L25 (nI q) x (nI S) (nI w0) (nI A) σ n (fL (σ.1 6) (sH σ (σ.1 10 q)) x (nI S) (nI A) i) (fE id (fF (σ.1 6) (sH σ (σ.1 10 q)) x i)) (if w0 < i then fV (σ.1 6) (sH σ (σ.1 10 q)) x (nI S) (nI A) w0 else 0) (nI i) = some (fP (σ.1 6) (sH σ (σ.1 10 q)) x (nI S) (nI A) w w0) := by
  intro n
  have hw := h.1.2.1
  have hp := h.1.2.2
  have h3 := h.2.1.2.2.2.1
  obtain ⟨⟨q1, hg⟩, -⟩ := h.2.2.2.2.2 q hq
  induction n with
  | zero => intro i hn hi; omega
  | succ n ih =>
    intro i hn hi
    have e5 : (nI w ≤ nI i) = (w ≤ i) := nI_le_n (by omega) (by omega)
    rw [s_X10_partOf_L25, h3]
    by_cases hi2 : w ≤ i
    · have hiw : i = w := by omega
      subst hiw
      rw [if_pos (by rw [e5]; exact hi2), s_X10_partOf_C111, if_pos hw0]
      unfold fP
      cases hF : fF (σ.1 6) (sH σ (σ.1 10 q)) x i with
      | none => rw [if_neg (show ¬ nI w0 = fE id none from ne1 (by omega)), if_neg (by simp)]
      | some i0 =>
        have hi0 := (fF_some hF).1
        by_cases e : i0 = w0
        · subst e
          rw [if_pos (show nI i0 = fE id (some i0) from rfl), if_pos rfl]
        · rw [if_neg (show ¬ nI w0 = fE id (some i0) from fun z => e ((nI_eq (by omega) (by omega)).mp (show nI i0 = nI w0 from z.symm))), if_neg (fun z => e (Option.some.inj z))]
    · have hi' : i < w := by omega
      rw [if_neg (by rw [e5]; exact hi2), show s_X10_isHarmed (nI q) x (nI i) σ = some (bI (fHm (σ.1 6) (sH σ (σ.1 10 q)) x i)) from mIsHarmed h hi' hq x, Option.bind_some, bI_n]
      by_cases hm : fHm (σ.1 6) (sH σ (σ.1 10 q)) x i
      · obtain ⟨r, hr, er⟩ := hNat h hg hi' hm
        have hA2 := hA1 i hi' hm
        have eV : (((nI S).toInt64 * (sH σ (σ.1 10 q) i).toInt64) / (nI A).toInt64).toInt32 = fV (σ.1 6) (sH σ (σ.1 10 q)) x (nI S) (nI A) i := by
          rw [fV_yes hm, er]
          exact div64 hS hr ⟨hA2, hA⟩
        have eL : fL (σ.1 6) (sH σ (σ.1 10 q)) x (nI S) (nI A) i - fV (σ.1 6) (sH σ (σ.1 10 q)) x (nI S) (nI A) i = fL (σ.1 6) (sH σ (σ.1 10 q)) x (nI S) (nI A) (i + 1) := (if_pos hm).symm
        have c80 : ∀ k0 : Int32, k0 = fE id (fF (σ.1 6) (sH σ (σ.1 10 q)) x (i + 1)) → s_X10_partOf_C80 (s_X10_partOf_L25 (nI q) x (nI S) (nI w0) (nI A) σ n) (nI q) x (nI S) (nI w0) (nI A) (fL (σ.1 6) (sH σ (σ.1 10 q)) x (nI S) (nI A) i) (if w0 < i then fV (σ.1 6) (sH σ (σ.1 10 q)) x (nI S) (nI A) w0 else 0) (nI i) (fV (σ.1 6) (sH σ (σ.1 10 q)) x (nI S) (nI A) i) k0 σ = some (fP (σ.1 6) (sH σ (σ.1 10 q)) x (nI S) (nI A) w w0) := fun k0 hk => by
          unfold s_X10_partOf_C80
          rw [hk, eL, nI_1, ← ih (i + 1) (by omega) (by omega)]
          by_cases e : i = w0
          · subst e
            rw [if_pos rfl, if_pos (show i < i + 1 by omega)]
          · rw [if_neg (show ¬ nI i = nI w0 by rw [nI_eq (by omega) (by omega)]; exact e)]
            by_cases e2 : w0 < i
            · rw [if_pos e2, if_pos (show w0 < i + 1 by omega)]
            · rw [if_neg e2, if_neg (show ¬ w0 < i + 1 by omega)]
        have nz : ¬ (nI A).toInt64 = 0 := fun z => by
          have := congrArg Int64.toInt z
          rw [Int32.toInt_toInt64, nI_toInt (by omega), show (0 : Int64).toInt = 0 by decide] at this
          omega
        rw [if_neg (fun z => z hm), zLd_t (zIn_nI (by omega) (by decide)), nI_clamp (by omega), ← q1, show s_X10_harmBy (σ.1 10 q) (nI i) σ = some (sH σ (σ.1 10 q) i) from mHarmBy h hi' _, Option.bind_some, if_neg nz, eV]
        cases hF : fF (σ.1 6) (sH σ (σ.1 10 q)) x i with
        | none =>
          rw [if_neg (show ¬ (0 : Int32) ≤ fE id none by decide)]
          refine c80 (nI i) ?_
          show nI i = fE id ((fF (σ.1 6) (sH σ (σ.1 10 q)) x i).elim (if fHm (σ.1 6) (sH σ (σ.1 10 q)) x i then some i else none) some)
          rw [hF, if_pos hm]
          rfl
        | some i0 =>
          have hi0 := (fF_some hF).1
          rw [if_pos (show (0 : Int32) ≤ fE id (some i0) from nI_pos' (n := i0) (by omega))]
          refine c80 _ ?_
          show fE id (some i0) = fE id ((fF (σ.1 6) (sH σ (σ.1 10 q)) x i).elim (if fHm (σ.1 6) (sH σ (σ.1 10 q)) x i then some i else none) some)
          rw [hF]
          rfl
      · have eL : fL (σ.1 6) (sH σ (σ.1 10 q)) x (nI S) (nI A) (i + 1) = fL (σ.1 6) (sH σ (σ.1 10 q)) x (nI S) (nI A) i := if_neg hm
        have eF : fF (σ.1 6) (sH σ (σ.1 10 q)) x (i + 1) = fF (σ.1 6) (sH σ (σ.1 10 q)) x i := by
          show (fF (σ.1 6) (sH σ (σ.1 10 q)) x i).elim (if fHm (σ.1 6) (sH σ (σ.1 10 q)) x i then some i else none) some = _
          rw [if_neg hm]
          cases fF (σ.1 6) (sH σ (σ.1 10 q)) x i <;> rfl
        rw [if_pos hm, nI_1, ← ih (i + 1) (by omega) (by omega), eL, eF]
        have hne : ¬ i = w0 := fun z => hm (z ▸ hh)
        by_cases e2 : w0 < i
        · rw [if_pos e2, if_pos (show w0 < i + 1 by omega)]
        · rw [if_neg e2, if_neg (show ¬ w0 < i + 1 by omega)]
/-- one window of the model's loop -/
abbrev mAb (h v : Int32) : Prop := 0 < h ∧ ¬ v ≤ h
theorem m_fund_step (h : rT s w p σ) {q S A j k n : Nat} (hq : q < p) (hS : S ≤ 9999) (hA : A ≤ 6000) {x : Int32} (hA1 : ∀ j, j < w → fHm (σ.1 6) (sH σ (σ.1 10 q)) x j → 1 ≤ A) (hm : s_X10_mostBy (σ.1 10 q) x σ = some (nI A)) (hj : j < w) (hx : σ.1 6 j = x) (l3 l6 l7 l9 : Int32) : ∃ (above : Bool) (v : Int32), v = fP (σ.1 6) (sH σ (σ.1 10 q)) x (nI S) (nI A) w j ∧ (above = true ↔ mAb (sH σ (σ.1 10 q) j) v) ∧ s_X10_fund_L67 (nI S) l3 (nI q) x σ (n + 1) l6 l7 (nI k) l9 (nI j) = s_X10_fund_L67 (nI S) l3 (nI q) x σ n (if l6 = 0 then 0 else if above = true then 0 else if v ≤ σ.1 9 j then 1 else 0) (if above = true then l7 ||| ((1 : Int32) <<< (nI k &&& 31)) else l7) (nI (k + 1)) (if nI k = l3 then v else l9) (nI (j + 1)) := by
  have hw := h.1.2.1
  have hp := h.1.2.2
  have h3 := h.2.1.2.2.2.1
  obtain ⟨⟨q1, hg⟩, -⟩ := h.2.2.2.2.2 q hq
  obtain ⟨⟨w1, -⟩, -, -, ⟨w4, w5⟩⟩ := h.2.2.2.2.1 j hj
  have hz := zIn_nI (a := j) (n := 30) (by omega) (by decide)
  have hcl := nI_clamp (n := j) (by omega)
  have hzq := zIn_nI (a := q) (n := 8) (by omega) (by decide)
  have hclq := nI_clamp (n := q) (by omega)
  have c208 : ∀ (l6 l7 l11 k0 k1 : Int32), s_X10_fund_C208 (s_X10_fund_L67 (nI S) l3 (nI q) x σ n) (nI S) l3 (nI q) x l6 (nI k) l9 (nI j) l11 k0 k1 σ = s_X10_fund_L67 (nI S) l3 (nI q) x σ n l6 (k0 ||| k1) (nI (k + 1)) (if nI k = l3 then l11 else l9) (nI (j + 1)) := fun l6 l7 l11 k0 k1 => by
    unfold s_X10_fund_C208
    by_cases e : nI k = l3
    · rw [if_pos e, if_pos e, nI_1, nI_1]
    · rw [if_neg e, if_neg e, nI_1, nI_1]
  have c157 : ∀ (v : Int32) (ab : Bool), s_X10_fund_C157 (s_X10_fund_L67 (nI S) l3 (nI q) x σ n) (nI S) l3 (nI q) x l6 l7 (nI k) l9 (nI j) v (if ab = true then 1 else 0) σ = s_X10_fund_L67 (nI S) l3 (nI q) x σ n (if l6 = 0 then 0 else if ab = true then 0 else if v ≤ σ.1 9 j then 1 else 0) (if ab = true then l7 ||| ((1 : Int32) <<< (nI k &&& 31)) else l7) (nI (k + 1)) (if nI k = l3 then v else l9) (nI (j + 1)) := fun v ab => by
    unfold s_X10_fund_C157
    cases ab with
    | true =>
      simp only [if_true, if_neg (show ¬ (1 : Int32) = 0 by decide), c208 0 0, ite_self]
    | false =>
      simp only [if_neg (show ¬ false = true by decide), if_true, c208 _ 0, Int32.or_zero]
      by_cases e : l6 = 0
      · rw [if_pos e, if_pos e]
      · rw [if_neg e, if_neg e]
        by_cases e2 : v = 0
        · rw [if_pos e2, if_pos (show v ≤ σ.1 9 j by rw [e2]; exact w5.1)]
        · rw [if_neg e2, zLd_t hz, hcl, ← w4]
          by_cases e3 : v ≤ σ.1 9 j
          · rw [if_neg (Int32.not_lt.mpr e3), if_pos e3]
          · rw [if_pos (Int32.not_le.mp e3), if_neg e3]
  have hH : s_X10_isHarmed (nI q) x (nI j) σ = some (bI (fHm (σ.1 6) (sH σ (σ.1 10 q)) x j)) := mIsHarmed h hj hq x
  have hB : s_X10_harmBy (σ.1 10 q) (nI j) σ = some (sH σ (σ.1 10 q) j) := mHarmBy h hj _
  have e5 : ¬ (nI w ≤ nI j) := by rw [nI_leI (by omega) (by omega)]; omega
  rw [s_X10_fund_L67, h3, if_neg e5, zLd_t hz, hcl, ← w1, if_pos hx, hH, Option.bind_some, bI_n]
  by_cases hm2 : fHm (σ.1 6) (sH σ (σ.1 10 q)) x j
  · have part : s_X10_partOf (nI q) x (nI S) (nI j) σ = some (fP (σ.1 6) (sH σ (σ.1 10 q)) x (nI S) (nI A) w j) := by
      unfold s_X10_partOf
      rw [zLd_t hzq, hclq, ← q1, hm, Option.bind_some]
      exact m_part_L h hq hS hA hA1 hj hm2 200 0 (by omega) (by omega)
    rw [if_neg (fun z => z hm2), part, Option.bind_some]
    generalize fP (σ.1 6) (sH σ (σ.1 10 q)) x (nI S) (nI A) w j = v
    unfold s_X10_fund_C119
    rw [hH, Option.bind_some, bI_n, if_neg (fun z => z hm2), zLd_t hzq, hclq, ← q1, hB, Option.bind_some]
    by_cases e : v ≤ sH σ (σ.1 10 q) j
    · refine ⟨false, v, rfl, ⟨fun z => absurd z (by decide), fun z => absurd e z.2⟩, ?_⟩
      rw [if_pos e]
      exact c157 v false
    · refine ⟨true, v, rfl, ⟨fun _ => ⟨hm2.2, e⟩, fun _ => rfl⟩, ?_⟩
      rw [if_neg e]
      exact c157 v true
  · rw [if_pos hm2]
    refine ⟨false, 0, (fP_no hm2).symm, ⟨fun z => absurd z (by decide), fun z => absurd ⟨hx, z.1⟩ hm2⟩, ?_⟩
    unfold s_X10_fund_C119
    rw [hH, Option.bind_some, bI_n, if_pos hm2]
    exact c157 0 false
theorem m_fund_no (h : rT s w p σ) {j n : Nat} (hj : j < w) {x : Int32} (hx : ¬ σ.1 6 j = x) (l2 l3 l4 l6 l7 l8 l9 : Int32) : s_X10_fund_L67 l2 l3 l4 x σ (n + 1) l6 l7 l8 l9 (nI j) = s_X10_fund_L67 l2 l3 l4 x σ n l6 l7 l8 l9 (nI (j + 1)) := by
  have hw := h.1.2.1
  have h3 := h.2.1.2.2.2.1
  obtain ⟨⟨w1, -⟩, -⟩ := h.2.2.2.2.1 j hj
  have e5 : ¬ (nI w ≤ nI j) := by rw [nI_leI (by omega) (by omega)]; omega
  rw [s_X10_fund_L67, h3, if_neg e5, zLd_t (zIn_nI (by omega) (by decide)), nI_clamp (by omega), ← w1, if_neg hx, nI_1]
/-- what the class's rows of the fund hold -/
def fArr (σ : ZSt) (w : Nat) (x S A g : Int32) : Prop := σ.1 15 4 = nI (fC (σ.1 6) x w) ∧ ∀ i, i < w → σ.1 6 i = x → σ.1 16 (fC (σ.1 6) x i) = fP (σ.1 6) (sH σ g) x S A w i ∧ σ.1 17 (fC (σ.1 6) x i) = sH σ g i ∧ σ.1 18 (fC (σ.1 6) x i) = σ.1 9 i
theorem cAbove {k : Nat} (hk : k < 30) : s_X2_isAboveHarm (nI k) σ = some (if 0 < σ.1 17 k ∧ ¬ σ.1 16 k ≤ σ.1 17 k then 1 else 0) := by
  unfold s_X2_isAboveHarm
  have hz := zIn_nI (a := k) (n := 30) hk (by decide)
  rw [zLd_t hz, nI_clamp (by omega), zLd_t hz, zLd_t hz]
  by_cases h1 : 0 < σ.1 17 k
  · rw [if_neg (Int32.not_le.mpr h1)]
    by_cases h2 : σ.1 16 k ≤ σ.1 17 k
    · rw [if_pos h2, if_neg (fun z => z.2 h2)]
    · rw [if_neg h2, if_pos ⟨h1, h2⟩]
  · rw [if_pos (Int32.not_lt.mp h1), if_neg (fun z => h1 z.1)]
theorem fund_end {l3 l6 l7 l9 l2 l4 : Int32} (h : rT s w p σ) {x : Int32} (l8 : Int32) {n : Nat} : s_X10_fund_L67 l2 l3 l4 x σ (n + 1) l6 l7 l8 l9 (nI w) = s_X10_fund_C235 l3 l6 l7 l9 σ := by
  have h3 := h.2.1.2.2.2.1
  rw [s_X10_fund_L67, h3, if_pos (Int32.le_refl _)]
theorem fund_h0 (h : rT s w p σ) {q S A : Nat} (hq : q < p) (hS : S ≤ 9999) (hA : A ≤ 6000) {x : Int32} (hA1 : ∀ j, j < w → fHm (σ.1 6) (sH σ (σ.1 10 q)) x j → 1 ≤ A) (hm : s_X10_mostBy (σ.1 10 q) x σ = some (nI A)) : ∀ (n j k : Nat) (l7 l9 : Int32), w < n + j → j ≤ w → s_X10_fund_L67 (nI S) (-1) (nI q) x σ n 0 l7 (nI k) l9 (nI j) = some 0 := by
  intro n
  induction n with
  | zero => intro j k l7 l9 h1 h2; omega
  | succ n ih =>
    intro j k l7 l9 h1 h2
    by_cases hj : j = w
    · subst hj
      rw [fund_end h, s_X10_fund_C235, if_pos rfl, if_pos rfl]
    · by_cases hx : σ.1 6 j = x
      · obtain ⟨ab, v, -, -, e⟩ := m_fund_step (n := n) (k := k) h hq hS hA hA1 hm (show j < w by omega) hx (-1) 0 l7 l9
        rw [e, if_pos rfl]
        exact ih (j + 1) (k + 1) _ _ (by omega) (by omega)
      · rw [m_fund_no h (by omega) hx]
        exact ih (j + 1) k _ _ (by omega) (by omega)
theorem fund_holds (h : rT s w p σ) {q S A : Nat} (hq : q < p) (hS : S ≤ 9999) (hA : A ≤ 6000) {x : Int32} (hA1 : ∀ j, j < w → fHm (σ.1 6) (sH σ (σ.1 10 q)) x j → 1 ≤ A) (hm : s_X10_mostBy (σ.1 10 q) x σ = some (nI A)) (hR : fArr σ w x (nI S) (nI A) (σ.1 10 q)) : ∀ (n j m : Nat) (l7 l9 : Int32), w < n + j → j ≤ w → w < m + fC (σ.1 6) x j → ∃ r, s_X2_holds_L2 σ m (nI (fC (σ.1 6) x j)) = some r ∧ s_X10_fund_L67 (nI S) (-1) (nI q) x σ n 1 l7 (nI (fC (σ.1 6) x j)) l9 (nI j) = some r ∧ (r = 0 ∨ r = 1) := by
  intro n
  have hw := h.1.2.1
  have hcw := fC_le (a := σ.1 6) (x := x) w
  induction n with
  | zero => intro j m l7 l9 h1 h2; omega
  | succ n ih =>
    intro j m l7 l9 h1 h2 h3
    have hcj := fC_le (a := σ.1 6) (x := x) j
    obtain ⟨m', rfl⟩ : ∃ m', m = m' + 1 := ⟨m - 1, by omega⟩
    by_cases hj : j = w
    · subst hj
      rw [fund_end h, s_X10_fund_C235, if_pos rfl, if_neg (by decide), s_X2_holds_L2, hR.1, if_pos (Int32.le_refl _)]
      exact ⟨1, rfl, rfl, Or.inr rfl⟩
    · by_cases hx : σ.1 6 j = x
      · obtain ⟨ab, v, ev, eab, e⟩ := m_fund_step (n := n) (k := fC (σ.1 6) x j) h hq hS hA hA1 hm (show j < w by omega) hx (-1) 1 l7 l9
        obtain ⟨a1, a2, a3⟩ := hR.2 j (by omega) hx
        have hlt := fC_lt (a := σ.1 6) hx (show j < w by omega)
        rw [e, if_neg (show ¬ (1 : Int32) = 0 by decide), s_X2_holds_L2, hR.1, if_neg (by rw [nI_leI (by omega) (by omega)]; omega), cAbove (by omega), a1, a2, ← ev, Option.bind_some]
        by_cases hab : ab = true
        · have := eab.mp hab
          refine ⟨0, ?_, ?_, Or.inl rfl⟩
          · rw [if_pos this, if_neg (by decide)]
          · rw [if_pos hab]
            exact fund_h0 h hq hS hA hA1 hm n (j + 1) _ _ _ (by omega) (by omega)
        · have := fun z => hab (eab.mpr z)
          rw [if_neg hab, if_neg hab, if_neg this, if_pos rfl, zLd_t (zIn_nI (by omega) (by decide)), zLd_t (zIn_nI (by omega) (by decide)), nI_clamp (by omega), a1, a3, ← ev]
          by_cases hv : v ≤ σ.1 9 j
          · rw [if_pos hv, if_pos hv, nI_1, ← fC_of hx]
            exact ih (j + 1) m' _ _ (by omega) (by omega) (by rw [fC_of hx]; omega)
          · rw [if_neg hv, if_neg hv]
            exact ⟨0, rfl, fund_h0 h hq hS hA hA1 hm n (j + 1) _ _ _ (by omega) (by omega), Or.inl rfl⟩
      · rw [m_fund_no h (by omega) hx, ← fC_no hx]
        exact ih (j + 1) (m' + 1) _ _ (by omega) (by omega) (by rw [fC_no hx]; omega)
theorem fund_who (h : rT s w p σ) {q S A : Nat} (hq : q < p) (hS : S ≤ 9999) (hA : A ≤ 6000) {x : Int32} (hA1 : ∀ j, j < w → fHm (σ.1 6) (sH σ (σ.1 10 q)) x j → 1 ≤ A) (hm : s_X10_mostBy (σ.1 10 q) x σ = some (nI A)) (hR : fArr σ w x (nI S) (nI A) (σ.1 10 q)) : ∀ (n j m : Nat) (l6 l7 l9 : Int32), w < n + j → j ≤ w → w < m + fC (σ.1 6) x j → ∃ r, s_X2_unwilling_L4 σ m l7 (nI (fC (σ.1 6) x j)) = some r ∧ s_X10_fund_L67 (nI S) (-2) (nI q) x σ n l6 l7 (nI (fC (σ.1 6) x j)) l9 (nI j) = some r := by
  intro n
  have hw := h.1.2.1
  have hcw := fC_le (a := σ.1 6) (x := x) w
  induction n with
  | zero => intro j m l6 l7 l9 h1 h2; omega
  | succ n ih =>
    intro j m l6 l7 l9 h1 h2 h3
    have hcj := fC_le (a := σ.1 6) (x := x) j
    obtain ⟨m', rfl⟩ : ∃ m', m = m' + 1 := ⟨m - 1, by omega⟩
    by_cases hj : j = w
    · subst hj
      rw [fund_end h, s_X10_fund_C235, if_neg (by decide), if_pos rfl, s_X2_unwilling_L4, hR.1, if_pos (Int32.le_refl _)]
      exact ⟨l7, rfl, rfl⟩
    · by_cases hx : σ.1 6 j = x
      · obtain ⟨ab, v, ev, eab, e⟩ := m_fund_step (n := n) (k := fC (σ.1 6) x j) h hq hS hA hA1 hm (show j < w by omega) hx (-2) l6 l7 l9
        obtain ⟨a1, a2, a3⟩ := hR.2 j (by omega) hx
        have hlt := fC_lt (a := σ.1 6) hx (show j < w by omega)
        rw [e, s_X2_unwilling_L4, hR.1, if_neg (by rw [nI_leI (by omega) (by omega)]; omega), cAbove (by omega), a1, a2, ← ev, Option.bind_some]
        by_cases hab : ab = true
        · have := eab.mp hab
          rw [if_pos this, if_neg (show ¬ (1 : Int32) = 0 by decide), nI_1, ← fC_of hx]
          simp only [if_pos hab]
          exact ih (j + 1) m' _ _ _ (by omega) (by omega) (by rw [fC_of hx]; omega)
        · have := fun z => hab (eab.mpr z)
          rw [if_neg this, if_pos rfl, if_neg hab, if_neg hab, nI_1, ← fC_of hx]
          exact ih (j + 1) m' _ _ _ (by omega) (by omega) (by rw [fC_of hx]; omega)
      · rw [m_fund_no h (by omega) hx, ← fC_no hx]
        exact ih (j + 1) (m' + 1) _ _ _ (by omega) (by omega) (by rw [fC_no hx]; omega)
theorem fund_part (h : rT s w p σ) {q S A : Nat} (hq : q < p) (hS : S ≤ 9999) (hA : A ≤ 6000) {x : Int32} (hA1 : ∀ j, j < w → fHm (σ.1 6) (sH σ (σ.1 10 q)) x j → 1 ≤ A) (hm : s_X10_mostBy (σ.1 10 q) x σ = some (nI A)) (hR : fArr σ w x (nI S) (nI A) (σ.1 10 q)) {i : Nat} (hi : i < fC (σ.1 6) x w) : ∀ (n j : Nat) (l6 l7 l9 : Int32), w < n + j → j ≤ w → (fC (σ.1 6) x j ≤ i ∨ l9 = σ.1 16 i) → s_X10_fund_L67 (nI S) (nI i) (nI q) x σ n l6 l7 (nI (fC (σ.1 6) x j)) l9 (nI j) = some (σ.1 16 i) := by
  intro n
  have hw := h.1.2.1
  have hcw := fC_le (a := σ.1 6) (x := x) w
  induction n with
  | zero => intro j l6 l7 l9 h1 h2; omega
  | succ n ih =>
    intro j l6 l7 l9 h1 h2 h3
    have hcj := fC_le (a := σ.1 6) (x := x) j
    by_cases hj : j = w
    · subst hj
      rw [fund_end h, s_X10_fund_C235, if_neg (ne1 (by omega)), if_neg (nI_ne2 (by omega))]
      rcases h3 with h3 | h3
      · omega
      · rw [h3]
    · by_cases hx : σ.1 6 j = x
      · obtain ⟨ab, v, ev, eab, e⟩ := m_fund_step (n := n) (k := fC (σ.1 6) x j) h hq hS hA hA1 hm (show j < w by omega) hx (nI i) l6 l7 l9
        obtain ⟨a1, a2, a3⟩ := hR.2 j (by omega) hx
        rw [e, ← fC_of hx]
        refine ih (j + 1) _ _ _ (by omega) (by omega) ?_
        rw [fC_of hx]
        by_cases hci : fC (σ.1 6) x j = i
        · right
          rw [if_pos (by rw [hci]), ev, ← a1, hci]
        · rw [if_neg (by rw [nI_eq (by omega) (by omega)]; exact hci)]
          rcases h3 with h3 | h3
          · left; omega
          · exact Or.inr h3
      · rw [m_fund_no h (by omega) hx, ← fC_no hx]
        exact ih (j + 1) _ _ _ (by omega) (by omega) (by rw [fC_no hx]; exact h3)
theorem cCount_L (h : rT s w p σ) (x : Int32) : ∀ (n j : Nat), w < n + j → j ≤ w → s_X7_windowsOf_L4 x σ n (nI (fC (σ.1 6) x j)) (nI j) = some (nI (fC (σ.1 6) x w)) := by
  intro n
  have hw := h.1.2.1
  have h2 := h.2.1.2.2.1
  induction n with
  | zero => intro j hn hj; omega
  | succ n ih =>
    intro j hn hj
    have e5 : (nI w ≤ nI j) = (w ≤ j) := nI_le_n (by omega) (by omega)
    rw [s_X7_windowsOf_L4, h2]
    by_cases hq : w ≤ j
    · have : j = w := by omega
      subst this
      rw [if_pos (by rw [e5]; exact hq)]
    · rw [if_neg (by rw [e5]; exact hq), cIsOf h (by omega), Option.bind_some, bI_n]
      by_cases hx : σ.1 6 j = x
      · rw [if_neg (fun z => z hx), nI_1, nI_1, ← fC_of hx]
        exact ih (j + 1) (by omega) (by omega)
      · rw [if_pos hx, nI_1, ← fC_no hx]
        exact ih (j + 1) (by omega) (by omega)
theorem k_fund (h : rT s w p σ) (a b c : Int32) : ∃ (r : Int32) (σ1 : ZSt), s_X9_fund a b c σ = some (r, σ1) ∧ s_X10_fund a b c σ1 = some r ∧ rT s w p σ1 := by
  obtain ⟨⟨hs, hw, hp⟩, -, hS, hE, hW, hP⟩ := id h
  unfold s_X9_fund s_X10_fund
  simp only [cPair h, isW, Option.bind_some, bI_0]
  by_cases ca : 0 ≤ a ∧ (0 ≤ a / 10 ∧ a / 10 < nI p) ∧ (0 ≤ zRem a 10 ∧ zRem a 10 < nI s)
  · by_cases cb : 0 ≤ b ∧ b ≤ 9999
    · by_cases cc : c < -2
      · refine ⟨-1, σ, by simp [ca, cb, cc], ?_, h⟩
        rw [mPs h, mW32 b 0 9999 (a' := 0) (b' := 9999) (by decide) (by decide)]
        simp only [ca, cb, cc, and_self, not_true_eq_false, if_false, if_true, Option.bind_some, bI_0]
      · have hca := ca
        simp only [ca, cb, cc, and_self, not_true_eq_false, if_false, if_true]
        obtain ⟨-, ⟨c1, c2⟩, ⟨c3, c4⟩⟩ := ca
        obtain ⟨q, hq, e1⟩ := ofN (by omega) c1 c2
        have b1 := inR_i (show inR b 0 9999 from cb)
        rw [show (0 : Int32).toInt = 0 by decide, show (9999 : Int32).toInt = 9999 by decide] at b1
        obtain ⟨S, hSS, rfl⟩ := ofI (x := b) (m := 9999) b1.1 b1.2
        have hg := (hP q hq).1.2
        generalize hx : zRem a 10 = x at *
        have cnt : s_X7_windowsOf x σ = some (nI (fC (σ.1 6) x w)) := cCount_L h x 200 0 (by omega) (by omega)
        have hcw := fC_le (a := σ.1 6) (x := x) w
        rw [cnt, Option.bind_some, e1, cGoodOf h hq, Option.bind_some]
        have mcnt : ∀ τ : ZSt, rT s w p τ → τ.1 6 = σ.1 6 → s_X10_windowsOf x τ = some (nI (fC (σ.1 6) x w)) := fun τ hτ e => by
          obtain ⟨r, r1, r2⟩ := k_windowsOf hτ x
          have := cCount_L hτ x 200 0 (by omega) (by omega)
          rw [show s_X7_windowsOf x τ = _ from this] at r1
          rw [r2, ← r1, e]
        by_cases cd : c < nI (fC (σ.1 6) x w)
        · rw [if_pos cd]
          obtain ⟨A, A1, A2, A3, A4⟩ := k_mostP h x (g := σ.1 10 q) hg
          obtain ⟨σ1, s1, s2, s3, s4, s5⟩ := c_share_L h x (σ.1 10 q) (nI S) (nI A) (fun j hj hh => by
            have := A4 j hj hh
            rw [i0, nI_ltI (by omega) (by omega)]
            omega) 200 0 (zWD σ 15 4 0) (by omega) (by omega) (fun c f q1 _ _ _ => by rw [wd1, if_neg q1]) rfl (by rw [wd1, if_pos ⟨rfl, rfl⟩]; rfl) (fun i hi => absurd hi (Nat.not_lt_zero i))
          have hT1 := rT_fund h s2 s3
          have e6 : σ1.1 6 = σ.1 6 := funext fun f => s2 6 f (by omega) (by omega) (by omega) (by omega)
          have e10 : σ1.1 10 q = σ.1 10 q := s2 10 q (by omega) (by omega) (by omega) (by omega)
          have eH : sH σ1 (σ.1 10 q) = sH σ (σ.1 10 q) := funext fun f => by
            unfold sH
            rw [s2 7 f (by omega) (by omega) (by omega) (by omega), s2 8 f (by omega) (by omega) (by omega) (by omega)]
          have share : s_X2_share x (σ.1 10 q) (nI S) σ = some σ1 := by
            unfold s_X2_share
            rw [A2, Option.bind_some, zSt_e]
            exact s1
          have hR : fArr σ1 w x (nI S) (nI A) (σ1.1 10 q) := by
            unfold fArr
            rw [e10, e6, eH]
            refine ⟨s4, fun i hi hx2 => ?_⟩
            rw [s2 9 i (by omega) (by omega) (by omega) (by omega)]
            exact s5 i hi hx2
          obtain ⟨A', a1, a2, a3, a4⟩ := k_mostP hT1 x (g := σ1.1 10 q) (by rw [e10]; exact hg)
          have eA : A' = A := by
            have hmC : s_X7_most x (σ1.1 10 q) σ1 = s_X7_most x (σ.1 10 q) σ := by
              have hc : ∀ n acc j, s_X7_most_L5 x (σ.1 10 q) σ1 n acc j = s_X7_most_L5 x (σ.1 10 q) σ n acc j := by
                intro n
                induction n with
                | zero => intro acc j; rfl
                | succ n ih =>
                  intro acc j
                  have e7 : σ1.1 7 = σ.1 7 := funext fun f => s2 7 f (by omega) (by omega) (by omega) (by omega)
                  have e8 : σ1.1 8 = σ.1 8 := funext fun f => s2 8 f (by omega) (by omega) (by omega) (by omega)
                  have e15 : σ1.1 1 5 = σ.1 1 5 := s2 1 5 (by omega) (by omega) (by omega) (by omega)
                  simp only [s_X7_most_L5, s_X7_isHarmed, s_X7_isOf, s_X7_isWindow, s_X7_harmTo, e6, e7, e8, e15, ih]
              rw [e10]
              exact hc 200 0 0
            rw [a2, A2] at hmC
            exact (nI_eq (by omega) (by omega)).mp (Option.some.inj hmC)
          subst eA
          rw [share, Option.bind_some]
          have mm : ∀ r, s_X10_fund_L67 (nI S) c (nI q) x σ1 200 1 0 0 0 0 = some r → ((s_X10_isPs a σ1).bind fun r1 => if r1 = 0 then some (-1) else (s_X10_within (nI S).toInt64 0 9999 σ1).bind fun r2 => if r2 = 0 then some (-1) else (s_X10_windowsOf x σ1).bind fun r3 => if c < r3 then s_X10_fund_L67 (nI S) c (nI q) x σ1 200 1 0 0 0 0 else some (-1)) = some r := fun r hr => by
            rw [mPs hT1, Option.bind_some, bI_n, if_neg (fun z => z (by rw [hx]; exact hca)), mW32 (nI S) 0 9999 (a' := 0) (b' := 9999) (by decide) (by decide), Option.bind_some, bI_n, if_neg (fun z => z cb), mcnt σ1 hT1 e6, Option.bind_some, if_pos cd, hr]
          have z0 : (0 : Int32) = nI (fC (σ1.1 6) x 0) := rfl
          by_cases k1 : c = -1
          · subst k1
            obtain ⟨r, r1, r2, r3⟩ := fund_holds hT1 hq hSS (by omega) a4 a3 hR 200 0 200 0 0 (by omega) (by omega) (by omega)
            refine ⟨r, σ1, ?_, mm r r2, hT1⟩
            rw [if_pos rfl, show s_X2_holds σ1 = some r from r1, Option.bind_some]
            rcases r3 with rfl | rfl
            · rw [if_pos rfl]
            · rw [if_neg (by decide)]
          · by_cases k2 : c = -2
            · subst k2
              obtain ⟨r, r1, r2⟩ := fund_who hT1 hq hSS (by omega) a4 a3 hR 200 0 200 1 0 0 (by omega) (by omega) (by omega)
              refine ⟨r, σ1, ?_, mm r r2, hT1⟩
              rw [if_neg (by decide), if_pos rfl, show s_X2_unwilling σ1 = some r from r1, Option.bind_some]
            · have c0 : 0 ≤ c := by grind
              obtain ⟨i, hi, rfl⟩ := ofN (by omega) c0 cd
              have r2 := fund_part hT1 hq hSS (by omega) a4 a3 hR (i := i) (by rw [e6]; exact hi) 200 0 1 0 0 (by omega) (by omega) (Or.inl (Nat.zero_le _))
              refine ⟨_, σ1, ?_, mm _ r2, hT1⟩
              rw [if_neg k1, if_neg k2, s_X2_partOf, if_neg (nlt0 (by omega)), s4, if_neg (by rw [nI_leI (by omega) (by omega)]; omega), zLd_t (zIn_nI (by omega) (by decide)), nI_clamp (by omega), Option.bind_some]
        · rw [if_neg cd]
          refine ⟨-1, σ, rfl, ?_, h⟩
          rw [mPs h, Option.bind_some, bI_n, if_neg (fun z => z (by rw [hx]; exact hca)), mW32 (nI S) 0 9999 (a' := 0) (b' := 9999) (by decide) (by decide), Option.bind_some, bI_n, if_neg (fun z => z cb), mcnt σ h rfl, Option.bind_some, if_neg cd]
    · refine ⟨-1, σ, by simp [ca, cb], ?_, h⟩
      rw [mPs h, mW32 b 0 9999 (a' := 0) (b' := 9999) (by decide) (by decide)]
      simp only [ca, cb, and_self, not_true_eq_false, not_false_eq_true, if_false, if_true, Option.bind_some, bI_0]
  · refine ⟨-1, σ, by simp [ca], ?_, h⟩
    rw [mPs h]
    simp only [ca, not_false_eq_true, if_true, Option.bind_some, bI_0]
end FUND
