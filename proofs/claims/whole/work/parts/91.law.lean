/-! The law, to its end -/
theorem stA {o9 : Option (Int32 × ZSt)} {f10 : ZSt → Option (Int32 × ZSt)} {K : ZSt → Option Unit} (h : ∃ (r : Int32) (σ1 σ2 : ZSt), o9 = some (r, σ1) ∧ f10 σ1 = some (r, σ2) ∧ INV σ2) (hK : ∀ τ, INV τ → K τ = some ()) : (o9.bind fun x => (f10 x.2).bind fun y => if x.1 = y.1 then K y.2 else none) = some () := by
  obtain ⟨r, σ1, σ2, e1, e2, e3⟩ := h
  rw [e1, Option.bind_some]
  show ((f10 σ1).bind fun y => if r = y.1 then K y.2 else none) = some ()
  rw [e2, Option.bind_some]
  show (if r = r then K σ2 else none) = some ()
  rw [if_pos rfl]
  exact hK σ2 e3
theorem stR {o9 o10 : Option Int32} {x : Option Unit} (h : ∃ r : Int32, o9 = some r ∧ o10 = some r) (hK : x = some ()) : (o9.bind fun a => o10.bind fun b => if a = b then x else none) = some () := by
  obtain ⟨r, e1, e2⟩ := h
  rw [e1, Option.bind_some, e2, Option.bind_some, if_pos rfl]
  exact hK
theorem stE {o9 o10 : Option Int64} {x : Option Unit} (h : ∃ r : Int64, o9 = some r ∧ o10 = some r) (hK : x = some ()) : (o9.bind fun a => o10.bind fun b => if lg_cmp a b = 0 then x else none) = some () := by
  obtain ⟨r, e1, e2⟩ := h
  rw [e1, Option.bind_some, e2, Option.bind_some, if_pos (show lg_cmp r r = 0 by unfold lg_cmp; simp)]
  exact hK
theorem stF {o9 : Option (Int32 × ZSt)} {f10 : ZSt → Option Int32} {K : ZSt → Option Unit} (h : ∃ (r : Int32) (σ1 : ZSt), o9 = some (r, σ1) ∧ f10 σ1 = some r ∧ INV σ1) (hK : ∀ τ, INV τ → K τ = some ()) : (o9.bind fun x => (f10 x.2).bind fun y => if x.1 = y then K x.2 else none) = some () := by
  obtain ⟨r, σ1, e1, e2, e3⟩ := h
  rw [e1, Option.bind_some]
  show ((f10 σ1).bind fun y => if r = y then K σ1 else none) = some ()
  rw [e2, Option.bind_some]
  show (if r = r then K σ1 else none) = some ()
  rw [if_pos rfl]
  exact hK σ1 e3
theorem zI_inv : INV zI := by
  refine ⟨0, 0, 0, 0, ⟨by decide, ⟨by decide +kernel, by decide +kernel, by decide +kernel, by decide +kernel, by decide +kernel, by decide +kernel⟩, fun k hk => absurd hk (Nat.not_lt_zero k), fun k _ hk => ?_, fun k hk => absurd hk (Nat.not_lt_zero k), fun k hk => absurd hk (Nat.not_lt_zero k)⟩, ⟨0, 0, by decide, by decide, ⟨by decide +kernel, by decide +kernel, by decide +kernel, by decide +kernel⟩, fun k hk => absurd hk (Nat.not_lt_zero k)⟩, ⟨0, by decide, ⟨by decide +kernel, by decide +kernel⟩, fun k hk => absurd hk (Nat.not_lt_zero k)⟩, ⟨by decide, ⟨by decide +kernel, by decide +kernel⟩, fun k hk => absurd hk (Nat.not_lt_zero k), 0, by decide, ⟨by decide +kernel, by decide +kernel⟩, fun k hk => absurd hk (Nat.not_lt_zero k)⟩, fun d hd => Or.inl ?_, ⟨62, 65, Or.inl ⟨rfl, rfl⟩, by decide +kernel, by decide +kernel, [], by decide +kernel, by decide, fun k hk => absurd hk (Nat.not_lt_zero k), Or.inl ⟨rfl, by decide +kernel⟩⟩, ⟨0, 0, fun _ => 0, by decide, ⟨by decide +kernel, by decide +kernel⟩, Or.inl ⟨rfl, rfl, by decide +kernel⟩, fun k hk => absurd hk (Nat.not_lt_zero k), fun k hk => absurd hk (Nat.not_lt_zero k)⟩⟩
  · rcases (show k = 0 ∨ k = 1 ∨ k = 2 ∨ k = 3 ∨ k = 4 ∨ k = 5 by omega) with rfl | rfl | rfl | rfl | rfl | rfl <;> exact ⟨by decide +kernel, by decide +kernel⟩
  · rcases (show d = 0 ∨ d = 1 ∨ d = 2 ∨ d = 3 ∨ d = 4 ∨ d = 5 by omega) with rfl | rfl | rfl | rfl | rfl | rfl <;> exact ⟨by decide +kernel, by decide +kernel⟩
theorem law_L (L : Nat) (xs : Nat → Int32) (hL : L ≤ 3072) : ∀ (n k : Nat) (σ : ZSt), L < n + k → k ≤ L → INV σ → s_L_law_L18 L xs n (nI k) σ = some () := by
  intro n
  induction n with
  | zero => intro k σ h1 h2; omega
  | succ n ih =>
    intro k σ h1 h2 hI
    have nx : (nI k + 6 : Int32) = nI (k + 6) := by rw [show (6 : Int32) = nI 6 from rfl, nI_add]
    have e5 : ((Int32.ofNat L - 6 : Int32) < nI k) = (L < k + 6) := by
      have t1 := nI_toInt (n := k) (by omega)
      have t2 := nI_toInt (n := L) (by omega)
      rw [Int32.lt_iff_toInt_lt, t1]
      have e2 : (Int32.ofNat L - 6).toInt = (L : Int) - 6 := by
        rw [show Int32.ofNat L = nI L from rfl, Int32.toInt_sub, t2, show (6 : Int32).toInt = 6 by decide, Int.bmod_def]
        omega
      rw [e2]
      exact propext (by omega)
    rw [s_L_law_L18]
    by_cases hend : L < k + 6
    · rw [if_pos (by rw [e5]; exact hend)]
    · have z0 : zIn (nI k) L = true := zIn_nI (by omega) (by omega)
      have z1 : zIn (nI k + 1) L = true := by rw [nI_1]; exact zIn_nI (by omega) (by omega)
      have z2 : zIn (nI k + 2) L = true := by rw [show (2 : Int32) = nI 2 from rfl, nI_add]; exact zIn_nI (by omega) (by omega)
      have z3 : zIn (nI k + 3) L = true := by rw [show (3 : Int32) = nI 3 from rfl, nI_add]; exact zIn_nI (by omega) (by omega)
      have z4 : zIn (nI k + 4) L = true := by rw [show (4 : Int32) = nI 4 from rfl, nI_add]; exact zIn_nI (by omega) (by omega)
      have z5 : zIn (nI k + 5) L = true := by rw [show (5 : Int32) = nI 5 from rfl, nI_add]; exact zIn_nI (by omega) (by omega)
      have hK : ∀ τ, INV τ → s_L_law_L18 L xs n (nI k + 6) τ = some () := fun τ hτ => by
        rw [nx]
        exact ih (k + 6) τ (by omega) (by omega) hτ
      rw [if_neg (by rw [e5]; exact hend), zLd_t z0]
      by_cases c0 : (xs (nI k).toNatClampNeg &&& (63 : Int32)) = (0 : Int32)
      · rw [if_pos c0]
        simp only [zLd_t, z1, z2]
        exact stA (f10 := fun τ => s_X10_street (xs (nI k + 1).toNatClampNeg) (xs (nI k + 2).toNatClampNeg) τ) (K := fun τ => s_L_law_L18 L xs n (nI k + 6) τ) (s_street hI _ _) hK
      rw [if_neg c0]
      by_cases c1 : (xs (nI k).toNatClampNeg &&& (63 : Int32)) = (1 : Int32)
      · rw [if_pos c1]
        simp only [zLd_t, z1, z2]
        exact stA (f10 := fun τ => s_X10_window (xs (nI k + 1).toNatClampNeg) (xs (nI k + 2).toNatClampNeg) τ) (K := fun τ => s_L_law_L18 L xs n (nI k + 6) τ) (s_window hI _ _) hK
      rw [if_neg c1]
      by_cases c2 : (xs (nI k).toNatClampNeg &&& (63 : Int32)) = (2 : Int32)
      · rw [if_pos c2]
        simp only [zLd_t, z1, z2, z3]
        exact stA (f10 := fun τ => s_X10_windows (xs (nI k + 1).toNatClampNeg) (xs (nI k + 2).toNatClampNeg) (xs (nI k + 3).toNatClampNeg) τ) (K := fun τ => s_L_law_L18 L xs n (nI k + 6) τ) (s_windows hI _ _ _) hK
      rw [if_neg c2]
      by_cases c3 : (xs (nI k).toNatClampNeg &&& (63 : Int32)) = (3 : Int32)
      · rw [if_pos c3]
        simp only [zLd_t, z1, z2, z3]
        exact stA (f10 := fun τ => s_X10_player (xs (nI k + 1).toNatClampNeg) (xs (nI k + 2).toNatClampNeg) (xs (nI k + 3).toNatClampNeg) τ) (K := fun τ => s_L_law_L18 L xs n (nI k + 6) τ) (s_player hI _ _ _) hK
      rw [if_neg c3]
      by_cases c4 : (xs (nI k).toNatClampNeg &&& (63 : Int32)) = (4 : Int32)
      · rw [if_pos c4]
        simp only [zLd_t, z1, z2, z3]
        exact stA (f10 := fun τ => s_X10_mend (xs (nI k + 1).toNatClampNeg) (xs (nI k + 2).toNatClampNeg) (xs (nI k + 3).toNatClampNeg) τ) (K := fun τ => s_L_law_L18 L xs n (nI k + 6) τ) (s_mend hI _ _ _) hK
      rw [if_neg c4]
      by_cases c5 : (xs (nI k).toNatClampNeg &&& (63 : Int32)) = (5 : Int32)
      · rw [if_pos c5]
        simp only [zLd_t, z1, z2]
        exact stA (f10 := fun τ => s_X10_pay (xs (nI k + 1).toNatClampNeg) (xs (nI k + 2).toNatClampNeg) τ) (K := fun τ => s_L_law_L18 L xs n (nI k + 6) τ) (s_pay hI _ _) hK
      rw [if_neg c5]
      by_cases c6 : (xs (nI k).toNatClampNeg &&& (63 : Int32)) = (6 : Int32)
      · rw [if_pos c6]
        simp only [zLd_t, z1, z2]
        exact stR (s_of hI _ _) (hK σ hI)
      rw [if_neg c6]
      by_cases c7 : (xs (nI k).toNatClampNeg &&& (63 : Int32)) = (7 : Int32)
      · rw [if_pos c7]
        simp only [zLd_t, z1]
        exact stR (s_harm hI _) (hK σ hI)
      rw [if_neg c7]
      by_cases c8 : (xs (nI k).toNatClampNeg &&& (63 : Int32)) = (8 : Int32)
      · rw [if_pos c8]
        simp only [zLd_t, z1, z2]
        exact stR (s_once hI _ _) (hK σ hI)
      rw [if_neg c8]
      by_cases c9 : (xs (nI k).toNatClampNeg &&& (63 : Int32)) = (9 : Int32)
      · rw [if_pos c9]
        simp only [zLd_t, z1, z2, z3, z4]
        exact stR (s_waiting hI _ _ _ _) (hK σ hI)
      rw [if_neg c9]
      by_cases c10 : (xs (nI k).toNatClampNeg &&& (63 : Int32)) = (10 : Int32)
      · rw [if_pos c10]
        simp only [zLd_t, z1, z2, z3]
        exact stR (s_exactly hI _ _ _) (hK σ hI)
      rw [if_neg c10]
      by_cases c11 : (xs (nI k).toNatClampNeg &&& (63 : Int32)) = (11 : Int32)
      · rw [if_pos c11]
        simp only [zLd_t, z1, z2]
        exact stA (f10 := fun τ => s_X10_feed (xs (nI k + 1).toNatClampNeg) (xs (nI k + 2).toNatClampNeg) τ) (K := fun τ => s_L_law_L18 L xs n (nI k + 6) τ) (s_feed hI _ _) hK
      rw [if_neg c11]
      by_cases c12 : (xs (nI k).toNatClampNeg &&& (63 : Int32)) = (12 : Int32)
      · rw [if_pos c12]
        exact stA (f10 := fun τ => s_X10_law  τ) (K := fun τ => s_L_law_L18 L xs n (nI k + 6) τ) (s_law hI) hK
      rw [if_neg c12]
      by_cases c13 : (xs (nI k).toNatClampNeg &&& (63 : Int32)) = (13 : Int32)
      · rw [if_pos c13]
        simp only [zLd_t, z1, z2]
        exact stA (f10 := fun τ => s_X10_weeks (xs (nI k + 1).toNatClampNeg) (xs (nI k + 2).toNatClampNeg) τ) (K := fun τ => s_L_law_L18 L xs n (nI k + 6) τ) (s_weeks hI _ _) hK
      rw [if_neg c13]
      by_cases c14 : (xs (nI k).toNatClampNeg &&& (63 : Int32)) = (14 : Int32)
      · rw [if_pos c14]
        simp only [zLd_t, z1, z2]
        exact stR (s_week hI _ _) (hK σ hI)
      rw [if_neg c14]
      by_cases c15 : (xs (nI k).toNatClampNeg &&& (63 : Int32)) = (15 : Int32)
      · rw [if_pos c15]
        simp only [zLd_t, z1, z2, z3]
        exact stA (f10 := fun τ => s_X10_best (xs (nI k + 1).toNatClampNeg) (xs (nI k + 2).toNatClampNeg) (xs (nI k + 3).toNatClampNeg) τ) (K := fun τ => s_L_law_L18 L xs n (nI k + 6) τ) (s_best hI _ _ _) hK
      rw [if_neg c15]
      by_cases c16 : (xs (nI k).toNatClampNeg &&& (63 : Int32)) = (16 : Int32)
      · rw [if_pos c16]
        simp only [zLd_t, z1, z2]
        exact stA (f10 := fun τ => s_X10_called (xs (nI k + 1).toNatClampNeg) (xs (nI k + 2).toNatClampNeg) τ) (K := fun τ => s_L_law_L18 L xs n (nI k + 6) τ) (s_called hI _ _) hK
      rw [if_neg c16]
      by_cases c17 : (xs (nI k).toNatClampNeg &&& (63 : Int32)) = (17 : Int32)
      · rw [if_pos c17]
        simp only [zLd_t, z1, z2]
        exact stA (f10 := fun τ => s_X10_off (xs (nI k + 1).toNatClampNeg) (xs (nI k + 2).toNatClampNeg) τ) (K := fun τ => s_L_law_L18 L xs n (nI k + 6) τ) (s_off hI _ _) hK
      rw [if_neg c17]
      by_cases c18 : (xs (nI k).toNatClampNeg &&& (63 : Int32)) = (18 : Int32)
      · rw [if_pos c18]
        simp only [zLd_t, z1, z2, z3]
        exact stF (f10 := fun τ => s_X10_fund (xs (nI k + 1).toNatClampNeg) (xs (nI k + 2).toNatClampNeg) (xs (nI k + 3).toNatClampNeg) τ) (K := fun τ => s_L_law_L18 L xs n (nI k + 6) τ) (s_fund hI _ _ _) hK
      rw [if_neg c18]
      by_cases c19 : (xs (nI k).toNatClampNeg &&& (63 : Int32)) = (19 : Int32)
      · rw [if_pos c19]
        simp only [zLd_t, z1]
        exact stR (s_fetch hI _) (hK σ hI)
      rw [if_neg c19]
      by_cases c20 : (xs (nI k).toNatClampNeg &&& (63 : Int32)) = (20 : Int32)
      · rw [if_pos c20]
        simp only [zLd_t, z1]
        exact stR (s_worse hI _) (hK σ hI)
      rw [if_neg c20]
      by_cases c21 : (xs (nI k).toNatClampNeg &&& (63 : Int32)) = (21 : Int32)
      · rw [if_pos c21]
        simp only [zLd_t, z1, z2]
        exact stR (s_lovers hI _ _) (hK σ hI)
      rw [if_neg c21]
      by_cases c22 : (xs (nI k).toNatClampNeg &&& (63 : Int32)) = (22 : Int32)
      · rw [if_pos c22]
        exact stR (s_judge hI) (hK σ hI)
      rw [if_neg c22]
      by_cases c23 : (xs (nI k).toNatClampNeg &&& (63 : Int32)) = (23 : Int32)
      · rw [if_pos c23]
        exact stA (f10 := fun τ => s_X10_undo  τ) (K := fun τ => s_L_law_L18 L xs n (nI k + 6) τ) (s_undo hI) hK
      rw [if_neg c23]
      by_cases c24 : (xs (nI k).toNatClampNeg &&& (63 : Int32)) = (24 : Int32)
      · rw [if_pos c24]
        exact stA (f10 := fun τ => s_X10_redo  τ) (K := fun τ => s_L_law_L18 L xs n (nI k + 6) τ) (s_redo hI) hK
      rw [if_neg c24]
      by_cases c25 : (xs (nI k).toNatClampNeg &&& (63 : Int32)) = (25 : Int32)
      · rw [if_pos c25]
        simp only [zLd_t, z1]
        exact stA (f10 := fun τ => s_X10_body (xs (nI k + 1).toNatClampNeg) τ) (K := fun τ => s_L_law_L18 L xs n (nI k + 6) τ) (s_body hI _) hK
      rw [if_neg c25]
      by_cases c26 : (xs (nI k).toNatClampNeg &&& (63 : Int32)) = (26 : Int32)
      · rw [if_pos c26]
        simp only [zLd_t, z1, z2, z3]
        exact stA (f10 := fun τ => s_X10_act (xs (nI k + 1).toNatClampNeg) (xs (nI k + 2).toNatClampNeg) (xs (nI k + 3).toNatClampNeg) τ) (K := fun τ => s_L_law_L18 L xs n (nI k + 6) τ) (s_act hI _ _ _) hK
      rw [if_neg c26]
      by_cases c27 : (xs (nI k).toNatClampNeg &&& (63 : Int32)) = (27 : Int32)
      · rw [if_pos c27]
        simp only [zLd_t, z1]
        exact stR (s_trace hI _) (hK σ hI)
      rw [if_neg c27]
      by_cases c28 : (xs (nI k).toNatClampNeg &&& (63 : Int32)) = (28 : Int32)
      · rw [if_pos c28]
        simp only [zLd_t, z1, z2]
        exact stA (f10 := fun τ => s_X10_keep (xs (nI k + 1).toNatClampNeg) (xs (nI k + 2).toNatClampNeg) τ) (K := fun τ => s_L_law_L18 L xs n (nI k + 6) τ) (s_keep hI _ _) hK
      rw [if_neg c28]
      by_cases c29 : (xs (nI k).toNatClampNeg &&& (63 : Int32)) = (29 : Int32)
      · rw [if_pos c29]
        simp only [zLd_t, z1, z2, z3]
        exact stA (f10 := fun τ => s_X10_row (xs (nI k + 1).toNatClampNeg) (xs (nI k + 2).toNatClampNeg) (xs (nI k + 3).toNatClampNeg) τ) (K := fun τ => s_L_law_L18 L xs n (nI k + 6) τ) (s_row hI _ _ _) hK
      rw [if_neg c29]
      by_cases c30 : (xs (nI k).toNatClampNeg &&& (63 : Int32)) = (30 : Int32)
      · rw [if_pos c30]
        simp only [zLd_t, z1, z2, z3, z4]
        exact stA (f10 := fun τ => s_X10_put (xs (nI k + 1).toNatClampNeg) (xs (nI k + 2).toNatClampNeg) ((((xs (nI k + 3).toNatClampNeg).toInt64) <<< ((32 : Int32).toInt64 &&& 63)) ||| (((xs (nI k + 4).toNatClampNeg).toInt64) &&& (4294967295 : Int64))) τ) (K := fun τ => s_L_law_L18 L xs n (nI k + 6) τ) (s_put hI _ _ _) hK
      rw [if_neg c30]
      by_cases c31 : (xs (nI k).toNatClampNeg &&& (63 : Int32)) = (31 : Int32)
      · rw [if_pos c31]
        simp only [zLd_t, z1, z2]
        exact stE (s_element hI _ _) (hK σ hI)
      rw [if_neg c31]
      by_cases c32 : (xs (nI k).toNatClampNeg &&& (63 : Int32)) = (32 : Int32)
      · rw [if_pos c32]
        simp only [zLd_t, z1, z2, z3, z4, z5]
        exact stA (f10 := fun τ => s_X10_shift (xs (nI k + 1).toNatClampNeg) (xs (nI k + 2).toNatClampNeg) (xs (nI k + 3).toNatClampNeg) (xs (nI k + 4).toNatClampNeg) (xs (nI k + 5).toNatClampNeg) τ) (K := fun τ => s_L_law_L18 L xs n (nI k + 6) τ) (s_shift hI _ _ _ _ _) hK
      rw [if_neg c32]
      by_cases c33 : (xs (nI k).toNatClampNeg &&& (63 : Int32)) = (33 : Int32)
      · rw [if_pos c33]
        simp only [zLd_t, z1, z2]
        exact stR (s_taken hI _ _) (hK σ hI)
      rw [if_neg c33]
      by_cases c34 : (xs (nI k).toNatClampNeg &&& (63 : Int32)) = (34 : Int32)
      · rw [if_pos c34]
        simp only [zLd_t, z1]
        exact stR (s_count hI _) (hK σ hI)
      rw [if_neg c34]
      exact hK σ hI
theorem whole_math (L : Nat) (xs : Nat → Int32) (hL : L ≤ 3072) : ∃ n, s_L_law_L18 L xs n 0 zI = some () := ⟨L + 1, law_L L xs hL (L + 1) 0 zI (by omega) (Nat.zero_le _) zI_inv⟩
