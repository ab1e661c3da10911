/-! shift, taken, count -/
section SHELF
variable {bo d : Nat} {σ : ZSt}
theorem m_sh1 {d i e j m : Nat} (hd : d < 6) (he : e < 6) (him : i + m ≤ 60) (hjm : j + m ≤ 60) : ∀ (n k : Nat) (τ : ZSt), m < n + k → k ≤ m → ∃ τ', s_X10_shift_L113 (nI d) (nI i) (nI e) (nI j) (nI m) n (nI k) τ = s_X10_shift_L150 (nI e) (nI j) (nI m) 200 0 τ' ∧ τ'.1 = τ.1 ∧ (∀ q, k ≤ q → q < m → τ'.2 99 q = τ.2 98 (60 * d + i + q)) ∧ (∀ c f, ¬ (c = 99 ∧ k ≤ f ∧ f < m) → τ'.2 c f = τ.2 c f) := by
  intro n
  induction n with
  | zero => intro k τ h1 h2; omega
  | succ n ih =>
    intro k τ h1 h2
    have e5 : (nI m ≤ nI k) = (m ≤ k) := nI_le_n (by omega) (by omega)
    by_cases hk : m ≤ k
    · exact ⟨τ, by rw [s_X10_shift_L113, if_pos (by rw [e5]; exact hk)], rfl, fun q q1 q2 => by omega, fun c f _ => rfl⟩
    · obtain ⟨τ', s1, s2, s3, s4⟩ := ih (k + 1) (zWE τ 99 k (τ.2 98 (60 * d + i + k))) (by omega) (by omega)
      refine ⟨τ', ?_, s2, fun q q1 q2 => ?_, fun c f q => ?_⟩
      · rw [s_X10_shift_L113, if_neg (by rw [e5]; exact hk), i60d d hd, nI_add, nI_add, zLd_t (zIn_nI (by omega) (by decide)), nI_clamp (n := 60 * d + i + k) (by omega), zSg_t (zIn_nI (by omega) (by decide)), nI_clamp (n := k) (by omega), nI_1]
        exact s1
      · by_cases hq : q = k
        · subst hq
          rw [s4 99 q (by omega), we2, if_pos ⟨rfl, rfl⟩]
        · rw [s3 q (by omega) q2, we2, if_neg (by omega)]
      · rw [s4 c f (by omega), we2, if_neg (by omega)]
theorem m_sh2 {e j m : Nat} (he : e < 6) (hjm : j + m ≤ 60) : ∀ (n k : Nat) (τ : ZSt), m < n + k → k ≤ m → ∃ τ', s_X10_shift_L150 (nI e) (nI j) (nI m) n (nI k) τ = some (nI m, τ') ∧ τ'.1 = τ.1 ∧ (∀ q, k ≤ q → q < m → τ'.2 98 (60 * e + j + q) = τ.2 99 q) ∧ (∀ c f, ¬ (c = 98 ∧ 60 * e + j + k ≤ f ∧ f < 60 * e + j + m) → τ'.2 c f = τ.2 c f) := by
  intro n
  induction n with
  | zero => intro k τ h1 h2; omega
  | succ n ih =>
    intro k τ h1 h2
    have e5 : (nI m ≤ nI k) = (m ≤ k) := nI_le_n (by omega) (by omega)
    by_cases hk : m ≤ k
    · exact ⟨τ, by rw [s_X10_shift_L150, if_pos (by rw [e5]; exact hk)], rfl, fun q q1 q2 => by omega, fun c f _ => rfl⟩
    · obtain ⟨τ', s1, s2, s3, s4⟩ := ih (k + 1) (zWE τ 98 (60 * e + j + k) (τ.2 99 k)) (by omega) (by omega)
      refine ⟨τ', ?_, s2, fun q q1 q2 => ?_, fun c f q => ?_⟩
      · rw [s_X10_shift_L150, if_neg (by rw [e5]; exact hk), i60d e he, nI_add, nI_add, zLd_t (zIn_nI (by omega) (by decide)), nI_clamp (n := k) (by omega), zSg_t (zIn_nI (by omega) (by decide)), nI_clamp (n := 60 * e + j + k) (by omega), nI_1]
        exact s1
      · by_cases hq : q = k
        · subst hq
          rw [s4 98 (60 * e + j + q) (by omega), we2, if_pos ⟨rfl, rfl⟩]
        · rw [s3 q (by omega) q2, we2, if_neg (by omega)]
      · rw [s4 c f (by omega), we2, if_neg (by omega)]
theorem zCp1 {σ : ZSt} {a b : Nat} {i j n : Int32} : (zCp σ a i b j n).1 = σ.1 := rfl
theorem k_shift (h : rSh bo σ) (hbo : bo ≤ 50) (a x b y c : Int32) : ∃ (r : Int32) (σ1 σ2 : ZSt), s_X9_shift a x b y c σ = some (r, σ1) ∧ s_X10_shift a x b y c σ1 = some (r, σ2) ∧ rSh bo σ2 := by
  unfold s_X9_shift
  rw [cShf, Option.bind_some, bI_n]
  by_cases ha : 0 ≤ a ∧ a ≤ 5
  · have hna : ¬ ¬ (0 ≤ a ∧ a ≤ 5) := fun q => q ha
    rw [if_neg hna, cShf, Option.bind_some, bI_n]
    by_cases hb : 0 ≤ b ∧ b ≤ 5
    · have hnb : ¬ ¬ (0 ≤ b ∧ b ≤ 5) := fun q => q hb
      rw [if_neg hnb]
      obtain ⟨d, hd, rfl⟩ := ofSh ha
      obtain ⟨e, he, rfl⟩ := ofSh hb
      have hz := zIn_nI (a := d) (n := 6) hd (by decide)
      have hcl := nI_clamp (n := d) (by omega)
      have hze := zIn_nI (a := e) (n := 6) he (by decide)
      have hcle := nI_clamp (n := e) (by omega)
      rw [cEmp hd, Option.bind_some, bI_n, cEmp he]
      simp only [Option.bind_some, bI_0]
      rcases h d hd with ⟨q1, q2⟩ | hdd
      · refine ⟨-11, σ, σ, by rw [if_neg (fun q => q q1)], ?_, h⟩
        unfold s_X10_shift
        rw [mShf, mShf, Option.bind_some, Option.bind_some, bI_n, bI_n, if_neg hna, if_neg hnb, zLd_t hz, hcl, q2, if_pos (by decide)]
      · have dv : ∃ v, v ≤ 54 ∧ σ.1 96 d = nI v ∧ ((50 ≤ v ∧ ∃ n, rRow σ d (v - 50) n) ∨ (v < 50 ∧ σ.1 52 d = -2)) ∧ ¬ σ.1 52 d = -1 := by
          rcases hdd with ⟨q1, k, hk, q2, q3⟩ | ⟨s, n, hr⟩
          · exact ⟨k, by omega, q3, Or.inr ⟨by omega, q1⟩, by rw [q1]; decide⟩
          · have := hr.1
            refine ⟨50 + s, by omega, hr.2.2.1.2, Or.inl ⟨by omega, n, ?_⟩, by rw [hr.2.2.1.1]; exact ne1 (by omega)⟩
            rw [show 50 + s - 50 = s by omega]
            exact hr
        obtain ⟨v, hv, v1, v2, v3⟩ := dv
        rw [if_pos v3]
        rcases h e he with ⟨q1, q2⟩ | hee
        · refine ⟨-11, σ, σ, by rw [if_neg (fun q => q q1)], ?_, h⟩
          unfold s_X10_shift
          rw [mShf, mShf, Option.bind_some, Option.bind_some, bI_n, bI_n, if_neg hna, if_neg hnb, zLd_t hz, hcl, v1, if_neg (nlt0 (by omega)), zLd_t hze, hcle, q2, if_neg (by decide)]
        · have ev : ∃ v, v ≤ 54 ∧ σ.1 96 e = nI v ∧ ((50 ≤ v ∧ ∃ n, rRow σ e (v - 50) n) ∨ (v < 50 ∧ σ.1 52 e = -2)) ∧ ¬ σ.1 52 e = -1 := by
            rcases hee with ⟨q1, k, hk, q2, q3⟩ | ⟨s, n, hr⟩
            · exact ⟨k, by omega, q3, Or.inr ⟨by omega, q1⟩, by rw [q1]; decide⟩
            · have := hr.1
              refine ⟨50 + s, by omega, hr.2.2.1.2, Or.inl ⟨by omega, n, ?_⟩, by rw [hr.2.2.1.1]; exact ne1 (by omega)⟩
              rw [show 50 + s - 50 = s by omega]
              exact hr
          obtain ⟨u, hu, u1, u2, u3⟩ := ev
          rw [if_pos u3]
          unfold s_X6_areLikeRows
          rw [cRow hd, Option.bind_some, bI_n]
          rcases v2 with ⟨v4, nd, hrd⟩ | ⟨v4, v5⟩
          · rw [if_neg (fun q => q (rowIs hrd)), cRow he, Option.bind_some, bI_n]
            rcases u2 with ⟨u4, ne, hre⟩ | ⟨u4, u5⟩
            · rw [if_neg (fun q => q (rowIs hre)), zLd_t hz, zLd_t hze, hcl, hcle, hrd.2.2.1.1, hre.2.2.1.1]
              have hnd := hrd.2.1
              have hne := hre.2.1
              by_cases huv : v = u
              · subst huv
                rw [if_pos rfl, Option.bind_some, if_neg (by decide), cPl hd hrd, Option.bind_some, bI_n, cPl he hre, Option.bind_some, bI_n]
                have base : ∀ τ : ZSt, τ.1 = σ.1 → ∀ r' τ', (if c < 0 then some ((-13 : Int32), τ) else if x < 0 then some (-13, τ) else if y < 0 then some (-13, τ) else if nI nd - c < x then some (-13, τ) else if y ≤ nI ne - c then s_X10_shift_L113 (nI d) x (nI e) y c 200 0 τ else some (-13, τ)) = some (r', τ') → s_X10_shift (nI d) x (nI e) y c τ = some (r', τ') := by
                  intro τ hτ r' τ' hh
                  unfold s_X10_shift
                  rw [mShf, mShf, Option.bind_some, Option.bind_some, bI_n, bI_n, if_neg hna, if_neg hnb, zLd_t hz, hcl, hτ, v1, if_neg (nlt0 (by omega)), zLd_t hze, hcle, u1, if_pos (nI_pos' (by omega)), zLd_t hz, if_neg (by rw [i50, nI_ltI (by omega) (by decide)]; omega), zLd_t hz, zLd_t hze, if_pos rfl, zLd_t hz, zLd_t hze, hrd.2.2.2.1.2, hre.2.2.2.1.2]
                  exact hh
                by_cases g1 : (0 ≤ x ∧ 0 ≤ c) ∧ (c ≤ nI nd ∧ x ≤ nI nd - c)
                · rw [if_neg (fun q => q g1)]
                  obtain ⟨i', m', rfl, rfl, him⟩ := plN hnd g1
                  by_cases g2 : (0 ≤ y ∧ 0 ≤ nI m') ∧ (nI m' ≤ nI ne ∧ y ≤ nI ne - nI m')
                  · rw [if_neg (fun q => q g2)]
                    obtain ⟨j', m'', rfl, em, hjm⟩ := plN hne g2
                    have em' : m' = m'' := (nI_eq (by omega) (by omega)).mp em
                    subst em'
                    obtain ⟨τ1, s1, s2, s3, s4⟩ := m_sh1 (d := d) (i := i') (e := e) (j := j') (m := m') hd he (by omega) (by omega) 200 0 (zCp σ (56 + d) (nI i') (56 + e) (nI j') (nI m')) (by omega) (by omega)
                    obtain ⟨τ2, t1, t2, t3, t4⟩ := m_sh2 (e := e) (j := j') (m := m') he (by omega) 200 0 τ1 (by omega) (by omega)
                    have bb := base (zCp σ (56 + d) (nI i') (56 + e) (nI j') (nI m')) zCp1 (nI m') τ2
                    refine ⟨nI m', zCp σ (56 + d) (nI i') (56 + e) (nI j') (nI m'), τ2, ?_, bb ?_, fun d' hd' => ?_⟩
                    · unfold s_X6_copy
                      rw [cPl hd hrd, Option.bind_some, bI_n, if_neg (fun q => q g1), cPl he hre, Option.bind_some, bI_n, if_neg (fun q => q g2), zLd_t hz, zLd_t hze, hcl, hcle, zSg_t]
                      · rfl
                      · unfold zCpOk
                        rw [nI_toInt (by omega), nI_toInt (by omega), nI_toInt (by omega)]
                        exact decide_eq_true ⟨by omega, by omega, by omega, by omega, by omega⟩
                    · rw [if_neg (nlt0 (by omega)), if_neg (nlt0 (by omega)), if_neg (nlt0 (by omega)), if_neg (Int32.not_lt.mpr g1.2.2), if_pos g2.2.2]
                      exact s1.trans t1
                    · have ee : ∀ k f, τ2.1 k f = σ.1 k f := fun k f => by rw [t2, s2]; rfl
                      have c0 : ∀ q f, ¬ q = 56 + e → ¬ q = 98 → ¬ q = 99 → τ2.2 q f = σ.2 q f := fun q f n1 n2 n3 => by
                        rw [t4 q f (by omega), s4 q f (by omega)]
                        show (if q = 56 + e then _ else σ.2 q f) = _
                        rw [if_neg n1]
                      have c1 : ∀ f, τ2.2 (56 + e) f = va_cpy (σ.2 (56 + d)) (σ.2 (56 + e)) i' j' m' f := fun f => by
                        rw [t4 _ f (by omega), s4 _ f (by omega)]
                        show (if 56 + e = 56 + e then va_cpy _ _ _ _ _ f else _) = _
                        rw [if_pos rfl, nI_clamp (by omega), nI_clamp (by omega), nI_clamp (by omega)]
                      have c2 : ∀ f, ¬ (60 * e + j' ≤ f ∧ f < 60 * e + j' + m') → τ2.2 98 f = σ.2 98 f := fun f n1 => by
                        rw [t4 98 f (by omega), s4 98 f (by omega)]
                        show (if 98 = 56 + e then _ else σ.2 98 f) = _
                        rw [if_neg (by omega)]
                      have c3 : ∀ q, q < m' → τ2.2 98 (60 * e + j' + q) = σ.2 98 (60 * d + i' + q) := fun q hq => by
                        rw [t3 q (by omega) hq, s3 q (by omega) hq]
                        show (if 98 = 56 + e then _ else σ.2 98 _) = _
                        rw [if_neg (by omega)]
                      by_cases hde : d' = e
                      · subst hde
                        obtain ⟨p1, p2, p3, p4, p5⟩ := hre
                        obtain ⟨o1, o2, o3, o4, o5⟩ := hrd
                        refine Or.inr (Or.inr ⟨v - 50, ne, p1, p2, by rw [ee, ee]; exact p3, by rw [ee, ee]; exact p4, fun f hf => ?_⟩)
                        rw [c1 f]
                        by_cases hin : j' ≤ f ∧ f < j' + m'
                        · obtain ⟨q, rfl⟩ : ∃ q, f = j' + q := ⟨f - j', by omega⟩
                          rw [pk_cpy_in hin.1 hin.2, show j' + q - j' = q by omega, ← Nat.add_assoc, c3 q (by omega)]
                          have := o5 (i' + q) (by omega)
                          rw [← Nat.add_assoc] at this
                          exact this
                        · rw [pk_cpy_out (by omega), c2 _ (by omega)]
                          exact p5 f hf
                      · refine rS1_fr (h d' hd') (ee _ _) (ee _ _) (ee _ _) (ee _ _) (ee _ _) (fun f hf => c0 _ f (by omega) (by omega) (by omega)) (fun f hf => c2 _ (by omega))
                  · rw [if_pos g2]
                    refine ⟨-13, σ, σ, rfl, base σ rfl (-13) σ ?_, h⟩
                    by_cases y0 : y < 0
                    · rw [if_neg (nlt0 (by omega)), if_neg (nlt0 (by omega)), if_pos y0]
                    · have y1 : 0 ≤ y := Int32.not_lt.mp y0
                      rw [if_neg (nlt0 (by omega)), if_neg (nlt0 (by omega)), if_neg y0, if_neg (Int32.not_lt.mpr g1.2.2), if_neg]
                      intro q
                      obtain ⟨j', hj', rfl⟩ := pNat y1
                      have q2 := Int32.le_iff_toInt_le.mp q
                      rw [sub_i hne (by omega), nI_toInt hj'] at q2
                      exact g2 (Npl hne (by omega))
                · rw [if_pos g1]
                  refine ⟨-13, σ, σ, rfl, base σ rfl (-13) σ ?_, h⟩
                  by_cases c0 : c < 0
                  · rw [if_pos c0]
                  · have c1 : 0 ≤ c := Int32.not_lt.mp c0
                    rw [if_neg c0]
                    by_cases x0 : x < 0
                    · rw [if_pos x0]
                    · have x1 : 0 ≤ x := Int32.not_lt.mp x0
                      rw [if_neg x0]
                      by_cases y0 : y < 0
                      · rw [if_pos y0]
                      · rw [if_neg y0, if_pos]
                        obtain ⟨m', hm', rfl⟩ := pNat c1
                        obtain ⟨i', hi', rfl⟩ := pNat x1
                        rw [Int32.lt_iff_toInt_lt, sub_i hnd hm', nI_toInt hi']
                        by_cases hle : i' + m' ≤ nd
                        · exact absurd (Npl hnd hle) g1
                        · omega
              · have n1 : ¬ nI (v - 50) = nI (u - 50) := by rw [nI_eq (by omega) (by omega)]; omega
                rw [if_neg n1, Option.bind_some, if_pos rfl]
                refine ⟨-12, σ, σ, rfl, ?_, h⟩
                unfold s_X10_shift
                rw [mShf, mShf, Option.bind_some, Option.bind_some, bI_n, bI_n, if_neg hna, if_neg hnb, zLd_t hz, hcl, v1, if_neg (nlt0 (by omega)), zLd_t hze, hcle, u1, if_pos (nI_pos' (by omega)), zLd_t hz, if_neg (by rw [i50, nI_ltI (by omega) (by decide)]; omega), zLd_t hz, zLd_t hze, if_neg (by rw [nI_eq (by omega) (by omega)]; exact huv)]
            · rw [u5, if_pos (by decide), Option.bind_some, if_pos rfl]
              refine ⟨-12, σ, σ, rfl, ?_, h⟩
              unfold s_X10_shift
              rw [mShf, mShf, Option.bind_some, Option.bind_some, bI_n, bI_n, if_neg hna, if_neg hnb, zLd_t hz, hcl, v1, if_neg (nlt0 (by omega)), zLd_t hze, hcle, u1, if_pos (nI_pos' (by omega)), zLd_t hz, if_neg (by rw [i50, nI_ltI (by omega) (by decide)]; omega), zLd_t hz, zLd_t hze, if_neg (by rw [nI_eq (by omega) (by omega)]; omega)]
          · rw [v5, if_pos (by decide), Option.bind_some, if_pos rfl]
            refine ⟨-12, σ, σ, rfl, ?_, h⟩
            unfold s_X10_shift
            rw [mShf, mShf, Option.bind_some, Option.bind_some, bI_n, bI_n, if_neg hna, if_neg hnb, zLd_t hz, hcl, v1, if_neg (nlt0 (by omega)), zLd_t hze, hcle, u1, if_pos (nI_pos' (by omega)), zLd_t hz, if_pos (by rw [i50, nI_ltI (by omega) (by decide)]; omega)]
    · refine ⟨-1, σ, σ, by rw [if_pos hb], ?_, h⟩
      unfold s_X10_shift
      rw [mShf, mShf, Option.bind_some, Option.bind_some, bI_n, bI_n, if_neg hna, if_pos hb]
  · refine ⟨-1, σ, σ, by rw [if_pos ha], ?_, h⟩
    unfold s_X10_shift
    rw [mShf, Option.bind_some, bI_n, if_pos ha]
theorem j_base (a k : Int32) (σ : ZSt) (n m : Nat) (c : Int32) (hc : ¬ 8 ≤ c) (hc2 : ¬ 8 ≤ c + 1) : ∃ f, s_X10_taken_L58 a k σ (n + 1) 0 = s_X10_taken_C75 a k f σ ∧ s_X0_isUnder_L4 k σ (m + 2) 0 c = some (bI (f = k)) := by
  refine ⟨0, ?_, ?_⟩
  · rw [s_X10_taken_L58]
    by_cases h : (0 : Int32) = k
    · rw [if_pos h]
    · rw [if_neg h, if_pos (by decide)]
  · rw [s_X0_isUnder_L4, if_neg hc, if_neg (by decide)]
    by_cases h : (0 : Int32) = k
    · rw [if_pos h, bI_t h]
    · rw [if_neg h, ab_0, Option.bind_some, s_X0_isUnder_L4, if_neg hc2, if_pos (by decide), bI_f h]
theorem j_step {a k : Int32} {σ : ZSt} {n m : Nat} {c K K' : Int32} (h0 : ¬ K < 0) (h1 : ¬ K ≤ 0) (a1 : s_X10_above K σ = some K') (a2 : s_X0_above K σ = some K') (hc : ¬ 8 ≤ c) (ih : ∃ f, s_X10_taken_L58 a k σ n K' = s_X10_taken_C75 a k f σ ∧ s_X0_isUnder_L4 k σ m K' (c + 1) = some (bI (f = k))) : ∃ f, s_X10_taken_L58 a k σ (n + 1) K = s_X10_taken_C75 a k f σ ∧ s_X0_isUnder_L4 k σ (m + 1) K c = some (bI (f = k)) := by
  by_cases h : K = k
  · refine ⟨K, ?_, ?_⟩
    · rw [s_X10_taken_L58, if_pos h]
    · rw [s_X0_isUnder_L4, if_neg hc, if_neg h0, if_pos h, bI_t h]
  · obtain ⟨f, f1, f2⟩ := ih
    refine ⟨f, ?_, ?_⟩
    · rw [s_X10_taken_L58, if_neg h, if_neg h1, a1, Option.bind_some, f1]
    · rw [s_X0_isUnder_L4, if_neg hc, if_neg h0, if_neg h, a2, Option.bind_some, f2]
theorem mab (σ : ZSt) : s_X10_above 1 σ = some 0 ∧ s_X10_above 2 σ = some 0 ∧ s_X10_above 3 σ = some 1 ∧ s_X10_above 4 σ = some 2 ∧ s_X10_above 5 σ = some 0 ∧ s_X10_above 6 σ = some 0 ∧ s_X10_above 7 σ = some 4 := by
  refine ⟨?_, ?_, ?_, ?_, ?_, ?_, ?_⟩ <;> (unfold s_X10_above; rfl)
theorem j_all (a k : Int32) (σ : ZSt) (K : Nat) (hK : K < 8) : ∃ f, s_X10_taken_L58 a k σ 200 (nI K) = s_X10_taken_C75 a k f σ ∧ s_X0_isUnder (nI K) k σ = some (bI (f = k)) := by
  obtain ⟨m1, m2, m3, m4, m5, m6, m7⟩ := mab σ
  have b0 := fun (n m : Nat) => j_base a k σ n m 0 (by decide) (by decide)
  have b1 := fun (n m : Nat) => j_base a k σ n m (0 + 1) (by decide) (by decide)
  have b2 := fun (n m : Nat) => j_base a k σ n m (0 + 1 + 1) (by decide) (by decide)
  have b3 := fun (n m : Nat) => j_base a k σ n m (0 + 1 + 1 + 1) (by decide) (by decide)
  unfold s_X0_isUnder
  rcases (show K = 0 ∨ K = 1 ∨ K = 2 ∨ K = 3 ∨ K = 4 ∨ K = 5 ∨ K = 6 ∨ K = 7 by omega) with rfl | rfl | rfl | rfl | rfl | rfl | rfl | rfl
  · exact b0 199 198
  · exact j_step (n := 199) (m := 199) (by decide) (by decide) m1 (ab_1 σ) (by decide) (b1 198 197)
  · exact j_step (n := 199) (m := 199) (by decide) (by decide) m2 (ab_2 σ) (by decide) (b1 198 197)
  · exact j_step (n := 199) (m := 199) (by decide) (by decide) m3 (ab_3 σ) (by decide) (j_step (n := 198) (m := 198) (by decide) (by decide) m1 (ab_1 σ) (by decide) (b2 197 196))
  · exact j_step (n := 199) (m := 199) (by decide) (by decide) m4 (ab_4 σ) (by decide) (j_step (n := 198) (m := 198) (by decide) (by decide) m2 (ab_2 σ) (by decide) (b2 197 196))
  · exact j_step (n := 199) (m := 199) (by decide) (by decide) m5 (ab_5 σ) (by decide) (b1 198 197)
  · exact j_step (n := 199) (m := 199) (by decide) (by decide) m6 (ab_6 σ) (by decide) (b1 198 197)
  · exact j_step (n := 199) (m := 199) (by decide) (by decide) m7 (ab_7 σ) (by decide) (j_step (n := 198) (m := 198) (by decide) (by decide) m4 (ab_4 σ) (by decide) (j_step (n := 197) (m := 197) (by decide) (by decide) m2 (ab_2 σ) (by decide) (b3 196 195)))
theorem k_taken (h : rSh bo σ) (hA : rAc bo σ) (a b : Int32) : ∃ r, s_X9_taken a b σ = some r ∧ s_X10_taken a b σ = some r := by
  obtain ⟨hb, ⟨h1, h2⟩, hk, -⟩ := hA
  unfold s_X9_taken s_X10_taken
  rw [cShf, mShf, Option.bind_some, Option.bind_some, bI_n, bI_n]
  by_cases ha : 0 ≤ a ∧ a ≤ 5
  · have hna : ¬ ¬ (0 ≤ a ∧ a ≤ 5) := fun q => q ha
    rw [if_neg hna, if_neg hna, isW, mW32 b 0 7 (a' := 0) (b' := 7) (by decide) (by decide), Option.bind_some, Option.bind_some, bI_n, bI_n]
    by_cases hbb : 0 ≤ b ∧ b ≤ 7
    · have hnb : ¬ ¬ (0 ≤ b ∧ b ≤ 7) := fun q => q hbb
      rw [if_neg hnb, if_neg hnb]
      obtain ⟨d, hd, rfl⟩ := ofSh ha
      have hz := zIn_nI (a := d) (n := 6) hd (by decide)
      have hcl := nI_clamp (n := d) (by omega)
      rw [cEmp hd, Option.bind_some, bI_n, cRow hd, Option.bind_some, bI_n, zLd_t hz, zLd_t hz, hcl]
      rcases h d hd with ⟨q1, q2⟩ | ⟨q1, k, hkb, q2, q3⟩ | ⟨s, n, hr⟩
      · refine ⟨-11, by rw [if_neg (fun q => q q1)], ?_⟩
        rw [q2, if_neg (by decide)]
      · obtain ⟨g1, K, hK, g2⟩ := hk k hkb
        obtain ⟨f, f1, f2⟩ := j_all (nI d) b σ K hK
        have hbk := nI_lt_s hkb (show bo ≤ 1000 by omega)
        have ck : s_X0_kindOf (nI k) σ = some (nI K) := by
          unfold s_X0_kindOf
          rw [cIsBody0 h1 hb, Option.bind_some, bI_n, if_neg (fun q => q hbk), zLd_t (zIn_nI (by omega) (by decide)), nI_clamp (by omega), g2]
        have mk : s_X10_kindOf (nI k) σ = some (nI K) := by
          unfold s_X10_kindOf
          rw [zLd_t (zIn_nI (by omega) (by decide)), nI_clamp (by omega), ← g1, g2]
        have cb : s_X6_bodyOn (nI d) σ = some (nI k) := by
          unfold s_X6_bodyOn
          rw [cShf, Option.bind_some, bI_n, if_neg hna, zLd_t hz, zLd_t hz, hcl, q1, if_pos rfl, q2]
        rw [q1, if_pos (by decide), if_pos (by decide), cb, Option.bind_some, ck, Option.bind_some, f2, Option.bind_some, bI_n, q3, if_pos (nI_pos' (by omega)), if_pos (show nI k < 50 by rw [i50, nI_ltI (by omega) (by decide)]; omega), zLd_t hz, mk, Option.bind_some, f1]
        unfold s_X10_taken_C75
        by_cases hf : f = b
        · refine ⟨nI K, by rw [if_neg (fun q => q hf)], ?_⟩
          rw [if_pos hf, zLd_t hz, hcl, q3, mk, Option.bind_some]
        · exact ⟨-12, by rw [if_pos hf], by rw [if_neg hf]⟩
      · have := hr.1
        have n1 : ¬ σ.1 52 d = -1 := by rw [hr.2.2.1.1]; exact ne1 (by omega)
        refine ⟨-12, by rw [if_pos n1, if_neg (fun q => q (rowIs hr))], ?_⟩
        rw [hr.2.2.1.2, if_pos (nI_pos' (by omega)), if_neg (by rw [i50, nI_ltI (by omega) (by decide)]; omega)]
    · exact ⟨-1, by rw [if_pos hbb], by rw [if_pos hbb]⟩
  · exact ⟨-1, by rw [if_pos ha], by rw [if_pos ha]⟩
theorem k_count {s w p : Nat} (hT : rT s w p σ) (hC : rCh s w σ) (hF : rFd σ) (hA : rAc bo σ) (a : Int32) : ∃ r, s_X9_count a σ = some r ∧ s_X10_count a σ = some r := by
  obtain ⟨-, ⟨t0, t1, t2, t3, t4, t5⟩, -⟩ := hT
  obtain ⟨kept, done, -, -, ⟨c1, c2, c3, c4⟩, -⟩ := hC
  obtain ⟨m, -, ⟨f1, f2⟩, -⟩ := hF
  obtain ⟨-, ⟨a1, a2⟩, -, n, -, ⟨a3, a4⟩, -⟩ := hA
  unfold s_X9_count s_X10_count s_X7_streets s_X7_windowsInAll s_X7_players s_X3_bytes s_X1_undoable s_X0_bodies s_X0_ranInAll
  simp only [Option.bind_some, t0, t1, t2, t3, t4, t5, c3, c4, f1, f2, a1, a2, a3, a4, and_self]
  repeat' split
  all_goals exact ⟨_, rfl⟩
end SHELF
