/-! A change in class and model: the kept changes stay related -/
theorem add_both {s w : Nat} {σ : ZSt} (hc : rCh s w σ) {cc k q : Nat} (hcc : cc = 2 ∨ cc = 7 ∨ cc = 8) (hq : q < 66) {a b v : Int32} (hold : σ.1 69 q = σ.1 cc k) (hv : ¬ σ.1 cc k = v) (hkind : (b = 2 ∧ (∃ k, k < s ∧ a = nI k ∧ nI q = nI (60 + k)) ∧ inR (σ.1 cc k) 0 99 ∧ inR v 0 99) ∨ (b = 0 ∧ (∃ j, j < w ∧ a = nI j ∧ nI q = nI j) ∧ inR (σ.1 cc k) 0 99 ∧ inR v 0 99) ∨ (b = 1 ∧ (∃ j, j < w ∧ a = nI j ∧ nI q = nI (30 + j)) ∧ inR (σ.1 cc k) (-99) 99 ∧ inR v (-99) 99)) : ∃ σa σ2, s_X1_add a b (σ.1 cc k) v σ = some σa ∧ s_X10_becomes (nI q) v (zWD σa cc k v) = some (σ.1 cc k, σ2) ∧ rCh s w σ2 ∧ (∀ c f, zHit cT c f = true → σa.1 c f = σ.1 c f ∧ σa.2 c f = σ.2 c f) ∧ (∀ c f, zHit cT c f = true → σ2.1 c f = (zWD (zWD σ cc k v) 69 q v).1 c f ∧ σ2.2 c f = (zWD (zWD σ cc k v) 69 q v).2 c f) := by
  obtain ⟨kept, done, d1, d2, ⟨g1, g2, g3, g4⟩, hI⟩ := hc
  obtain ⟨d, e, σa, x1, x2, x3, x4, x5, x6, x7, x8⟩ := cAdd (by omega) g3 a b (σ.1 cc k) v
  have y1 : (zWD σa cc k v).1 68 5 = nI done := by
    have n1 : ¬ (68 = cc ∧ 5 = k) := by clear hkind; omega
    rw [wd1, if_neg n1, x8 68 5 (by omega) (by omega) (by omega) (by omega) (by omega) (by omega), g4]
  have y2 : (zWD σa cc k v).1 69 q = σ.1 cc k := by
    have n1 : ¬ (69 = cc ∧ q = k) := by clear hkind; omega
    rw [wd1, if_neg n1, x8 69 q (by omega) (by omega) (by omega) (by omega) (by omega) (by omega), hold]
  obtain ⟨d', e', σ2, z1, z2, z3, z4, z5, z6, z7, z8⟩ := mAdd (σ := zWD σa cc k v) (by omega) hq y1 (v := v) (by rw [y2]; exact hv)
  have hde : d' = d ∧ e' = e := by clear hkind; omega
  obtain ⟨rfl, rfl⟩ := hde
  rw [y2] at z4 z7
  have m : ∀ c f, ¬ c = 2 → ¬ c = 7 → ¬ c = 8 → (zWD σa cc k v).1 c f = σa.1 c f := fun c f q1 q2 q3 => by
    have n1 : ¬ (c = cc ∧ f = k) := by clear hkind; omega
    rw [wd1, if_neg n1]
  refine ⟨σa, σ2, x4, z4, ⟨d' + 1, d' + 1, Nat.le_refl _, by omega, ⟨?_, z7.2.2.2.1, ?_, z7.2.2.2.2.1⟩, fun i hi => ?_⟩, fun c f hz => ?_, fun c f hz => ?_⟩
  · rw [z8 41 4 (by omega) (by omega) (by omega) (by omega) (by omega) (by omega), m 41 4 (by omega) (by omega) (by omega)]
    exact x7.2.2.2.2.1
  · rw [z8 41 5 (by omega) (by omega) (by omega) (by omega) (by omega) (by omega), m 41 5 (by omega) (by omega) (by omega)]
    exact x7.2.2.2.2.2
  · have up : ∀ c, c = 42 ∨ c = 43 ∨ c = 44 ∨ c = 45 → σ2.1 c i = σa.1 c i := fun c hc => by
      clear hkind
      rw [z8 c i (by omega) (by omega) (by omega) (by omega) (by omega) (by omega), m c i (by omega) (by omega) (by omega)]
    have u42 := up 42 (by decide)
    have u43 := up 43 (by decide)
    have u44 := up 44 (by decide)
    have u45 := up 45 (by decide)
    unfold rOne
    rw [u42, u43, u44, u45]
    by_cases hid : i = d'
    · subst hid
      obtain ⟨p1, p2, p3, p4, -, -⟩ := x7
      obtain ⟨r1, r2, r3, -, -, -⟩ := z7
      rw [p1, p2, p3, p4, r1, r2, r3]
      exact ⟨rfl, rfl, hkind⟩
    · have hid' : i < d' := by clear hkind; omega
      obtain ⟨p1, p2, p3, p4⟩ := x6 i hid'
      obtain ⟨r1, r2, r3⟩ := z6 i hid'
      have low : ∀ c, c = 70 ∨ c = 71 ∨ c = 72 → (zWD σa cc k v).1 c (i + e') = σ.1 c (i + e') := fun c hc => by
        clear hkind
        rw [m c (i + e') (by omega) (by omega) (by omega), x8 c (i + e') (by omega) (by omega) (by omega) (by omega) (by omega) (by omega)]
      rw [p1, p2, p3, p4, r1, r2, r3, low 70 (by decide), low 71 (by decide), low 72 (by decide)]
      exact hI (i + e') (by clear hkind; omega)
  · refine ⟨x8 c f ?_ ?_ ?_ ?_ ?_ ?_, by rw [x5]⟩
    all_goals first | (rintro rfl; exact absurd hz (by simp [zHit, cT])) | (rintro ⟨rfl, rfl⟩; exact absurd hz (by decide))
  · have b1 : σ2.1 c f = (zWD (zWD σ cc k v) 69 q v).1 c f := by
      by_cases hh : c = 69 ∧ f = q
      · obtain ⟨rfl, rfl⟩ := hh
        rw [z7.2.2.2.2.2]
        simp [wd1]
      · rw [z8 c f ?_ ?_ ?_ ?_ ?_ hh, wd1, wd1, if_neg hh, wd1, x8 c f ?_ ?_ ?_ ?_ ?_ ?_]
        all_goals first | (rintro rfl; exact absurd hz (by simp [zHit, cT])) | (rintro ⟨rfl, rfl⟩; exact absurd hz (by decide))
    refine ⟨b1, ?_⟩
    rw [z5]
    show (zWD σa cc k v).2 c f = σ.2 c f
    rw [wd2, x5]
