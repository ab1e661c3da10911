theorem cn_L_7 : zCN RL 7 9 11 := ⟨RX9, TX9, tyX9, rfl, rfl, zin_X9, List.mem_of_getElem? (i := 98) (by decide +kernel), List.mem_of_getElem? (i := 99) (by decide +kernel), List.mem_of_getElem? (i := 80) (by decide +kernel), tyX9_ok, by unfold zDf; decide +kernel⟩
theorem lki_L_9 : zLkI RL 9 yX9_init cX9_init 1 0 := ⟨⟨Or.inl (List.mem_of_getElem? (i := 100) (by decide +kernel)), List.mem_of_getElem? (i := 80) (by decide +kernel), List.mem_of_getElem? (i := 102) (by decide +kernel), ⟨by decide, by decide⟩, by decide +kernel, by decide⟩, List.mem_of_getElem? (i := 101) (by decide +kernel), rfl⟩
theorem cn_L_10 : zCN RL 10 10 49 := ⟨RX10, TX10, tyX10, rfl, rfl, zin_X10, List.mem_of_getElem? (i := 1205) (by decide +kernel), List.mem_of_getElem? (i := 1206) (by decide +kernel), List.mem_of_getElem? (i := 90) (by decide +kernel), tyX10_ok, by unfold zDf; decide +kernel⟩
theorem lki_L_12 : zLkI RL 12 yX10_init cX10_init 2 0 := ⟨⟨Or.inl (List.mem_of_getElem? (i := 1207) (by decide +kernel)), List.mem_of_getElem? (i := 90) (by decide +kernel), List.mem_of_getElem? (i := 1209) (by decide +kernel), ⟨by decide, by decide⟩, by decide +kernel, by decide⟩, List.mem_of_getElem? (i := 1208) (by decide +kernel), rfl⟩
theorem zw_own : Cond.laysStatic "PaidElsewhere$Acts" "OWN" "[I" ∈ lw_tbl := List.mem_of_getElem? (i := 1094) (by decide +kernel)
theorem zw_abv : Cond.laysStatic "PaidElsewhere$Acts" "ABOVE" "[I" ∈ lw_tbl := List.mem_of_getElem? (i := 1103) (by decide +kernel)
theorem zw_cs : Cond.laysStatic "java/lang/String" "COMPACT_STRINGS" "Z" ∈ lw_tbl := List.mem_of_getElem? (i := 682) (by decide +kernel)
theorem zw_iA : Cond.initialized "PaidElsewhere$Acts" ∈ lw_tbl := List.mem_of_getElem? (i := 87) (by decide +kernel)
theorem zw_iS : Cond.initialized "java/lang/String" ∈ lw_tbl := List.mem_of_getElem? (i := 92) (by decide +kernel)
theorem zw_sr : Cond.stringRef "PaidElsewhere$LawReader" 64 zStr ∈ lw_tbl := List.mem_of_getElem? (i := 668) (by decide +kernel)
theorem zw_ao : Cond.arrayOver (.array .long) ∈ lw_tbl := List.mem_of_getElem? (i := 319) (by decide +kernel)
theorem zw_in0 : Cond.instantiable RX0 5 ∈ lw_tbl := List.mem_of_getElem? (i := 291) (by decide +kernel)
theorem zw_in1 : Cond.instantiable RX1 6 ∈ lw_tbl := List.mem_of_getElem? (i := 247) (by decide +kernel)
theorem zw_in2 : Cond.instantiable RX2 5 ∈ lw_tbl := List.mem_of_getElem? (i := 170) (by decide +kernel)
theorem zw_in3 : Cond.instantiable RX3 4 ∈ lw_tbl := List.mem_of_getElem? (i := 272) (by decide +kernel)
theorem zw_in4 : Cond.instantiable RX4 4 ∈ lw_tbl := List.mem_of_getElem? (i := 335) (by decide +kernel)
theorem zw_in5 : Cond.instantiable RX5 1 ∈ lw_tbl := List.mem_of_getElem? (i := 160) (by decide +kernel)
theorem zw_in6 : Cond.instantiable RX6 4 ∈ lw_tbl := List.mem_of_getElem? (i := 313) (by decide +kernel)
theorem zw_in7 : Cond.instantiable RX7 15 ∈ lw_tbl := List.mem_of_getElem? (i := 107) (by decide +kernel)
theorem zw_in8 : Cond.instantiable RX8 16 ∈ lw_tbl := List.mem_of_getElem? (i := 192) (by decide +kernel)
theorem zw_in9 : Cond.instantiable RX9 11 ∈ lw_tbl := List.mem_of_getElem? (i := 99) (by decide +kernel)
theorem zw_in10 : Cond.instantiable RX10 49 ∈ lw_tbl := List.mem_of_getElem? (i := 1206) (by decide +kernel)
def zR0 : ZRf := fun _ _ => none
def zO : ZSt := (z0, fun _ _ => 0)
theorem zFr0 : zFr 0 zR0 zO := fun _ _ _ => ⟨rfl, rfl, rfl⟩
/-- the numbers behind both constructors -/
def zI : ZSt := cS68 (cS0 zO)
theorem zR55 (i : Nat) : cR68 (cR0 zR0) 55 i = zRc 55 i := by
  rcases Nat.lt_or_ge i 6 with h | h
  · rcases (show i = 0 ∨ i = 1 ∨ i = 2 ∨ i = 3 ∨ i = 4 ∨ i = 5 by omega) with rfl | rfl | rfl | rfl | rfl | rfl <;> decide +kernel
  · show (if 55 = 55 ∧ i < 6 then some (56 + i) else none) = ([some 56, some 57, some 58, some 59, some 60, some 61] : List (Option Nat)).getD i none
    rw [if_neg (by omega), List.getD_eq_getElem?_getD, List.getElem?_eq_none (by exact h)]
    rfl
theorem zRall : ((List.range 100).all fun j => (List.range 60).all fun f => decide (cR68 (cR0 zR0) j f = zRc j f)) = true := by decide +kernel
theorem zFtLen : ∀ c, c < 20 → (zFt c).length < 60 := by decide +kernel
theorem zKind3 : ((List.range 100).all fun j => decide ((zKd j).1 < 3 ∨ j = 55) && decide ((zKd j).1 ≠ 0 ∨ (zKd j).2 < 20)) = true := by decide +kernel
theorem zEnd (σ : ZSt) : ∀ j, j < 100 → ∀ g : ZG, zCell g (cR68 (cR0 zR0)) σ j (zKd j) = zCell g zRc σ j (zKd j) := by
  intro j hj g
  have h1 : ∀ f, f < 60 → cR68 (cR0 zR0) j f = zRc j f := fun f hf => of_decide_eq_true (List.all_eq_true.mp (List.all_eq_true.mp zRall j (List.mem_range.mpr hj)) f (List.mem_range.mpr hf))
  have h2 := List.all_eq_true.mp zKind3 j (List.mem_range.mpr hj)
  rw [Bool.and_eq_true] at h2
  have h3 := of_decide_eq_true h2.1
  have h4 := of_decide_eq_true h2.2
  by_cases h55 : j = 55
  · subst h55
    have e : cR68 (cR0 zR0) 55 = zRc 55 := funext zR55
    show Sum.inl (_, (_, Sum.inr (Sum.inr (Sum.inr (Sum.inr fun i => (cR68 (cR0 zR0) 55 i).map (zAd g)))))) = _
    rw [e]
    rfl
  · generalize hk : zKd j = kd at h3 h4 ⊢
    obtain ⟨a, ci⟩ := kd
    match a, h3, h4 with
    | 0, _, h4 =>
      show Sum.inr (ci, zFs g _ σ j (zFt ci)) = Sum.inr (ci, zFs g zRc σ j (zFt ci))
      have hl := zFtLen ci (by rcases h4 with q | q; exact absurd rfl q; exact q)
      congr 2
      unfold zFs
      apply List.map_congr_left
      intro f hf
      have hf' := List.mem_range.mp hf
      exact zFv_o rfl (h1 f (by omega))
    | 1, _, _ => rfl
    | 2, _, _ => rfl
    | a + 3, h3, _ => exact absurd h3 (by rintro (q | q); exact absurd q (by simp); exact h55 q)
set_option maxHeartbeats 8000000 in
set_option maxRecDepth 100000 in
/-- the law from its entry, over the worlds -/
theorem z_L_law (g : ZG) (n : Nat) (σ0 : ZSt) : Zo g (mL_law g) (fun _ : Unit => (none, zw σ0)) (s_L_law_L18 g.2.2.2.2.1 g.2.2.2.2.2 n 0 zI) 0 0 0 [some (.ref 100009), none, none, none] [] (0, zR0, zO) := by
  refine Zo_new cn_L_7 kd_0 zFr0 ⟨zle rfl, zle rfl⟩ dL_law_0 ?_
  have hz : zFr 1 zR0 zO := zFr0.up (by decide)
  show Zo g _ _ _ 1 11 3 _ _ (1, _, _)
  refine Zo_dup dL_law_3 rfl ?_
  refine Zo_callI (K := 67) (S := 1840) (finc := fun _ : Unit => (none, (68, cR0 zR0, cS0 zO))) (oc := some ()) (Kf := fun _ => s_L_law_L18 g.2.2.2.2.1 g.2.2.2.2.2 n 0 zI) [] 0 lki_L_9 (fun _ _ => c_0 g zR0 zO hz) (by decide) (zFitL (by decide)) ⟨zle rfl, zle rfl⟩ (zle rfl) dL_law_4 (fun _ => ?_)
  have hz := fr_0 hz
  show Zo g _ _ _ 68 1851 7 _ _ (68, _, _)
  refine Zo_astore1 rfl (zlt rfl) dL_law_7 ?_
  refine Zo_new cn_L_10 kd_68 hz ⟨zle rfl, zle rfl⟩ dL_law_8 ?_
  have hz := hz.up (N' := 69) (by decide)
  show Zo g _ _ _ 69 1900 11 _ _ (69, _, _)
  refine Zo_dup dL_law_11 rfl ?_
  refine Zo_callI (K := 31) (S := 1114) (finc := fun _ : Unit => (none, (100, cR68 (cR0 zR0), cS68 (cS0 zO)))) (oc := some ()) (Kf := fun _ => s_L_law_L18 g.2.2.2.2.1 g.2.2.2.2.2 n 0 zI) [] 68 lki_L_12 (fun _ _ => c_68 g (cR0 zR0) (cS0 zO) hz) (by decide) (zFitL (by decide)) ⟨zle rfl, zle rfl⟩ (zle rfl) dL_law_12 (fun _ => ?_)
  show Zo g _ _ _ 100 3014 15 _ _ (100, _, zI)
  refine Zo_conv (R' := zRc) (σ' := zI) (zEnd zI) ?_
  refine Zo_astore2 rfl (zlt rfl) dL_law_15 ?_
  refine Zo_iconst (0 : Int32) dL_law_16 ic_0 ?_
  refine Zo_istore3 rfl (zlt rfl) dL_law_17 ?_
  exact z_L_law_L18 g _ _ (zle rfl) (zle rfl) σ0 n 0 zI
