abbrev mJ1_canEncode_9a6ad (g : ZG) (q : Nat) : ZM := (yJ1_canEncode_9a6ad, cJ1_canEncode_9a6ad, 1, (some .boolean), zRm q 0 0, zTg g 0 0)
def s_J1_canEncode_9a6ad (p0 : Int32) (σ : ZSt) : Option Int32 :=
  if p0 < (0 : Int32) then (some (0 : Int32))
    else (if (255 : Int32) < p0 then (some (0 : Int32))
      else (some (1 : Int32)))
set_option maxHeartbeats 4000000 in
set_option maxRecDepth 100000 in
theorem z_J1_canEncode_9a6ad (g : ZG) (p0 : Int32) (σ : ZSt) : Zo g (mJ1_canEncode_9a6ad g 0) (fun b : Int32 => (some (.int b), zw σ)) (s_J1_canEncode_9a6ad p0 σ) 0 0 0 [some (.int p0)] [] (zw σ) := by
  unfold s_J1_canEncode_9a6ad
  refine Zo_iload0 dJ1_canEncode_9a6ad_0 ?_
  refine Zo_iflt 15 dJ1_canEncode_9a6ad_1 (by decide) ?_ ?_
  · refine Zo_iconst (0 : Int32) dJ1_canEncode_9a6ad_15 ic_0 ?_
    exact Zo_zret dJ1_canEncode_9a6ad_16 rfl rfl (Or.inl rfl) (Nat.le_refl _) (Nat.le_refl _)
  · refine Zo_iload0 dJ1_canEncode_9a6ad_4 ?_
    refine Zo_sipush (255 : Int32) dJ1_canEncode_9a6ad_5 sp_255 ?_
    refine Zo_icmpgt 15 dJ1_canEncode_9a6ad_8 (by decide) ?_ ?_
    · refine Zo_iconst (0 : Int32) dJ1_canEncode_9a6ad_15 ic_0 ?_
      exact Zo_zret dJ1_canEncode_9a6ad_16 rfl rfl (Or.inl rfl) (Nat.le_refl _) (Nat.le_refl _)
    · refine Zo_iconst (1 : Int32) dJ1_canEncode_9a6ad_11 ic_1 ?_
      refine Zo_goto 16 dJ1_canEncode_9a6ad_12 (by decide) ?_
      exact Zo_zret dJ1_canEncode_9a6ad_16 rfl rfl (Or.inr rfl) (Nat.le_refl _) (Nat.le_refl _)
theorem e_J1_canEncode_9a6ad (g : ZG) (p0 : Int32) (σ : ZSt) : zEvI g 0 yJ1_canEncode_9a6ad cJ1_canEncode_9a6ad 1 (some .boolean) [.int p0] σ (s_J1_canEncode_9a6ad p0 σ) :=
  zEvI_of 0 rfl rfl (z_J1_canEncode_9a6ad g p0 σ)
abbrev mJ1_indexOfChar_4cfef (g : ZG) (q : Nat) : ZM := (yJ1_indexOfChar_4cfef, cJ1_indexOfChar_4cfef, 6, (some .int), zRm q 0 0, zTg g 0 0)
def s_J1_indexOfChar_4cfef_L7 (l3 : Int32) (l4 : Int32) (σ : ZSt) : Nat → Int32 → Option Int32
  | 0, _ => none
  | n + 1, l5 =>
    if l3 ≤ l5 then (some (-1 : Int32))
      else (zLd (zIn l5 8) (zTXT l5.toNatClampNeg) fun v1 => (if v1 = l4 then (some l5)
        else (s_J1_indexOfChar_4cfef_L7 l3 l4 σ n (l5 + (1 : Int32)))))
set_option maxHeartbeats 4000000 in
set_option maxRecDepth 100000 in
theorem z_J1_indexOfChar_4cfef_L7 (g : ZG) (l3 : Int32) (l4 : Int32) (σ : ZSt) : ∀ (n : Nat) (l5 : Int32) (o1 o2 : Option Value), Zo g (mJ1_indexOfChar_4cfef g 0) (fun b : Int32 => (some (.int b), zw σ)) (s_J1_indexOfChar_4cfef_L7 l3 l4 σ n l5) 0 0 7 [some (.ref 100003), o1, o2, some (.int l3), some (.int l4), some (.int l5)] [] (zw σ) := by
  intro n
  induction n with
  | zero => intros; exact Zo_none
  | succ n ih =>
    intro l5 o1 o2
    rw [s_J1_indexOfChar_4cfef_L7]
    refine Zo_iload5 dJ1_indexOfChar_4cfef_7 ?_
    refine Zo_iload3 dJ1_indexOfChar_4cfef_9 ?_
    refine Zo_icmpge 31 dJ1_indexOfChar_4cfef_10 (by decide) ?_ ?_
    · refine Zo_iconst (-1 : Int32) dJ1_indexOfChar_4cfef_31 ic_m1 ?_
      exact Zo_iret dJ1_indexOfChar_4cfef_32 rfl rfl (Nat.le_refl _) (Nat.le_refl _)
    · refine Zo_aload0 dJ1_indexOfChar_4cfef_13 ?_
      refine Zo_iload5 dJ1_indexOfChar_4cfef_14 ?_
      refine Zo_tbT dJ1_indexOfChar_4cfef_16 fun v1 => ?_
      refine Zo_iload4 dJ1_indexOfChar_4cfef_17 ?_
      refine Zo_icmpne 25 dJ1_indexOfChar_4cfef_19 (by decide) ?_ ?_
      · refine Zo_iinc5 rfl (1 : Int32) ic_1 (zlt rfl) dJ1_indexOfChar_4cfef_25 ?_
        refine Zo_goto 7 dJ1_indexOfChar_4cfef_28 (by decide) ?_
        exact ih _ _ _
      · refine Zo_iload5 dJ1_indexOfChar_4cfef_22 ?_
        exact Zo_iret dJ1_indexOfChar_4cfef_24 rfl rfl (Nat.le_refl _) (Nat.le_refl _)
def s_J1_indexOfChar_4cfef (p1 : Int32) (p2 : Int32) (p3 : Int32) (σ : ZSt) : Option Int32 :=
  s_J1_indexOfChar_4cfef_L7 p3 (p1.toInt8.toInt32) σ 200 p2
set_option maxHeartbeats 4000000 in
set_option maxRecDepth 100000 in
theorem z_J1_indexOfChar_4cfef (g : ZG) (p1 : Int32) (p2 : Int32) (p3 : Int32) (σ : ZSt) : Zo g (mJ1_indexOfChar_4cfef g 0) (fun b : Int32 => (some (.int b), zw σ)) (s_J1_indexOfChar_4cfef p1 p2 p3 σ) 0 0 0 [some (.ref 100003), some (.int p1), some (.int p2), some (.int p3), none, none] [] (zw σ) := by
  unfold s_J1_indexOfChar_4cfef
  refine Zo_iload1 dJ1_indexOfChar_4cfef_0 ?_
  refine Zo_i2b dJ1_indexOfChar_4cfef_1 ?_
  refine Zo_istore4 rfl (zlt rfl) dJ1_indexOfChar_4cfef_2 ?_
  refine Zo_iload2 dJ1_indexOfChar_4cfef_4 ?_
  refine Zo_istore5 rfl (zlt rfl) dJ1_indexOfChar_4cfef_5 ?_
  exact z_J1_indexOfChar_4cfef_L7 g _ _ _ _ _ _ _
theorem e_J1_indexOfChar_4cfef (g : ZG) (p1 : Int32) (p2 : Int32) (p3 : Int32) (σ : ZSt) : zEvI g 0 yJ1_indexOfChar_4cfef cJ1_indexOfChar_4cfef 6 (some .int) [.ref 100003, .int p1, .int p2, .int p3] σ (s_J1_indexOfChar_4cfef p1 p2 p3 σ) :=
  zEvI_of 2 rfl rfl (z_J1_indexOfChar_4cfef g p1 p2 p3 σ)
abbrev mJ1_indexOf_4cfef (g : ZG) (q : Nat) : ZM := (yJ1_indexOf_4cfef, cJ1_indexOf_4cfef, 4, (some .int), zRm q 0 0, zTg g 0 0)
def s_J1_indexOf_4cfef (p1 : Int32) (p2 : Int32) (p3 : Int32) (σ : ZSt) : Option Int32 :=
  (s_J1_canEncode_9a6ad p1 σ).bind fun r1 => (if r1 = (0 : Int32) then (some (-1 : Int32))
    else (if (if p2 < (0 : Int32) then (0 : Int32) else p2) < (if (8 : Int32) < p3 then (8 : Int32) else p3) then ((s_J1_indexOfChar_4cfef p1 (if p2 < (0 : Int32) then (0 : Int32) else p2) (if (8 : Int32) < p3 then (8 : Int32) else p3) σ).bind fun r2 => (some r2))
      else (some (-1 : Int32))))
set_option maxHeartbeats 4000000 in
set_option maxRecDepth 100000 in
theorem z_J1_indexOf_4cfef (g : ZG) (p1 : Int32) (p2 : Int32) (p3 : Int32) (σ : ZSt) : Zo g (mJ1_indexOf_4cfef g 1) (fun b : Int32 => (some (.int b), zw σ)) (s_J1_indexOf_4cfef p1 p2 p3 σ) 0 0 0 [some (.ref 100003), some (.int p1), some (.int p2), some (.int p3)] [] (zw σ) := by
  unfold s_J1_indexOf_4cfef
  refine Zo_iload1 dJ1_indexOf_4cfef_0 ?_
  refine Zo_cSI1 lk_J1_88 (e_J1_canEncode_9a6ad g _ _) (zFit_rm (by decide)) (zle rfl) dJ1_indexOf_4cfef_1 fun r1 => ?_
  refine Zo_ifne 9 dJ1_indexOf_4cfef_4 (by decide) ?_ ?_
  · refine Zo_iload2 dJ1_indexOf_4cfef_9 ?_
    refine Zo_iconst (0 : Int32) dJ1_indexOf_4cfef_10 ic_0 ?_
    refine Zo_mmax mm_J1_92 ms_max mi_Math mc_max (zle rfl) ⟨zle rfl, zle rfl, Nat.zero_le _, Nat.zero_le _⟩ dJ1_indexOf_4cfef_11 ?_
    refine Zo_istore2 rfl (zlt rfl) dJ1_indexOf_4cfef_14 ?_
    refine Zo_iload3 dJ1_indexOf_4cfef_15 ?_
    refine Zo_aload0 dJ1_indexOf_4cfef_16 ?_
    refine Zo_tlenT dJ1_indexOf_4cfef_17 ?_
    show Zo g _ _ _ 0 0 18 _ _ _
    refine Zo_mmin mm_J1_38 ms_min mi_Math mc_min (zle rfl) ⟨zle rfl, zle rfl, Nat.zero_le _, Nat.zero_le _⟩ dJ1_indexOf_4cfef_18 ?_
    refine Zo_istore3 rfl (zlt rfl) dJ1_indexOf_4cfef_21 ?_
    refine Zo_iload2 dJ1_indexOf_4cfef_22 ?_
    refine Zo_iload3 dJ1_indexOf_4cfef_23 ?_
    refine Zo_icmplt 29 dJ1_indexOf_4cfef_24 (by decide) ?_ ?_
    · refine Zo_aload0 dJ1_indexOf_4cfef_29 ?_
      refine Zo_iload1 dJ1_indexOf_4cfef_30 ?_
      refine Zo_iload2 dJ1_indexOf_4cfef_31 ?_
      refine Zo_iload3 dJ1_indexOf_4cfef_32 ?_
      refine Zo_cSI4 lk_J1_95 (e_J1_indexOfChar_4cfef g _ _ _ _) (zFit_rm (by decide)) (zle rfl) dJ1_indexOf_4cfef_33 fun r2 => ?_
      exact Zo_iret dJ1_indexOf_4cfef_36 rfl rfl (Nat.le_refl _) (Nat.le_refl _)
    · refine Zo_iconst (-1 : Int32) dJ1_indexOf_4cfef_27 ic_m1 ?_
      exact Zo_iret dJ1_indexOf_4cfef_28 rfl rfl (Nat.le_refl _) (Nat.le_refl _)
  · refine Zo_iconst (-1 : Int32) dJ1_indexOf_4cfef_7 ic_m1 ?_
    exact Zo_iret dJ1_indexOf_4cfef_8 rfl rfl (Nat.le_refl _) (Nat.le_refl _)
theorem e_J1_indexOf_4cfef (g : ZG) (p1 : Int32) (p2 : Int32) (p3 : Int32) (σ : ZSt) : zEvI g 1 yJ1_indexOf_4cfef cJ1_indexOf_4cfef 4 (some .int) [.ref 100003, .int p1, .int p2, .int p3] σ (s_J1_indexOf_4cfef p1 p2 p3 σ) :=
  zEvI_of 0 rfl rfl (z_J1_indexOf_4cfef g p1 p2 p3 σ)
