abbrev mJ0_isLatin1_aae02 (g : ZG) (q : Nat) : ZM := (yJ0_isLatin1_aae02, cJ0_isLatin1_aae02, 1, (some .boolean), zRm q 0 0, zTg g 0 0)
def s_J0_isLatin1_aae02 (σ : ZSt) : Option Int32 :=
  if (1 : Int32) = (0 : Int32) then (some (0 : Int32))
    else (if (0 : Int32) = (0 : Int32) then (some (1 : Int32))
      else (some (0 : Int32)))
set_option maxHeartbeats 4000000 in
set_option maxRecDepth 100000 in
theorem z_J0_isLatin1_aae02 (g : ZG) (σ : ZSt) : Zo g (mJ0_isLatin1_aae02 g 0) (fun b : Int32 => (some (.int b), zw σ)) (s_J0_isLatin1_aae02 σ) 0 0 0 [some (.ref 100002)] [] (zw σ) := by
  unfold s_J0_isLatin1_aae02
  refine Zo_gscs dJ0_isLatin1_aae02_0 ?_
  refine Zo_ifeq 17 dJ0_isLatin1_aae02_3 (by decide) ?_ ?_
  · refine Zo_iconst (0 : Int32) dJ0_isLatin1_aae02_17 ic_0 ?_
    exact Zo_zret dJ0_isLatin1_aae02_18 rfl rfl (Or.inl rfl) (Nat.le_refl _) (Nat.le_refl _)
  · refine Zo_aload0 dJ0_isLatin1_aae02_6 ?_
    refine Zo_gscod dJ0_isLatin1_aae02_7 ?_
    refine Zo_ifne 17 dJ0_isLatin1_aae02_10 (by decide) ?_ ?_
    · refine Zo_iconst (0 : Int32) dJ0_isLatin1_aae02_17 ic_0 ?_
      exact Zo_zret dJ0_isLatin1_aae02_18 rfl rfl (Or.inl rfl) (Nat.le_refl _) (Nat.le_refl _)
    · refine Zo_iconst (1 : Int32) dJ0_isLatin1_aae02_13 ic_1 ?_
      refine Zo_goto 18 dJ0_isLatin1_aae02_14 (by decide) ?_
      exact Zo_zret dJ0_isLatin1_aae02_18 rfl rfl (Or.inr rfl) (Nat.le_refl _) (Nat.le_refl _)
theorem e_J0_isLatin1_aae02 (g : ZG) (σ : ZSt) : zEvI g 0 yJ0_isLatin1_aae02 cJ0_isLatin1_aae02 1 (some .boolean) [.ref 100002] σ (s_J0_isLatin1_aae02 σ) :=
  zEvI_of 0 rfl rfl (z_J0_isLatin1_aae02 g σ)
abbrev mJ0_coder_7d493 (g : ZG) (q : Nat) : ZM := (yJ0_coder_7d493, cJ0_coder_7d493, 1, (some .byte), zRm q 0 0, zTg g 0 0)
def s_J0_coder_7d493 (σ : ZSt) : Option Int32 :=
  if (1 : Int32) = (0 : Int32) then (none)
    else (some (0 : Int32))
set_option maxHeartbeats 4000000 in
set_option maxRecDepth 100000 in
theorem z_J0_coder_7d493 (g : ZG) (σ : ZSt) : Zo g (mJ0_coder_7d493 g 0) (fun b : Int32 => (some (.int b), zw σ)) (s_J0_coder_7d493 σ) 0 0 0 [some (.ref 100002)] [] (zw σ) := by
  unfold s_J0_coder_7d493
  refine Zo_gscs dJ0_coder_7d493_0 ?_
  refine Zo_ifeq 13 dJ0_coder_7d493_3 (by decide) ?_ ?_
  · exact Zo_none
  · refine Zo_aload0 dJ0_coder_7d493_6 ?_
    refine Zo_gscod dJ0_coder_7d493_7 ?_
    refine Zo_goto 14 dJ0_coder_7d493_10 (by decide) ?_
    exact Zo_bret0 dJ0_coder_7d493_14 rfl rfl (Nat.le_refl _) (Nat.le_refl _)
theorem e_J0_coder_7d493 (g : ZG) (σ : ZSt) : zEvI g 0 yJ0_coder_7d493 cJ0_coder_7d493 1 (some .byte) [.ref 100002] σ (s_J0_coder_7d493 σ) :=
  zEvI_of 0 rfl rfl (z_J0_coder_7d493 g σ)
abbrev mJ0_length_8abf5 (g : ZG) (q : Nat) : ZM := (yJ0_length_8abf5, cJ0_length_8abf5, 1, (some .int), zRm q 0 0, zTg g 0 0)
def s_J0_length_8abf5 (σ : ZSt) : Option Int32 :=
  (s_J0_coder_7d493 σ).bind fun r1 => (some ((8 : Int32) >>> (r1 &&& 31)))
set_option maxHeartbeats 4000000 in
set_option maxRecDepth 100000 in
theorem z_J0_length_8abf5 (g : ZG) (σ : ZSt) : Zo g (mJ0_length_8abf5 g 1) (fun b : Int32 => (some (.int b), zw σ)) (s_J0_length_8abf5 σ) 0 0 0 [some (.ref 100002)] [] (zw σ) := by
  unfold s_J0_length_8abf5
  refine Zo_aload0 dJ0_length_8abf5_0 ?_
  refine Zo_gsval dJ0_length_8abf5_1 ?_
  refine Zo_tlenT dJ0_length_8abf5_4 ?_
  refine Zo_aload0 dJ0_length_8abf5_5 ?_
  refine Zo_cWI0 lk_J0_335 (e_J0_coder_7d493 g _) (zFit_rm (by decide)) (zle rfl) dJ0_length_8abf5_6 fun r1 => ?_
  refine Zo_ishr dJ0_length_8abf5_9 ?_
  exact Zo_iret dJ0_length_8abf5_10 rfl rfl (Nat.le_refl _) (Nat.le_refl _)
theorem e_J0_length_8abf5 (g : ZG) (σ : ZSt) : zEvI g 1 yJ0_length_8abf5 cJ0_length_8abf5 1 (some .int) [.ref 100002] σ (s_J0_length_8abf5 σ) :=
  zEvI_of 0 rfl rfl (z_J0_length_8abf5 g σ)
abbrev mJ0_indexOf_7cf53 (g : ZG) (q : Nat) : ZM := (yJ0_indexOf_7cf53, cJ0_indexOf_7cf53, 3, (some .int), zRm q 0 0, zTg g 0 0)
def s_J0_indexOf_7cf53 (p0 : Int32) (p1 : Int32) (σ : ZSt) : Option Int32 :=
  (s_J0_isLatin1_aae02 σ).bind fun r1 => (if r1 = (0 : Int32) then (none)
    else ((s_J0_length_8abf5 σ).bind fun r2 => ((s_J1_indexOf_4cfef p0 p1 r2 σ).bind fun r3 => (some r3))))
set_option maxHeartbeats 4000000 in
set_option maxRecDepth 100000 in
theorem z_J0_indexOf_7cf53 (g : ZG) (p0 : Int32) (p1 : Int32) (σ : ZSt) : Zo g (mJ0_indexOf_7cf53 g 2) (fun b : Int32 => (some (.int b), zw σ)) (s_J0_indexOf_7cf53 p0 p1 σ) 0 0 0 [some (.ref 100002), some (.int p0), some (.int p1)] [] (zw σ) := by
  unfold s_J0_indexOf_7cf53
  refine Zo_aload0 dJ0_indexOf_7cf53_0 ?_
  refine Zo_cWI0 lk_J0_492 (e_J0_isLatin1_aae02 g _) (zFit_rm (by decide)) (zle rfl) dJ0_indexOf_7cf53_1 fun r1 => ?_
  refine Zo_ifeq 23 dJ0_indexOf_7cf53_4 (by decide) ?_ ?_
  · exact Zo_none
  · refine Zo_aload0 dJ0_indexOf_7cf53_7 ?_
    refine Zo_gsval dJ0_indexOf_7cf53_8 ?_
    refine Zo_iload1 dJ0_indexOf_7cf53_11 ?_
    refine Zo_iload2 dJ0_indexOf_7cf53_12 ?_
    refine Zo_aload0 dJ0_indexOf_7cf53_13 ?_
    refine Zo_cWI0 lk_J0_505 (e_J0_length_8abf5 g _) (zFit_rm (by decide)) (zle rfl) dJ0_indexOf_7cf53_14 fun r2 => ?_
    refine Zo_cSI4 lk_J0_637 (e_J1_indexOf_4cfef g _ _ _ _) (zFit_rm (by decide)) (zle rfl) dJ0_indexOf_7cf53_17 fun r3 => ?_
    show Zo g _ _ _ 0 0 20 _ _ _
    refine Zo_goto 36 dJ0_indexOf_7cf53_20 (by decide) ?_
    exact Zo_iret dJ0_indexOf_7cf53_36 rfl rfl (Nat.le_refl _) (Nat.le_refl _)
theorem e_J0_indexOf_7cf53 (g : ZG) (p0 : Int32) (p1 : Int32) (σ : ZSt) : zEvI g 2 yJ0_indexOf_7cf53 cJ0_indexOf_7cf53 3 (some .int) [.ref 100002, .int p0, .int p1] σ (s_J0_indexOf_7cf53 p0 p1 σ) :=
  zEvI_of 0 rfl rfl (z_J0_indexOf_7cf53 g p0 p1 σ)
abbrev mJ0_indexOf_0f7a4 (g : ZG) (q : Nat) : ZM := (yJ0_indexOf_0f7a4, cJ0_indexOf_0f7a4, 2, (some .int), zRm q 0 0, zTg g 0 0)
def s_J0_indexOf_0f7a4 (p0 : Int32) (σ : ZSt) : Option Int32 :=
  (s_J0_indexOf_7cf53 p0 (0 : Int32) σ).bind fun r1 => (some r1)
set_option maxHeartbeats 4000000 in
set_option maxRecDepth 100000 in
theorem z_J0_indexOf_0f7a4 (g : ZG) (p0 : Int32) (σ : ZSt) : Zo g (mJ0_indexOf_0f7a4 g 3) (fun b : Int32 => (some (.int b), zw σ)) (s_J0_indexOf_0f7a4 p0 σ) 0 0 0 [some (.ref 100002), some (.int p0)] [] (zw σ) := by
  unfold s_J0_indexOf_0f7a4
  refine Zo_aload0 dJ0_indexOf_0f7a4_0 ?_
  refine Zo_iload1 dJ0_indexOf_0f7a4_1 ?_
  refine Zo_iconst (0 : Int32) dJ0_indexOf_0f7a4_2 ic_0 ?_
  refine Zo_cWI2 lk_J0_633 (e_J0_indexOf_7cf53 g _ _ _) (zFit_rm (by decide)) (zle rfl) dJ0_indexOf_0f7a4_3 fun r1 => ?_
  exact Zo_iret dJ0_indexOf_0f7a4_6 rfl rfl (Nat.le_refl _) (Nat.le_refl _)
theorem e_J0_indexOf_0f7a4 (g : ZG) (p0 : Int32) (σ : ZSt) : zEvI g 3 yJ0_indexOf_0f7a4 cJ0_indexOf_0f7a4 2 (some .int) [.ref 100002, .int p0] σ (s_J0_indexOf_0f7a4 p0 σ) :=
  zEvI_of 0 rfl rfl (z_J0_indexOf_0f7a4 g p0 σ)
