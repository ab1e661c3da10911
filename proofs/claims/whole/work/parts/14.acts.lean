abbrev mX0_addBody (g : ZG) (q : Nat) : ZM := (yX0_addBody, cX0_addBody, 2, (some .int), zRm q 0 0, zTg g 0 0)
def s_X0_addBody (p0 : Int32) (σ : ZSt) : Option (Int32 × ZSt) :=
  if (σ.1 48 2) < (50 : Int32) then (zSg (zIn (σ.1 48 2) 50) (zWD σ 49 (σ.1 48 2).toNatClampNeg p0) fun σ1 => (zSt' (zWD σ1 48 2 ((σ1.1 48 2) + (1 : Int32))) fun σ2 => (some ((σ1.1 48 2), σ2))))
    else (some ((-3 : Int32), σ))
set_option maxHeartbeats 4000000 in
set_option maxRecDepth 100000 in
theorem z_X0_addBody (g : ZG) (p0 : Int32) (σ : ZSt) : Zo g (mX0_addBody g 0) (fun b : Int32 × ZSt => (some (.int b.1), zw b.2)) (s_X0_addBody p0 σ) 0 0 0 [some (.ref 48), some (.int p0)] [] (zw σ) := by
  unfold s_X0_addBody
  refine Zo_aload0 dX0_addBody_0 ?_
  refine Zo_geti fl_X0_18 kd_48 dX0_addBody_1 ?_
  refine Zo_bipush (50 : Int32) dX0_addBody_4 bp_50 ?_
  refine Zo_icmplt 12 dX0_addBody_6 (by decide) ?_ ?_
  · refine Zo_aload0 dX0_addBody_12 ?_
    refine Zo_getr (j := 49) fl_X0_11 kd_48 rfl dX0_addBody_13 ?_
    refine Zo_aload0 dX0_addBody_16 ?_
    refine Zo_geti fl_X0_18 kd_48 dX0_addBody_17 ?_
    refine Zo_iload1 dX0_addBody_20 ?_
    refine Zo_iast kd_49 dX0_addBody_21 fun σ1 => ?_
    refine Zo_aload0 dX0_addBody_22 ?_
    show Zo g _ _ _ 0 0 23 _ _ _
    refine Zo_dup dX0_addBody_23 rfl ?_
    refine Zo_geti fl_X0_18 kd_48 dX0_addBody_24 ?_
    refine Zo_dup_x1 dX0_addBody_27 rfl rfl ?_
    refine Zo_iconst (1 : Int32) dX0_addBody_28 ic_1 ?_
    refine Zo_iadd dX0_addBody_29 ?_
    refine Zo_puti fl_X0_18 kd_48 dX0_addBody_30 fun σ2 => ?_
    exact Zo_iret dX0_addBody_33 rfl rfl (Nat.le_refl _) (Nat.le_refl _)
  · refine Zo_bipush (-3 : Int32) dX0_addBody_9 bp_m3 ?_
    exact Zo_iret dX0_addBody_11 rfl rfl (Nat.le_refl _) (Nat.le_refl _)
theorem e_X0_addBody (g : ZG) (p0 : Int32) (σ : ZSt) : zEvS g 0 yX0_addBody cX0_addBody 2 (some .int) [.ref 48, .int p0] σ (s_X0_addBody p0 σ) :=
  zEvS_of 0 rfl rfl (z_X0_addBody g p0 σ)
abbrev mX0_isBody (g : ZG) (q : Nat) : ZM := (yX0_isBody, cX0_isBody, 2, (some .boolean), zRm q 0 0, zTg g 0 0)
def s_X0_isBody (p0 : Int32) (σ : ZSt) : Option Int32 :=
  if p0 < (0 : Int32) then (some (0 : Int32))
    else (if (σ.1 48 2) ≤ p0 then (some (0 : Int32))
      else (if (50 : Int32) ≤ p0 then (some (0 : Int32))
        else (some (1 : Int32))))
set_option maxHeartbeats 4000000 in
set_option maxRecDepth 100000 in
theorem z_X0_isBody (g : ZG) (p0 : Int32) (σ : ZSt) : Zo g (mX0_isBody g 0) (fun b : Int32 => (some (.int b), zw σ)) (s_X0_isBody p0 σ) 0 0 0 [some (.ref 48), some (.int p0)] [] (zw σ) := by
  unfold s_X0_isBody
  refine Zo_iload1 dX0_isBody_0 ?_
  refine Zo_iflt 22 dX0_isBody_1 (by decide) ?_ ?_
  · refine Zo_iconst (0 : Int32) dX0_isBody_22 ic_0 ?_
    exact Zo_zret dX0_isBody_23 rfl rfl (Or.inl rfl) (Nat.le_refl _) (Nat.le_refl _)
  · refine Zo_iload1 dX0_isBody_4 ?_
    refine Zo_aload0 dX0_isBody_5 ?_
    refine Zo_geti fl_X0_18 kd_48 dX0_isBody_6 ?_
    refine Zo_icmpge 22 dX0_isBody_9 (by decide) ?_ ?_
    · refine Zo_iconst (0 : Int32) dX0_isBody_22 ic_0 ?_
      exact Zo_zret dX0_isBody_23 rfl rfl (Or.inl rfl) (Nat.le_refl _) (Nat.le_refl _)
    · refine Zo_iload1 dX0_isBody_12 ?_
      refine Zo_bipush (50 : Int32) dX0_isBody_13 bp_50 ?_
      refine Zo_icmpge 22 dX0_isBody_15 (by decide) ?_ ?_
      · refine Zo_iconst (0 : Int32) dX0_isBody_22 ic_0 ?_
        exact Zo_zret dX0_isBody_23 rfl rfl (Or.inl rfl) (Nat.le_refl _) (Nat.le_refl _)
      · refine Zo_iconst (1 : Int32) dX0_isBody_18 ic_1 ?_
        refine Zo_goto 23 dX0_isBody_19 (by decide) ?_
        exact Zo_zret dX0_isBody_23 rfl rfl (Or.inr rfl) (Nat.le_refl _) (Nat.le_refl _)
theorem e_X0_isBody (g : ZG) (p0 : Int32) (σ : ZSt) : zEvI g 0 yX0_isBody cX0_isBody 2 (some .boolean) [.ref 48, .int p0] σ (s_X0_isBody p0 σ) :=
  zEvI_of 0 rfl rfl (z_X0_isBody g p0 σ)
abbrev mX0_kindOf (g : ZG) (q : Nat) : ZM := (yX0_kindOf, cX0_kindOf, 2, (some .int), zRm q 0 0, zTg g 0 0)
def s_X0_kindOf (p0 : Int32) (σ : ZSt) : Option Int32 :=
  (s_X0_isBody p0 σ).bind fun r1 => (if r1 = (0 : Int32) then (some (0 : Int32))
    else (zLd (zIn p0 50) (σ.1 49 p0.toNatClampNeg) fun v2 => (some v2)))
set_option maxHeartbeats 4000000 in
set_option maxRecDepth 100000 in
theorem z_X0_kindOf (g : ZG) (p0 : Int32) (σ : ZSt) : Zo g (mX0_kindOf g 1) (fun b : Int32 => (some (.int b), zw σ)) (s_X0_kindOf p0 σ) 0 0 0 [some (.ref 48), some (.int p0)] [] (zw σ) := by
  unfold s_X0_kindOf
  refine Zo_aload0 dX0_kindOf_0 ?_
  refine Zo_iload1 dX0_kindOf_1 ?_
  refine Zo_cVI1 lk_X0_25 (e_X0_isBody g _ _) kd_48 (zFit_rm (by decide)) (zle rfl) dX0_kindOf_2 fun r1 => ?_
  refine Zo_ifeq 17 dX0_kindOf_5 (by decide) ?_ ?_
  · refine Zo_iconst (0 : Int32) dX0_kindOf_17 ic_0 ?_
    exact Zo_iret dX0_kindOf_18 rfl rfl (Nat.le_refl _) (Nat.le_refl _)
  · refine Zo_aload0 dX0_kindOf_8 ?_
    refine Zo_getr (j := 49) fl_X0_11 kd_48 rfl dX0_kindOf_9 ?_
    refine Zo_iload1 dX0_kindOf_12 ?_
    refine Zo_iald kd_49 dX0_kindOf_13 fun v2 => ?_
    refine Zo_goto 18 dX0_kindOf_14 (by decide) ?_
    exact Zo_iret dX0_kindOf_18 rfl rfl (Nat.le_refl _) (Nat.le_refl _)
theorem e_X0_kindOf (g : ZG) (p0 : Int32) (σ : ZSt) : zEvI g 1 yX0_kindOf cX0_kindOf 2 (some .int) [.ref 48, .int p0] σ (s_X0_kindOf p0 σ) :=
  zEvI_of 0 rfl rfl (z_X0_kindOf g p0 σ)
abbrev mX0_ownBody (g : ZG) (q : Nat) : ZM := (yX0_ownBody, cX0_ownBody, 3, (some .int), zRm q 0 0, zTg g 0 0)
def s_X0_ownBody (p0 : Int32) (p1 : Int32) (σ : ZSt) : Option Int32 :=
  if (((4 : Int32) * p0) + p1) < (0 : Int32) then (some (0 : Int32))
    else (if (32 : Int32) ≤ (((4 : Int32) * p0) + p1) then (some (0 : Int32))
      else (zLd (zIn (((4 : Int32) * p0) + p1) 32) (zOWN (((4 : Int32) * p0) + p1).toNatClampNeg) fun v1 => (some v1)))
set_option maxHeartbeats 4000000 in
set_option maxRecDepth 100000 in
theorem z_X0_ownBody (g : ZG) (p0 : Int32) (p1 : Int32) (σ : ZSt) : Zo g (mX0_ownBody g 0) (fun b : Int32 => (some (.int b), zw σ)) (s_X0_ownBody p0 p1 σ) 0 0 0 [some (.int p0), some (.int p1), none] [] (zw σ) := by
  unfold s_X0_ownBody
  refine Zo_iconst (4 : Int32) dX0_ownBody_0 ic_4 ?_
  refine Zo_iload0 dX0_ownBody_1 ?_
  refine Zo_imul dX0_ownBody_2 ?_
  refine Zo_iload1 dX0_ownBody_3 ?_
  refine Zo_iadd dX0_ownBody_4 ?_
  refine Zo_istore2 rfl (zlt rfl) dX0_ownBody_5 ?_
  refine Zo_iload2 dX0_ownBody_6 ?_
  show Zo g _ _ _ 0 0 7 _ _ _
  refine Zo_iflt 26 dX0_ownBody_7 (by decide) ?_ ?_
  · refine Zo_iconst (0 : Int32) dX0_ownBody_26 ic_0 ?_
    exact Zo_iret dX0_ownBody_27 rfl rfl (Nat.le_refl _) (Nat.le_refl _)
  · refine Zo_iload2 dX0_ownBody_10 ?_
    refine Zo_gsOWN rfl gs_OWN dX0_ownBody_11 ?_
    refine Zo_tlenOWN dX0_ownBody_14 ?_
    refine Zo_icmpge 26 dX0_ownBody_15 (by decide) ?_ ?_
    · refine Zo_iconst (0 : Int32) dX0_ownBody_26 ic_0 ?_
      exact Zo_iret dX0_ownBody_27 rfl rfl (Nat.le_refl _) (Nat.le_refl _)
    · refine Zo_gsOWN rfl gs_OWN dX0_ownBody_18 ?_
      refine Zo_iload2 dX0_ownBody_21 ?_
      refine Zo_tiOWN dX0_ownBody_22 fun v1 => ?_
      refine Zo_goto 27 dX0_ownBody_23 (by decide) ?_
      exact Zo_iret dX0_ownBody_27 rfl rfl (Nat.le_refl _) (Nat.le_refl _)
theorem e_X0_ownBody (g : ZG) (p0 : Int32) (p1 : Int32) (σ : ZSt) : zEvI g 0 yX0_ownBody cX0_ownBody 3 (some .int) [.int p0, .int p1] σ (s_X0_ownBody p0 p1 σ) :=
  zEvI_of 1 rfl rfl (z_X0_ownBody g p0 p1 σ)
abbrev mX0_above (g : ZG) (q : Nat) : ZM := (yX0_above, cX0_above, 1, (some .int), zRm q 0 0, zTg g 0 0)
def s_X0_above (p0 : Int32) (σ : ZSt) : Option Int32 :=
  if p0 < (0 : Int32) then (some (-1 : Int32))
    else (if (8 : Int32) ≤ p0 then (some (-1 : Int32))
      else (zLd (zIn p0 8) (zABV p0.toNatClampNeg) fun v1 => (some v1)))
set_option maxHeartbeats 4000000 in
set_option maxRecDepth 100000 in
theorem z_X0_above (g : ZG) (p0 : Int32) (σ : ZSt) : Zo g (mX0_above g 0) (fun b : Int32 => (some (.int b), zw σ)) (s_X0_above p0 σ) 0 0 0 [some (.int p0)] [] (zw σ) := by
  unfold s_X0_above
  refine Zo_iload0 dX0_above_0 ?_
  refine Zo_iflt 18 dX0_above_1 (by decide) ?_ ?_
  · refine Zo_iconst (-1 : Int32) dX0_above_18 ic_m1 ?_
    exact Zo_iret dX0_above_19 rfl rfl (Nat.le_refl _) (Nat.le_refl _)
  · refine Zo_iload0 dX0_above_4 ?_
    refine Zo_bipush (8 : Int32) dX0_above_5 bp_8 ?_
    refine Zo_icmpge 18 dX0_above_7 (by decide) ?_ ?_
    · refine Zo_iconst (-1 : Int32) dX0_above_18 ic_m1 ?_
      exact Zo_iret dX0_above_19 rfl rfl (Nat.le_refl _) (Nat.le_refl _)
    · refine Zo_gsABV rfl gs_ABOVE dX0_above_10 ?_
      refine Zo_iload0 dX0_above_13 ?_
      refine Zo_tiABV dX0_above_14 fun v1 => ?_
      refine Zo_goto 19 dX0_above_15 (by decide) ?_
      exact Zo_iret dX0_above_19 rfl rfl (Nat.le_refl _) (Nat.le_refl _)
theorem e_X0_above (g : ZG) (p0 : Int32) (σ : ZSt) : zEvI g 0 yX0_above cX0_above 1 (some .int) [.int p0] σ (s_X0_above p0 σ) :=
  zEvI_of 0 rfl rfl (z_X0_above g p0 σ)
abbrev mX0_begin (g : ZG) (q : Nat) : ZM := (yX0_begin, cX0_begin, 7, (some .int), zRm q 0 0, zTg g 0 0)
def s_X0_begin_C28 (f_X0_from : Int32 → Int32 → Int32 → Int32 → ZSt → Option (Int32 × ZSt)) (f_X0_self : Int32 → Int32 → Int32 → ZSt → Option (Int32 × ZSt)) (l1 : Int32) (l2 : Int32) (l3 : Int32) (l4 : Int32) (σ : ZSt) : Option (Int32 × ZSt) :=
  zSt' (zWD σ 48 3 ((σ.1 48 3) + (1 : Int32))) fun σ1 => ((s_X0_above l2 σ1).bind fun r2 => (if l1 = (1 : Int32) then (some ((l3 + (σ1.1 48 4)), σ1))
    else (if l1 = (2 : Int32) then ((f_X0_self (1 : Int32) l3 (l4 + (1 : Int32)) σ1).bind fun r3 => ((f_X0_self (2 : Int32) (1 : Int32) (l4 + (1 : Int32)) r3.2).bind fun r4 => (some ((r3.1 - r4.1), r4.2))))
    else (if l1 = (10 : Int32) then ((f_X0_self (0 : Int32) l3 (l4 + (1 : Int32)) σ1).bind fun r5 => (some ((r5.1 * (2 : Int32)), r5.2)))
    else (if l1 = (11 : Int32) then (some ((l3 ^^^ (σ1.1 48 4)), σ1))
    else (if l1 = (20 : Int32) then ((f_X0_from r2 (0 : Int32) l3 (l4 + (1 : Int32)) σ1).bind fun r6 => (some ((r6.1 + (3 : Int32)), r6.2)))
    else (if l1 = (30 : Int32) then ((f_X0_from r2 (1 : Int32) l3 (l4 + (1 : Int32)) σ1).bind fun r7 => (some ((-r7.1), r7.2)))
    else (if l1 = (40 : Int32) then ((f_X0_from r2 (2 : Int32) l3 (l4 + (1 : Int32)) σ1).bind fun r8 => (some ((r8.1 * (3 : Int32)), r8.2)))
    else (if l1 = (41 : Int32) then ((f_X0_from r2 (0 : Int32) (l3 + (1 : Int32)) (l4 + (1 : Int32)) σ1).bind fun r9 => (some (r9.1, r9.2)))
    else (if l1 = (50 : Int32) then ((f_X0_from r2 (2 : Int32) l3 (l4 + (1 : Int32)) σ1).bind fun r10 => ((f_X0_self (0 : Int32) (2 : Int32) (l4 + (1 : Int32)) r10.2).bind fun r11 => (some ((r10.1 - r11.1), r11.2))))
    else (if l1 = (60 : Int32) then ((f_X0_from r2 (3 : Int32) l3 (l4 + (1 : Int32)) σ1).bind fun r12 => (some ((r12.1 ^^^ (5 : Int32)), r12.2)))
    else (if l1 = (70 : Int32) then ((f_X0_from r2 (0 : Int32) l3 (l4 + (1 : Int32)) σ1).bind fun r13 => (some ((r13.1 * (2 : Int32)), r13.2)))
    else (if l1 = (80 : Int32) then ((f_X0_from r2 (1 : Int32) l3 (l4 + (1 : Int32)) σ1).bind fun r14 => ((f_X0_self (2 : Int32) (2 : Int32) (l4 + (1 : Int32)) r14.2).bind fun r15 => (some ((r14.1 + r15.1), r15.2))))
    else (if l1 = (81 : Int32) then ((f_X0_from r2 (3 : Int32) l3 (l4 + (1 : Int32)) σ1).bind fun r16 => (some ((r16.1 - (1 : Int32)), r16.2)))
    else (some ((0 : Int32), σ1))))))))))))))))
set_option maxHeartbeats 4000000 in
set_option maxRecDepth 100000 in
theorem z_X0_begin_C28 (g : ZG) (q : Nat) (hq : 2 < q) (q2 : Nat) (hq2 : q2 < q) (f_X0_from : Int32 → Int32 → Int32 → Int32 → ZSt → Option (Int32 × ZSt)) (hf_X0_from : ∀ (p0 : Int32) (p1 : Int32) (p2 : Int32) (p3 : Int32) (σ : ZSt), zEvS g q2 yX0_from cX0_from 7 (some .int) [.ref 48, .int p0, .int p1, .int p2, .int p3] σ (f_X0_from p0 p1 p2 p3 σ)) (f_X0_self : Int32 → Int32 → Int32 → ZSt → Option (Int32 × ZSt)) (hf_X0_self : ∀ (p0 : Int32) (p1 : Int32) (p2 : Int32) (σ : ZSt), zEvS g q2 yX0_self cX0_self 4 (some .int) [.ref 48, .int p0, .int p1, .int p2] σ (f_X0_self p0 p1 p2 σ)) (l1 : Int32) (l2 : Int32) (l3 : Int32) (l4 : Int32) (σ : ZSt) (o5 : Option Value) (o6 : Option Value) : Zo g (mX0_begin g q) (fun b : Int32 × ZSt => (some (.int b.1), zw b.2)) (s_X0_begin_C28 f_X0_from f_X0_self l1 l2 l3 l4 σ) 0 0 28 [some (.ref 48), some (.int l1), some (.int l2), some (.int l3), some (.int l4), o5, o6] [] (zw σ) := by
  unfold s_X0_begin_C28
  refine Zo_aload0 dX0_begin_28 ?_
  refine Zo_dup dX0_begin_29 rfl ?_
  refine Zo_geti fl_X0_22 kd_48 dX0_begin_30 ?_
  refine Zo_iconst (1 : Int32) dX0_begin_33 ic_1 ?_
  refine Zo_iadd dX0_begin_34 ?_
  refine Zo_puti fl_X0_22 kd_48 dX0_begin_35 fun σ1 => ?_
  refine Zo_iload2 dX0_begin_38 ?_
  show Zo g _ _ _ 0 0 39 _ _ _
  refine Zo_cSI1 lk_X0_32 (e_X0_above g _ _) (zFit_rm (by omega)) (zle rfl) dX0_begin_39 fun r2 => ?_
  refine Zo_istore5 rfl (zlt rfl) dX0_begin_42 ?_
  refine Zo_iload4 dX0_begin_44 ?_
  refine Zo_iconst (1 : Int32) dX0_begin_46 ic_1 ?_
  refine Zo_iadd dX0_begin_47 ?_
  refine Zo_istore6 rfl (zlt rfl) dX0_begin_48 ?_
  refine Zo_iload1 dX0_begin_50 ?_
  refine Zo_ite (fun hc1 => ?_) (fun hc1 => ?_)
  · refine Zo_lswC (off := 113) (1 : Int32) 164 hc1 dX0_begin_51 (by decide) (by decide) (by decide) ?_
    refine Zo_iload3 dX0_begin_164 ?_
    refine Zo_aload0 dX0_begin_165 ?_
    refine Zo_geti fl_X0_40 kd_48 dX0_begin_166 ?_
    refine Zo_iadd dX0_begin_169 ?_
    exact Zo_iret dX0_begin_170 rfl rfl (Nat.le_refl _) (Nat.le_refl _)
  refine Zo_ite (fun hc2 => ?_) (fun hc2 => ?_)
  · refine Zo_lswC (off := 120) (2 : Int32) 171 hc2 dX0_begin_51 (by decide) (by decide) (by decide) ?_
    refine Zo_aload0 dX0_begin_171 ?_
    refine Zo_iconst (1 : Int32) dX0_begin_172 ic_1 ?_
    refine Zo_iload3 dX0_begin_173 ?_
    refine Zo_iload6 dX0_begin_174 ?_
    refine Zo_cVS3 lk_X0_43 (hf_X0_self _ _ _ _) kd_48 (zFit_rm hq2) (zle rfl) dX0_begin_176 fun r3 => ?_
    refine Zo_aload0 dX0_begin_179 ?_
    refine Zo_iconst (2 : Int32) dX0_begin_180 ic_2 ?_
    show Zo g _ _ _ 0 0 181 _ _ _
    refine Zo_iconst (1 : Int32) dX0_begin_181 ic_1 ?_
    refine Zo_iload6 dX0_begin_182 ?_
    refine Zo_cVS3 lk_X0_43 (hf_X0_self _ _ _ _) kd_48 (zFit_rm hq2) (zle rfl) dX0_begin_184 fun r4 => ?_
    refine Zo_isub dX0_begin_187 ?_
    exact Zo_iret dX0_begin_188 rfl rfl (Nat.le_refl _) (Nat.le_refl _)
  refine Zo_ite (fun hc10 => ?_) (fun hc10 => ?_)
  · refine Zo_lswC (off := 138) (10 : Int32) 189 hc10 dX0_begin_51 (by decide) (by decide) (by decide) ?_
    refine Zo_aload0 dX0_begin_189 ?_
    refine Zo_iconst (0 : Int32) dX0_begin_190 ic_0 ?_
    refine Zo_iload3 dX0_begin_191 ?_
    refine Zo_iload6 dX0_begin_192 ?_
    refine Zo_cVS3 lk_X0_43 (hf_X0_self _ _ _ _) kd_48 (zFit_rm hq2) (zle rfl) dX0_begin_194 fun r5 => ?_
    refine Zo_iconst (2 : Int32) dX0_begin_197 ic_2 ?_
    refine Zo_imul dX0_begin_198 ?_
    show Zo g _ _ _ 0 0 199 _ _ _
    exact Zo_iret dX0_begin_199 rfl rfl (Nat.le_refl _) (Nat.le_refl _)
  refine Zo_ite (fun hc11 => ?_) (fun hc11 => ?_)
  · refine Zo_lswC (off := 149) (11 : Int32) 200 hc11 dX0_begin_51 (by decide) (by decide) (by decide) ?_
    refine Zo_iload3 dX0_begin_200 ?_
    refine Zo_aload0 dX0_begin_201 ?_
    refine Zo_geti fl_X0_40 kd_48 dX0_begin_202 ?_
    refine Zo_ixor dX0_begin_205 ?_
    exact Zo_iret dX0_begin_206 rfl rfl (Nat.le_refl _) (Nat.le_refl _)
  refine Zo_ite (fun hc20 => ?_) (fun hc20 => ?_)
  · refine Zo_lswC (off := 156) (20 : Int32) 207 hc20 dX0_begin_51 (by decide) (by decide) (by decide) ?_
    refine Zo_aload0 dX0_begin_207 ?_
    refine Zo_iload5 dX0_begin_208 ?_
    refine Zo_iconst (0 : Int32) dX0_begin_210 ic_0 ?_
    refine Zo_iload3 dX0_begin_211 ?_
    refine Zo_iload6 dX0_begin_212 ?_
    refine Zo_cVS4 lk_X0_50 (hf_X0_from _ _ _ _ _) kd_48 (zFit_rm hq2) (zle rfl) dX0_begin_214 fun r6 => ?_
    refine Zo_iconst (3 : Int32) dX0_begin_217 ic_3 ?_
    show Zo g _ _ _ 0 0 218 _ _ _
    refine Zo_iadd dX0_begin_218 ?_
    exact Zo_iret dX0_begin_219 rfl rfl (Nat.le_refl _) (Nat.le_refl _)
  refine Zo_ite (fun hc30 => ?_) (fun hc30 => ?_)
  · refine Zo_lswC (off := 169) (30 : Int32) 220 hc30 dX0_begin_51 (by decide) (by decide) (by decide) ?_
    refine Zo_aload0 dX0_begin_220 ?_
    refine Zo_iload5 dX0_begin_221 ?_
    refine Zo_iconst (1 : Int32) dX0_begin_223 ic_1 ?_
    refine Zo_iload3 dX0_begin_224 ?_
    refine Zo_iload6 dX0_begin_225 ?_
    refine Zo_cVS4 lk_X0_50 (hf_X0_from _ _ _ _ _) kd_48 (zFit_rm hq2) (zle rfl) dX0_begin_227 fun r7 => ?_
    refine Zo_ineg dX0_begin_230 ?_
    show Zo g _ _ _ 0 0 231 _ _ _
    exact Zo_iret dX0_begin_231 rfl rfl (Nat.le_refl _) (Nat.le_refl _)
  refine Zo_ite (fun hc40 => ?_) (fun hc40 => ?_)
  · refine Zo_lswC (off := 181) (40 : Int32) 232 hc40 dX0_begin_51 (by decide) (by decide) (by decide) ?_
    refine Zo_aload0 dX0_begin_232 ?_
    refine Zo_iload5 dX0_begin_233 ?_
    refine Zo_iconst (2 : Int32) dX0_begin_235 ic_2 ?_
    refine Zo_iload3 dX0_begin_236 ?_
    refine Zo_iload6 dX0_begin_237 ?_
    refine Zo_cVS4 lk_X0_50 (hf_X0_from _ _ _ _ _) kd_48 (zFit_rm hq2) (zle rfl) dX0_begin_239 fun r8 => ?_
    refine Zo_iconst (3 : Int32) dX0_begin_242 ic_3 ?_
    show Zo g _ _ _ 0 0 243 _ _ _
    refine Zo_imul dX0_begin_243 ?_
    exact Zo_iret dX0_begin_244 rfl rfl (Nat.le_refl _) (Nat.le_refl _)
  refine Zo_ite (fun hc41 => ?_) (fun hc41 => ?_)
  · refine Zo_lswC (off := 194) (41 : Int32) 245 hc41 dX0_begin_51 (by decide) (by decide) (by decide) ?_
    refine Zo_aload0 dX0_begin_245 ?_
    refine Zo_iload5 dX0_begin_246 ?_
    refine Zo_iconst (0 : Int32) dX0_begin_248 ic_0 ?_
    refine Zo_iload3 dX0_begin_249 ?_
    refine Zo_iconst (1 : Int32) dX0_begin_250 ic_1 ?_
    refine Zo_iadd dX0_begin_251 ?_
    refine Zo_iload6 dX0_begin_252 ?_
    show Zo g _ _ _ 0 0 254 _ _ _
    refine Zo_cVS4 lk_X0_50 (hf_X0_from _ _ _ _ _) kd_48 (zFit_rm hq2) (zle rfl) dX0_begin_254 fun r9 => ?_
    exact Zo_iret dX0_begin_257 rfl rfl (Nat.le_refl _) (Nat.le_refl _)
  refine Zo_ite (fun hc50 => ?_) (fun hc50 => ?_)
  · refine Zo_lswC (off := 207) (50 : Int32) 258 hc50 dX0_begin_51 (by decide) (by decide) (by decide) ?_
    refine Zo_aload0 dX0_begin_258 ?_
    refine Zo_iload5 dX0_begin_259 ?_
    refine Zo_iconst (2 : Int32) dX0_begin_261 ic_2 ?_
    refine Zo_iload3 dX0_begin_262 ?_
    refine Zo_iload6 dX0_begin_263 ?_
    refine Zo_cVS4 lk_X0_50 (hf_X0_from _ _ _ _ _) kd_48 (zFit_rm hq2) (zle rfl) dX0_begin_265 fun r10 => ?_
    refine Zo_aload0 dX0_begin_268 ?_
    show Zo g _ _ _ 0 0 269 _ _ _
    refine Zo_iconst (0 : Int32) dX0_begin_269 ic_0 ?_
    refine Zo_iconst (2 : Int32) dX0_begin_270 ic_2 ?_
    refine Zo_iload6 dX0_begin_271 ?_
    refine Zo_cVS3 lk_X0_43 (hf_X0_self _ _ _ _) kd_48 (zFit_rm hq2) (zle rfl) dX0_begin_273 fun r11 => ?_
    refine Zo_isub dX0_begin_276 ?_
    exact Zo_iret dX0_begin_277 rfl rfl (Nat.le_refl _) (Nat.le_refl _)
  refine Zo_ite (fun hc60 => ?_) (fun hc60 => ?_)
  · refine Zo_lswC (off := 227) (60 : Int32) 278 hc60 dX0_begin_51 (by decide) (by decide) (by decide) ?_
    refine Zo_aload0 dX0_begin_278 ?_
    refine Zo_iload5 dX0_begin_279 ?_
    refine Zo_iconst (3 : Int32) dX0_begin_281 ic_3 ?_
    refine Zo_iload3 dX0_begin_282 ?_
    refine Zo_iload6 dX0_begin_283 ?_
    refine Zo_cVS4 lk_X0_50 (hf_X0_from _ _ _ _ _) kd_48 (zFit_rm hq2) (zle rfl) dX0_begin_285 fun r12 => ?_
    refine Zo_iconst (5 : Int32) dX0_begin_288 ic_5 ?_
    show Zo g _ _ _ 0 0 289 _ _ _
    refine Zo_ixor dX0_begin_289 ?_
    exact Zo_iret dX0_begin_290 rfl rfl (Nat.le_refl _) (Nat.le_refl _)
  refine Zo_ite (fun hc70 => ?_) (fun hc70 => ?_)
  · refine Zo_lswC (off := 240) (70 : Int32) 291 hc70 dX0_begin_51 (by decide) (by decide) (by decide) ?_
    refine Zo_aload0 dX0_begin_291 ?_
    refine Zo_iload5 dX0_begin_292 ?_
    refine Zo_iconst (0 : Int32) dX0_begin_294 ic_0 ?_
    refine Zo_iload3 dX0_begin_295 ?_
    refine Zo_iload6 dX0_begin_296 ?_
    refine Zo_cVS4 lk_X0_50 (hf_X0_from _ _ _ _ _) kd_48 (zFit_rm hq2) (zle rfl) dX0_begin_298 fun r13 => ?_
    refine Zo_iconst (2 : Int32) dX0_begin_301 ic_2 ?_
    show Zo g _ _ _ 0 0 302 _ _ _
    refine Zo_imul dX0_begin_302 ?_
    exact Zo_iret dX0_begin_303 rfl rfl (Nat.le_refl _) (Nat.le_refl _)
  refine Zo_ite (fun hc80 => ?_) (fun hc80 => ?_)
  · refine Zo_lswC (off := 253) (80 : Int32) 304 hc80 dX0_begin_51 (by decide) (by decide) (by decide) ?_
    refine Zo_aload0 dX0_begin_304 ?_
    refine Zo_iload5 dX0_begin_305 ?_
    refine Zo_iconst (1 : Int32) dX0_begin_307 ic_1 ?_
    refine Zo_iload3 dX0_begin_308 ?_
    refine Zo_iload6 dX0_begin_309 ?_
    refine Zo_cVS4 lk_X0_50 (hf_X0_from _ _ _ _ _) kd_48 (zFit_rm hq2) (zle rfl) dX0_begin_311 fun r14 => ?_
    refine Zo_aload0 dX0_begin_314 ?_
    show Zo g _ _ _ 0 0 315 _ _ _
    refine Zo_iconst (2 : Int32) dX0_begin_315 ic_2 ?_
    refine Zo_iconst (2 : Int32) dX0_begin_316 ic_2 ?_
    refine Zo_iload6 dX0_begin_317 ?_
    refine Zo_cVS3 lk_X0_43 (hf_X0_self _ _ _ _) kd_48 (zFit_rm hq2) (zle rfl) dX0_begin_319 fun r15 => ?_
    refine Zo_iadd dX0_begin_322 ?_
    exact Zo_iret dX0_begin_323 rfl rfl (Nat.le_refl _) (Nat.le_refl _)
  refine Zo_ite (fun hc81 => ?_) (fun hc81 => ?_)
  · refine Zo_lswC (off := 273) (81 : Int32) 324 hc81 dX0_begin_51 (by decide) (by decide) (by decide) ?_
    refine Zo_aload0 dX0_begin_324 ?_
    refine Zo_iload5 dX0_begin_325 ?_
    refine Zo_iconst (3 : Int32) dX0_begin_327 ic_3 ?_
    refine Zo_iload3 dX0_begin_328 ?_
    refine Zo_iload6 dX0_begin_329 ?_
    refine Zo_cVS4 lk_X0_50 (hf_X0_from _ _ _ _ _) kd_48 (zFit_rm hq2) (zle rfl) dX0_begin_331 fun r16 => ?_
    refine Zo_iconst (1 : Int32) dX0_begin_334 ic_1 ?_
    show Zo g _ _ _ 0 0 335 _ _ _
    refine Zo_isub dX0_begin_335 ?_
    exact Zo_iret dX0_begin_336 rfl rfl (Nat.le_refl _) (Nat.le_refl _)
  refine Zo_lsw 337 dX0_begin_51 (by decide) (zlsw_out ⟨zne_1 hc1, zne_2 hc2, zne_10 hc10, zne_11 hc11, zne_20 hc20, zne_30 hc30, zne_40 hc40, zne_41 hc41, zne_50 hc50, zne_60 hc60, zne_70 hc70, zne_80 hc80, zne_81 hc81, trivial⟩) (by decide) ?_
  refine Zo_iconst (0 : Int32) dX0_begin_337 ic_0 ?_
  exact Zo_iret dX0_begin_338 rfl rfl (Nat.le_refl _) (Nat.le_refl _)
def s_X0_begin (f_X0_from : Int32 → Int32 → Int32 → Int32 → ZSt → Option (Int32 × ZSt)) (f_X0_self : Int32 → Int32 → Int32 → ZSt → Option (Int32 × ZSt)) (p0 : Int32) (p1 : Int32) (p2 : Int32) (p3 : Int32) (σ : ZSt) : Option (Int32 × ZSt) :=
  if p3 < (30 : Int32) then (if (24 : Int32) ≤ (σ.1 48 3) then (s_X0_begin_C28 f_X0_from f_X0_self p0 p1 p2 p3 σ)
      else (zSg (zIn (σ.1 48 3) 24) (zWD σ 50 (σ.1 48 3).toNatClampNeg p0) fun σ1 => (s_X0_begin_C28 f_X0_from f_X0_self p0 p1 p2 p3 σ1)))
    else (some ((0 : Int32), σ))
set_option maxHeartbeats 4000000 in
set_option maxRecDepth 100000 in
theorem z_X0_begin (g : ZG) (q : Nat) (hq : 2 < q) (q2 : Nat) (hq2 : q2 < q) (f_X0_from : Int32 → Int32 → Int32 → Int32 → ZSt → Option (Int32 × ZSt)) (hf_X0_from : ∀ (p0 : Int32) (p1 : Int32) (p2 : Int32) (p3 : Int32) (σ : ZSt), zEvS g q2 yX0_from cX0_from 7 (some .int) [.ref 48, .int p0, .int p1, .int p2, .int p3] σ (f_X0_from p0 p1 p2 p3 σ)) (f_X0_self : Int32 → Int32 → Int32 → ZSt → Option (Int32 × ZSt)) (hf_X0_self : ∀ (p0 : Int32) (p1 : Int32) (p2 : Int32) (σ : ZSt), zEvS g q2 yX0_self cX0_self 4 (some .int) [.ref 48, .int p0, .int p1, .int p2] σ (f_X0_self p0 p1 p2 σ)) (p0 : Int32) (p1 : Int32) (p2 : Int32) (p3 : Int32) (σ : ZSt) : Zo g (mX0_begin g q) (fun b : Int32 × ZSt => (some (.int b.1), zw b.2)) (s_X0_begin f_X0_from f_X0_self p0 p1 p2 p3 σ) 0 0 0 [some (.ref 48), some (.int p0), some (.int p1), some (.int p2), some (.int p3), none, none] [] (zw σ) := by
  unfold s_X0_begin
  refine Zo_iload4 dX0_begin_0 ?_
  refine Zo_bipush (30 : Int32) dX0_begin_2 bp_30 ?_
  refine Zo_icmplt 9 dX0_begin_4 (by decide) ?_ ?_
  · refine Zo_aload0 dX0_begin_9 ?_
    refine Zo_geti fl_X0_22 kd_48 dX0_begin_10 ?_
    refine Zo_bipush (24 : Int32) dX0_begin_13 bp_24 ?_
    refine Zo_icmpge 28 dX0_begin_15 (by decide) ?_ ?_
    · exact z_X0_begin_C28 g q hq q2 hq2 f_X0_from hf_X0_from f_X0_self hf_X0_self _ _ _ _ _ _ _
    · refine Zo_aload0 dX0_begin_18 ?_
      refine Zo_getr (j := 50) fl_X0_15 kd_48 rfl dX0_begin_19 ?_
      refine Zo_aload0 dX0_begin_22 ?_
      refine Zo_geti fl_X0_22 kd_48 dX0_begin_23 ?_
      refine Zo_iload1 dX0_begin_26 ?_
      refine Zo_iast kd_50 dX0_begin_27 fun σ1 => ?_
      exact z_X0_begin_C28 g q hq q2 hq2 f_X0_from hf_X0_from f_X0_self hf_X0_self _ _ _ _ _ _ _
  · refine Zo_iconst (0 : Int32) dX0_begin_7 ic_0 ?_
    exact Zo_iret dX0_begin_8 rfl rfl (Nat.le_refl _) (Nat.le_refl _)
theorem e_X0_begin (g : ZG) (q : Nat) (hq : 2 < q) (q2 : Nat) (hq2 : q2 < q) (f_X0_from : Int32 → Int32 → Int32 → Int32 → ZSt → Option (Int32 × ZSt)) (hf_X0_from : ∀ (p0 : Int32) (p1 : Int32) (p2 : Int32) (p3 : Int32) (σ : ZSt), zEvS g q2 yX0_from cX0_from 7 (some .int) [.ref 48, .int p0, .int p1, .int p2, .int p3] σ (f_X0_from p0 p1 p2 p3 σ)) (f_X0_self : Int32 → Int32 → Int32 → ZSt → Option (Int32 × ZSt)) (hf_X0_self : ∀ (p0 : Int32) (p1 : Int32) (p2 : Int32) (σ : ZSt), zEvS g q2 yX0_self cX0_self 4 (some .int) [.ref 48, .int p0, .int p1, .int p2] σ (f_X0_self p0 p1 p2 σ)) (p0 : Int32) (p1 : Int32) (p2 : Int32) (p3 : Int32) (σ : ZSt) : zEvS g q yX0_begin cX0_begin 7 (some .int) [.ref 48, .int p0, .int p1, .int p2, .int p3] σ (s_X0_begin f_X0_from f_X0_self p0 p1 p2 p3 σ) :=
  zEvS_of 2 rfl rfl (z_X0_begin g q hq q2 hq2 f_X0_from hf_X0_from f_X0_self hf_X0_self p0 p1 p2 p3 σ)
abbrev mX0_from (g : ZG) (q : Nat) : ZM := (yX0_from, cX0_from, 7, (some .int), zRm q 0 0, zTg g 0 0)
def s_X0_from_C27 (f_X0_begin : Int32 → Int32 → Int32 → Int32 → ZSt → Option (Int32 × ZSt)) (l2 : Int32) (l3 : Int32) (l4 : Int32) (l5 : Int32) (σ : ZSt) : Option (Int32 × ZSt) :=
  (s_X0_ownBody l5 l2 σ).bind fun r1 => ((f_X0_begin r1 l5 l3 l4 σ).bind fun r2 => (some (r2.1, r2.2)))
set_option maxHeartbeats 4000000 in
set_option maxRecDepth 100000 in
theorem z_X0_from_C27 (g : ZG) (q : Nat) (hq : 2 < q) (q2 : Nat) (hq2 : q2 < q) (f_X0_begin : Int32 → Int32 → Int32 → Int32 → ZSt → Option (Int32 × ZSt)) (hf_X0_begin : ∀ (p0 : Int32) (p1 : Int32) (p2 : Int32) (p3 : Int32) (σ : ZSt), zEvS g q2 yX0_begin cX0_begin 7 (some .int) [.ref 48, .int p0, .int p1, .int p2, .int p3] σ (f_X0_begin p0 p1 p2 p3 σ)) (l2 : Int32) (l3 : Int32) (l4 : Int32) (l5 : Int32) (σ : ZSt) (o1 : Option Value) (o6 : Option Value) : Zo g (mX0_from g q) (fun b : Int32 × ZSt => (some (.int b.1), zw b.2)) (s_X0_from_C27 f_X0_begin l2 l3 l4 l5 σ) 0 0 27 [some (.ref 48), o1, some (.int l2), some (.int l3), some (.int l4), some (.int l5), o6] [] (zw σ) := by
  unfold s_X0_from_C27
  refine Zo_aload0 dX0_from_27 ?_
  refine Zo_iload5 dX0_from_28 ?_
  refine Zo_iload2 dX0_from_30 ?_
  refine Zo_cSI2 lk_X0_54 (e_X0_ownBody g _ _ _) (zFit_rm (by omega)) (zle rfl) dX0_from_31 fun r1 => ?_
  refine Zo_iload5 dX0_from_34 ?_
  refine Zo_iload3 dX0_from_36 ?_
  refine Zo_iload4 dX0_from_37 ?_
  show Zo g _ _ _ 0 0 39 _ _ _
  refine Zo_cVS4 lk_X0_58 (hf_X0_begin _ _ _ _ _) kd_48 (zFit_rm hq2) (zle rfl) dX0_from_39 fun r2 => ?_
  exact Zo_iret dX0_from_42 rfl rfl (Nat.le_refl _) (Nat.le_refl _)
def s_X0_from_L6 (f_X0_begin : Int32 → Int32 → Int32 → Int32 → ZSt → Option (Int32 × ZSt)) (l2 : Int32) (l3 : Int32) (l4 : Int32) (σ : ZSt) : Nat → Int32 → Int32 → Option (Int32 × ZSt)
  | 0, _, _ => none
  | n + 1, l5, l6 =>
    if (8 : Int32) ≤ l6 then (some ((0 : Int32), σ))
      else (if l5 < (0 : Int32) then (some ((0 : Int32), σ))
        else ((s_X0_ownBody l5 l2 σ).bind fun r1 => (if r1 = (0 : Int32) then ((s_X0_above l5 σ).bind fun r2 => (s_X0_from_L6 f_X0_begin l2 l3 l4 σ n r2 (l6 + (1 : Int32))))
          else (s_X0_from_C27 f_X0_begin l2 l3 l4 l5 σ))))
set_option maxHeartbeats 4000000 in
set_option maxRecDepth 100000 in
theorem z_X0_from_L6 (g : ZG) (q : Nat) (hq : 2 < q) (q2 : Nat) (hq2 : q2 < q) (f_X0_begin : Int32 → Int32 → Int32 → Int32 → ZSt → Option (Int32 × ZSt)) (hf_X0_begin : ∀ (p0 : Int32) (p1 : Int32) (p2 : Int32) (p3 : Int32) (σ : ZSt), zEvS g q2 yX0_begin cX0_begin 7 (some .int) [.ref 48, .int p0, .int p1, .int p2, .int p3] σ (f_X0_begin p0 p1 p2 p3 σ)) (l2 : Int32) (l3 : Int32) (l4 : Int32) (σ : ZSt) : ∀ (n : Nat) (l5 : Int32) (l6 : Int32) (o1 : Option Value), Zo g (mX0_from g q) (fun b : Int32 × ZSt => (some (.int b.1), zw b.2)) (s_X0_from_L6 f_X0_begin l2 l3 l4 σ n l5 l6) 0 0 6 [some (.ref 48), o1, some (.int l2), some (.int l3), some (.int l4), some (.int l5), some (.int l6)] [] (zw σ) := by
  intro n
  induction n with
  | zero => intros; exact Zo_none
  | succ n ih =>
    intro l5 l6 o1
    rw [s_X0_from_L6]
    refine Zo_iload6 dX0_from_6 ?_
    refine Zo_bipush (8 : Int32) dX0_from_8 bp_8 ?_
    refine Zo_icmpge 56 dX0_from_10 (by decide) ?_ ?_
    · refine Zo_iconst (0 : Int32) dX0_from_56 ic_0 ?_
      exact Zo_iret dX0_from_57 rfl rfl (Nat.le_refl _) (Nat.le_refl _)
    · refine Zo_iload5 dX0_from_13 ?_
      refine Zo_iflt 56 dX0_from_15 (by decide) ?_ ?_
      · refine Zo_iconst (0 : Int32) dX0_from_56 ic_0 ?_
        exact Zo_iret dX0_from_57 rfl rfl (Nat.le_refl _) (Nat.le_refl _)
      · refine Zo_iload5 dX0_from_18 ?_
        refine Zo_iload2 dX0_from_20 ?_
        refine Zo_cSI2 lk_X0_54 (e_X0_ownBody g _ _ _) (zFit_rm (by omega)) (zle rfl) dX0_from_21 fun r1 => ?_
        refine Zo_ifeq 43 dX0_from_24 (by decide) ?_ ?_
        · refine Zo_iload5 dX0_from_43 ?_
          refine Zo_cSI1 lk_X0_32 (e_X0_above g _ _) (zFit_rm (by omega)) (zle rfl) dX0_from_45 fun r2 => ?_
          refine Zo_istore5 rfl (zlt rfl) dX0_from_48 ?_
          refine Zo_iinc6 rfl (1 : Int32) ic_1 (zlt rfl) dX0_from_50 ?_
          refine Zo_goto 6 dX0_from_53 (by decide) ?_
          exact ih _ _ _
        · exact z_X0_from_C27 g q hq q2 hq2 f_X0_begin hf_X0_begin _ _ _ _ _ _ _
def s_X0_from (f_X0_begin : Int32 → Int32 → Int32 → Int32 → ZSt → Option (Int32 × ZSt)) (p0 : Int32) (p1 : Int32) (p2 : Int32) (p3 : Int32) (σ : ZSt) : Option (Int32 × ZSt) :=
  s_X0_from_L6 f_X0_begin p1 p2 p3 σ 200 p0 (0 : Int32)
set_option maxHeartbeats 4000000 in
set_option maxRecDepth 100000 in
theorem z_X0_from (g : ZG) (q : Nat) (hq : 2 < q) (q2 : Nat) (hq2 : q2 < q) (f_X0_begin : Int32 → Int32 → Int32 → Int32 → ZSt → Option (Int32 × ZSt)) (hf_X0_begin : ∀ (p0 : Int32) (p1 : Int32) (p2 : Int32) (p3 : Int32) (σ : ZSt), zEvS g q2 yX0_begin cX0_begin 7 (some .int) [.ref 48, .int p0, .int p1, .int p2, .int p3] σ (f_X0_begin p0 p1 p2 p3 σ)) (p0 : Int32) (p1 : Int32) (p2 : Int32) (p3 : Int32) (σ : ZSt) : Zo g (mX0_from g q) (fun b : Int32 × ZSt => (some (.int b.1), zw b.2)) (s_X0_from f_X0_begin p0 p1 p2 p3 σ) 0 0 0 [some (.ref 48), some (.int p0), some (.int p1), some (.int p2), some (.int p3), none, none] [] (zw σ) := by
  unfold s_X0_from
  refine Zo_iload1 dX0_from_0 ?_
  refine Zo_istore5 rfl (zlt rfl) dX0_from_1 ?_
  refine Zo_iconst (0 : Int32) dX0_from_3 ic_0 ?_
  refine Zo_istore6 rfl (zlt rfl) dX0_from_4 ?_
  exact z_X0_from_L6 g q hq q2 hq2 f_X0_begin hf_X0_begin _ _ _ _ _ _ _ _
theorem e_X0_from (g : ZG) (q : Nat) (hq : 2 < q) (q2 : Nat) (hq2 : q2 < q) (f_X0_begin : Int32 → Int32 → Int32 → Int32 → ZSt → Option (Int32 × ZSt)) (hf_X0_begin : ∀ (p0 : Int32) (p1 : Int32) (p2 : Int32) (p3 : Int32) (σ : ZSt), zEvS g q2 yX0_begin cX0_begin 7 (some .int) [.ref 48, .int p0, .int p1, .int p2, .int p3] σ (f_X0_begin p0 p1 p2 p3 σ)) (p0 : Int32) (p1 : Int32) (p2 : Int32) (p3 : Int32) (σ : ZSt) : zEvS g q yX0_from cX0_from 7 (some .int) [.ref 48, .int p0, .int p1, .int p2, .int p3] σ (s_X0_from f_X0_begin p0 p1 p2 p3 σ) :=
  zEvS_of 2 rfl rfl (z_X0_from g q hq q2 hq2 f_X0_begin hf_X0_begin p0 p1 p2 p3 σ)
abbrev mX0_self (g : ZG) (q : Nat) : ZM := (yX0_self, cX0_self, 4, (some .int), zRm q 0 0, zTg g 0 0)
def s_X0_self (f_X0_from : Int32 → Int32 → Int32 → Int32 → ZSt → Option (Int32 × ZSt)) (p0 : Int32) (p1 : Int32) (p2 : Int32) (σ : ZSt) : Option (Int32 × ZSt) :=
  (s_X0_kindOf (σ.1 48 4) σ).bind fun r1 => ((f_X0_from r1 p0 p1 p2 σ).bind fun r2 => (some (r2.1, r2.2)))
set_option maxHeartbeats 4000000 in
set_option maxRecDepth 100000 in
theorem z_X0_self (g : ZG) (q : Nat) (hq : 2 < q) (q2 : Nat) (hq2 : q2 < q) (f_X0_from : Int32 → Int32 → Int32 → Int32 → ZSt → Option (Int32 × ZSt)) (hf_X0_from : ∀ (p0 : Int32) (p1 : Int32) (p2 : Int32) (p3 : Int32) (σ : ZSt), zEvS g q2 yX0_from cX0_from 7 (some .int) [.ref 48, .int p0, .int p1, .int p2, .int p3] σ (f_X0_from p0 p1 p2 p3 σ)) (p0 : Int32) (p1 : Int32) (p2 : Int32) (σ : ZSt) : Zo g (mX0_self g q) (fun b : Int32 × ZSt => (some (.int b.1), zw b.2)) (s_X0_self f_X0_from p0 p1 p2 σ) 0 0 0 [some (.ref 48), some (.int p0), some (.int p1), some (.int p2)] [] (zw σ) := by
  unfold s_X0_self
  refine Zo_aload0 dX0_self_0 ?_
  refine Zo_aload0 dX0_self_1 ?_
  refine Zo_aload0 dX0_self_2 ?_
  refine Zo_geti fl_X0_40 kd_48 dX0_self_3 ?_
  refine Zo_cVI1 lk_X0_47 (e_X0_kindOf g _ _) kd_48 (zFit_rm (by omega)) (zle rfl) dX0_self_6 fun r1 => ?_
  refine Zo_iload1 dX0_self_9 ?_
  refine Zo_iload2 dX0_self_10 ?_
  show Zo g _ _ _ 0 0 11 _ _ _
  refine Zo_iload3 dX0_self_11 ?_
  refine Zo_cVS4 lk_X0_50 (hf_X0_from _ _ _ _ _) kd_48 (zFit_rm hq2) (zle rfl) dX0_self_12 fun r2 => ?_
  exact Zo_iret dX0_self_15 rfl rfl (Nat.le_refl _) (Nat.le_refl _)
theorem e_X0_self (g : ZG) (q : Nat) (hq : 2 < q) (q2 : Nat) (hq2 : q2 < q) (f_X0_from : Int32 → Int32 → Int32 → Int32 → ZSt → Option (Int32 × ZSt)) (hf_X0_from : ∀ (p0 : Int32) (p1 : Int32) (p2 : Int32) (p3 : Int32) (σ : ZSt), zEvS g q2 yX0_from cX0_from 7 (some .int) [.ref 48, .int p0, .int p1, .int p2, .int p3] σ (f_X0_from p0 p1 p2 p3 σ)) (p0 : Int32) (p1 : Int32) (p2 : Int32) (σ : ZSt) : zEvS g q yX0_self cX0_self 4 (some .int) [.ref 48, .int p0, .int p1, .int p2] σ (s_X0_self f_X0_from p0 p1 p2 σ) :=
  zEvS_of 0 rfl rfl (z_X0_self g q hq q2 hq2 f_X0_from hf_X0_from p0 p1 p2 σ)
def R_X0_begin_from_self : Nat → (Int32 → Int32 → Int32 → Int32 → ZSt → Option (Int32 × ZSt)) × (Int32 → Int32 → Int32 → Int32 → ZSt → Option (Int32 × ZSt)) × (Int32 → Int32 → Int32 → ZSt → Option (Int32 × ZSt))
  | 0 => (fun _ _ _ _ _ => none, fun _ _ _ _ _ => none, fun _ _ _ _ => none)
  | d + 1 => (s_X0_begin ((R_X0_begin_from_self d).2.1) ((R_X0_begin_from_self d).2.2), s_X0_from ((R_X0_begin_from_self d).1), s_X0_self ((R_X0_begin_from_self d).2.1))
def rd_X0_begin (d : Nat) : Int32 → Int32 → Int32 → Int32 → ZSt → Option (Int32 × ZSt) := (R_X0_begin_from_self d).1
abbrev r_X0_begin : Int32 → Int32 → Int32 → Int32 → ZSt → Option (Int32 × ZSt) := rd_X0_begin 100
def rd_X0_from (d : Nat) : Int32 → Int32 → Int32 → Int32 → ZSt → Option (Int32 × ZSt) := (R_X0_begin_from_self d).2.1
abbrev r_X0_from : Int32 → Int32 → Int32 → Int32 → ZSt → Option (Int32 × ZSt) := rd_X0_from 100
def rd_X0_self (d : Nat) : Int32 → Int32 → Int32 → ZSt → Option (Int32 × ZSt) := (R_X0_begin_from_self d).2.2
abbrev r_X0_self : Int32 → Int32 → Int32 → ZSt → Option (Int32 × ZSt) := rd_X0_self 100
theorem et_X0_begin_from_self (g : ZG) : ∀ d : Nat, (∀ (p0 : Int32) (p1 : Int32) (p2 : Int32) (p3 : Int32) (σ : ZSt), zEvS g (3 + d) yX0_begin cX0_begin 7 (some .int) [.ref 48, .int p0, .int p1, .int p2, .int p3] σ (rd_X0_begin d p0 p1 p2 p3 σ)) ∧ (∀ (p0 : Int32) (p1 : Int32) (p2 : Int32) (p3 : Int32) (σ : ZSt), zEvS g (3 + d) yX0_from cX0_from 7 (some .int) [.ref 48, .int p0, .int p1, .int p2, .int p3] σ (rd_X0_from d p0 p1 p2 p3 σ)) ∧ (∀ (p0 : Int32) (p1 : Int32) (p2 : Int32) (σ : ZSt), zEvS g (3 + d) yX0_self cX0_self 4 (some .int) [.ref 48, .int p0, .int p1, .int p2] σ (rd_X0_self d p0 p1 p2 σ)) := by
  intro d
  induction d with
  | zero => exact ⟨(by intros; intro b hb; exact absurd hb (fun h => by cases h)), (by intros; intro b hb; exact absurd hb (fun h => by cases h)), (by intros; intro b hb; exact absurd hb (fun h => by cases h))⟩
  | succ d ih =>
    obtain ⟨h0, h1, h2⟩ := ih
    exact ⟨fun p0 p1 p2 p3 σ => e_X0_begin g _ (by omega) (3 + d) (by omega) _ h1 _ h2 p0 p1 p2 p3 σ, fun p0 p1 p2 p3 σ => e_X0_from g _ (by omega) (3 + d) (by omega) _ h0 p0 p1 p2 p3 σ, fun p0 p1 p2 σ => e_X0_self g _ (by omega) (3 + d) (by omega) _ h1 p0 p1 p2 σ⟩
theorem er_X0_begin (g : ZG) (p0 : Int32) (p1 : Int32) (p2 : Int32) (p3 : Int32) (σ : ZSt) : zEvS g 103 yX0_begin cX0_begin 7 (some .int) [.ref 48, .int p0, .int p1, .int p2, .int p3] σ (r_X0_begin p0 p1 p2 p3 σ) := (et_X0_begin_from_self g 100).1 p0 p1 p2 p3 σ
theorem er_X0_from (g : ZG) (p0 : Int32) (p1 : Int32) (p2 : Int32) (p3 : Int32) (σ : ZSt) : zEvS g 103 yX0_from cX0_from 7 (some .int) [.ref 48, .int p0, .int p1, .int p2, .int p3] σ (r_X0_from p0 p1 p2 p3 σ) := (et_X0_begin_from_self g 100).2.1 p0 p1 p2 p3 σ
theorem er_X0_self (g : ZG) (p0 : Int32) (p1 : Int32) (p2 : Int32) (σ : ZSt) : zEvS g 103 yX0_self cX0_self 4 (some .int) [.ref 48, .int p0, .int p1, .int p2] σ (r_X0_self p0 p1 p2 σ) := (et_X0_begin_from_self g 100).2.2 p0 p1 p2 σ
abbrev mX0_run (g : ZG) (q : Nat) : ZM := (yX0_run, cX0_run, 4, (some .int), zRm q 0 0, zTg g 0 0)
def s_X0_run (p0 : Int32) (p1 : Int32) (p2 : Int32) (σ : ZSt) : Option (Int32 × ZSt) :=
  zSt' (zWD σ 48 3 (0 : Int32)) fun σ1 => ((s_X0_isBody p0 σ1).bind fun r2 => (if r2 = (0 : Int32) then (some ((0 : Int32), σ1))
    else ((s_X9_isWithin p1 (0 : Int32) (3 : Int32) σ1).bind fun r3 => (if r3 = (0 : Int32) then (some ((0 : Int32), σ1))
      else (zSt' (zWD σ1 48 4 p0) fun σ4 => ((r_X0_self p1 p2 (0 : Int32) σ4).bind fun r5 => (some (r5.1, r5.2))))))))
set_option maxHeartbeats 4000000 in
set_option maxRecDepth 100000 in
theorem z_X0_run (g : ZG) (p0 : Int32) (p1 : Int32) (p2 : Int32) (σ : ZSt) : Zo g (mX0_run g 104) (fun b : Int32 × ZSt => (some (.int b.1), zw b.2)) (s_X0_run p0 p1 p2 σ) 0 0 0 [some (.ref 48), some (.int p0), some (.int p1), some (.int p2)] [] (zw σ) := by
  unfold s_X0_run
  refine Zo_aload0 dX0_run_0 ?_
  refine Zo_iconst (0 : Int32) dX0_run_1 ic_0 ?_
  refine Zo_puti fl_X0_22 kd_48 dX0_run_2 fun σ1 => ?_
  refine Zo_aload0 dX0_run_5 ?_
  refine Zo_iload1 dX0_run_6 ?_
  refine Zo_cVI1 lk_X0_25 (e_X0_isBody g _ _) kd_48 (zFit_rm (by decide)) (zle rfl) dX0_run_7 fun r2 => ?_
  refine Zo_ifeq 22 dX0_run_10 (by decide) ?_ ?_
  · refine Zo_iconst (0 : Int32) dX0_run_22 ic_0 ?_
    exact Zo_iret dX0_run_23 rfl rfl (Nat.le_refl _) (Nat.le_refl _)
  · refine Zo_iload2 dX0_run_13 ?_
    refine Zo_iconst (0 : Int32) dX0_run_14 ic_0 ?_
    refine Zo_iconst (3 : Int32) dX0_run_15 ic_3 ?_
    refine Zo_cSI3 lk_X0_36 (e_X9_isWithin g _ _ _ _) (zFit_rm (by decide)) (zle rfl) dX0_run_16 fun r3 => ?_
    refine Zo_ifne 24 dX0_run_19 (by decide) ?_ ?_
    · refine Zo_aload0 dX0_run_24 ?_
      refine Zo_iload1 dX0_run_25 ?_
      refine Zo_puti fl_X0_40 kd_48 dX0_run_26 fun σ4 => ?_
      refine Zo_aload0 dX0_run_29 ?_
      refine Zo_iload2 dX0_run_30 ?_
      refine Zo_iload3 dX0_run_31 ?_
      refine Zo_iconst (0 : Int32) dX0_run_32 ic_0 ?_
      show Zo g _ _ _ 0 0 33 _ _ _
      refine Zo_cVS3 lk_X0_43 (er_X0_self g _ _ _ _) kd_48 (zFit_rm (by decide)) (zle rfl) dX0_run_33 fun r5 => ?_
      exact Zo_iret dX0_run_36 rfl rfl (Nat.le_refl _) (Nat.le_refl _)
    · refine Zo_iconst (0 : Int32) dX0_run_22 ic_0 ?_
      exact Zo_iret dX0_run_23 rfl rfl (Nat.le_refl _) (Nat.le_refl _)
theorem e_X0_run (g : ZG) (p0 : Int32) (p1 : Int32) (p2 : Int32) (σ : ZSt) : zEvS g 104 yX0_run cX0_run 4 (some .int) [.ref 48, .int p0, .int p1, .int p2] σ (s_X0_run p0 p1 p2 σ) :=
  zEvS_of 0 rfl rfl (z_X0_run g p0 p1 p2 σ)
abbrev mX0_traced (g : ZG) (q : Nat) : ZM := (yX0_traced, cX0_traced, 2, (some .int), zRm q 0 0, zTg g 0 0)
def s_X0_traced (p0 : Int32) (σ : ZSt) : Option Int32 :=
  if p0 < (0 : Int32) then (some (-1 : Int32))
    else (if (σ.1 48 3) ≤ p0 then (some (-1 : Int32))
      else (if (24 : Int32) ≤ p0 then (some (-1 : Int32))
        else (zLd (zIn p0 24) (σ.1 50 p0.toNatClampNeg) fun v1 => (some v1))))
set_option maxHeartbeats 4000000 in
set_option maxRecDepth 100000 in
theorem z_X0_traced (g : ZG) (p0 : Int32) (σ : ZSt) : Zo g (mX0_traced g 0) (fun b : Int32 => (some (.int b), zw σ)) (s_X0_traced p0 σ) 0 0 0 [some (.ref 48), some (.int p0)] [] (zw σ) := by
  unfold s_X0_traced
  refine Zo_iload1 dX0_traced_0 ?_
  refine Zo_iflt 27 dX0_traced_1 (by decide) ?_ ?_
  · refine Zo_iconst (-1 : Int32) dX0_traced_27 ic_m1 ?_
    exact Zo_iret dX0_traced_28 rfl rfl (Nat.le_refl _) (Nat.le_refl _)
  · refine Zo_iload1 dX0_traced_4 ?_
    refine Zo_aload0 dX0_traced_5 ?_
    refine Zo_geti fl_X0_22 kd_48 dX0_traced_6 ?_
    refine Zo_icmpge 27 dX0_traced_9 (by decide) ?_ ?_
    · refine Zo_iconst (-1 : Int32) dX0_traced_27 ic_m1 ?_
      exact Zo_iret dX0_traced_28 rfl rfl (Nat.le_refl _) (Nat.le_refl _)
    · refine Zo_iload1 dX0_traced_12 ?_
      refine Zo_bipush (24 : Int32) dX0_traced_13 bp_24 ?_
      refine Zo_icmpge 27 dX0_traced_15 (by decide) ?_ ?_
      · refine Zo_iconst (-1 : Int32) dX0_traced_27 ic_m1 ?_
        exact Zo_iret dX0_traced_28 rfl rfl (Nat.le_refl _) (Nat.le_refl _)
      · refine Zo_aload0 dX0_traced_18 ?_
        refine Zo_getr (j := 50) fl_X0_15 kd_48 rfl dX0_traced_19 ?_
        refine Zo_iload1 dX0_traced_22 ?_
        refine Zo_iald kd_50 dX0_traced_23 fun v1 => ?_
        refine Zo_goto 28 dX0_traced_24 (by decide) ?_
        exact Zo_iret dX0_traced_28 rfl rfl (Nat.le_refl _) (Nat.le_refl _)
theorem e_X0_traced (g : ZG) (p0 : Int32) (σ : ZSt) : zEvI g 0 yX0_traced cX0_traced 2 (some .int) [.ref 48, .int p0] σ (s_X0_traced p0 σ) :=
  zEvI_of 0 rfl rfl (z_X0_traced g p0 σ)
abbrev mX0_isUnder (g : ZG) (q : Nat) : ZM := (yX0_isUnder, cX0_isUnder, 4, (some .boolean), zRm q 0 0, zTg g 0 0)
def s_X0_isUnder_L4 (l1 : Int32) (σ : ZSt) : Nat → Int32 → Int32 → Option Int32
  | 0, _, _ => none
  | n + 1, l2, l3 =>
    if (8 : Int32) ≤ l3 then (some (0 : Int32))
      else (if l2 < (0 : Int32) then (some (0 : Int32))
        else (if l2 = l1 then (some (1 : Int32))
          else ((s_X0_above l2 σ).bind fun r1 => (s_X0_isUnder_L4 l1 σ n r1 (l3 + (1 : Int32))))))
set_option maxHeartbeats 4000000 in
set_option maxRecDepth 100000 in
theorem z_X0_isUnder_L4 (g : ZG) (l1 : Int32) (σ : ZSt) : ∀ (n : Nat) (l2 : Int32) (l3 : Int32) (o0 : Option Value), Zo g (mX0_isUnder g 1) (fun b : Int32 => (some (.int b), zw σ)) (s_X0_isUnder_L4 l1 σ n l2 l3) 0 0 4 [o0, some (.int l1), some (.int l2), some (.int l3)] [] (zw σ) := by
  intro n
  induction n with
  | zero => intros; exact Zo_none
  | succ n ih =>
    intro l2 l3 o0
    rw [s_X0_isUnder_L4]
    refine Zo_iload3 dX0_isUnder_4 ?_
    refine Zo_bipush (8 : Int32) dX0_isUnder_5 bp_8 ?_
    refine Zo_icmpge 32 dX0_isUnder_7 (by decide) ?_ ?_
    · refine Zo_iconst (0 : Int32) dX0_isUnder_32 ic_0 ?_
      exact Zo_zret dX0_isUnder_33 rfl rfl (Or.inl rfl) (Nat.le_refl _) (Nat.le_refl _)
    · refine Zo_iload2 dX0_isUnder_10 ?_
      refine Zo_iflt 32 dX0_isUnder_11 (by decide) ?_ ?_
      · refine Zo_iconst (0 : Int32) dX0_isUnder_32 ic_0 ?_
        exact Zo_zret dX0_isUnder_33 rfl rfl (Or.inl rfl) (Nat.le_refl _) (Nat.le_refl _)
      · refine Zo_iload2 dX0_isUnder_14 ?_
        refine Zo_iload1 dX0_isUnder_15 ?_
        refine Zo_icmpne 21 dX0_isUnder_16 (by decide) ?_ ?_
        · refine Zo_iload2 dX0_isUnder_21 ?_
          refine Zo_cSI1 lk_X0_32 (e_X0_above g _ _) (zFit_rm (by decide)) (zle rfl) dX0_isUnder_22 fun r1 => ?_
          refine Zo_istore2 rfl (zlt rfl) dX0_isUnder_25 ?_
          refine Zo_iinc3 rfl (1 : Int32) ic_1 (zlt rfl) dX0_isUnder_26 ?_
          refine Zo_goto 4 dX0_isUnder_29 (by decide) ?_
          exact ih _ _ _
        · refine Zo_iconst (1 : Int32) dX0_isUnder_19 ic_1 ?_
          exact Zo_zret dX0_isUnder_20 rfl rfl (Or.inr rfl) (Nat.le_refl _) (Nat.le_refl _)
def s_X0_isUnder (p0 : Int32) (p1 : Int32) (σ : ZSt) : Option Int32 :=
  s_X0_isUnder_L4 p1 σ 200 p0 (0 : Int32)
set_option maxHeartbeats 4000000 in
set_option maxRecDepth 100000 in
theorem z_X0_isUnder (g : ZG) (p0 : Int32) (p1 : Int32) (σ : ZSt) : Zo g (mX0_isUnder g 1) (fun b : Int32 => (some (.int b), zw σ)) (s_X0_isUnder p0 p1 σ) 0 0 0 [some (.int p0), some (.int p1), none, none] [] (zw σ) := by
  unfold s_X0_isUnder
  refine Zo_iload0 dX0_isUnder_0 ?_
  refine Zo_istore2 rfl (zlt rfl) dX0_isUnder_1 ?_
  refine Zo_iconst (0 : Int32) dX0_isUnder_2 ic_0 ?_
  refine Zo_istore3 rfl (zlt rfl) dX0_isUnder_3 ?_
  exact z_X0_isUnder_L4 g _ _ _ _ _ _
theorem e_X0_isUnder (g : ZG) (p0 : Int32) (p1 : Int32) (σ : ZSt) : zEvI g 1 yX0_isUnder cX0_isUnder 4 (some .boolean) [.int p0, .int p1] σ (s_X0_isUnder p0 p1 σ) :=
  zEvI_of 2 rfl rfl (z_X0_isUnder g p0 p1 σ)
abbrev mX0_bodies (g : ZG) (q : Nat) : ZM := (yX0_bodies, cX0_bodies, 1, (some .int), zRm q 0 0, zTg g 0 0)
def s_X0_bodies (σ : ZSt) : Option Int32 :=
  some (σ.1 48 2)
set_option maxHeartbeats 4000000 in
set_option maxRecDepth 100000 in
theorem z_X0_bodies (g : ZG) (σ : ZSt) : Zo g (mX0_bodies g 0) (fun b : Int32 => (some (.int b), zw σ)) (s_X0_bodies σ) 0 0 0 [some (.ref 48)] [] (zw σ) := by
  unfold s_X0_bodies
  refine Zo_aload0 dX0_bodies_0 ?_
  refine Zo_geti fl_X0_18 kd_48 dX0_bodies_1 ?_
  exact Zo_iret dX0_bodies_4 rfl rfl (Nat.le_refl _) (Nat.le_refl _)
theorem e_X0_bodies (g : ZG) (σ : ZSt) : zEvI g 0 yX0_bodies cX0_bodies 1 (some .int) [.ref 48] σ (s_X0_bodies σ) :=
  zEvI_of 0 rfl rfl (z_X0_bodies g σ)
abbrev mX0_ranInAll (g : ZG) (q : Nat) : ZM := (yX0_ranInAll, cX0_ranInAll, 1, (some .int), zRm q 0 0, zTg g 0 0)
def s_X0_ranInAll (σ : ZSt) : Option Int32 :=
  some (σ.1 48 3)
set_option maxHeartbeats 4000000 in
set_option maxRecDepth 100000 in
theorem z_X0_ranInAll (g : ZG) (σ : ZSt) : Zo g (mX0_ranInAll g 0) (fun b : Int32 => (some (.int b), zw σ)) (s_X0_ranInAll σ) 0 0 0 [some (.ref 48)] [] (zw σ) := by
  unfold s_X0_ranInAll
  refine Zo_aload0 dX0_ranInAll_0 ?_
  refine Zo_geti fl_X0_22 kd_48 dX0_ranInAll_1 ?_
  exact Zo_iret dX0_ranInAll_4 rfl rfl (Nat.le_refl _) (Nat.le_refl _)
theorem e_X0_ranInAll (g : ZG) (σ : ZSt) : zEvI g 0 yX0_ranInAll cX0_ranInAll 1 (some .int) [.ref 48] σ (s_X0_ranInAll σ) :=
  zEvI_of 0 rfl rfl (z_X0_ranInAll g σ)
