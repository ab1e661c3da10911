abbrev mX1_forgetOldest (g : ZG) (q : Nat) : ZM := (yX1_forgetOldest, cX1_forgetOldest, 2, none, zRm q 0 0, zTg g 0 0)
def s_X1_forgetOldest_L2 : Nat → Int32 → ZSt → Option ZSt
  | 0, _, _ => none
  | n + 1, l1, σ =>
    if (40 : Int32) ≤ l1 then (zSt' (zWD σ 41 5 (39 : Int32)) fun σ1 => (some σ1))
      else (zLd (zIn l1 40) (σ.1 42 l1.toNatClampNeg) fun v2 => (zSg (zIn (l1 - (1 : Int32)) 40) (zWD σ 42 (l1 - (1 : Int32)).toNatClampNeg v2) fun σ3 => (zLd (zIn l1 40) (σ3.1 43 l1.toNatClampNeg) fun v4 => (zSg (zIn (l1 - (1 : Int32)) 40) (zWD σ3 43 (l1 - (1 : Int32)).toNatClampNeg v4) fun σ5 => (zLd (zIn l1 40) (σ5.1 44 l1.toNatClampNeg) fun v6 => (zSg (zIn (l1 - (1 : Int32)) 40) (zWD σ5 44 (l1 - (1 : Int32)).toNatClampNeg v6) fun σ7 => (zLd (zIn l1 40) (σ7.1 45 l1.toNatClampNeg) fun v8 => (zSg (zIn (l1 - (1 : Int32)) 40) (zWD σ7 45 (l1 - (1 : Int32)).toNatClampNeg v8) fun σ9 => (s_X1_forgetOldest_L2 n (l1 + (1 : Int32)) σ9)))))))))
set_option maxHeartbeats 4000000 in
set_option maxRecDepth 100000 in
theorem z_X1_forgetOldest_L2 (g : ZG) : ∀ (n : Nat) (l1 : Int32) (σ : ZSt), Zo g (mX1_forgetOldest g 0) (fun b : ZSt => (none, zw b)) (s_X1_forgetOldest_L2 n l1 σ) 0 0 2 [some (.ref 41), some (.int l1)] [] (zw σ) := by
  intro n
  induction n with
  | zero => intros; exact Zo_none
  | succ n ih =>
    intro l1 σ
    rw [s_X1_forgetOldest_L2]
    refine Zo_iload1 dX1_forgetOldest_2 ?_
    refine Zo_bipush (40 : Int32) dX1_forgetOldest_3 bp_40 ?_
    refine Zo_icmpge 70 dX1_forgetOldest_5 (by decide) ?_ ?_
    · refine Zo_aload0 dX1_forgetOldest_70 ?_
      refine Zo_bipush (39 : Int32) dX1_forgetOldest_71 bp_39 ?_
      refine Zo_puti fl_X1_22 kd_41 dX1_forgetOldest_73 fun σ1 => ?_
      exact Zo_vret dX1_forgetOldest_76 rfl rfl (Nat.le_refl _) (Nat.le_refl _)
    · refine Zo_aload0 dX1_forgetOldest_8 ?_
      refine Zo_getr (j := 42) fl_X1_9 kd_41 rfl dX1_forgetOldest_9 ?_
      refine Zo_iload1 dX1_forgetOldest_12 ?_
      refine Zo_iconst (1 : Int32) dX1_forgetOldest_13 ic_1 ?_
      refine Zo_isub dX1_forgetOldest_14 ?_
      refine Zo_aload0 dX1_forgetOldest_15 ?_
      refine Zo_getr (j := 42) fl_X1_9 kd_41 rfl dX1_forgetOldest_16 ?_
      show Zo g _ _ _ 0 0 19 _ _ _
      refine Zo_iload1 dX1_forgetOldest_19 ?_
      refine Zo_iald kd_42 dX1_forgetOldest_20 fun v2 => ?_
      refine Zo_iast kd_42 dX1_forgetOldest_21 fun σ3 => ?_
      refine Zo_aload0 dX1_forgetOldest_22 ?_
      refine Zo_getr (j := 43) fl_X1_13 kd_41 rfl dX1_forgetOldest_23 ?_
      refine Zo_iload1 dX1_forgetOldest_26 ?_
      refine Zo_iconst (1 : Int32) dX1_forgetOldest_27 ic_1 ?_
      refine Zo_isub dX1_forgetOldest_28 ?_
      show Zo g _ _ _ 0 0 29 _ _ _
      refine Zo_aload0 dX1_forgetOldest_29 ?_
      refine Zo_getr (j := 43) fl_X1_13 kd_41 rfl dX1_forgetOldest_30 ?_
      refine Zo_iload1 dX1_forgetOldest_33 ?_
      refine Zo_iald kd_43 dX1_forgetOldest_34 fun v4 => ?_
      refine Zo_iast kd_43 dX1_forgetOldest_35 fun σ5 => ?_
      refine Zo_aload0 dX1_forgetOldest_36 ?_
      refine Zo_getr (j := 44) fl_X1_16 kd_41 rfl dX1_forgetOldest_37 ?_
      refine Zo_iload1 dX1_forgetOldest_40 ?_
      show Zo g _ _ _ 0 0 41 _ _ _
      refine Zo_iconst (1 : Int32) dX1_forgetOldest_41 ic_1 ?_
      refine Zo_isub dX1_forgetOldest_42 ?_
      refine Zo_aload0 dX1_forgetOldest_43 ?_
      refine Zo_getr (j := 44) fl_X1_16 kd_41 rfl dX1_forgetOldest_44 ?_
      refine Zo_iload1 dX1_forgetOldest_47 ?_
      refine Zo_iald kd_44 dX1_forgetOldest_48 fun v6 => ?_
      refine Zo_iast kd_44 dX1_forgetOldest_49 fun σ7 => ?_
      refine Zo_aload0 dX1_forgetOldest_50 ?_
      show Zo g _ _ _ 0 0 51 _ _ _
      refine Zo_getr (j := 45) fl_X1_19 kd_41 rfl dX1_forgetOldest_51 ?_
      refine Zo_iload1 dX1_forgetOldest_54 ?_
      refine Zo_iconst (1 : Int32) dX1_forgetOldest_55 ic_1 ?_
      refine Zo_isub dX1_forgetOldest_56 ?_
      refine Zo_aload0 dX1_forgetOldest_57 ?_
      refine Zo_getr (j := 45) fl_X1_19 kd_41 rfl dX1_forgetOldest_58 ?_
      refine Zo_iload1 dX1_forgetOldest_61 ?_
      refine Zo_iald kd_45 dX1_forgetOldest_62 fun v8 => ?_
      show Zo g _ _ _ 0 0 63 _ _ _
      refine Zo_iast kd_45 dX1_forgetOldest_63 fun σ9 => ?_
      refine Zo_iinc1 rfl (1 : Int32) ic_1 (zlt rfl) dX1_forgetOldest_64 ?_
      refine Zo_goto 2 dX1_forgetOldest_67 (by decide) ?_
      exact ih _ _
def s_X1_forgetOldest (σ : ZSt) : Option ZSt :=
  s_X1_forgetOldest_L2 200 (1 : Int32) σ
set_option maxHeartbeats 4000000 in
set_option maxRecDepth 100000 in
theorem z_X1_forgetOldest (g : ZG) (σ : ZSt) : Zo g (mX1_forgetOldest g 0) (fun b : ZSt => (none, zw b)) (s_X1_forgetOldest σ) 0 0 0 [some (.ref 41), none] [] (zw σ) := by
  unfold s_X1_forgetOldest
  refine Zo_iconst (1 : Int32) dX1_forgetOldest_0 ic_1 ?_
  refine Zo_istore1 rfl (zlt rfl) dX1_forgetOldest_1 ?_
  exact z_X1_forgetOldest_L2 g _ _ _
theorem e_X1_forgetOldest (g : ZG) (σ : ZSt) : zEvV g 0 yX1_forgetOldest cX1_forgetOldest 2 none [.ref 41] σ (s_X1_forgetOldest σ) :=
  zEvV_of 1 rfl rfl (z_X1_forgetOldest g σ)
abbrev mX1_add (g : ZG) (q : Nat) : ZM := (yX1_add, cX1_add, 5, none, zRm q 0 0, zTg g 0 0)
def s_X1_add_C13 (l1 : Int32) (l2 : Int32) (l3 : Int32) (l4 : Int32) (σ : ZSt) : Option ZSt :=
  zSg (zIn (σ.1 41 5) 40) (zWD σ 42 (σ.1 41 5).toNatClampNeg l1) fun σ1 => (zSg (zIn (σ1.1 41 5) 40) (zWD σ1 43 (σ1.1 41 5).toNatClampNeg l2) fun σ2 => (zSg (zIn (σ2.1 41 5) 40) (zWD σ2 44 (σ2.1 41 5).toNatClampNeg l3) fun σ3 => (zSg (zIn (σ3.1 41 5) 40) (zWD σ3 45 (σ3.1 41 5).toNatClampNeg l4) fun σ4 => (zSt' (zWD σ4 41 5 ((σ4.1 41 5) + (1 : Int32))) fun σ5 => (zSt' (zWD σ5 41 4 (σ5.1 41 5)) fun σ6 => (some σ6))))))
set_option maxHeartbeats 4000000 in
set_option maxRecDepth 100000 in
theorem z_X1_add_C13 (g : ZG) (l1 : Int32) (l2 : Int32) (l3 : Int32) (l4 : Int32) (σ : ZSt) : Zo g (mX1_add g 1) (fun b : ZSt => (none, zw b)) (s_X1_add_C13 l1 l2 l3 l4 σ) 0 0 13 [some (.ref 41), some (.int l1), some (.int l2), some (.int l3), some (.int l4)] [] (zw σ) := by
  unfold s_X1_add_C13
  refine Zo_aload0 dX1_add_13 ?_
  refine Zo_getr (j := 42) fl_X1_9 kd_41 rfl dX1_add_14 ?_
  refine Zo_aload0 dX1_add_17 ?_
  refine Zo_geti fl_X1_22 kd_41 dX1_add_18 ?_
  refine Zo_iload1 dX1_add_21 ?_
  refine Zo_iast kd_42 dX1_add_22 fun σ1 => ?_
  refine Zo_aload0 dX1_add_23 ?_
  show Zo g _ _ _ 0 0 24 _ _ _
  refine Zo_getr (j := 43) fl_X1_13 kd_41 rfl dX1_add_24 ?_
  refine Zo_aload0 dX1_add_27 ?_
  refine Zo_geti fl_X1_22 kd_41 dX1_add_28 ?_
  refine Zo_iload2 dX1_add_31 ?_
  refine Zo_iast kd_43 dX1_add_32 fun σ2 => ?_
  refine Zo_aload0 dX1_add_33 ?_
  refine Zo_getr (j := 44) fl_X1_16 kd_41 rfl dX1_add_34 ?_
  refine Zo_aload0 dX1_add_37 ?_
  show Zo g _ _ _ 0 0 38 _ _ _
  refine Zo_geti fl_X1_22 kd_41 dX1_add_38 ?_
  refine Zo_iload3 dX1_add_41 ?_
  refine Zo_iast kd_44 dX1_add_42 fun σ3 => ?_
  refine Zo_aload0 dX1_add_43 ?_
  refine Zo_getr (j := 45) fl_X1_19 kd_41 rfl dX1_add_44 ?_
  refine Zo_aload0 dX1_add_47 ?_
  refine Zo_geti fl_X1_22 kd_41 dX1_add_48 ?_
  refine Zo_iload4 dX1_add_51 ?_
  show Zo g _ _ _ 0 0 53 _ _ _
  refine Zo_iast kd_45 dX1_add_53 fun σ4 => ?_
  refine Zo_aload0 dX1_add_54 ?_
  refine Zo_dup dX1_add_55 rfl ?_
  refine Zo_geti fl_X1_22 kd_41 dX1_add_56 ?_
  refine Zo_iconst (1 : Int32) dX1_add_59 ic_1 ?_
  refine Zo_iadd dX1_add_60 ?_
  refine Zo_puti fl_X1_22 kd_41 dX1_add_61 fun σ5 => ?_
  refine Zo_aload0 dX1_add_64 ?_
  show Zo g _ _ _ 0 0 65 _ _ _
  refine Zo_aload0 dX1_add_65 ?_
  refine Zo_geti fl_X1_22 kd_41 dX1_add_66 ?_
  refine Zo_puti fl_X1_26 kd_41 dX1_add_69 fun σ6 => ?_
  exact Zo_vret dX1_add_72 rfl rfl (Nat.le_refl _) (Nat.le_refl _)
def s_X1_add (p0 : Int32) (p1 : Int32) (p2 : Int32) (p3 : Int32) (σ : ZSt) : Option ZSt :=
  if (σ.1 41 5) < (40 : Int32) then (s_X1_add_C13 p0 p1 p2 p3 σ)
    else ((s_X1_forgetOldest σ).bind fun σ1 => (s_X1_add_C13 p0 p1 p2 p3 σ1))
set_option maxHeartbeats 4000000 in
set_option maxRecDepth 100000 in
theorem z_X1_add (g : ZG) (p0 : Int32) (p1 : Int32) (p2 : Int32) (p3 : Int32) (σ : ZSt) : Zo g (mX1_add g 1) (fun b : ZSt => (none, zw b)) (s_X1_add p0 p1 p2 p3 σ) 0 0 0 [some (.ref 41), some (.int p0), some (.int p1), some (.int p2), some (.int p3)] [] (zw σ) := by
  unfold s_X1_add
  refine Zo_aload0 dX1_add_0 ?_
  refine Zo_geti fl_X1_22 kd_41 dX1_add_1 ?_
  refine Zo_bipush (40 : Int32) dX1_add_4 bp_40 ?_
  refine Zo_icmplt 13 dX1_add_6 (by decide) ?_ ?_
  · exact z_X1_add_C13 g _ _ _ _ _ 
  · refine Zo_aload0 dX1_add_9 ?_
    refine Zo_cVV0 lk_X1_29 (e_X1_forgetOldest g _) kd_41 (zFit_rm (by decide)) (zle rfl) dX1_add_10 fun σ1 => ?_
    exact z_X1_add_C13 g _ _ _ _ _ 
theorem e_X1_add (g : ZG) (p0 : Int32) (p1 : Int32) (p2 : Int32) (p3 : Int32) (σ : ZSt) : zEvV g 1 yX1_add cX1_add 5 none [.ref 41, .int p0, .int p1, .int p2, .int p3] σ (s_X1_add p0 p1 p2 p3 σ) :=
  zEvV_of 0 rfl rfl (z_X1_add g p0 p1 p2 p3 σ)
abbrev mX1_stepBack (g : ZG) (q : Nat) : ZM := (yX1_stepBack, cX1_stepBack, 1, (some .int), zRm q 0 0, zTg g 0 0)
def s_X1_stepBack (σ : ZSt) : Option (Int32 × ZSt) :=
  if (σ.1 41 5) ≤ (0 : Int32) then (some ((-1 : Int32), σ))
    else (zSt' (zWD σ 41 5 ((σ.1 41 5) - (1 : Int32))) fun σ1 => (some (((σ.1 41 5) - (1 : Int32)), σ1)))
set_option maxHeartbeats 4000000 in
set_option maxRecDepth 100000 in
theorem z_X1_stepBack (g : ZG) (σ : ZSt) : Zo g (mX1_stepBack g 0) (fun b : Int32 × ZSt => (some (.int b.1), zw b.2)) (s_X1_stepBack σ) 0 0 0 [some (.ref 41)] [] (zw σ) := by
  unfold s_X1_stepBack
  refine Zo_aload0 dX1_stepBack_0 ?_
  refine Zo_geti fl_X1_22 kd_41 dX1_stepBack_1 ?_
  refine Zo_ifle 21 dX1_stepBack_4 (by decide) ?_ ?_
  · refine Zo_iconst (-1 : Int32) dX1_stepBack_21 ic_m1 ?_
    exact Zo_iret dX1_stepBack_22 rfl rfl (Nat.le_refl _) (Nat.le_refl _)
  · refine Zo_aload0 dX1_stepBack_7 ?_
    refine Zo_dup dX1_stepBack_8 rfl ?_
    refine Zo_geti fl_X1_22 kd_41 dX1_stepBack_9 ?_
    refine Zo_iconst (1 : Int32) dX1_stepBack_12 ic_1 ?_
    refine Zo_isub dX1_stepBack_13 ?_
    refine Zo_dup_x1 dX1_stepBack_14 rfl rfl ?_
    refine Zo_puti fl_X1_22 kd_41 dX1_stepBack_15 fun σ1 => ?_
    show Zo g _ _ _ 0 0 18 _ _ _
    refine Zo_goto 22 dX1_stepBack_18 (by decide) ?_
    exact Zo_iret dX1_stepBack_22 rfl rfl (Nat.le_refl _) (Nat.le_refl _)
theorem e_X1_stepBack (g : ZG) (σ : ZSt) : zEvS g 0 yX1_stepBack cX1_stepBack 1 (some .int) [.ref 41] σ (s_X1_stepBack σ) :=
  zEvS_of 0 rfl rfl (z_X1_stepBack g σ)
abbrev mX1_isPlace (g : ZG) (q : Nat) : ZM := (yX1_isPlace, cX1_isPlace, 1, (some .boolean), zRm q 0 0, zTg g 0 0)
def s_X1_isPlace (p0 : Int32) (σ : ZSt) : Option Int32 :=
  if p0 < (0 : Int32) then (some (0 : Int32))
    else (if (40 : Int32) ≤ p0 then (some (0 : Int32))
      else (some (1 : Int32)))
set_option maxHeartbeats 4000000 in
set_option maxRecDepth 100000 in
theorem z_X1_isPlace (g : ZG) (p0 : Int32) (σ : ZSt) : Zo g (mX1_isPlace g 0) (fun b : Int32 => (some (.int b), zw σ)) (s_X1_isPlace p0 σ) 0 0 0 [some (.int p0)] [] (zw σ) := by
  unfold s_X1_isPlace
  refine Zo_iload0 dX1_isPlace_0 ?_
  refine Zo_iflt 14 dX1_isPlace_1 (by decide) ?_ ?_
  · refine Zo_iconst (0 : Int32) dX1_isPlace_14 ic_0 ?_
    exact Zo_zret dX1_isPlace_15 rfl rfl (Or.inl rfl) (Nat.le_refl _) (Nat.le_refl _)
  · refine Zo_iload0 dX1_isPlace_4 ?_
    refine Zo_bipush (40 : Int32) dX1_isPlace_5 bp_40 ?_
    refine Zo_icmpge 14 dX1_isPlace_7 (by decide) ?_ ?_
    · refine Zo_iconst (0 : Int32) dX1_isPlace_14 ic_0 ?_
      exact Zo_zret dX1_isPlace_15 rfl rfl (Or.inl rfl) (Nat.le_refl _) (Nat.le_refl _)
    · refine Zo_iconst (1 : Int32) dX1_isPlace_10 ic_1 ?_
      refine Zo_goto 15 dX1_isPlace_11 (by decide) ?_
      exact Zo_zret dX1_isPlace_15 rfl rfl (Or.inr rfl) (Nat.le_refl _) (Nat.le_refl _)
theorem e_X1_isPlace (g : ZG) (p0 : Int32) (σ : ZSt) : zEvI g 0 yX1_isPlace cX1_isPlace 1 (some .boolean) [.int p0] σ (s_X1_isPlace p0 σ) :=
  zEvI_of 0 rfl rfl (z_X1_isPlace g p0 σ)
abbrev mX1_numberOf (g : ZG) (q : Nat) : ZM := (yX1_numberOf, cX1_numberOf, 2, (some .int), zRm q 0 0, zTg g 0 0)
def s_X1_numberOf (p0 : Int32) (σ : ZSt) : Option Int32 :=
  (s_X1_isPlace p0 σ).bind fun r1 => (if r1 = (0 : Int32) then (some (-1 : Int32))
    else (zLd (zIn p0 40) (σ.1 42 p0.toNatClampNeg) fun v2 => (some v2)))
set_option maxHeartbeats 4000000 in
set_option maxRecDepth 100000 in
theorem z_X1_numberOf (g : ZG) (p0 : Int32) (σ : ZSt) : Zo g (mX1_numberOf g 1) (fun b : Int32 => (some (.int b), zw σ)) (s_X1_numberOf p0 σ) 0 0 0 [some (.ref 41), some (.int p0)] [] (zw σ) := by
  unfold s_X1_numberOf
  refine Zo_iload1 dX1_numberOf_0 ?_
  refine Zo_cSI1 lk_X1_32 (e_X1_isPlace g _ _) (zFit_rm (by decide)) (zle rfl) dX1_numberOf_1 fun r1 => ?_
  refine Zo_ifeq 16 dX1_numberOf_4 (by decide) ?_ ?_
  · refine Zo_iconst (-1 : Int32) dX1_numberOf_16 ic_m1 ?_
    exact Zo_iret dX1_numberOf_17 rfl rfl (Nat.le_refl _) (Nat.le_refl _)
  · refine Zo_aload0 dX1_numberOf_7 ?_
    refine Zo_getr (j := 42) fl_X1_9 kd_41 rfl dX1_numberOf_8 ?_
    refine Zo_iload1 dX1_numberOf_11 ?_
    refine Zo_iald kd_42 dX1_numberOf_12 fun v2 => ?_
    refine Zo_goto 17 dX1_numberOf_13 (by decide) ?_
    exact Zo_iret dX1_numberOf_17 rfl rfl (Nat.le_refl _) (Nat.le_refl _)
theorem e_X1_numberOf (g : ZG) (p0 : Int32) (σ : ZSt) : zEvI g 1 yX1_numberOf cX1_numberOf 2 (some .int) [.ref 41, .int p0] σ (s_X1_numberOf p0 σ) :=
  zEvI_of 0 rfl rfl (z_X1_numberOf g p0 σ)
abbrev mX1_whatOf (g : ZG) (q : Nat) : ZM := (yX1_whatOf, cX1_whatOf, 2, (some .int), zRm q 0 0, zTg g 0 0)
def s_X1_whatOf (p0 : Int32) (σ : ZSt) : Option Int32 :=
  (s_X1_isPlace p0 σ).bind fun r1 => (if r1 = (0 : Int32) then (some (-1 : Int32))
    else (zLd (zIn p0 40) (σ.1 43 p0.toNatClampNeg) fun v2 => (some v2)))
set_option maxHeartbeats 4000000 in
set_option maxRecDepth 100000 in
theorem z_X1_whatOf (g : ZG) (p0 : Int32) (σ : ZSt) : Zo g (mX1_whatOf g 1) (fun b : Int32 => (some (.int b), zw σ)) (s_X1_whatOf p0 σ) 0 0 0 [some (.ref 41), some (.int p0)] [] (zw σ) := by
  unfold s_X1_whatOf
  refine Zo_iload1 dX1_whatOf_0 ?_
  refine Zo_cSI1 lk_X1_32 (e_X1_isPlace g _ _) (zFit_rm (by decide)) (zle rfl) dX1_whatOf_1 fun r1 => ?_
  refine Zo_ifeq 16 dX1_whatOf_4 (by decide) ?_ ?_
  · refine Zo_iconst (-1 : Int32) dX1_whatOf_16 ic_m1 ?_
    exact Zo_iret dX1_whatOf_17 rfl rfl (Nat.le_refl _) (Nat.le_refl _)
  · refine Zo_aload0 dX1_whatOf_7 ?_
    refine Zo_getr (j := 43) fl_X1_13 kd_41 rfl dX1_whatOf_8 ?_
    refine Zo_iload1 dX1_whatOf_11 ?_
    refine Zo_iald kd_43 dX1_whatOf_12 fun v2 => ?_
    refine Zo_goto 17 dX1_whatOf_13 (by decide) ?_
    exact Zo_iret dX1_whatOf_17 rfl rfl (Nat.le_refl _) (Nat.le_refl _)
theorem e_X1_whatOf (g : ZG) (p0 : Int32) (σ : ZSt) : zEvI g 1 yX1_whatOf cX1_whatOf 2 (some .int) [.ref 41, .int p0] σ (s_X1_whatOf p0 σ) :=
  zEvI_of 0 rfl rfl (z_X1_whatOf g p0 σ)
abbrev mX1_beforeOf (g : ZG) (q : Nat) : ZM := (yX1_beforeOf, cX1_beforeOf, 2, (some .int), zRm q 0 0, zTg g 0 0)
def s_X1_beforeOf (p0 : Int32) (σ : ZSt) : Option Int32 :=
  (s_X1_isPlace p0 σ).bind fun r1 => (if r1 = (0 : Int32) then (some (0 : Int32))
    else (zLd (zIn p0 40) (σ.1 44 p0.toNatClampNeg) fun v2 => (some v2)))
set_option maxHeartbeats 4000000 in
set_option maxRecDepth 100000 in
theorem z_X1_beforeOf (g : ZG) (p0 : Int32) (σ : ZSt) : Zo g (mX1_beforeOf g 1) (fun b : Int32 => (some (.int b), zw σ)) (s_X1_beforeOf p0 σ) 0 0 0 [some (.ref 41), some (.int p0)] [] (zw σ) := by
  unfold s_X1_beforeOf
  refine Zo_iload1 dX1_beforeOf_0 ?_
  refine Zo_cSI1 lk_X1_32 (e_X1_isPlace g _ _) (zFit_rm (by decide)) (zle rfl) dX1_beforeOf_1 fun r1 => ?_
  refine Zo_ifeq 16 dX1_beforeOf_4 (by decide) ?_ ?_
  · refine Zo_iconst (0 : Int32) dX1_beforeOf_16 ic_0 ?_
    exact Zo_iret dX1_beforeOf_17 rfl rfl (Nat.le_refl _) (Nat.le_refl _)
  · refine Zo_aload0 dX1_beforeOf_7 ?_
    refine Zo_getr (j := 44) fl_X1_16 kd_41 rfl dX1_beforeOf_8 ?_
    refine Zo_iload1 dX1_beforeOf_11 ?_
    refine Zo_iald kd_44 dX1_beforeOf_12 fun v2 => ?_
    refine Zo_goto 17 dX1_beforeOf_13 (by decide) ?_
    exact Zo_iret dX1_beforeOf_17 rfl rfl (Nat.le_refl _) (Nat.le_refl _)
theorem e_X1_beforeOf (g : ZG) (p0 : Int32) (σ : ZSt) : zEvI g 1 yX1_beforeOf cX1_beforeOf 2 (some .int) [.ref 41, .int p0] σ (s_X1_beforeOf p0 σ) :=
  zEvI_of 0 rfl rfl (z_X1_beforeOf g p0 σ)
abbrev mX1_undoable (g : ZG) (q : Nat) : ZM := (yX1_undoable, cX1_undoable, 1, (some .int), zRm q 0 0, zTg g 0 0)
def s_X1_undoable (σ : ZSt) : Option Int32 :=
  some (σ.1 41 5)
set_option maxHeartbeats 4000000 in
set_option maxRecDepth 100000 in
theorem z_X1_undoable (g : ZG) (σ : ZSt) : Zo g (mX1_undoable g 0) (fun b : Int32 => (some (.int b), zw σ)) (s_X1_undoable σ) 0 0 0 [some (.ref 41)] [] (zw σ) := by
  unfold s_X1_undoable
  refine Zo_aload0 dX1_undoable_0 ?_
  refine Zo_geti fl_X1_22 kd_41 dX1_undoable_1 ?_
  exact Zo_iret dX1_undoable_4 rfl rfl (Nat.le_refl _) (Nat.le_refl _)
theorem e_X1_undoable (g : ZG) (σ : ZSt) : zEvI g 0 yX1_undoable cX1_undoable 1 (some .int) [.ref 41] σ (s_X1_undoable σ) :=
  zEvI_of 0 rfl rfl (z_X1_undoable g σ)
abbrev mX1_stepOn (g : ZG) (q : Nat) : ZM := (yX1_stepOn, cX1_stepOn, 1, (some .int), zRm q 0 0, zTg g 0 0)
def s_X1_stepOn (σ : ZSt) : Option (Int32 × ZSt) :=
  if (σ.1 41 4) ≤ (σ.1 41 5) then (some ((-1 : Int32), σ))
    else (zSt' (zWD σ 41 5 ((σ.1 41 5) + (1 : Int32))) fun σ1 => (some ((σ.1 41 5), σ1)))
set_option maxHeartbeats 4000000 in
set_option maxRecDepth 100000 in
theorem z_X1_stepOn (g : ZG) (σ : ZSt) : Zo g (mX1_stepOn g 0) (fun b : Int32 × ZSt => (some (.int b.1), zw b.2)) (s_X1_stepOn σ) 0 0 0 [some (.ref 41)] [] (zw σ) := by
  unfold s_X1_stepOn
  refine Zo_aload0 dX1_stepOn_0 ?_
  refine Zo_geti fl_X1_22 kd_41 dX1_stepOn_1 ?_
  refine Zo_aload0 dX1_stepOn_4 ?_
  refine Zo_geti fl_X1_26 kd_41 dX1_stepOn_5 ?_
  refine Zo_icmpge 25 dX1_stepOn_8 (by decide) ?_ ?_
  · refine Zo_iconst (-1 : Int32) dX1_stepOn_25 ic_m1 ?_
    exact Zo_iret dX1_stepOn_26 rfl rfl (Nat.le_refl _) (Nat.le_refl _)
  · refine Zo_aload0 dX1_stepOn_11 ?_
    refine Zo_dup dX1_stepOn_12 rfl ?_
    refine Zo_geti fl_X1_22 kd_41 dX1_stepOn_13 ?_
    refine Zo_dup_x1 dX1_stepOn_16 rfl rfl ?_
    refine Zo_iconst (1 : Int32) dX1_stepOn_17 ic_1 ?_
    refine Zo_iadd dX1_stepOn_18 ?_
    refine Zo_puti fl_X1_22 kd_41 dX1_stepOn_19 fun σ1 => ?_
    show Zo g _ _ _ 0 0 22 _ _ _
    refine Zo_goto 26 dX1_stepOn_22 (by decide) ?_
    exact Zo_iret dX1_stepOn_26 rfl rfl (Nat.le_refl _) (Nat.le_refl _)
theorem e_X1_stepOn (g : ZG) (σ : ZSt) : zEvS g 0 yX1_stepOn cX1_stepOn 1 (some .int) [.ref 41] σ (s_X1_stepOn σ) :=
  zEvS_of 0 rfl rfl (z_X1_stepOn g σ)
abbrev mX1_behindOf (g : ZG) (q : Nat) : ZM := (yX1_behindOf, cX1_behindOf, 2, (some .int), zRm q 0 0, zTg g 0 0)
def s_X1_behindOf (p0 : Int32) (σ : ZSt) : Option Int32 :=
  (s_X1_isPlace p0 σ).bind fun r1 => (if r1 = (0 : Int32) then (some (0 : Int32))
    else (zLd (zIn p0 40) (σ.1 45 p0.toNatClampNeg) fun v2 => (some v2)))
set_option maxHeartbeats 4000000 in
set_option maxRecDepth 100000 in
theorem z_X1_behindOf (g : ZG) (p0 : Int32) (σ : ZSt) : Zo g (mX1_behindOf g 1) (fun b : Int32 => (some (.int b), zw σ)) (s_X1_behindOf p0 σ) 0 0 0 [some (.ref 41), some (.int p0)] [] (zw σ) := by
  unfold s_X1_behindOf
  refine Zo_iload1 dX1_behindOf_0 ?_
  refine Zo_cSI1 lk_X1_32 (e_X1_isPlace g _ _) (zFit_rm (by decide)) (zle rfl) dX1_behindOf_1 fun r1 => ?_
  refine Zo_ifeq 16 dX1_behindOf_4 (by decide) ?_ ?_
  · refine Zo_iconst (0 : Int32) dX1_behindOf_16 ic_0 ?_
    exact Zo_iret dX1_behindOf_17 rfl rfl (Nat.le_refl _) (Nat.le_refl _)
  · refine Zo_aload0 dX1_behindOf_7 ?_
    refine Zo_getr (j := 45) fl_X1_19 kd_41 rfl dX1_behindOf_8 ?_
    refine Zo_iload1 dX1_behindOf_11 ?_
    refine Zo_iald kd_45 dX1_behindOf_12 fun v2 => ?_
    refine Zo_goto 17 dX1_behindOf_13 (by decide) ?_
    exact Zo_iret dX1_behindOf_17 rfl rfl (Nat.le_refl _) (Nat.le_refl _)
theorem e_X1_behindOf (g : ZG) (p0 : Int32) (σ : ZSt) : zEvI g 1 yX1_behindOf cX1_behindOf 2 (some .int) [.ref 41, .int p0] σ (s_X1_behindOf p0 σ) :=
  zEvI_of 0 rfl rfl (z_X1_behindOf g p0 σ)
abbrev mX1_redoable (g : ZG) (q : Nat) : ZM := (yX1_redoable, cX1_redoable, 1, (some .int), zRm q 0 0, zTg g 0 0)
def s_X1_redoable (σ : ZSt) : Option Int32 :=
  some ((σ.1 41 4) - (σ.1 41 5))
set_option maxHeartbeats 4000000 in
set_option maxRecDepth 100000 in
theorem z_X1_redoable (g : ZG) (σ : ZSt) : Zo g (mX1_redoable g 0) (fun b : Int32 => (some (.int b), zw σ)) (s_X1_redoable σ) 0 0 0 [some (.ref 41)] [] (zw σ) := by
  unfold s_X1_redoable
  refine Zo_aload0 dX1_redoable_0 ?_
  refine Zo_geti fl_X1_26 kd_41 dX1_redoable_1 ?_
  refine Zo_aload0 dX1_redoable_4 ?_
  refine Zo_geti fl_X1_22 kd_41 dX1_redoable_5 ?_
  refine Zo_isub dX1_redoable_8 ?_
  exact Zo_iret dX1_redoable_9 rfl rfl (Nat.le_refl _) (Nat.le_refl _)
theorem e_X1_redoable (g : ZG) (σ : ZSt) : zEvI g 0 yX1_redoable cX1_redoable 1 (some .int) [.ref 41] σ (s_X1_redoable σ) :=
  zEvI_of 0 rfl rfl (z_X1_redoable g σ)
