abbrev mX7_addStreet (g : ZG) (q : Nat) : ZM := (yX7_addStreet, cX7_addStreet, 3, (some .int), zRm q 0 0, zTg g 0 0)
def s_X7_addStreet (p0 : Int32) (p1 : Int32) (σ : ZSt) : Option (Int32 × ZSt) :=
  if (σ.1 1 0) < (6 : Int32) then (zSg (zIn (σ.1 1 0) 6) (zWD σ 2 (σ.1 1 0).toNatClampNeg p0) fun σ1 => (zSg (zIn (σ1.1 1 0) 6) (zWD σ1 3 (σ1.1 1 0).toNatClampNeg p1) fun σ2 => (zSt' (zWD σ2 1 0 ((σ2.1 1 0) + (1 : Int32))) fun σ3 => (some ((σ2.1 1 0), σ3)))))
    else (some ((-3 : Int32), σ))
set_option maxHeartbeats 4000000 in
set_option maxRecDepth 100000 in
theorem z_X7_addStreet (g : ZG) (p0 : Int32) (p1 : Int32) (σ : ZSt) : Zo g (mX7_addStreet g 0) (fun b : Int32 × ZSt => (some (.int b.1), zw b.2)) (s_X7_addStreet p0 p1 σ) 0 0 0 [some (.ref 1), some (.int p0), some (.int p1)] [] (zw σ) := by
  unfold s_X7_addStreet
  refine Zo_aload0 dX7_addStreet_0 ?_
  refine Zo_geti fl_X7_48 kd_1 dX7_addStreet_1 ?_
  refine Zo_bipush (6 : Int32) dX7_addStreet_4 bp_6 ?_
  refine Zo_icmplt 12 dX7_addStreet_6 (by decide) ?_ ?_
  · refine Zo_aload0 dX7_addStreet_12 ?_
    refine Zo_getr (j := 2) fl_X7_9 kd_1 rfl dX7_addStreet_13 ?_
    refine Zo_aload0 dX7_addStreet_16 ?_
    refine Zo_geti fl_X7_48 kd_1 dX7_addStreet_17 ?_
    refine Zo_iload1 dX7_addStreet_20 ?_
    refine Zo_iast kd_2 dX7_addStreet_21 fun σ1 => ?_
    refine Zo_aload0 dX7_addStreet_22 ?_
    show Zo g _ _ _ 0 0 23 _ _ _
    refine Zo_getr (j := 3) fl_X7_15 kd_1 rfl dX7_addStreet_23 ?_
    refine Zo_aload0 dX7_addStreet_26 ?_
    refine Zo_geti fl_X7_48 kd_1 dX7_addStreet_27 ?_
    refine Zo_iload2 dX7_addStreet_30 ?_
    refine Zo_iast kd_3 dX7_addStreet_31 fun σ2 => ?_
    refine Zo_aload0 dX7_addStreet_32 ?_
    refine Zo_dup dX7_addStreet_33 rfl ?_
    refine Zo_geti fl_X7_48 kd_1 dX7_addStreet_34 ?_
    show Zo g _ _ _ 0 0 37 _ _ _
    refine Zo_dup_x1 dX7_addStreet_37 rfl rfl ?_
    refine Zo_iconst (1 : Int32) dX7_addStreet_38 ic_1 ?_
    refine Zo_iadd dX7_addStreet_39 ?_
    refine Zo_puti fl_X7_48 kd_1 dX7_addStreet_40 fun σ3 => ?_
    exact Zo_iret dX7_addStreet_43 rfl rfl (Nat.le_refl _) (Nat.le_refl _)
  · refine Zo_bipush (-3 : Int32) dX7_addStreet_9 bp_m3 ?_
    exact Zo_iret dX7_addStreet_11 rfl rfl (Nat.le_refl _) (Nat.le_refl _)
theorem e_X7_addStreet (g : ZG) (p0 : Int32) (p1 : Int32) (σ : ZSt) : zEvS g 0 yX7_addStreet cX7_addStreet 3 (some .int) [.ref 1, .int p0, .int p1] σ (s_X7_addStreet p0 p1 σ) :=
  zEvS_of 0 rfl rfl (z_X7_addStreet g p0 p1 σ)
abbrev mX7_isStreet (g : ZG) (q : Nat) : ZM := (yX7_isStreet, cX7_isStreet, 2, (some .boolean), zRm q 0 0, zTg g 0 0)
def s_X7_isStreet (p0 : Int32) (σ : ZSt) : Option Int32 :=
  if p0 < (0 : Int32) then (some (0 : Int32))
    else (if (σ.1 1 0) ≤ p0 then (some (0 : Int32))
      else (if (6 : Int32) ≤ p0 then (some (0 : Int32))
        else (some (1 : Int32))))
set_option maxHeartbeats 4000000 in
set_option maxRecDepth 100000 in
theorem z_X7_isStreet (g : ZG) (p0 : Int32) (σ : ZSt) : Zo g (mX7_isStreet g 0) (fun b : Int32 => (some (.int b), zw σ)) (s_X7_isStreet p0 σ) 0 0 0 [some (.ref 1), some (.int p0)] [] (zw σ) := by
  unfold s_X7_isStreet
  refine Zo_iload1 dX7_isStreet_0 ?_
  refine Zo_iflt 22 dX7_isStreet_1 (by decide) ?_ ?_
  · refine Zo_iconst (0 : Int32) dX7_isStreet_22 ic_0 ?_
    exact Zo_zret dX7_isStreet_23 rfl rfl (Or.inl rfl) (Nat.le_refl _) (Nat.le_refl _)
  · refine Zo_iload1 dX7_isStreet_4 ?_
    refine Zo_aload0 dX7_isStreet_5 ?_
    refine Zo_geti fl_X7_48 kd_1 dX7_isStreet_6 ?_
    refine Zo_icmpge 22 dX7_isStreet_9 (by decide) ?_ ?_
    · refine Zo_iconst (0 : Int32) dX7_isStreet_22 ic_0 ?_
      exact Zo_zret dX7_isStreet_23 rfl rfl (Or.inl rfl) (Nat.le_refl _) (Nat.le_refl _)
    · refine Zo_iload1 dX7_isStreet_12 ?_
      refine Zo_bipush (6 : Int32) dX7_isStreet_13 bp_6 ?_
      refine Zo_icmpge 22 dX7_isStreet_15 (by decide) ?_ ?_
      · refine Zo_iconst (0 : Int32) dX7_isStreet_22 ic_0 ?_
        exact Zo_zret dX7_isStreet_23 rfl rfl (Or.inl rfl) (Nat.le_refl _) (Nat.le_refl _)
      · refine Zo_iconst (1 : Int32) dX7_isStreet_18 ic_1 ?_
        refine Zo_goto 23 dX7_isStreet_19 (by decide) ?_
        exact Zo_zret dX7_isStreet_23 rfl rfl (Or.inr rfl) (Nat.le_refl _) (Nat.le_refl _)
theorem e_X7_isStreet (g : ZG) (p0 : Int32) (σ : ZSt) : zEvI g 0 yX7_isStreet cX7_isStreet 2 (some .boolean) [.ref 1, .int p0] σ (s_X7_isStreet p0 σ) :=
  zEvI_of 0 rfl rfl (z_X7_isStreet g p0 σ)
abbrev mX7_takesWindow (g : ZG) (q : Nat) : ZM := (yX7_takesWindow, cX7_takesWindow, 5, (some .boolean), zRm q 0 0, zTg g 0 0)
def s_X7_takesWindow (p0 : Int32) (p1 : Int32) (p2 : Int32) (p3 : Int32) (σ : ZSt) : Option Int32 :=
  (s_X7_isStreet p0 σ).bind fun r1 => (if r1 = (0 : Int32) then (some (0 : Int32))
    else ((s_X9_isWithin p1 (0 : Int32) (99 : Int32) σ).bind fun r2 => (if r2 = (0 : Int32) then (some (0 : Int32))
      else ((s_X9_isWithin p2 (-99 : Int32) (99 : Int32) σ).bind fun r3 => (if r3 = (0 : Int32) then (some (0 : Int32))
        else ((s_X9_isWithin p3 (0 : Int32) (999 : Int32) σ).bind fun r4 => (if r4 = (0 : Int32) then (some (0 : Int32))
          else (some (1 : Int32)))))))))
set_option maxHeartbeats 4000000 in
set_option maxRecDepth 100000 in
theorem z_X7_takesWindow (g : ZG) (p0 : Int32) (p1 : Int32) (p2 : Int32) (p3 : Int32) (σ : ZSt) : Zo g (mX7_takesWindow g 1) (fun b : Int32 => (some (.int b), zw σ)) (s_X7_takesWindow p0 p1 p2 p3 σ) 0 0 0 [some (.ref 1), some (.int p0), some (.int p1), some (.int p2), some (.int p3)] [] (zw σ) := by
  unfold s_X7_takesWindow
  refine Zo_aload0 dX7_takesWindow_0 ?_
  refine Zo_iload1 dX7_takesWindow_1 ?_
  refine Zo_cVI1 lk_X7_58 (e_X7_isStreet g _ _) kd_1 (zFit_rm (by decide)) (zle rfl) dX7_takesWindow_2 fun r1 => ?_
  refine Zo_ifeq 45 dX7_takesWindow_5 (by decide) ?_ ?_
  · refine Zo_iconst (0 : Int32) dX7_takesWindow_45 ic_0 ?_
    exact Zo_zret dX7_takesWindow_46 rfl rfl (Or.inl rfl) (Nat.le_refl _) (Nat.le_refl _)
  · refine Zo_iload2 dX7_takesWindow_8 ?_
    refine Zo_iconst (0 : Int32) dX7_takesWindow_9 ic_0 ?_
    refine Zo_bipush (99 : Int32) dX7_takesWindow_10 bp_99 ?_
    refine Zo_cSI3 lk_X7_62 (e_X9_isWithin g _ _ _ _) (zFit_rm (by decide)) (zle rfl) dX7_takesWindow_12 fun r2 => ?_
    refine Zo_ifeq 45 dX7_takesWindow_15 (by decide) ?_ ?_
    · refine Zo_iconst (0 : Int32) dX7_takesWindow_45 ic_0 ?_
      exact Zo_zret dX7_takesWindow_46 rfl rfl (Or.inl rfl) (Nat.le_refl _) (Nat.le_refl _)
    · refine Zo_iload3 dX7_takesWindow_18 ?_
      refine Zo_bipush (-99 : Int32) dX7_takesWindow_19 bp_m99 ?_
      refine Zo_bipush (99 : Int32) dX7_takesWindow_21 bp_99 ?_
      refine Zo_cSI3 lk_X7_62 (e_X9_isWithin g _ _ _ _) (zFit_rm (by decide)) (zle rfl) dX7_takesWindow_23 fun r3 => ?_
      refine Zo_ifeq 45 dX7_takesWindow_26 (by decide) ?_ ?_
      · refine Zo_iconst (0 : Int32) dX7_takesWindow_45 ic_0 ?_
        exact Zo_zret dX7_takesWindow_46 rfl rfl (Or.inl rfl) (Nat.le_refl _) (Nat.le_refl _)
      · refine Zo_iload4 dX7_takesWindow_29 ?_
        refine Zo_iconst (0 : Int32) dX7_takesWindow_31 ic_0 ?_
        refine Zo_sipush (999 : Int32) dX7_takesWindow_32 sp_999 ?_
        refine Zo_cSI3 lk_X7_62 (e_X9_isWithin g _ _ _ _) (zFit_rm (by decide)) (zle rfl) dX7_takesWindow_35 fun r4 => ?_
        refine Zo_ifeq 45 dX7_takesWindow_38 (by decide) ?_ ?_
        · refine Zo_iconst (0 : Int32) dX7_takesWindow_45 ic_0 ?_
          exact Zo_zret dX7_takesWindow_46 rfl rfl (Or.inl rfl) (Nat.le_refl _) (Nat.le_refl _)
        · refine Zo_iconst (1 : Int32) dX7_takesWindow_41 ic_1 ?_
          refine Zo_goto 46 dX7_takesWindow_42 (by decide) ?_
          exact Zo_zret dX7_takesWindow_46 rfl rfl (Or.inr rfl) (Nat.le_refl _) (Nat.le_refl _)
theorem e_X7_takesWindow (g : ZG) (p0 : Int32) (p1 : Int32) (p2 : Int32) (p3 : Int32) (σ : ZSt) : zEvI g 1 yX7_takesWindow cX7_takesWindow 5 (some .boolean) [.ref 1, .int p0, .int p1, .int p2, .int p3] σ (s_X7_takesWindow p0 p1 p2 p3 σ) :=
  zEvI_of 0 rfl rfl (z_X7_takesWindow g p0 p1 p2 p3 σ)
abbrev mX7_addWindow (g : ZG) (q : Nat) : ZM := (yX7_addWindow, cX7_addWindow, 5, (some .int), zRm q 0 0, zTg g 0 0)
def s_X7_addWindow (p0 : Int32) (p1 : Int32) (p2 : Int32) (p3 : Int32) (σ : ZSt) : Option (Int32 × ZSt) :=
  if (σ.1 1 5) < (30 : Int32) then (zSg (zIn (σ.1 1 5) 30) (zWD σ 6 (σ.1 1 5).toNatClampNeg p0) fun σ1 => (zSg (zIn (σ1.1 1 5) 30) (zWD σ1 7 (σ1.1 1 5).toNatClampNeg p1) fun σ2 => (zSg (zIn (σ2.1 1 5) 30) (zWD σ2 8 (σ2.1 1 5).toNatClampNeg p2) fun σ3 => (zSg (zIn (σ3.1 1 5) 30) (zWD σ3 9 (σ3.1 1 5).toNatClampNeg p3) fun σ4 => (zSt' (zWD σ4 1 5 ((σ4.1 1 5) + (1 : Int32))) fun σ5 => (some ((σ4.1 1 5), σ5)))))))
    else (some ((-3 : Int32), σ))
set_option maxHeartbeats 4000000 in
set_option maxRecDepth 100000 in
theorem z_X7_addWindow (g : ZG) (p0 : Int32) (p1 : Int32) (p2 : Int32) (p3 : Int32) (σ : ZSt) : Zo g (mX7_addWindow g 0) (fun b : Int32 × ZSt => (some (.int b.1), zw b.2)) (s_X7_addWindow p0 p1 p2 p3 σ) 0 0 0 [some (.ref 1), some (.int p0), some (.int p1), some (.int p2), some (.int p3)] [] (zw σ) := by
  unfold s_X7_addWindow
  refine Zo_aload0 dX7_addWindow_0 ?_
  refine Zo_geti fl_X7_52 kd_1 dX7_addWindow_1 ?_
  refine Zo_bipush (30 : Int32) dX7_addWindow_4 bp_30 ?_
  refine Zo_icmplt 12 dX7_addWindow_6 (by decide) ?_ ?_
  · refine Zo_aload0 dX7_addWindow_12 ?_
    refine Zo_getr (j := 6) fl_X7_24 kd_1 rfl dX7_addWindow_13 ?_
    refine Zo_aload0 dX7_addWindow_16 ?_
    refine Zo_geti fl_X7_52 kd_1 dX7_addWindow_17 ?_
    refine Zo_iload1 dX7_addWindow_20 ?_
    refine Zo_iast kd_6 dX7_addWindow_21 fun σ1 => ?_
    refine Zo_aload0 dX7_addWindow_22 ?_
    show Zo g _ _ _ 0 0 23 _ _ _
    refine Zo_getr (j := 7) fl_X7_27 kd_1 rfl dX7_addWindow_23 ?_
    refine Zo_aload0 dX7_addWindow_26 ?_
    refine Zo_geti fl_X7_52 kd_1 dX7_addWindow_27 ?_
    refine Zo_iload2 dX7_addWindow_30 ?_
    refine Zo_iast kd_7 dX7_addWindow_31 fun σ2 => ?_
    refine Zo_aload0 dX7_addWindow_32 ?_
    refine Zo_getr (j := 8) fl_X7_30 kd_1 rfl dX7_addWindow_33 ?_
    refine Zo_aload0 dX7_addWindow_36 ?_
    show Zo g _ _ _ 0 0 37 _ _ _
    refine Zo_geti fl_X7_52 kd_1 dX7_addWindow_37 ?_
    refine Zo_iload3 dX7_addWindow_40 ?_
    refine Zo_iast kd_8 dX7_addWindow_41 fun σ3 => ?_
    refine Zo_aload0 dX7_addWindow_42 ?_
    refine Zo_getr (j := 9) fl_X7_33 kd_1 rfl dX7_addWindow_43 ?_
    refine Zo_aload0 dX7_addWindow_46 ?_
    refine Zo_geti fl_X7_52 kd_1 dX7_addWindow_47 ?_
    refine Zo_iload4 dX7_addWindow_50 ?_
    show Zo g _ _ _ 0 0 52 _ _ _
    refine Zo_iast kd_9 dX7_addWindow_52 fun σ4 => ?_
    refine Zo_aload0 dX7_addWindow_53 ?_
    refine Zo_dup dX7_addWindow_54 rfl ?_
    refine Zo_geti fl_X7_52 kd_1 dX7_addWindow_55 ?_
    refine Zo_dup_x1 dX7_addWindow_58 rfl rfl ?_
    refine Zo_iconst (1 : Int32) dX7_addWindow_59 ic_1 ?_
    refine Zo_iadd dX7_addWindow_60 ?_
    refine Zo_puti fl_X7_52 kd_1 dX7_addWindow_61 fun σ5 => ?_
    show Zo g _ _ _ 0 0 64 _ _ _
    exact Zo_iret dX7_addWindow_64 rfl rfl (Nat.le_refl _) (Nat.le_refl _)
  · refine Zo_bipush (-3 : Int32) dX7_addWindow_9 bp_m3 ?_
    exact Zo_iret dX7_addWindow_11 rfl rfl (Nat.le_refl _) (Nat.le_refl _)
theorem e_X7_addWindow (g : ZG) (p0 : Int32) (p1 : Int32) (p2 : Int32) (p3 : Int32) (σ : ZSt) : zEvS g 0 yX7_addWindow cX7_addWindow 5 (some .int) [.ref 1, .int p0, .int p1, .int p2, .int p3] σ (s_X7_addWindow p0 p1 p2 p3 σ) :=
  zEvS_of 0 rfl rfl (z_X7_addWindow g p0 p1 p2 p3 σ)
abbrev mX7_addPlayer (g : ZG) (q : Nat) : ZM := (yX7_addPlayer, cX7_addPlayer, 5, (some .int), zRm q 0 0, zTg g 0 0)
def s_X7_addPlayer (p0 : Int32) (p1 : Int32) (p2 : Int32) (p3 : Int32) (σ : ZSt) : Option (Int32 × ZSt) :=
  if (σ.1 1 10) < (8 : Int32) then (zSg (zIn (σ.1 1 10) 8) (zWD σ 10 (σ.1 1 10).toNatClampNeg p0) fun σ1 => (zSg (zIn (σ1.1 1 10) 8) (zWD σ1 11 (σ1.1 1 10).toNatClampNeg p1) fun σ2 => (zSg (zIn (σ2.1 1 10) 8) (zWD σ2 12 (σ2.1 1 10).toNatClampNeg p2) fun σ3 => (zSg (zIn (σ3.1 1 10) 8) (zWD σ3 13 (σ3.1 1 10).toNatClampNeg p3) fun σ4 => (zSt' (zWD σ4 1 10 ((σ4.1 1 10) + (1 : Int32))) fun σ5 => (some ((σ4.1 1 10), σ5)))))))
    else (some ((-3 : Int32), σ))
set_option maxHeartbeats 4000000 in
set_option maxRecDepth 100000 in
theorem z_X7_addPlayer (g : ZG) (p0 : Int32) (p1 : Int32) (p2 : Int32) (p3 : Int32) (σ : ZSt) : Zo g (mX7_addPlayer g 0) (fun b : Int32 × ZSt => (some (.int b.1), zw b.2)) (s_X7_addPlayer p0 p1 p2 p3 σ) 0 0 0 [some (.ref 1), some (.int p0), some (.int p1), some (.int p2), some (.int p3)] [] (zw σ) := by
  unfold s_X7_addPlayer
  refine Zo_aload0 dX7_addPlayer_0 ?_
  refine Zo_geti fl_X7_55 kd_1 dX7_addPlayer_1 ?_
  refine Zo_bipush (8 : Int32) dX7_addPlayer_4 bp_8 ?_
  refine Zo_icmplt 12 dX7_addPlayer_6 (by decide) ?_ ?_
  · refine Zo_aload0 dX7_addPlayer_12 ?_
    refine Zo_getr (j := 10) fl_X7_36 kd_1 rfl dX7_addPlayer_13 ?_
    refine Zo_aload0 dX7_addPlayer_16 ?_
    refine Zo_geti fl_X7_55 kd_1 dX7_addPlayer_17 ?_
    refine Zo_iload1 dX7_addPlayer_20 ?_
    refine Zo_iast kd_10 dX7_addPlayer_21 fun σ1 => ?_
    refine Zo_aload0 dX7_addPlayer_22 ?_
    show Zo g _ _ _ 0 0 23 _ _ _
    refine Zo_getr (j := 11) fl_X7_39 kd_1 rfl dX7_addPlayer_23 ?_
    refine Zo_aload0 dX7_addPlayer_26 ?_
    refine Zo_geti fl_X7_55 kd_1 dX7_addPlayer_27 ?_
    refine Zo_iload2 dX7_addPlayer_30 ?_
    refine Zo_iast kd_11 dX7_addPlayer_31 fun σ2 => ?_
    refine Zo_aload0 dX7_addPlayer_32 ?_
    refine Zo_getr (j := 12) fl_X7_42 kd_1 rfl dX7_addPlayer_33 ?_
    refine Zo_aload0 dX7_addPlayer_36 ?_
    show Zo g _ _ _ 0 0 37 _ _ _
    refine Zo_geti fl_X7_55 kd_1 dX7_addPlayer_37 ?_
    refine Zo_iload3 dX7_addPlayer_40 ?_
    refine Zo_iast kd_12 dX7_addPlayer_41 fun σ3 => ?_
    refine Zo_aload0 dX7_addPlayer_42 ?_
    refine Zo_getr (j := 13) fl_X7_45 kd_1 rfl dX7_addPlayer_43 ?_
    refine Zo_aload0 dX7_addPlayer_46 ?_
    refine Zo_geti fl_X7_55 kd_1 dX7_addPlayer_47 ?_
    refine Zo_iload4 dX7_addPlayer_50 ?_
    show Zo g _ _ _ 0 0 52 _ _ _
    refine Zo_iast kd_13 dX7_addPlayer_52 fun σ4 => ?_
    refine Zo_aload0 dX7_addPlayer_53 ?_
    refine Zo_dup dX7_addPlayer_54 rfl ?_
    refine Zo_geti fl_X7_55 kd_1 dX7_addPlayer_55 ?_
    refine Zo_dup_x1 dX7_addPlayer_58 rfl rfl ?_
    refine Zo_iconst (1 : Int32) dX7_addPlayer_59 ic_1 ?_
    refine Zo_iadd dX7_addPlayer_60 ?_
    refine Zo_puti fl_X7_55 kd_1 dX7_addPlayer_61 fun σ5 => ?_
    show Zo g _ _ _ 0 0 64 _ _ _
    exact Zo_iret dX7_addPlayer_64 rfl rfl (Nat.le_refl _) (Nat.le_refl _)
  · refine Zo_bipush (-3 : Int32) dX7_addPlayer_9 bp_m3 ?_
    exact Zo_iret dX7_addPlayer_11 rfl rfl (Nat.le_refl _) (Nat.le_refl _)
theorem e_X7_addPlayer (g : ZG) (p0 : Int32) (p1 : Int32) (p2 : Int32) (p3 : Int32) (σ : ZSt) : zEvS g 0 yX7_addPlayer cX7_addPlayer 5 (some .int) [.ref 1, .int p0, .int p1, .int p2, .int p3] σ (s_X7_addPlayer p0 p1 p2 p3 σ) :=
  zEvS_of 0 rfl rfl (z_X7_addPlayer g p0 p1 p2 p3 σ)
abbrev mX7_isWindow (g : ZG) (q : Nat) : ZM := (yX7_isWindow, cX7_isWindow, 2, (some .boolean), zRm q 0 0, zTg g 0 0)
def s_X7_isWindow (p0 : Int32) (σ : ZSt) : Option Int32 :=
  if p0 < (0 : Int32) then (some (0 : Int32))
    else (if (σ.1 1 5) ≤ p0 then (some (0 : Int32))
      else (if (30 : Int32) ≤ p0 then (some (0 : Int32))
        else (some (1 : Int32))))
set_option maxHeartbeats 4000000 in
set_option maxRecDepth 100000 in
theorem z_X7_isWindow (g : ZG) (p0 : Int32) (σ : ZSt) : Zo g (mX7_isWindow g 0) (fun b : Int32 => (some (.int b), zw σ)) (s_X7_isWindow p0 σ) 0 0 0 [some (.ref 1), some (.int p0)] [] (zw σ) := by
  unfold s_X7_isWindow
  refine Zo_iload1 dX7_isWindow_0 ?_
  refine Zo_iflt 22 dX7_isWindow_1 (by decide) ?_ ?_
  · refine Zo_iconst (0 : Int32) dX7_isWindow_22 ic_0 ?_
    exact Zo_zret dX7_isWindow_23 rfl rfl (Or.inl rfl) (Nat.le_refl _) (Nat.le_refl _)
  · refine Zo_iload1 dX7_isWindow_4 ?_
    refine Zo_aload0 dX7_isWindow_5 ?_
    refine Zo_geti fl_X7_52 kd_1 dX7_isWindow_6 ?_
    refine Zo_icmpge 22 dX7_isWindow_9 (by decide) ?_ ?_
    · refine Zo_iconst (0 : Int32) dX7_isWindow_22 ic_0 ?_
      exact Zo_zret dX7_isWindow_23 rfl rfl (Or.inl rfl) (Nat.le_refl _) (Nat.le_refl _)
    · refine Zo_iload1 dX7_isWindow_12 ?_
      refine Zo_bipush (30 : Int32) dX7_isWindow_13 bp_30 ?_
      refine Zo_icmpge 22 dX7_isWindow_15 (by decide) ?_ ?_
      · refine Zo_iconst (0 : Int32) dX7_isWindow_22 ic_0 ?_
        exact Zo_zret dX7_isWindow_23 rfl rfl (Or.inl rfl) (Nat.le_refl _) (Nat.le_refl _)
      · refine Zo_iconst (1 : Int32) dX7_isWindow_18 ic_1 ?_
        refine Zo_goto 23 dX7_isWindow_19 (by decide) ?_
        exact Zo_zret dX7_isWindow_23 rfl rfl (Or.inr rfl) (Nat.le_refl _) (Nat.le_refl _)
theorem e_X7_isWindow (g : ZG) (p0 : Int32) (σ : ZSt) : zEvI g 0 yX7_isWindow cX7_isWindow 2 (some .boolean) [.ref 1, .int p0] σ (s_X7_isWindow p0 σ) :=
  zEvI_of 0 rfl rfl (z_X7_isWindow g p0 σ)
abbrev mX7_takesMend (g : ZG) (q : Nat) : ZM := (yX7_takesMend, cX7_takesMend, 4, (some .boolean), zRm q 0 0, zTg g 0 0)
def s_X7_takesMend (p0 : Int32) (p1 : Int32) (p2 : Int32) (σ : ZSt) : Option Int32 :=
  if p1 = (0 : Int32) then ((s_X7_isWindow p0 σ).bind fun r1 => (if r1 = (0 : Int32) then (some (0 : Int32))
      else ((s_X9_isWithin p2 (0 : Int32) (99 : Int32) σ).bind fun r2 => (if r2 = (0 : Int32) then (some (0 : Int32))
        else (some (1 : Int32))))))
    else (if p1 = (1 : Int32) then ((s_X7_isWindow p0 σ).bind fun r3 => (if r3 = (0 : Int32) then (some (0 : Int32))
      else ((s_X9_isWithin p2 (-99 : Int32) (99 : Int32) σ).bind fun r4 => (if r4 = (0 : Int32) then (some (0 : Int32))
        else (some (1 : Int32))))))
    else (if p1 = (2 : Int32) then ((s_X7_isStreet p0 σ).bind fun r5 => (if r5 = (0 : Int32) then (some (0 : Int32))
      else ((s_X9_isWithin p2 (0 : Int32) (99 : Int32) σ).bind fun r6 => (if r6 = (0 : Int32) then (some (0 : Int32))
        else (some (1 : Int32))))))
    else (some (0 : Int32))))
set_option maxHeartbeats 4000000 in
set_option maxRecDepth 100000 in
theorem z_X7_takesMend (g : ZG) (p0 : Int32) (p1 : Int32) (p2 : Int32) (σ : ZSt) : Zo g (mX7_takesMend g 1) (fun b : Int32 => (some (.int b), zw σ)) (s_X7_takesMend p0 p1 p2 σ) 0 0 0 [some (.ref 1), some (.int p0), some (.int p1), some (.int p2)] [] (zw σ) := by
  unfold s_X7_takesMend
  refine Zo_iload2 dX7_takesMend_0 ?_
  refine Zo_ite (fun hc0 => ?_) (fun hc0 => ?_)
  · refine Zo_tswC (off := 27) (0 : Int32) 28 hc0 dX7_takesMend_1 (by decide) (by decide) (by decide) (by decide) ?_
    refine Zo_aload0 dX7_takesMend_28 ?_
    refine Zo_iload1 dX7_takesMend_29 ?_
    refine Zo_cVI1 lk_X7_66 (e_X7_isWindow g _ _) kd_1 (zFit_rm (by decide)) (zle rfl) dX7_takesMend_30 fun r1 => ?_
    refine Zo_ifeq 50 dX7_takesMend_33 (by decide) ?_ ?_
    · refine Zo_iconst (0 : Int32) dX7_takesMend_50 ic_0 ?_
      exact Zo_zret dX7_takesMend_51 rfl rfl (Or.inl rfl) (Nat.le_refl _) (Nat.le_refl _)
    · refine Zo_iload3 dX7_takesMend_36 ?_
      refine Zo_iconst (0 : Int32) dX7_takesMend_37 ic_0 ?_
      refine Zo_bipush (99 : Int32) dX7_takesMend_38 bp_99 ?_
      refine Zo_cSI3 lk_X7_62 (e_X9_isWithin g _ _ _ _) (zFit_rm (by decide)) (zle rfl) dX7_takesMend_40 fun r2 => ?_
      refine Zo_ifeq 50 dX7_takesMend_43 (by decide) ?_ ?_
      · refine Zo_iconst (0 : Int32) dX7_takesMend_50 ic_0 ?_
        exact Zo_zret dX7_takesMend_51 rfl rfl (Or.inl rfl) (Nat.le_refl _) (Nat.le_refl _)
      · refine Zo_iconst (1 : Int32) dX7_takesMend_46 ic_1 ?_
        refine Zo_goto 51 dX7_takesMend_47 (by decide) ?_
        exact Zo_zret dX7_takesMend_51 rfl rfl (Or.inr rfl) (Nat.le_refl _) (Nat.le_refl _)
  refine Zo_ite (fun hc1 => ?_) (fun hc1 => ?_)
  · refine Zo_tswC (off := 51) (1 : Int32) 52 hc1 dX7_takesMend_1 (by decide) (by decide) (by decide) (by decide) ?_
    refine Zo_aload0 dX7_takesMend_52 ?_
    refine Zo_iload1 dX7_takesMend_53 ?_
    refine Zo_cVI1 lk_X7_66 (e_X7_isWindow g _ _) kd_1 (zFit_rm (by decide)) (zle rfl) dX7_takesMend_54 fun r3 => ?_
    refine Zo_ifeq 75 dX7_takesMend_57 (by decide) ?_ ?_
    · refine Zo_iconst (0 : Int32) dX7_takesMend_75 ic_0 ?_
      exact Zo_zret dX7_takesMend_76 rfl rfl (Or.inl rfl) (Nat.le_refl _) (Nat.le_refl _)
    · refine Zo_iload3 dX7_takesMend_60 ?_
      refine Zo_bipush (-99 : Int32) dX7_takesMend_61 bp_m99 ?_
      refine Zo_bipush (99 : Int32) dX7_takesMend_63 bp_99 ?_
      refine Zo_cSI3 lk_X7_62 (e_X9_isWithin g _ _ _ _) (zFit_rm (by decide)) (zle rfl) dX7_takesMend_65 fun r4 => ?_
      refine Zo_ifeq 75 dX7_takesMend_68 (by decide) ?_ ?_
      · refine Zo_iconst (0 : Int32) dX7_takesMend_75 ic_0 ?_
        exact Zo_zret dX7_takesMend_76 rfl rfl (Or.inl rfl) (Nat.le_refl _) (Nat.le_refl _)
      · refine Zo_iconst (1 : Int32) dX7_takesMend_71 ic_1 ?_
        refine Zo_goto 76 dX7_takesMend_72 (by decide) ?_
        exact Zo_zret dX7_takesMend_76 rfl rfl (Or.inr rfl) (Nat.le_refl _) (Nat.le_refl _)
  refine Zo_ite (fun hc2 => ?_) (fun hc2 => ?_)
  · refine Zo_tswC (off := 76) (2 : Int32) 77 hc2 dX7_takesMend_1 (by decide) (by decide) (by decide) (by decide) ?_
    refine Zo_aload0 dX7_takesMend_77 ?_
    refine Zo_iload1 dX7_takesMend_78 ?_
    refine Zo_cVI1 lk_X7_58 (e_X7_isStreet g _ _) kd_1 (zFit_rm (by decide)) (zle rfl) dX7_takesMend_79 fun r5 => ?_
    refine Zo_ifeq 99 dX7_takesMend_82 (by decide) ?_ ?_
    · refine Zo_iconst (0 : Int32) dX7_takesMend_99 ic_0 ?_
      exact Zo_zret dX7_takesMend_100 rfl rfl (Or.inl rfl) (Nat.le_refl _) (Nat.le_refl _)
    · refine Zo_iload3 dX7_takesMend_85 ?_
      refine Zo_iconst (0 : Int32) dX7_takesMend_86 ic_0 ?_
      refine Zo_bipush (99 : Int32) dX7_takesMend_87 bp_99 ?_
      refine Zo_cSI3 lk_X7_62 (e_X9_isWithin g _ _ _ _) (zFit_rm (by decide)) (zle rfl) dX7_takesMend_89 fun r6 => ?_
      refine Zo_ifeq 99 dX7_takesMend_92 (by decide) ?_ ?_
      · refine Zo_iconst (0 : Int32) dX7_takesMend_99 ic_0 ?_
        exact Zo_zret dX7_takesMend_100 rfl rfl (Or.inl rfl) (Nat.le_refl _) (Nat.le_refl _)
      · refine Zo_iconst (1 : Int32) dX7_takesMend_95 ic_1 ?_
        refine Zo_goto 100 dX7_takesMend_96 (by decide) ?_
        exact Zo_zret dX7_takesMend_100 rfl rfl (Or.inr rfl) (Nat.le_refl _) (Nat.le_refl _)
  refine Zo_tswOut 101 dX7_takesMend_1 (by have a0 := zne_0 hc0; have a1 := zne_1 hc1; have a2 := zne_2 hc2; omega) (by decide) ?_
  refine Zo_iconst (0 : Int32) dX7_takesMend_101 ic_0 ?_
  exact Zo_zret dX7_takesMend_102 rfl rfl (Or.inl rfl) (Nat.le_refl _) (Nat.le_refl _)
theorem e_X7_takesMend (g : ZG) (p0 : Int32) (p1 : Int32) (p2 : Int32) (σ : ZSt) : zEvI g 1 yX7_takesMend cX7_takesMend 4 (some .boolean) [.ref 1, .int p0, .int p1, .int p2] σ (s_X7_takesMend p0 p1 p2 σ) :=
  zEvI_of 0 rfl rfl (z_X7_takesMend g p0 p1 p2 σ)
abbrev mX7_take (g : ZG) (q : Nat) : ZM := (yX7_take, cX7_take, 2, (some .int), zRm q 0 0, zTg g 0 0)
def s_X7_take (p0 : Int32) (σ : ZSt) : Option Int32 :=
  (s_X7_isStreet p0 σ).bind fun r1 => (if r1 = (0 : Int32) then (some (0 : Int32))
    else (zLd (zIn p0 6) (σ.1 2 p0.toNatClampNeg) fun v2 => (some v2)))
set_option maxHeartbeats 4000000 in
set_option maxRecDepth 100000 in
theorem z_X7_take (g : ZG) (p0 : Int32) (σ : ZSt) : Zo g (mX7_take g 1) (fun b : Int32 => (some (.int b), zw σ)) (s_X7_take p0 σ) 0 0 0 [some (.ref 1), some (.int p0)] [] (zw σ) := by
  unfold s_X7_take
  refine Zo_aload0 dX7_take_0 ?_
  refine Zo_iload1 dX7_take_1 ?_
  refine Zo_cVI1 lk_X7_58 (e_X7_isStreet g _ _) kd_1 (zFit_rm (by decide)) (zle rfl) dX7_take_2 fun r1 => ?_
  refine Zo_ifeq 17 dX7_take_5 (by decide) ?_ ?_
  · refine Zo_iconst (0 : Int32) dX7_take_17 ic_0 ?_
    exact Zo_iret dX7_take_18 rfl rfl (Nat.le_refl _) (Nat.le_refl _)
  · refine Zo_aload0 dX7_take_8 ?_
    refine Zo_getr (j := 2) fl_X7_9 kd_1 rfl dX7_take_9 ?_
    refine Zo_iload1 dX7_take_12 ?_
    refine Zo_iald kd_2 dX7_take_13 fun v2 => ?_
    refine Zo_goto 18 dX7_take_14 (by decide) ?_
    exact Zo_iret dX7_take_18 rfl rfl (Nat.le_refl _) (Nat.le_refl _)
theorem e_X7_take (g : ZG) (p0 : Int32) (σ : ZSt) : zEvI g 1 yX7_take cX7_take 2 (some .int) [.ref 1, .int p0] σ (s_X7_take p0 σ) :=
  zEvI_of 0 rfl rfl (z_X7_take g p0 σ)
abbrev mX7_told (g : ZG) (q : Nat) : ZM := (yX7_told, cX7_told, 3, (some .int), zRm q 0 0, zTg g 0 0)
def s_X7_told (p0 : Int32) (p1 : Int32) (σ : ZSt) : Option Int32 :=
  if p1 = (2 : Int32) then ((s_X7_take p0 σ).bind fun r4 => (some r4))
    else ((s_X7_isWindow p0 σ).bind fun r1 => (if r1 = (0 : Int32) then (some (0 : Int32))
      else (if p1 = (0 : Int32) then (zLd (zIn p0 30) (σ.1 7 p0.toNatClampNeg) fun v3 => (some v3))
        else (zLd (zIn p0 30) (σ.1 8 p0.toNatClampNeg) fun v2 => (some v2)))))
set_option maxHeartbeats 4000000 in
set_option maxRecDepth 100000 in
theorem z_X7_told (g : ZG) (p0 : Int32) (p1 : Int32) (σ : ZSt) : Zo g (mX7_told g 2) (fun b : Int32 => (some (.int b), zw σ)) (s_X7_told p0 p1 σ) 0 0 0 [some (.ref 1), some (.int p0), some (.int p1)] [] (zw σ) := by
  unfold s_X7_told
  refine Zo_iload2 dX7_told_0 ?_
  refine Zo_iconst (2 : Int32) dX7_told_1 ic_2 ?_
  refine Zo_icmpne 11 dX7_told_2 (by decide) ?_ ?_
  · refine Zo_aload0 dX7_told_11 ?_
    refine Zo_iload1 dX7_told_12 ?_
    refine Zo_cVI1 lk_X7_66 (e_X7_isWindow g _ _) kd_1 (zFit_rm (by decide)) (zle rfl) dX7_told_13 fun r1 => ?_
    refine Zo_ifne 21 dX7_told_16 (by decide) ?_ ?_
    · refine Zo_iload2 dX7_told_21 ?_
      refine Zo_ifne 34 dX7_told_22 (by decide) ?_ ?_
      · refine Zo_aload0 dX7_told_34 ?_
        refine Zo_getr (j := 8) fl_X7_30 kd_1 rfl dX7_told_35 ?_
        refine Zo_iload1 dX7_told_38 ?_
        refine Zo_iald kd_8 dX7_told_39 fun v2 => ?_
        exact Zo_iret dX7_told_40 rfl rfl (Nat.le_refl _) (Nat.le_refl _)
      · refine Zo_aload0 dX7_told_25 ?_
        refine Zo_getr (j := 7) fl_X7_27 kd_1 rfl dX7_told_26 ?_
        refine Zo_iload1 dX7_told_29 ?_
        refine Zo_iald kd_7 dX7_told_30 fun v3 => ?_
        refine Zo_goto 40 dX7_told_31 (by decide) ?_
        exact Zo_iret dX7_told_40 rfl rfl (Nat.le_refl _) (Nat.le_refl _)
    · refine Zo_iconst (0 : Int32) dX7_told_19 ic_0 ?_
      exact Zo_iret dX7_told_20 rfl rfl (Nat.le_refl _) (Nat.le_refl _)
  · refine Zo_aload0 dX7_told_5 ?_
    refine Zo_iload1 dX7_told_6 ?_
    refine Zo_cVI1 lk_X7_69 (e_X7_take g _ _) kd_1 (zFit_rm (by decide)) (zle rfl) dX7_told_7 fun r4 => ?_
    exact Zo_iret dX7_told_10 rfl rfl (Nat.le_refl _) (Nat.le_refl _)
theorem e_X7_told (g : ZG) (p0 : Int32) (p1 : Int32) (σ : ZSt) : zEvI g 2 yX7_told cX7_told 3 (some .int) [.ref 1, .int p0, .int p1] σ (s_X7_told p0 p1 σ) :=
  zEvI_of 0 rfl rfl (z_X7_told g p0 p1 σ)
abbrev mX7_tell (g : ZG) (q : Nat) : ZM := (yX7_tell, cX7_tell, 4, none, zRm q 0 0, zTg g 0 0)
def s_X7_tell (p0 : Int32) (p1 : Int32) (p2 : Int32) (σ : ZSt) : Option ZSt :=
  if p1 = (2 : Int32) then ((s_X7_isStreet p0 σ).bind fun r4 => (if r4 = (0 : Int32) then (some σ)
      else (zSg (zIn p0 6) (zWD σ 2 p0.toNatClampNeg p2) fun σ5 => (some σ5))))
    else ((s_X7_isWindow p0 σ).bind fun r1 => (if r1 = (0 : Int32) then (some σ)
      else (if p1 = (0 : Int32) then (zSg (zIn p0 30) (zWD σ 7 p0.toNatClampNeg p2) fun σ3 => (some σ3))
        else (zSg (zIn p0 30) (zWD σ 8 p0.toNatClampNeg p2) fun σ2 => (some σ2)))))
set_option maxHeartbeats 4000000 in
set_option maxRecDepth 100000 in
theorem z_X7_tell (g : ZG) (p0 : Int32) (p1 : Int32) (p2 : Int32) (σ : ZSt) : Zo g (mX7_tell g 1) (fun b : ZSt => (none, zw b)) (s_X7_tell p0 p1 p2 σ) 0 0 0 [some (.ref 1), some (.int p0), some (.int p1), some (.int p2)] [] (zw σ) := by
  unfold s_X7_tell
  refine Zo_iload2 dX7_tell_0 ?_
  refine Zo_iconst (2 : Int32) dX7_tell_1 ic_2 ?_
  refine Zo_icmpne 23 dX7_tell_2 (by decide) ?_ ?_
  · refine Zo_aload0 dX7_tell_23 ?_
    refine Zo_iload1 dX7_tell_24 ?_
    refine Zo_cVI1 lk_X7_66 (e_X7_isWindow g _ _) kd_1 (zFit_rm (by decide)) (zle rfl) dX7_tell_25 fun r1 => ?_
    refine Zo_ifeq 52 dX7_tell_28 (by decide) ?_ ?_
    · exact Zo_vret dX7_tell_52 rfl rfl (Nat.le_refl _) (Nat.le_refl _)
    · refine Zo_iload2 dX7_tell_31 ?_
      refine Zo_ifne 45 dX7_tell_32 (by decide) ?_ ?_
      · refine Zo_aload0 dX7_tell_45 ?_
        refine Zo_getr (j := 8) fl_X7_30 kd_1 rfl dX7_tell_46 ?_
        refine Zo_iload1 dX7_tell_49 ?_
        refine Zo_iload3 dX7_tell_50 ?_
        refine Zo_iast kd_8 dX7_tell_51 fun σ2 => ?_
        exact Zo_vret dX7_tell_52 rfl rfl (Nat.le_refl _) (Nat.le_refl _)
      · refine Zo_aload0 dX7_tell_35 ?_
        refine Zo_getr (j := 7) fl_X7_27 kd_1 rfl dX7_tell_36 ?_
        refine Zo_iload1 dX7_tell_39 ?_
        refine Zo_iload3 dX7_tell_40 ?_
        refine Zo_iast kd_7 dX7_tell_41 fun σ3 => ?_
        refine Zo_goto 52 dX7_tell_42 (by decide) ?_
        exact Zo_vret dX7_tell_52 rfl rfl (Nat.le_refl _) (Nat.le_refl _)
  · refine Zo_aload0 dX7_tell_5 ?_
    refine Zo_iload1 dX7_tell_6 ?_
    refine Zo_cVI1 lk_X7_58 (e_X7_isStreet g _ _) kd_1 (zFit_rm (by decide)) (zle rfl) dX7_tell_7 fun r4 => ?_
    refine Zo_ifeq 52 dX7_tell_10 (by decide) ?_ ?_
    · exact Zo_vret dX7_tell_52 rfl rfl (Nat.le_refl _) (Nat.le_refl _)
    · refine Zo_aload0 dX7_tell_13 ?_
      refine Zo_getr (j := 2) fl_X7_9 kd_1 rfl dX7_tell_14 ?_
      refine Zo_iload1 dX7_tell_17 ?_
      refine Zo_iload3 dX7_tell_18 ?_
      refine Zo_iast kd_2 dX7_tell_19 fun σ5 => ?_
      refine Zo_goto 52 dX7_tell_20 (by decide) ?_
      exact Zo_vret dX7_tell_52 rfl rfl (Nat.le_refl _) (Nat.le_refl _)
theorem e_X7_tell (g : ZG) (p0 : Int32) (p1 : Int32) (p2 : Int32) (σ : ZSt) : zEvV g 1 yX7_tell cX7_tell 4 none [.ref 1, .int p0, .int p1, .int p2] σ (s_X7_tell p0 p1 p2 σ) :=
  zEvV_of 0 rfl rfl (z_X7_tell g p0 p1 p2 σ)
abbrev mX7_wayAndSum (g : ZG) (q : Nat) : ZM := (yX7_wayAndSum, cX7_wayAndSum, 2, (some .int), zRm q 0 0, zTg g 0 0)
def s_X7_wayAndSum (p0 : Int32) (σ : ZSt) : Option Int32 :=
  (s_X7_isStreet p0 σ).bind fun r1 => (if r1 = (0 : Int32) then (some (0 : Int32))
    else (zLd (zIn p0 6) (σ.1 4 p0.toNatClampNeg) fun v2 => (zLd (zIn p0 6) (σ.1 5 p0.toNatClampNeg) fun v3 => (some (((100 : Int32) * v2) + v3)))))
set_option maxHeartbeats 4000000 in
set_option maxRecDepth 100000 in
theorem z_X7_wayAndSum (g : ZG) (p0 : Int32) (σ : ZSt) : Zo g (mX7_wayAndSum g 1) (fun b : Int32 => (some (.int b), zw σ)) (s_X7_wayAndSum p0 σ) 0 0 0 [some (.ref 1), some (.int p0)] [] (zw σ) := by
  unfold s_X7_wayAndSum
  refine Zo_aload0 dX7_wayAndSum_0 ?_
  refine Zo_iload1 dX7_wayAndSum_1 ?_
  refine Zo_cVI1 lk_X7_58 (e_X7_isStreet g _ _) kd_1 (zFit_rm (by decide)) (zle rfl) dX7_wayAndSum_2 fun r1 => ?_
  refine Zo_ifeq 27 dX7_wayAndSum_5 (by decide) ?_ ?_
  · refine Zo_iconst (0 : Int32) dX7_wayAndSum_27 ic_0 ?_
    exact Zo_iret dX7_wayAndSum_28 rfl rfl (Nat.le_refl _) (Nat.le_refl _)
  · refine Zo_bipush (100 : Int32) dX7_wayAndSum_8 bp_100 ?_
    refine Zo_aload0 dX7_wayAndSum_10 ?_
    refine Zo_getr (j := 4) fl_X7_18 kd_1 rfl dX7_wayAndSum_11 ?_
    refine Zo_iload1 dX7_wayAndSum_14 ?_
    refine Zo_iald kd_4 dX7_wayAndSum_15 fun v2 => ?_
    refine Zo_imul dX7_wayAndSum_16 ?_
    refine Zo_aload0 dX7_wayAndSum_17 ?_
    show Zo g _ _ _ 0 0 18 _ _ _
    refine Zo_getr (j := 5) fl_X7_21 kd_1 rfl dX7_wayAndSum_18 ?_
    refine Zo_iload1 dX7_wayAndSum_21 ?_
    refine Zo_iald kd_5 dX7_wayAndSum_22 fun v3 => ?_
    refine Zo_iadd dX7_wayAndSum_23 ?_
    refine Zo_goto 28 dX7_wayAndSum_24 (by decide) ?_
    exact Zo_iret dX7_wayAndSum_28 rfl rfl (Nat.le_refl _) (Nat.le_refl _)
theorem e_X7_wayAndSum (g : ZG) (p0 : Int32) (σ : ZSt) : zEvI g 1 yX7_wayAndSum cX7_wayAndSum 2 (some .int) [.ref 1, .int p0] σ (s_X7_wayAndSum p0 σ) :=
  zEvI_of 0 rfl rfl (z_X7_wayAndSum g p0 σ)
abbrev mX7_setWay (g : ZG) (q : Nat) : ZM := (yX7_setWay, cX7_setWay, 4, none, zRm q 0 0, zTg g 0 0)
def s_X7_setWay (p0 : Int32) (p1 : Int32) (p2 : Int32) (σ : ZSt) : Option ZSt :=
  (s_X7_isStreet p0 σ).bind fun r1 => (if r1 = (0 : Int32) then (some σ)
    else (zSg (zIn p0 6) (zWD σ 4 p0.toNatClampNeg p1) fun σ2 => (zSg (zIn p0 6) (zWD σ2 5 p0.toNatClampNeg p2) fun σ3 => (some σ3))))
set_option maxHeartbeats 4000000 in
set_option maxRecDepth 100000 in
theorem z_X7_setWay (g : ZG) (p0 : Int32) (p1 : Int32) (p2 : Int32) (σ : ZSt) : Zo g (mX7_setWay g 1) (fun b : ZSt => (none, zw b)) (s_X7_setWay p0 p1 p2 σ) 0 0 0 [some (.ref 1), some (.int p0), some (.int p1), some (.int p2)] [] (zw σ) := by
  unfold s_X7_setWay
  refine Zo_aload0 dX7_setWay_0 ?_
  refine Zo_iload1 dX7_setWay_1 ?_
  refine Zo_cVI1 lk_X7_58 (e_X7_isStreet g _ _) kd_1 (zFit_rm (by decide)) (zle rfl) dX7_setWay_2 fun r1 => ?_
  refine Zo_ifne 9 dX7_setWay_5 (by decide) ?_ ?_
  · refine Zo_aload0 dX7_setWay_9 ?_
    refine Zo_getr (j := 4) fl_X7_18 kd_1 rfl dX7_setWay_10 ?_
    refine Zo_iload1 dX7_setWay_13 ?_
    refine Zo_iload2 dX7_setWay_14 ?_
    refine Zo_iast kd_4 dX7_setWay_15 fun σ2 => ?_
    refine Zo_aload0 dX7_setWay_16 ?_
    refine Zo_getr (j := 5) fl_X7_21 kd_1 rfl dX7_setWay_17 ?_
    show Zo g _ _ _ 0 0 20 _ _ _
    refine Zo_iload1 dX7_setWay_20 ?_
    refine Zo_iload3 dX7_setWay_21 ?_
    refine Zo_iast kd_5 dX7_setWay_22 fun σ3 => ?_
    exact Zo_vret dX7_setWay_23 rfl rfl (Nat.le_refl _) (Nat.le_refl _)
  · exact Zo_vret dX7_setWay_8 rfl rfl (Nat.le_refl _) (Nat.le_refl _)
theorem e_X7_setWay (g : ZG) (p0 : Int32) (p1 : Int32) (p2 : Int32) (σ : ZSt) : zEvV g 1 yX7_setWay cX7_setWay 4 none [.ref 1, .int p0, .int p1, .int p2] σ (s_X7_setWay p0 p1 p2 σ) :=
  zEvV_of 0 rfl rfl (z_X7_setWay g p0 p1 p2 σ)
abbrev mX7_isPlayer (g : ZG) (q : Nat) : ZM := (yX7_isPlayer, cX7_isPlayer, 2, (some .boolean), zRm q 0 0, zTg g 0 0)
def s_X7_isPlayer (p0 : Int32) (σ : ZSt) : Option Int32 :=
  if p0 < (0 : Int32) then (some (0 : Int32))
    else (if (σ.1 1 10) ≤ p0 then (some (0 : Int32))
      else (if (8 : Int32) ≤ p0 then (some (0 : Int32))
        else (some (1 : Int32))))
set_option maxHeartbeats 4000000 in
set_option maxRecDepth 100000 in
theorem z_X7_isPlayer (g : ZG) (p0 : Int32) (σ : ZSt) : Zo g (mX7_isPlayer g 0) (fun b : Int32 => (some (.int b), zw σ)) (s_X7_isPlayer p0 σ) 0 0 0 [some (.ref 1), some (.int p0)] [] (zw σ) := by
  unfold s_X7_isPlayer
  refine Zo_iload1 dX7_isPlayer_0 ?_
  refine Zo_iflt 22 dX7_isPlayer_1 (by decide) ?_ ?_
  · refine Zo_iconst (0 : Int32) dX7_isPlayer_22 ic_0 ?_
    exact Zo_zret dX7_isPlayer_23 rfl rfl (Or.inl rfl) (Nat.le_refl _) (Nat.le_refl _)
  · refine Zo_iload1 dX7_isPlayer_4 ?_
    refine Zo_aload0 dX7_isPlayer_5 ?_
    refine Zo_geti fl_X7_55 kd_1 dX7_isPlayer_6 ?_
    refine Zo_icmpge 22 dX7_isPlayer_9 (by decide) ?_ ?_
    · refine Zo_iconst (0 : Int32) dX7_isPlayer_22 ic_0 ?_
      exact Zo_zret dX7_isPlayer_23 rfl rfl (Or.inl rfl) (Nat.le_refl _) (Nat.le_refl _)
    · refine Zo_iload1 dX7_isPlayer_12 ?_
      refine Zo_bipush (8 : Int32) dX7_isPlayer_13 bp_8 ?_
      refine Zo_icmpge 22 dX7_isPlayer_15 (by decide) ?_ ?_
      · refine Zo_iconst (0 : Int32) dX7_isPlayer_22 ic_0 ?_
        exact Zo_zret dX7_isPlayer_23 rfl rfl (Or.inl rfl) (Nat.le_refl _) (Nat.le_refl _)
      · refine Zo_iconst (1 : Int32) dX7_isPlayer_18 ic_1 ?_
        refine Zo_goto 23 dX7_isPlayer_19 (by decide) ?_
        exact Zo_zret dX7_isPlayer_23 rfl rfl (Or.inr rfl) (Nat.le_refl _) (Nat.le_refl _)
theorem e_X7_isPlayer (g : ZG) (p0 : Int32) (σ : ZSt) : zEvI g 0 yX7_isPlayer cX7_isPlayer 2 (some .boolean) [.ref 1, .int p0] σ (s_X7_isPlayer p0 σ) :=
  zEvI_of 0 rfl rfl (z_X7_isPlayer g p0 σ)
abbrev mX7_ofPlayer (g : ZG) (q : Nat) : ZM := (yX7_ofPlayer, cX7_ofPlayer, 3, (some .int), zRm q 0 0, zTg g 0 0)
def s_X7_ofPlayer (p0 : Int32) (p1 : Int32) (σ : ZSt) : Option Int32 :=
  (s_X7_isPlayer p0 σ).bind fun r1 => (if r1 = (0 : Int32) then (some (-2000000000 : Int32))
    else (if p1 = (0 : Int32) then (zLd (zIn p0 8) (σ.1 10 p0.toNatClampNeg) fun v2 => (some v2))
      else (if p1 = (1 : Int32) then (zLd (zIn p0 8) (σ.1 11 p0.toNatClampNeg) fun v3 => (some v3))
      else (if p1 = (2 : Int32) then (zLd (zIn p0 8) (σ.1 12 p0.toNatClampNeg) fun v4 => (some v4))
      else (zLd (zIn p0 8) (σ.1 13 p0.toNatClampNeg) fun v5 => (some v5))))))
set_option maxHeartbeats 4000000 in
set_option maxRecDepth 100000 in
theorem z_X7_ofPlayer (g : ZG) (p0 : Int32) (p1 : Int32) (σ : ZSt) : Zo g (mX7_ofPlayer g 1) (fun b : Int32 => (some (.int b), zw σ)) (s_X7_ofPlayer p0 p1 σ) 0 0 0 [some (.ref 1), some (.int p0), some (.int p1)] [] (zw σ) := by
  unfold s_X7_ofPlayer
  refine Zo_aload0 dX7_ofPlayer_0 ?_
  refine Zo_iload1 dX7_ofPlayer_1 ?_
  refine Zo_cVI1 lk_X7_73 (e_X7_isPlayer g _ _) kd_1 (zFit_rm (by decide)) (zle rfl) dX7_ofPlayer_2 fun r1 => ?_
  refine Zo_ifne 11 dX7_ofPlayer_5 (by decide) ?_ ?_
  · refine Zo_iload2 dX7_ofPlayer_11 ?_
    refine Zo_ite (fun hc0 => ?_) (fun hc0 => ?_)
    · refine Zo_tswC (off := 28) (0 : Int32) 40 hc0 dX7_ofPlayer_12 (by decide) (by decide) (by decide) (by decide) ?_
      refine Zo_aload0 dX7_ofPlayer_40 ?_
      refine Zo_getr (j := 10) fl_X7_36 kd_1 rfl dX7_ofPlayer_41 ?_
      refine Zo_iload1 dX7_ofPlayer_44 ?_
      refine Zo_iald kd_10 dX7_ofPlayer_45 fun v2 => ?_
      exact Zo_iret dX7_ofPlayer_46 rfl rfl (Nat.le_refl _) (Nat.le_refl _)
    refine Zo_ite (fun hc1 => ?_) (fun hc1 => ?_)
    · refine Zo_tswC (off := 35) (1 : Int32) 47 hc1 dX7_ofPlayer_12 (by decide) (by decide) (by decide) (by decide) ?_
      refine Zo_aload0 dX7_ofPlayer_47 ?_
      refine Zo_getr (j := 11) fl_X7_39 kd_1 rfl dX7_ofPlayer_48 ?_
      refine Zo_iload1 dX7_ofPlayer_51 ?_
      refine Zo_iald kd_11 dX7_ofPlayer_52 fun v3 => ?_
      exact Zo_iret dX7_ofPlayer_53 rfl rfl (Nat.le_refl _) (Nat.le_refl _)
    refine Zo_ite (fun hc2 => ?_) (fun hc2 => ?_)
    · refine Zo_tswC (off := 42) (2 : Int32) 54 hc2 dX7_ofPlayer_12 (by decide) (by decide) (by decide) (by decide) ?_
      refine Zo_aload0 dX7_ofPlayer_54 ?_
      refine Zo_getr (j := 12) fl_X7_42 kd_1 rfl dX7_ofPlayer_55 ?_
      refine Zo_iload1 dX7_ofPlayer_58 ?_
      refine Zo_iald kd_12 dX7_ofPlayer_59 fun v4 => ?_
      exact Zo_iret dX7_ofPlayer_60 rfl rfl (Nat.le_refl _) (Nat.le_refl _)
    refine Zo_tswOut 61 dX7_ofPlayer_12 (by have a0 := zne_0 hc0; have a1 := zne_1 hc1; have a2 := zne_2 hc2; omega) (by decide) ?_
    refine Zo_aload0 dX7_ofPlayer_61 ?_
    refine Zo_getr (j := 13) fl_X7_45 kd_1 rfl dX7_ofPlayer_62 ?_
    refine Zo_iload1 dX7_ofPlayer_65 ?_
    refine Zo_iald kd_13 dX7_ofPlayer_66 fun v5 => ?_
    exact Zo_iret dX7_ofPlayer_67 rfl rfl (Nat.le_refl _) (Nat.le_refl _)
  · refine Zo_ldc rfl cw_X7_76 dX7_ofPlayer_8 ?_
    exact Zo_iret dX7_ofPlayer_10 rfl rfl (Nat.le_refl _) (Nat.le_refl _)
theorem e_X7_ofPlayer (g : ZG) (p0 : Int32) (p1 : Int32) (σ : ZSt) : zEvI g 1 yX7_ofPlayer cX7_ofPlayer 3 (some .int) [.ref 1, .int p0, .int p1] σ (s_X7_ofPlayer p0 p1 σ) :=
  zEvI_of 0 rfl rfl (z_X7_ofPlayer g p0 p1 σ)
abbrev mX7_ofWindow (g : ZG) (q : Nat) : ZM := (yX7_ofWindow, cX7_ofWindow, 3, (some .int), zRm q 0 0, zTg g 0 0)
def s_X7_ofWindow (p0 : Int32) (p1 : Int32) (σ : ZSt) : Option Int32 :=
  (s_X7_isWindow p0 σ).bind fun r1 => (if r1 = (0 : Int32) then (some (-2000000000 : Int32))
    else (if p1 = (0 : Int32) then (zLd (zIn p0 30) (σ.1 6 p0.toNatClampNeg) fun v2 => (some v2))
      else (if p1 = (1 : Int32) then (zLd (zIn p0 30) (σ.1 7 p0.toNatClampNeg) fun v3 => (some v3))
      else (if p1 = (2 : Int32) then (zLd (zIn p0 30) (σ.1 8 p0.toNatClampNeg) fun v4 => (some v4))
      else (zLd (zIn p0 30) (σ.1 9 p0.toNatClampNeg) fun v5 => (some v5))))))
set_option maxHeartbeats 4000000 in
set_option maxRecDepth 100000 in
theorem z_X7_ofWindow (g : ZG) (p0 : Int32) (p1 : Int32) (σ : ZSt) : Zo g (mX7_ofWindow g 1) (fun b : Int32 => (some (.int b), zw σ)) (s_X7_ofWindow p0 p1 σ) 0 0 0 [some (.ref 1), some (.int p0), some (.int p1)] [] (zw σ) := by
  unfold s_X7_ofWindow
  refine Zo_aload0 dX7_ofWindow_0 ?_
  refine Zo_iload1 dX7_ofWindow_1 ?_
  refine Zo_cVI1 lk_X7_66 (e_X7_isWindow g _ _) kd_1 (zFit_rm (by decide)) (zle rfl) dX7_ofWindow_2 fun r1 => ?_
  refine Zo_ifne 11 dX7_ofWindow_5 (by decide) ?_ ?_
  · refine Zo_iload2 dX7_ofWindow_11 ?_
    refine Zo_ite (fun hc0 => ?_) (fun hc0 => ?_)
    · refine Zo_tswC (off := 28) (0 : Int32) 40 hc0 dX7_ofWindow_12 (by decide) (by decide) (by decide) (by decide) ?_
      refine Zo_aload0 dX7_ofWindow_40 ?_
      refine Zo_getr (j := 6) fl_X7_24 kd_1 rfl dX7_ofWindow_41 ?_
      refine Zo_iload1 dX7_ofWindow_44 ?_
      refine Zo_iald kd_6 dX7_ofWindow_45 fun v2 => ?_
      exact Zo_iret dX7_ofWindow_46 rfl rfl (Nat.le_refl _) (Nat.le_refl _)
    refine Zo_ite (fun hc1 => ?_) (fun hc1 => ?_)
    · refine Zo_tswC (off := 35) (1 : Int32) 47 hc1 dX7_ofWindow_12 (by decide) (by decide) (by decide) (by decide) ?_
      refine Zo_aload0 dX7_ofWindow_47 ?_
      refine Zo_getr (j := 7) fl_X7_27 kd_1 rfl dX7_ofWindow_48 ?_
      refine Zo_iload1 dX7_ofWindow_51 ?_
      refine Zo_iald kd_7 dX7_ofWindow_52 fun v3 => ?_
      exact Zo_iret dX7_ofWindow_53 rfl rfl (Nat.le_refl _) (Nat.le_refl _)
    refine Zo_ite (fun hc2 => ?_) (fun hc2 => ?_)
    · refine Zo_tswC (off := 42) (2 : Int32) 54 hc2 dX7_ofWindow_12 (by decide) (by decide) (by decide) (by decide) ?_
      refine Zo_aload0 dX7_ofWindow_54 ?_
      refine Zo_getr (j := 8) fl_X7_30 kd_1 rfl dX7_ofWindow_55 ?_
      refine Zo_iload1 dX7_ofWindow_58 ?_
      refine Zo_iald kd_8 dX7_ofWindow_59 fun v4 => ?_
      exact Zo_iret dX7_ofWindow_60 rfl rfl (Nat.le_refl _) (Nat.le_refl _)
    refine Zo_tswOut 61 dX7_ofWindow_12 (by have a0 := zne_0 hc0; have a1 := zne_1 hc1; have a2 := zne_2 hc2; omega) (by decide) ?_
    refine Zo_aload0 dX7_ofWindow_61 ?_
    refine Zo_getr (j := 9) fl_X7_33 kd_1 rfl dX7_ofWindow_62 ?_
    refine Zo_iload1 dX7_ofWindow_65 ?_
    refine Zo_iald kd_9 dX7_ofWindow_66 fun v5 => ?_
    exact Zo_iret dX7_ofWindow_67 rfl rfl (Nat.le_refl _) (Nat.le_refl _)
  · refine Zo_ldc rfl cw_X7_76 dX7_ofWindow_8 ?_
    exact Zo_iret dX7_ofWindow_10 rfl rfl (Nat.le_refl _) (Nat.le_refl _)
theorem e_X7_ofWindow (g : ZG) (p0 : Int32) (p1 : Int32) (σ : ZSt) : zEvI g 1 yX7_ofWindow cX7_ofWindow 3 (some .int) [.ref 1, .int p0, .int p1] σ (s_X7_ofWindow p0 p1 σ) :=
  zEvI_of 0 rfl rfl (z_X7_ofWindow g p0 p1 σ)
abbrev mX7_isOf (g : ZG) (q : Nat) : ZM := (yX7_isOf, cX7_isOf, 3, (some .boolean), zRm q 0 0, zTg g 0 0)
def s_X7_isOf (p0 : Int32) (p1 : Int32) (σ : ZSt) : Option Int32 :=
  (s_X7_isWindow p0 σ).bind fun r1 => (if r1 = (0 : Int32) then (some (0 : Int32))
    else (zLd (zIn p0 30) (σ.1 6 p0.toNatClampNeg) fun v2 => (if v2 = p1 then (some (1 : Int32))
      else (some (0 : Int32)))))
set_option maxHeartbeats 4000000 in
set_option maxRecDepth 100000 in
theorem z_X7_isOf (g : ZG) (p0 : Int32) (p1 : Int32) (σ : ZSt) : Zo g (mX7_isOf g 1) (fun b : Int32 => (some (.int b), zw σ)) (s_X7_isOf p0 p1 σ) 0 0 0 [some (.ref 1), some (.int p0), some (.int p1)] [] (zw σ) := by
  unfold s_X7_isOf
  refine Zo_aload0 dX7_isOf_0 ?_
  refine Zo_iload1 dX7_isOf_1 ?_
  refine Zo_cVI1 lk_X7_66 (e_X7_isWindow g _ _) kd_1 (zFit_rm (by decide)) (zle rfl) dX7_isOf_2 fun r1 => ?_
  refine Zo_ifeq 22 dX7_isOf_5 (by decide) ?_ ?_
  · refine Zo_iconst (0 : Int32) dX7_isOf_22 ic_0 ?_
    exact Zo_zret dX7_isOf_23 rfl rfl (Or.inl rfl) (Nat.le_refl _) (Nat.le_refl _)
  · refine Zo_aload0 dX7_isOf_8 ?_
    refine Zo_getr (j := 6) fl_X7_24 kd_1 rfl dX7_isOf_9 ?_
    refine Zo_iload1 dX7_isOf_12 ?_
    refine Zo_iald kd_6 dX7_isOf_13 fun v2 => ?_
    refine Zo_iload2 dX7_isOf_14 ?_
    refine Zo_icmpne 22 dX7_isOf_15 (by decide) ?_ ?_
    · refine Zo_iconst (0 : Int32) dX7_isOf_22 ic_0 ?_
      exact Zo_zret dX7_isOf_23 rfl rfl (Or.inl rfl) (Nat.le_refl _) (Nat.le_refl _)
    · refine Zo_iconst (1 : Int32) dX7_isOf_18 ic_1 ?_
      refine Zo_goto 23 dX7_isOf_19 (by decide) ?_
      exact Zo_zret dX7_isOf_23 rfl rfl (Or.inr rfl) (Nat.le_refl _) (Nat.le_refl _)
theorem e_X7_isOf (g : ZG) (p0 : Int32) (p1 : Int32) (σ : ZSt) : zEvI g 1 yX7_isOf cX7_isOf 3 (some .boolean) [.ref 1, .int p0, .int p1] σ (s_X7_isOf p0 p1 σ) :=
  zEvI_of 0 rfl rfl (z_X7_isOf g p0 p1 σ)
abbrev mX7_windowsOf (g : ZG) (q : Nat) : ZM := (yX7_windowsOf, cX7_windowsOf, 4, (some .int), zRm q 0 0, zTg g 0 0)
def s_X7_windowsOf_L4 (l1 : Int32) (σ : ZSt) : Nat → Int32 → Int32 → Option Int32
  | 0, _, _ => none
  | n + 1, l2, l3 =>
    if (σ.1 1 5) ≤ l3 then (some l2)
      else ((s_X7_isOf l3 l1 σ).bind fun r1 => (if r1 = (0 : Int32) then (s_X7_windowsOf_L4 l1 σ n l2 (l3 + (1 : Int32)))
        else (s_X7_windowsOf_L4 l1 σ n (l2 + (1 : Int32)) (l3 + (1 : Int32)))))
set_option maxHeartbeats 4000000 in
set_option maxRecDepth 100000 in
theorem z_X7_windowsOf_L4 (g : ZG) (l1 : Int32) (σ : ZSt) : ∀ (n : Nat) (l2 : Int32) (l3 : Int32), Zo g (mX7_windowsOf g 2) (fun b : Int32 => (some (.int b), zw σ)) (s_X7_windowsOf_L4 l1 σ n l2 l3) 0 0 4 [some (.ref 1), some (.int l1), some (.int l2), some (.int l3)] [] (zw σ) := by
  intro n
  induction n with
  | zero => intros; exact Zo_none
  | succ n ih =>
    intro l2 l3
    rw [s_X7_windowsOf_L4]
    refine Zo_iload3 dX7_windowsOf_4 ?_
    refine Zo_aload0 dX7_windowsOf_5 ?_
    refine Zo_geti fl_X7_52 kd_1 dX7_windowsOf_6 ?_
    refine Zo_icmpge 30 dX7_windowsOf_9 (by decide) ?_ ?_
    · refine Zo_iload2 dX7_windowsOf_30 ?_
      exact Zo_iret dX7_windowsOf_31 rfl rfl (Nat.le_refl _) (Nat.le_refl _)
    · refine Zo_aload0 dX7_windowsOf_12 ?_
      refine Zo_iload3 dX7_windowsOf_13 ?_
      refine Zo_iload1 dX7_windowsOf_14 ?_
      refine Zo_cVI2 lk_X7_83 (e_X7_isOf g _ _ _) kd_1 (zFit_rm (by decide)) (zle rfl) dX7_windowsOf_15 fun r1 => ?_
      refine Zo_ifeq 24 dX7_windowsOf_18 (by decide) ?_ ?_
      · refine Zo_iinc3 rfl (1 : Int32) ic_1 (zlt rfl) dX7_windowsOf_24 ?_
        refine Zo_goto 4 dX7_windowsOf_27 (by decide) ?_
        exact ih _ _
      · refine Zo_iinc2 rfl (1 : Int32) ic_1 (zlt rfl) dX7_windowsOf_21 ?_
        refine Zo_iinc3 rfl (1 : Int32) ic_1 (zlt rfl) dX7_windowsOf_24 ?_
        refine Zo_goto 4 dX7_windowsOf_27 (by decide) ?_
        exact ih _ _
def s_X7_windowsOf (p0 : Int32) (σ : ZSt) : Option Int32 :=
  s_X7_windowsOf_L4 p0 σ 200 (0 : Int32) (0 : Int32)
set_option maxHeartbeats 4000000 in
set_option maxRecDepth 100000 in
theorem z_X7_windowsOf (g : ZG) (p0 : Int32) (σ : ZSt) : Zo g (mX7_windowsOf g 2) (fun b : Int32 => (some (.int b), zw σ)) (s_X7_windowsOf p0 σ) 0 0 0 [some (.ref 1), some (.int p0), none, none] [] (zw σ) := by
  unfold s_X7_windowsOf
  refine Zo_iconst (0 : Int32) dX7_windowsOf_0 ic_0 ?_
  refine Zo_istore2 rfl (zlt rfl) dX7_windowsOf_1 ?_
  refine Zo_iconst (0 : Int32) dX7_windowsOf_2 ic_0 ?_
  refine Zo_istore3 rfl (zlt rfl) dX7_windowsOf_3 ?_
  exact z_X7_windowsOf_L4 g _ _ _ _ _
theorem e_X7_windowsOf (g : ZG) (p0 : Int32) (σ : ZSt) : zEvI g 2 yX7_windowsOf cX7_windowsOf 4 (some .int) [.ref 1, .int p0] σ (s_X7_windowsOf p0 σ) :=
  zEvI_of 2 rfl rfl (z_X7_windowsOf g p0 σ)
abbrev mX7_ofStreet (g : ZG) (q : Nat) : ZM := (yX7_ofStreet, cX7_ofStreet, 3, (some .int), zRm q 0 0, zTg g 0 0)
def s_X7_ofStreet (p0 : Int32) (p1 : Int32) (σ : ZSt) : Option Int32 :=
  (s_X7_isStreet p0 σ).bind fun r1 => (if r1 = (0 : Int32) then (some (-2000000000 : Int32))
    else (if p1 = (0 : Int32) then (zLd (zIn p0 6) (σ.1 2 p0.toNatClampNeg) fun v2 => (some v2))
      else (if p1 = (1 : Int32) then (zLd (zIn p0 6) (σ.1 3 p0.toNatClampNeg) fun v3 => (some v3))
      else (if p1 = (2 : Int32) then ((s_X7_wayAndSum p0 σ).bind fun r4 => (some r4))
      else ((s_X7_windowsOf p0 σ).bind fun r5 => (some r5))))))
set_option maxHeartbeats 4000000 in
set_option maxRecDepth 100000 in
theorem z_X7_ofStreet (g : ZG) (p0 : Int32) (p1 : Int32) (σ : ZSt) : Zo g (mX7_ofStreet g 3) (fun b : Int32 => (some (.int b), zw σ)) (s_X7_ofStreet p0 p1 σ) 0 0 0 [some (.ref 1), some (.int p0), some (.int p1)] [] (zw σ) := by
  unfold s_X7_ofStreet
  refine Zo_aload0 dX7_ofStreet_0 ?_
  refine Zo_iload1 dX7_ofStreet_1 ?_
  refine Zo_cVI1 lk_X7_58 (e_X7_isStreet g _ _) kd_1 (zFit_rm (by decide)) (zle rfl) dX7_ofStreet_2 fun r1 => ?_
  refine Zo_ifne 11 dX7_ofStreet_5 (by decide) ?_ ?_
  · refine Zo_iload2 dX7_ofStreet_11 ?_
    refine Zo_ite (fun hc0 => ?_) (fun hc0 => ?_)
    · refine Zo_tswC (off := 28) (0 : Int32) 40 hc0 dX7_ofStreet_12 (by decide) (by decide) (by decide) (by decide) ?_
      refine Zo_aload0 dX7_ofStreet_40 ?_
      refine Zo_getr (j := 2) fl_X7_9 kd_1 rfl dX7_ofStreet_41 ?_
      refine Zo_iload1 dX7_ofStreet_44 ?_
      refine Zo_iald kd_2 dX7_ofStreet_45 fun v2 => ?_
      exact Zo_iret dX7_ofStreet_46 rfl rfl (Nat.le_refl _) (Nat.le_refl _)
    refine Zo_ite (fun hc1 => ?_) (fun hc1 => ?_)
    · refine Zo_tswC (off := 35) (1 : Int32) 47 hc1 dX7_ofStreet_12 (by decide) (by decide) (by decide) (by decide) ?_
      refine Zo_aload0 dX7_ofStreet_47 ?_
      refine Zo_getr (j := 3) fl_X7_15 kd_1 rfl dX7_ofStreet_48 ?_
      refine Zo_iload1 dX7_ofStreet_51 ?_
      refine Zo_iald kd_3 dX7_ofStreet_52 fun v3 => ?_
      exact Zo_iret dX7_ofStreet_53 rfl rfl (Nat.le_refl _) (Nat.le_refl _)
    refine Zo_ite (fun hc2 => ?_) (fun hc2 => ?_)
    · refine Zo_tswC (off := 42) (2 : Int32) 54 hc2 dX7_ofStreet_12 (by decide) (by decide) (by decide) (by decide) ?_
      refine Zo_aload0 dX7_ofStreet_54 ?_
      refine Zo_iload1 dX7_ofStreet_55 ?_
      refine Zo_cVI1 lk_X7_77 (e_X7_wayAndSum g _ _) kd_1 (zFit_rm (by decide)) (zle rfl) dX7_ofStreet_56 fun r4 => ?_
      exact Zo_iret dX7_ofStreet_59 rfl rfl (Nat.le_refl _) (Nat.le_refl _)
    refine Zo_tswOut 60 dX7_ofStreet_12 (by have a0 := zne_0 hc0; have a1 := zne_1 hc1; have a2 := zne_2 hc2; omega) (by decide) ?_
    refine Zo_aload0 dX7_ofStreet_60 ?_
    refine Zo_iload1 dX7_ofStreet_61 ?_
    refine Zo_cVI1 lk_X7_80 (e_X7_windowsOf g _ _) kd_1 (zFit_rm (by decide)) (zle rfl) dX7_ofStreet_62 fun r5 => ?_
    exact Zo_iret dX7_ofStreet_65 rfl rfl (Nat.le_refl _) (Nat.le_refl _)
  · refine Zo_ldc rfl cw_X7_76 dX7_ofStreet_8 ?_
    exact Zo_iret dX7_ofStreet_10 rfl rfl (Nat.le_refl _) (Nat.le_refl _)
theorem e_X7_ofStreet (g : ZG) (p0 : Int32) (p1 : Int32) (σ : ZSt) : zEvI g 3 yX7_ofStreet cX7_ofStreet 3 (some .int) [.ref 1, .int p0, .int p1] σ (s_X7_ofStreet p0 p1 σ) :=
  zEvI_of 0 rfl rfl (z_X7_ofStreet g p0 p1 σ)
abbrev mX7_goodOf (g : ZG) (q : Nat) : ZM := (yX7_goodOf, cX7_goodOf, 2, (some .int), zRm q 0 0, zTg g 0 0)
def s_X7_goodOf (p0 : Int32) (σ : ZSt) : Option Int32 :=
  (s_X7_isPlayer p0 σ).bind fun r1 => (if r1 = (0 : Int32) then (some (0 : Int32))
    else (zLd (zIn p0 8) (σ.1 10 p0.toNatClampNeg) fun v2 => (some v2)))
set_option maxHeartbeats 4000000 in
set_option maxRecDepth 100000 in
theorem z_X7_goodOf (g : ZG) (p0 : Int32) (σ : ZSt) : Zo g (mX7_goodOf g 1) (fun b : Int32 => (some (.int b), zw σ)) (s_X7_goodOf p0 σ) 0 0 0 [some (.ref 1), some (.int p0)] [] (zw σ) := by
  unfold s_X7_goodOf
  refine Zo_aload0 dX7_goodOf_0 ?_
  refine Zo_iload1 dX7_goodOf_1 ?_
  refine Zo_cVI1 lk_X7_73 (e_X7_isPlayer g _ _) kd_1 (zFit_rm (by decide)) (zle rfl) dX7_goodOf_2 fun r1 => ?_
  refine Zo_ifeq 17 dX7_goodOf_5 (by decide) ?_ ?_
  · refine Zo_iconst (0 : Int32) dX7_goodOf_17 ic_0 ?_
    exact Zo_iret dX7_goodOf_18 rfl rfl (Nat.le_refl _) (Nat.le_refl _)
  · refine Zo_aload0 dX7_goodOf_8 ?_
    refine Zo_getr (j := 10) fl_X7_36 kd_1 rfl dX7_goodOf_9 ?_
    refine Zo_iload1 dX7_goodOf_12 ?_
    refine Zo_iald kd_10 dX7_goodOf_13 fun v2 => ?_
    refine Zo_goto 18 dX7_goodOf_14 (by decide) ?_
    exact Zo_iret dX7_goodOf_18 rfl rfl (Nat.le_refl _) (Nat.le_refl _)
theorem e_X7_goodOf (g : ZG) (p0 : Int32) (σ : ZSt) : zEvI g 1 yX7_goodOf cX7_goodOf 2 (some .int) [.ref 1, .int p0] σ (s_X7_goodOf p0 σ) :=
  zEvI_of 0 rfl rfl (z_X7_goodOf g p0 σ)
abbrev mX7_harmTo (g : ZG) (q : Nat) : ZM := (yX7_harmTo, cX7_harmTo, 3, (some .int), zRm q 0 0, zTg g 0 0)
def s_X7_harmTo (p0 : Int32) (p1 : Int32) (σ : ZSt) : Option Int32 :=
  (s_X7_isWindow p0 σ).bind fun r1 => (if r1 = (0 : Int32) then (some (0 : Int32))
    else (zLd (zIn p0 30) (σ.1 7 p0.toNatClampNeg) fun v2 => (zLd (zIn p0 30) (σ.1 8 p0.toNatClampNeg) fun v3 => (some (v2 - ((v3 * p1) / (10 : Int32)))))))
set_option maxHeartbeats 4000000 in
set_option maxRecDepth 100000 in
theorem z_X7_harmTo (g : ZG) (p0 : Int32) (p1 : Int32) (σ : ZSt) : Zo g (mX7_harmTo g 1) (fun b : Int32 => (some (.int b), zw σ)) (s_X7_harmTo p0 p1 σ) 0 0 0 [some (.ref 1), some (.int p0), some (.int p1)] [] (zw σ) := by
  unfold s_X7_harmTo
  refine Zo_aload0 dX7_harmTo_0 ?_
  refine Zo_iload1 dX7_harmTo_1 ?_
  refine Zo_cVI1 lk_X7_66 (e_X7_isWindow g _ _) kd_1 (zFit_rm (by decide)) (zle rfl) dX7_harmTo_2 fun r1 => ?_
  refine Zo_ifne 10 dX7_harmTo_5 (by decide) ?_ ?_
  · refine Zo_aload0 dX7_harmTo_10 ?_
    refine Zo_getr (j := 7) fl_X7_27 kd_1 rfl dX7_harmTo_11 ?_
    refine Zo_iload1 dX7_harmTo_14 ?_
    refine Zo_iald kd_7 dX7_harmTo_15 fun v2 => ?_
    refine Zo_aload0 dX7_harmTo_16 ?_
    refine Zo_getr (j := 8) fl_X7_30 kd_1 rfl dX7_harmTo_17 ?_
    refine Zo_iload1 dX7_harmTo_20 ?_
    show Zo g _ _ _ 0 0 21 _ _ _
    refine Zo_iald kd_8 dX7_harmTo_21 fun v3 => ?_
    refine Zo_iload2 dX7_harmTo_22 ?_
    refine Zo_imul dX7_harmTo_23 ?_
    refine Zo_bipush (10 : Int32) dX7_harmTo_24 bp_10 ?_
    refine Zo_idiv dX7_harmTo_26 (by decide) ?_
    refine Zo_isub dX7_harmTo_27 ?_
    exact Zo_iret dX7_harmTo_28 rfl rfl (Nat.le_refl _) (Nat.le_refl _)
  · refine Zo_iconst (0 : Int32) dX7_harmTo_8 ic_0 ?_
    exact Zo_iret dX7_harmTo_9 rfl rfl (Nat.le_refl _) (Nat.le_refl _)
theorem e_X7_harmTo (g : ZG) (p0 : Int32) (p1 : Int32) (σ : ZSt) : zEvI g 1 yX7_harmTo cX7_harmTo 3 (some .int) [.ref 1, .int p0, .int p1] σ (s_X7_harmTo p0 p1 σ) :=
  zEvI_of 0 rfl rfl (z_X7_harmTo g p0 p1 σ)
abbrev mX7_harmOfStreet (g : ZG) (q : Nat) : ZM := (yX7_harmOfStreet, cX7_harmOfStreet, 5, (some .int), zRm q 0 0, zTg g 0 0)
def s_X7_harmOfStreet_L5 (l1 : Int32) (l2 : Int32) (σ : ZSt) : Nat → Int32 → Int32 → Option Int32
  | 0, _, _ => none
  | n + 1, l3, l4 =>
    if (σ.1 1 5) ≤ l4 then (some l3)
      else ((s_X7_isOf l4 l1 σ).bind fun r1 => (if r1 = (0 : Int32) then (s_X7_harmOfStreet_L5 l1 l2 σ n l3 (l4 + (1 : Int32)))
        else ((s_X7_harmTo l4 l2 σ).bind fun r2 => (s_X7_harmOfStreet_L5 l1 l2 σ n (l3 + r2) (l4 + (1 : Int32))))))
set_option maxHeartbeats 4000000 in
set_option maxRecDepth 100000 in
theorem z_X7_harmOfStreet_L5 (g : ZG) (l1 : Int32) (l2 : Int32) (σ : ZSt) : ∀ (n : Nat) (l3 : Int32) (l4 : Int32), Zo g (mX7_harmOfStreet g 2) (fun b : Int32 => (some (.int b), zw σ)) (s_X7_harmOfStreet_L5 l1 l2 σ n l3 l4) 0 0 5 [some (.ref 1), some (.int l1), some (.int l2), some (.int l3), some (.int l4)] [] (zw σ) := by
  intro n
  induction n with
  | zero => intros; exact Zo_none
  | succ n ih =>
    intro l3 l4
    rw [s_X7_harmOfStreet_L5]
    refine Zo_iload4 dX7_harmOfStreet_5 ?_
    refine Zo_aload0 dX7_harmOfStreet_7 ?_
    refine Zo_geti fl_X7_52 kd_1 dX7_harmOfStreet_8 ?_
    refine Zo_icmpge 40 dX7_harmOfStreet_11 (by decide) ?_ ?_
    · refine Zo_iload3 dX7_harmOfStreet_40 ?_
      exact Zo_iret dX7_harmOfStreet_41 rfl rfl (Nat.le_refl _) (Nat.le_refl _)
    · refine Zo_aload0 dX7_harmOfStreet_14 ?_
      refine Zo_iload4 dX7_harmOfStreet_15 ?_
      refine Zo_iload1 dX7_harmOfStreet_17 ?_
      refine Zo_cVI2 lk_X7_83 (e_X7_isOf g _ _ _) kd_1 (zFit_rm (by decide)) (zle rfl) dX7_harmOfStreet_18 fun r1 => ?_
      refine Zo_ifeq 34 dX7_harmOfStreet_21 (by decide) ?_ ?_
      · refine Zo_iinc4 rfl (1 : Int32) ic_1 (zlt rfl) dX7_harmOfStreet_34 ?_
        refine Zo_goto 5 dX7_harmOfStreet_37 (by decide) ?_
        exact ih _ _
      · refine Zo_iload3 dX7_harmOfStreet_24 ?_
        refine Zo_aload0 dX7_harmOfStreet_25 ?_
        refine Zo_iload4 dX7_harmOfStreet_26 ?_
        refine Zo_iload2 dX7_harmOfStreet_28 ?_
        refine Zo_cVI2 lk_X7_87 (e_X7_harmTo g _ _ _) kd_1 (zFit_rm (by decide)) (zle rfl) dX7_harmOfStreet_29 fun r2 => ?_
        refine Zo_iadd dX7_harmOfStreet_32 ?_
        refine Zo_istore3 rfl (zlt rfl) dX7_harmOfStreet_33 ?_
        show Zo g _ _ _ 0 0 34 _ _ _
        refine Zo_iinc4 rfl (1 : Int32) ic_1 (zlt rfl) dX7_harmOfStreet_34 ?_
        refine Zo_goto 5 dX7_harmOfStreet_37 (by decide) ?_
        exact ih _ _
def s_X7_harmOfStreet (p0 : Int32) (p1 : Int32) (σ : ZSt) : Option Int32 :=
  s_X7_harmOfStreet_L5 p0 p1 σ 200 (0 : Int32) (0 : Int32)
set_option maxHeartbeats 4000000 in
set_option maxRecDepth 100000 in
theorem z_X7_harmOfStreet (g : ZG) (p0 : Int32) (p1 : Int32) (σ : ZSt) : Zo g (mX7_harmOfStreet g 2) (fun b : Int32 => (some (.int b), zw σ)) (s_X7_harmOfStreet p0 p1 σ) 0 0 0 [some (.ref 1), some (.int p0), some (.int p1), none, none] [] (zw σ) := by
  unfold s_X7_harmOfStreet
  refine Zo_iconst (0 : Int32) dX7_harmOfStreet_0 ic_0 ?_
  refine Zo_istore3 rfl (zlt rfl) dX7_harmOfStreet_1 ?_
  refine Zo_iconst (0 : Int32) dX7_harmOfStreet_2 ic_0 ?_
  refine Zo_istore4 rfl (zlt rfl) dX7_harmOfStreet_3 ?_
  exact z_X7_harmOfStreet_L5 g _ _ _ _ _ _
theorem e_X7_harmOfStreet (g : ZG) (p0 : Int32) (p1 : Int32) (σ : ZSt) : zEvI g 2 yX7_harmOfStreet cX7_harmOfStreet 5 (some .int) [.ref 1, .int p0, .int p1] σ (s_X7_harmOfStreet p0 p1 σ) :=
  zEvI_of 2 rfl rfl (z_X7_harmOfStreet g p0 p1 σ)
abbrev mX7_cost (g : ZG) (q : Nat) : ZM := (yX7_cost, cX7_cost, 2, (some .int), zRm q 0 0, zTg g 0 0)
def s_X7_cost (p0 : Int32) (σ : ZSt) : Option Int32 :=
  (s_X7_isPlayer p0 σ).bind fun r1 => (if r1 = (0 : Int32) then (some (0 : Int32))
    else (zLd (zIn p0 8) (σ.1 11 p0.toNatClampNeg) fun v2 => (some v2)))
set_option maxHeartbeats 4000000 in
set_option maxRecDepth 100000 in
theorem z_X7_cost (g : ZG) (p0 : Int32) (σ : ZSt) : Zo g (mX7_cost g 1) (fun b : Int32 => (some (.int b), zw σ)) (s_X7_cost p0 σ) 0 0 0 [some (.ref 1), some (.int p0)] [] (zw σ) := by
  unfold s_X7_cost
  refine Zo_aload0 dX7_cost_0 ?_
  refine Zo_iload1 dX7_cost_1 ?_
  refine Zo_cVI1 lk_X7_73 (e_X7_isPlayer g _ _) kd_1 (zFit_rm (by decide)) (zle rfl) dX7_cost_2 fun r1 => ?_
  refine Zo_ifeq 17 dX7_cost_5 (by decide) ?_ ?_
  · refine Zo_iconst (0 : Int32) dX7_cost_17 ic_0 ?_
    exact Zo_iret dX7_cost_18 rfl rfl (Nat.le_refl _) (Nat.le_refl _)
  · refine Zo_aload0 dX7_cost_8 ?_
    refine Zo_getr (j := 11) fl_X7_39 kd_1 rfl dX7_cost_9 ?_
    refine Zo_iload1 dX7_cost_12 ?_
    refine Zo_iald kd_11 dX7_cost_13 fun v2 => ?_
    refine Zo_goto 18 dX7_cost_14 (by decide) ?_
    exact Zo_iret dX7_cost_18 rfl rfl (Nat.le_refl _) (Nat.le_refl _)
theorem e_X7_cost (g : ZG) (p0 : Int32) (σ : ZSt) : zEvI g 1 yX7_cost cX7_cost 2 (some .int) [.ref 1, .int p0] σ (s_X7_cost p0 σ) :=
  zEvI_of 0 rfl rfl (z_X7_cost g p0 σ)
abbrev mX7_least (g : ZG) (q : Nat) : ZM := (yX7_least, cX7_least, 3, (some .int), zRm q 0 0, zTg g 0 0)
def s_X7_least (p0 : Int32) (p1 : Int32) (σ : ZSt) : Option Int32 :=
  (s_X7_take p1 σ).bind fun r1 => ((s_X7_cost p0 σ).bind fun r2 => (some ((if (r1 - r2) < (0 : Int32) then (0 : Int32) else (r1 - r2)) + (1 : Int32))))
set_option maxHeartbeats 4000000 in
set_option maxRecDepth 100000 in
theorem z_X7_least (g : ZG) (p0 : Int32) (p1 : Int32) (σ : ZSt) : Zo g (mX7_least g 2) (fun b : Int32 => (some (.int b), zw σ)) (s_X7_least p0 p1 σ) 0 0 0 [some (.ref 1), some (.int p0), some (.int p1)] [] (zw σ) := by
  unfold s_X7_least
  refine Zo_aload0 dX7_least_0 ?_
  refine Zo_iload2 dX7_least_1 ?_
  refine Zo_cVI1 lk_X7_69 (e_X7_take g _ _) kd_1 (zFit_rm (by decide)) (zle rfl) dX7_least_2 fun r1 => ?_
  refine Zo_aload0 dX7_least_5 ?_
  refine Zo_iload1 dX7_least_6 ?_
  refine Zo_cVI1 lk_X7_94 (e_X7_cost g _ _) kd_1 (zFit_rm (by decide)) (zle rfl) dX7_least_7 fun r2 => ?_
  refine Zo_isub dX7_least_10 ?_
  show Zo g _ _ _ 0 0 11 _ _ _
  refine Zo_iconst (0 : Int32) dX7_least_11 ic_0 ?_
  refine Zo_mmax mm_X7_97 ms_max mi_Math mc_max (zle rfl) ⟨zle rfl, zle rfl, Nat.zero_le _, Nat.zero_le _⟩ dX7_least_12 ?_
  refine Zo_iconst (1 : Int32) dX7_least_15 ic_1 ?_
  refine Zo_iadd dX7_least_16 ?_
  exact Zo_iret dX7_least_17 rfl rfl (Nat.le_refl _) (Nat.le_refl _)
theorem e_X7_least (g : ZG) (p0 : Int32) (p1 : Int32) (σ : ZSt) : zEvI g 2 yX7_least cX7_least 3 (some .int) [.ref 1, .int p0, .int p1] σ (s_X7_least p0 p1 σ) :=
  zEvI_of 0 rfl rfl (z_X7_least g p0 p1 σ)
abbrev mX7_isHarmed (g : ZG) (q : Nat) : ZM := (yX7_isHarmed, cX7_isHarmed, 4, (some .boolean), zRm q 0 0, zTg g 0 0)
def s_X7_isHarmed (p0 : Int32) (p1 : Int32) (p2 : Int32) (σ : ZSt) : Option Int32 :=
  (s_X7_isOf p0 p1 σ).bind fun r1 => (if r1 = (0 : Int32) then (some (0 : Int32))
    else ((s_X7_harmTo p0 p2 σ).bind fun r2 => (if r2 ≤ (0 : Int32) then (some (0 : Int32))
      else (some (1 : Int32)))))
set_option maxHeartbeats 4000000 in
set_option maxRecDepth 100000 in
theorem z_X7_isHarmed (g : ZG) (p0 : Int32) (p1 : Int32) (p2 : Int32) (σ : ZSt) : Zo g (mX7_isHarmed g 2) (fun b : Int32 => (some (.int b), zw σ)) (s_X7_isHarmed p0 p1 p2 σ) 0 0 0 [some (.ref 1), some (.int p0), some (.int p1), some (.int p2)] [] (zw σ) := by
  unfold s_X7_isHarmed
  refine Zo_aload0 dX7_isHarmed_0 ?_
  refine Zo_iload1 dX7_isHarmed_1 ?_
  refine Zo_iload2 dX7_isHarmed_2 ?_
  refine Zo_cVI2 lk_X7_83 (e_X7_isOf g _ _ _) kd_1 (zFit_rm (by decide)) (zle rfl) dX7_isHarmed_3 fun r1 => ?_
  refine Zo_ifeq 22 dX7_isHarmed_6 (by decide) ?_ ?_
  · refine Zo_iconst (0 : Int32) dX7_isHarmed_22 ic_0 ?_
    exact Zo_zret dX7_isHarmed_23 rfl rfl (Or.inl rfl) (Nat.le_refl _) (Nat.le_refl _)
  · refine Zo_aload0 dX7_isHarmed_9 ?_
    refine Zo_iload1 dX7_isHarmed_10 ?_
    refine Zo_iload3 dX7_isHarmed_11 ?_
    refine Zo_cVI2 lk_X7_87 (e_X7_harmTo g _ _ _) kd_1 (zFit_rm (by decide)) (zle rfl) dX7_isHarmed_12 fun r2 => ?_
    refine Zo_ifle 22 dX7_isHarmed_15 (by decide) ?_ ?_
    · refine Zo_iconst (0 : Int32) dX7_isHarmed_22 ic_0 ?_
      exact Zo_zret dX7_isHarmed_23 rfl rfl (Or.inl rfl) (Nat.le_refl _) (Nat.le_refl _)
    · refine Zo_iconst (1 : Int32) dX7_isHarmed_18 ic_1 ?_
      refine Zo_goto 23 dX7_isHarmed_19 (by decide) ?_
      exact Zo_zret dX7_isHarmed_23 rfl rfl (Or.inr rfl) (Nat.le_refl _) (Nat.le_refl _)
theorem e_X7_isHarmed (g : ZG) (p0 : Int32) (p1 : Int32) (p2 : Int32) (σ : ZSt) : zEvI g 2 yX7_isHarmed cX7_isHarmed 4 (some .boolean) [.ref 1, .int p0, .int p1, .int p2] σ (s_X7_isHarmed p0 p1 p2 σ) :=
  zEvI_of 0 rfl rfl (z_X7_isHarmed g p0 p1 p2 σ)
abbrev mX7_most (g : ZG) (q : Nat) : ZM := (yX7_most, cX7_most, 5, (some .int), zRm q 0 0, zTg g 0 0)
def s_X7_most_L5 (l1 : Int32) (l2 : Int32) (σ : ZSt) : Nat → Int32 → Int32 → Option Int32
  | 0, _, _ => none
  | n + 1, l3, l4 =>
    if (σ.1 1 5) ≤ l4 then (some l3)
      else ((s_X7_isHarmed l4 l1 l2 σ).bind fun r1 => (if r1 = (0 : Int32) then (s_X7_most_L5 l1 l2 σ n l3 (l4 + (1 : Int32)))
        else ((s_X7_harmTo l4 l2 σ).bind fun r2 => (s_X7_most_L5 l1 l2 σ n (l3 + r2) (l4 + (1 : Int32))))))
set_option maxHeartbeats 4000000 in
set_option maxRecDepth 100000 in
theorem z_X7_most_L5 (g : ZG) (l1 : Int32) (l2 : Int32) (σ : ZSt) : ∀ (n : Nat) (l3 : Int32) (l4 : Int32), Zo g (mX7_most g 3) (fun b : Int32 => (some (.int b), zw σ)) (s_X7_most_L5 l1 l2 σ n l3 l4) 0 0 5 [some (.ref 1), some (.int l1), some (.int l2), some (.int l3), some (.int l4)] [] (zw σ) := by
  intro n
  induction n with
  | zero => intros; exact Zo_none
  | succ n ih =>
    intro l3 l4
    rw [s_X7_most_L5]
    refine Zo_iload4 dX7_most_5 ?_
    refine Zo_aload0 dX7_most_7 ?_
    refine Zo_geti fl_X7_52 kd_1 dX7_most_8 ?_
    refine Zo_icmpge 41 dX7_most_11 (by decide) ?_ ?_
    · refine Zo_iload3 dX7_most_41 ?_
      exact Zo_iret dX7_most_42 rfl rfl (Nat.le_refl _) (Nat.le_refl _)
    · refine Zo_aload0 dX7_most_14 ?_
      refine Zo_iload4 dX7_most_15 ?_
      refine Zo_iload1 dX7_most_17 ?_
      refine Zo_iload2 dX7_most_18 ?_
      refine Zo_cVI3 lk_X7_91 (e_X7_isHarmed g _ _ _ _) kd_1 (zFit_rm (by decide)) (zle rfl) dX7_most_19 fun r1 => ?_
      refine Zo_ifeq 35 dX7_most_22 (by decide) ?_ ?_
      · refine Zo_iinc4 rfl (1 : Int32) ic_1 (zlt rfl) dX7_most_35 ?_
        refine Zo_goto 5 dX7_most_38 (by decide) ?_
        exact ih _ _
      · refine Zo_iload3 dX7_most_25 ?_
        refine Zo_aload0 dX7_most_26 ?_
        refine Zo_iload4 dX7_most_27 ?_
        refine Zo_iload2 dX7_most_29 ?_
        refine Zo_cVI2 lk_X7_87 (e_X7_harmTo g _ _ _) kd_1 (zFit_rm (by decide)) (zle rfl) dX7_most_30 fun r2 => ?_
        refine Zo_iadd dX7_most_33 ?_
        refine Zo_istore3 rfl (zlt rfl) dX7_most_34 ?_
        show Zo g _ _ _ 0 0 35 _ _ _
        refine Zo_iinc4 rfl (1 : Int32) ic_1 (zlt rfl) dX7_most_35 ?_
        refine Zo_goto 5 dX7_most_38 (by decide) ?_
        exact ih _ _
def s_X7_most (p0 : Int32) (p1 : Int32) (σ : ZSt) : Option Int32 :=
  s_X7_most_L5 p0 p1 σ 200 (0 : Int32) (0 : Int32)
set_option maxHeartbeats 4000000 in
set_option maxRecDepth 100000 in
theorem z_X7_most (g : ZG) (p0 : Int32) (p1 : Int32) (σ : ZSt) : Zo g (mX7_most g 3) (fun b : Int32 => (some (.int b), zw σ)) (s_X7_most p0 p1 σ) 0 0 0 [some (.ref 1), some (.int p0), some (.int p1), none, none] [] (zw σ) := by
  unfold s_X7_most
  refine Zo_iconst (0 : Int32) dX7_most_0 ic_0 ?_
  refine Zo_istore3 rfl (zlt rfl) dX7_most_1 ?_
  refine Zo_iconst (0 : Int32) dX7_most_2 ic_0 ?_
  refine Zo_istore4 rfl (zlt rfl) dX7_most_3 ?_
  exact z_X7_most_L5 g _ _ _ _ _ _
theorem e_X7_most (g : ZG) (p0 : Int32) (p1 : Int32) (σ : ZSt) : zEvI g 3 yX7_most cX7_most 5 (some .int) [.ref 1, .int p0, .int p1] σ (s_X7_most p0 p1 σ) :=
  zEvI_of 2 rfl rfl (z_X7_most g p0 p1 σ)
abbrev mX7_howManyHarmed (g : ZG) (q : Nat) : ZM := (yX7_howManyHarmed, cX7_howManyHarmed, 5, (some .int), zRm q 0 0, zTg g 0 0)
def s_X7_howManyHarmed_L5 (l1 : Int32) (l2 : Int32) (σ : ZSt) : Nat → Int32 → Int32 → Option Int32
  | 0, _, _ => none
  | n + 1, l3, l4 =>
    if (σ.1 1 5) ≤ l4 then (some l3)
      else ((s_X7_isHarmed l4 l1 l2 σ).bind fun r1 => (if r1 = (0 : Int32) then (s_X7_howManyHarmed_L5 l1 l2 σ n l3 (l4 + (1 : Int32)))
        else (s_X7_howManyHarmed_L5 l1 l2 σ n (l3 + (1 : Int32)) (l4 + (1 : Int32)))))
set_option maxHeartbeats 4000000 in
set_option maxRecDepth 100000 in
theorem z_X7_howManyHarmed_L5 (g : ZG) (l1 : Int32) (l2 : Int32) (σ : ZSt) : ∀ (n : Nat) (l3 : Int32) (l4 : Int32), Zo g (mX7_howManyHarmed g 3) (fun b : Int32 => (some (.int b), zw σ)) (s_X7_howManyHarmed_L5 l1 l2 σ n l3 l4) 0 0 5 [some (.ref 1), some (.int l1), some (.int l2), some (.int l3), some (.int l4)] [] (zw σ) := by
  intro n
  induction n with
  | zero => intros; exact Zo_none
  | succ n ih =>
    intro l3 l4
    rw [s_X7_howManyHarmed_L5]
    refine Zo_iload4 dX7_howManyHarmed_5 ?_
    refine Zo_aload0 dX7_howManyHarmed_7 ?_
    refine Zo_geti fl_X7_52 kd_1 dX7_howManyHarmed_8 ?_
    refine Zo_icmpge 34 dX7_howManyHarmed_11 (by decide) ?_ ?_
    · refine Zo_iload3 dX7_howManyHarmed_34 ?_
      exact Zo_iret dX7_howManyHarmed_35 rfl rfl (Nat.le_refl _) (Nat.le_refl _)
    · refine Zo_aload0 dX7_howManyHarmed_14 ?_
      refine Zo_iload4 dX7_howManyHarmed_15 ?_
      refine Zo_iload1 dX7_howManyHarmed_17 ?_
      refine Zo_iload2 dX7_howManyHarmed_18 ?_
      refine Zo_cVI3 lk_X7_91 (e_X7_isHarmed g _ _ _ _) kd_1 (zFit_rm (by decide)) (zle rfl) dX7_howManyHarmed_19 fun r1 => ?_
      refine Zo_ifeq 28 dX7_howManyHarmed_22 (by decide) ?_ ?_
      · refine Zo_iinc4 rfl (1 : Int32) ic_1 (zlt rfl) dX7_howManyHarmed_28 ?_
        refine Zo_goto 5 dX7_howManyHarmed_31 (by decide) ?_
        exact ih _ _
      · refine Zo_iinc3 rfl (1 : Int32) ic_1 (zlt rfl) dX7_howManyHarmed_25 ?_
        refine Zo_iinc4 rfl (1 : Int32) ic_1 (zlt rfl) dX7_howManyHarmed_28 ?_
        refine Zo_goto 5 dX7_howManyHarmed_31 (by decide) ?_
        exact ih _ _
def s_X7_howManyHarmed (p0 : Int32) (p1 : Int32) (σ : ZSt) : Option Int32 :=
  s_X7_howManyHarmed_L5 p0 p1 σ 200 (0 : Int32) (0 : Int32)
set_option maxHeartbeats 4000000 in
set_option maxRecDepth 100000 in
theorem z_X7_howManyHarmed (g : ZG) (p0 : Int32) (p1 : Int32) (σ : ZSt) : Zo g (mX7_howManyHarmed g 3) (fun b : Int32 => (some (.int b), zw σ)) (s_X7_howManyHarmed p0 p1 σ) 0 0 0 [some (.ref 1), some (.int p0), some (.int p1), none, none] [] (zw σ) := by
  unfold s_X7_howManyHarmed
  refine Zo_iconst (0 : Int32) dX7_howManyHarmed_0 ic_0 ?_
  refine Zo_istore3 rfl (zlt rfl) dX7_howManyHarmed_1 ?_
  refine Zo_iconst (0 : Int32) dX7_howManyHarmed_2 ic_0 ?_
  refine Zo_istore4 rfl (zlt rfl) dX7_howManyHarmed_3 ?_
  exact z_X7_howManyHarmed_L5 g _ _ _ _ _ _
theorem e_X7_howManyHarmed (g : ZG) (p0 : Int32) (p1 : Int32) (σ : ZSt) : zEvI g 3 yX7_howManyHarmed cX7_howManyHarmed 5 (some .int) [.ref 1, .int p0, .int p1] σ (s_X7_howManyHarmed p0 p1 σ) :=
  zEvI_of 2 rfl rfl (z_X7_howManyHarmed g p0 p1 σ)
abbrev mX7_streets (g : ZG) (q : Nat) : ZM := (yX7_streets, cX7_streets, 1, (some .int), zRm q 0 0, zTg g 0 0)
def s_X7_streets (σ : ZSt) : Option Int32 :=
  some (σ.1 1 0)
set_option maxHeartbeats 4000000 in
set_option maxRecDepth 100000 in
theorem z_X7_streets (g : ZG) (σ : ZSt) : Zo g (mX7_streets g 0) (fun b : Int32 => (some (.int b), zw σ)) (s_X7_streets σ) 0 0 0 [some (.ref 1)] [] (zw σ) := by
  unfold s_X7_streets
  refine Zo_aload0 dX7_streets_0 ?_
  refine Zo_geti fl_X7_48 kd_1 dX7_streets_1 ?_
  exact Zo_iret dX7_streets_4 rfl rfl (Nat.le_refl _) (Nat.le_refl _)
theorem e_X7_streets (g : ZG) (σ : ZSt) : zEvI g 0 yX7_streets cX7_streets 1 (some .int) [.ref 1] σ (s_X7_streets σ) :=
  zEvI_of 0 rfl rfl (z_X7_streets g σ)
abbrev mX7_players (g : ZG) (q : Nat) : ZM := (yX7_players, cX7_players, 1, (some .int), zRm q 0 0, zTg g 0 0)
def s_X7_players (σ : ZSt) : Option Int32 :=
  some (σ.1 1 10)
set_option maxHeartbeats 4000000 in
set_option maxRecDepth 100000 in
theorem z_X7_players (g : ZG) (σ : ZSt) : Zo g (mX7_players g 0) (fun b : Int32 => (some (.int b), zw σ)) (s_X7_players σ) 0 0 0 [some (.ref 1)] [] (zw σ) := by
  unfold s_X7_players
  refine Zo_aload0 dX7_players_0 ?_
  refine Zo_geti fl_X7_55 kd_1 dX7_players_1 ?_
  exact Zo_iret dX7_players_4 rfl rfl (Nat.le_refl _) (Nat.le_refl _)
theorem e_X7_players (g : ZG) (σ : ZSt) : zEvI g 0 yX7_players cX7_players 1 (some .int) [.ref 1] σ (s_X7_players σ) :=
  zEvI_of 0 rfl rfl (z_X7_players g σ)
abbrev mX7_place (g : ZG) (q : Nat) : ZM := (yX7_place, cX7_place, 2, (some .int), zRm q 0 0, zTg g 0 0)
def s_X7_place (p0 : Int32) (σ : ZSt) : Option Int32 :=
  (s_X7_isPlayer p0 σ).bind fun r1 => (if r1 = (0 : Int32) then (some (-1 : Int32))
    else (zLd (zIn p0 8) (σ.1 13 p0.toNatClampNeg) fun v2 => (some v2)))
set_option maxHeartbeats 4000000 in
set_option maxRecDepth 100000 in
theorem z_X7_place (g : ZG) (p0 : Int32) (σ : ZSt) : Zo g (mX7_place g 1) (fun b : Int32 => (some (.int b), zw σ)) (s_X7_place p0 σ) 0 0 0 [some (.ref 1), some (.int p0)] [] (zw σ) := by
  unfold s_X7_place
  refine Zo_aload0 dX7_place_0 ?_
  refine Zo_iload1 dX7_place_1 ?_
  refine Zo_cVI1 lk_X7_73 (e_X7_isPlayer g _ _) kd_1 (zFit_rm (by decide)) (zle rfl) dX7_place_2 fun r1 => ?_
  refine Zo_ifeq 17 dX7_place_5 (by decide) ?_ ?_
  · refine Zo_iconst (-1 : Int32) dX7_place_17 ic_m1 ?_
    exact Zo_iret dX7_place_18 rfl rfl (Nat.le_refl _) (Nat.le_refl _)
  · refine Zo_aload0 dX7_place_8 ?_
    refine Zo_getr (j := 13) fl_X7_45 kd_1 rfl dX7_place_9 ?_
    refine Zo_iload1 dX7_place_12 ?_
    refine Zo_iald kd_13 dX7_place_13 fun v2 => ?_
    refine Zo_goto 18 dX7_place_14 (by decide) ?_
    exact Zo_iret dX7_place_18 rfl rfl (Nat.le_refl _) (Nat.le_refl _)
theorem e_X7_place (g : ZG) (p0 : Int32) (σ : ZSt) : zEvI g 1 yX7_place cX7_place 2 (some .int) [.ref 1, .int p0] σ (s_X7_place p0 σ) :=
  zEvI_of 0 rfl rfl (z_X7_place g p0 σ)
abbrev mX7_hearing (g : ZG) (q : Nat) : ZM := (yX7_hearing, cX7_hearing, 2, (some .int), zRm q 0 0, zTg g 0 0)
def s_X7_hearing (p0 : Int32) (σ : ZSt) : Option Int32 :=
  (s_X7_isPlayer p0 σ).bind fun r1 => (if r1 = (0 : Int32) then (some (0 : Int32))
    else (zLd (zIn p0 8) (σ.1 12 p0.toNatClampNeg) fun v2 => (some v2)))
set_option maxHeartbeats 4000000 in
set_option maxRecDepth 100000 in
theorem z_X7_hearing (g : ZG) (p0 : Int32) (σ : ZSt) : Zo g (mX7_hearing g 1) (fun b : Int32 => (some (.int b), zw σ)) (s_X7_hearing p0 σ) 0 0 0 [some (.ref 1), some (.int p0)] [] (zw σ) := by
  unfold s_X7_hearing
  refine Zo_aload0 dX7_hearing_0 ?_
  refine Zo_iload1 dX7_hearing_1 ?_
  refine Zo_cVI1 lk_X7_73 (e_X7_isPlayer g _ _) kd_1 (zFit_rm (by decide)) (zle rfl) dX7_hearing_2 fun r1 => ?_
  refine Zo_ifeq 17 dX7_hearing_5 (by decide) ?_ ?_
  · refine Zo_iconst (0 : Int32) dX7_hearing_17 ic_0 ?_
    exact Zo_iret dX7_hearing_18 rfl rfl (Nat.le_refl _) (Nat.le_refl _)
  · refine Zo_aload0 dX7_hearing_8 ?_
    refine Zo_getr (j := 12) fl_X7_42 kd_1 rfl dX7_hearing_9 ?_
    refine Zo_iload1 dX7_hearing_12 ?_
    refine Zo_iald kd_12 dX7_hearing_13 fun v2 => ?_
    refine Zo_goto 18 dX7_hearing_14 (by decide) ?_
    exact Zo_iret dX7_hearing_18 rfl rfl (Nat.le_refl _) (Nat.le_refl _)
theorem e_X7_hearing (g : ZG) (p0 : Int32) (σ : ZSt) : zEvI g 1 yX7_hearing cX7_hearing 2 (some .int) [.ref 1, .int p0] σ (s_X7_hearing p0 σ) :=
  zEvI_of 0 rfl rfl (z_X7_hearing g p0 σ)
abbrev mX7_lawOfQuiet (g : ZG) (q : Nat) : ZM := (yX7_lawOfQuiet, cX7_lawOfQuiet, 2, (some .int), zRm q 0 0, zTg g 0 0)
def s_X7_lawOfQuiet (p0 : Int32) (σ : ZSt) : Option Int32 :=
  (s_X7_isStreet p0 σ).bind fun r1 => (if r1 = (0 : Int32) then (some (0 : Int32))
    else (zLd (zIn p0 6) (σ.1 3 p0.toNatClampNeg) fun v2 => (some v2)))
set_option maxHeartbeats 4000000 in
set_option maxRecDepth 100000 in
theorem z_X7_lawOfQuiet (g : ZG) (p0 : Int32) (σ : ZSt) : Zo g (mX7_lawOfQuiet g 1) (fun b : Int32 => (some (.int b), zw σ)) (s_X7_lawOfQuiet p0 σ) 0 0 0 [some (.ref 1), some (.int p0)] [] (zw σ) := by
  unfold s_X7_lawOfQuiet
  refine Zo_aload0 dX7_lawOfQuiet_0 ?_
  refine Zo_iload1 dX7_lawOfQuiet_1 ?_
  refine Zo_cVI1 lk_X7_58 (e_X7_isStreet g _ _) kd_1 (zFit_rm (by decide)) (zle rfl) dX7_lawOfQuiet_2 fun r1 => ?_
  refine Zo_ifeq 17 dX7_lawOfQuiet_5 (by decide) ?_ ?_
  · refine Zo_iconst (0 : Int32) dX7_lawOfQuiet_17 ic_0 ?_
    exact Zo_iret dX7_lawOfQuiet_18 rfl rfl (Nat.le_refl _) (Nat.le_refl _)
  · refine Zo_aload0 dX7_lawOfQuiet_8 ?_
    refine Zo_getr (j := 3) fl_X7_15 kd_1 rfl dX7_lawOfQuiet_9 ?_
    refine Zo_iload1 dX7_lawOfQuiet_12 ?_
    refine Zo_iald kd_3 dX7_lawOfQuiet_13 fun v2 => ?_
    refine Zo_goto 18 dX7_lawOfQuiet_14 (by decide) ?_
    exact Zo_iret dX7_lawOfQuiet_18 rfl rfl (Nat.le_refl _) (Nat.le_refl _)
theorem e_X7_lawOfQuiet (g : ZG) (p0 : Int32) (σ : ZSt) : zEvI g 1 yX7_lawOfQuiet cX7_lawOfQuiet 2 (some .int) [.ref 1, .int p0] σ (s_X7_lawOfQuiet p0 σ) :=
  zEvI_of 0 rfl rfl (z_X7_lawOfQuiet g p0 σ)
abbrev mX7_setPlace (g : ZG) (q : Nat) : ZM := (yX7_setPlace, cX7_setPlace, 3, none, zRm q 0 0, zTg g 0 0)
def s_X7_setPlace (p0 : Int32) (p1 : Int32) (σ : ZSt) : Option ZSt :=
  (s_X7_isPlayer p0 σ).bind fun r1 => (if r1 = (0 : Int32) then (some σ)
    else (zSg (zIn p0 8) (zWD σ 13 p0.toNatClampNeg p1) fun σ2 => (some σ2)))
set_option maxHeartbeats 4000000 in
set_option maxRecDepth 100000 in
theorem z_X7_setPlace (g : ZG) (p0 : Int32) (p1 : Int32) (σ : ZSt) : Zo g (mX7_setPlace g 1) (fun b : ZSt => (none, zw b)) (s_X7_setPlace p0 p1 σ) 0 0 0 [some (.ref 1), some (.int p0), some (.int p1)] [] (zw σ) := by
  unfold s_X7_setPlace
  refine Zo_aload0 dX7_setPlace_0 ?_
  refine Zo_iload1 dX7_setPlace_1 ?_
  refine Zo_cVI1 lk_X7_73 (e_X7_isPlayer g _ _) kd_1 (zFit_rm (by decide)) (zle rfl) dX7_setPlace_2 fun r1 => ?_
  refine Zo_ifeq 15 dX7_setPlace_5 (by decide) ?_ ?_
  · exact Zo_vret dX7_setPlace_15 rfl rfl (Nat.le_refl _) (Nat.le_refl _)
  · refine Zo_aload0 dX7_setPlace_8 ?_
    refine Zo_getr (j := 13) fl_X7_45 kd_1 rfl dX7_setPlace_9 ?_
    refine Zo_iload1 dX7_setPlace_12 ?_
    refine Zo_iload2 dX7_setPlace_13 ?_
    refine Zo_iast kd_13 dX7_setPlace_14 fun σ2 => ?_
    exact Zo_vret dX7_setPlace_15 rfl rfl (Nat.le_refl _) (Nat.le_refl _)
theorem e_X7_setPlace (g : ZG) (p0 : Int32) (p1 : Int32) (σ : ZSt) : zEvV g 1 yX7_setPlace cX7_setPlace 3 none [.ref 1, .int p0, .int p1] σ (s_X7_setPlace p0 p1 σ) :=
  zEvV_of 0 rfl rfl (z_X7_setPlace g p0 p1 σ)
abbrev mX7_purse (g : ZG) (q : Nat) : ZM := (yX7_purse, cX7_purse, 2, (some .int), zRm q 0 0, zTg g 0 0)
def s_X7_purse (p0 : Int32) (σ : ZSt) : Option Int32 :=
  (s_X7_isWindow p0 σ).bind fun r1 => (if r1 = (0 : Int32) then (some (0 : Int32))
    else (zLd (zIn p0 30) (σ.1 9 p0.toNatClampNeg) fun v2 => (some v2)))
set_option maxHeartbeats 4000000 in
set_option maxRecDepth 100000 in
theorem z_X7_purse (g : ZG) (p0 : Int32) (σ : ZSt) : Zo g (mX7_purse g 1) (fun b : Int32 => (some (.int b), zw σ)) (s_X7_purse p0 σ) 0 0 0 [some (.ref 1), some (.int p0)] [] (zw σ) := by
  unfold s_X7_purse
  refine Zo_aload0 dX7_purse_0 ?_
  refine Zo_iload1 dX7_purse_1 ?_
  refine Zo_cVI1 lk_X7_66 (e_X7_isWindow g _ _) kd_1 (zFit_rm (by decide)) (zle rfl) dX7_purse_2 fun r1 => ?_
  refine Zo_ifeq 17 dX7_purse_5 (by decide) ?_ ?_
  · refine Zo_iconst (0 : Int32) dX7_purse_17 ic_0 ?_
    exact Zo_iret dX7_purse_18 rfl rfl (Nat.le_refl _) (Nat.le_refl _)
  · refine Zo_aload0 dX7_purse_8 ?_
    refine Zo_getr (j := 9) fl_X7_33 kd_1 rfl dX7_purse_9 ?_
    refine Zo_iload1 dX7_purse_12 ?_
    refine Zo_iald kd_9 dX7_purse_13 fun v2 => ?_
    refine Zo_goto 18 dX7_purse_14 (by decide) ?_
    exact Zo_iret dX7_purse_18 rfl rfl (Nat.le_refl _) (Nat.le_refl _)
theorem e_X7_purse (g : ZG) (p0 : Int32) (σ : ZSt) : zEvI g 1 yX7_purse cX7_purse 2 (some .int) [.ref 1, .int p0] σ (s_X7_purse p0 σ) :=
  zEvI_of 0 rfl rfl (z_X7_purse g p0 σ)
abbrev mX7_firstBeyondItsPurses (g : ZG) (q : Nat) : ZM := (yX7_firstBeyondItsPurses, cX7_firstBeyondItsPurses, 4, (some .int), zRm q 0 0, zTg g 0 0)
def s_X7_firstBeyondItsPurses_C46 (k2 : Int32 → Option Int32) (l1 : Int32) (l2 : Int32) (σ : ZSt) : Option Int32 :=
  (s_X7_isStreet l1 σ).bind fun r1 => (if r1 = (0 : Int32) then (k2 (l1 + (1 : Int32)))
    else (zLd (zIn l1 6) (σ.1 5 l1.toNatClampNeg) fun v2 => (if v2 ≤ l2 then (k2 (l1 + (1 : Int32)))
      else (some l1))))
set_option maxHeartbeats 4000000 in
set_option maxRecDepth 100000 in
theorem z_X7_firstBeyondItsPurses_C46 (g : ZG) (k2 : Int32 → Option Int32) (l1 : Int32) (l2 : Int32) (σ : ZSt) (hk2 : ∀ (x1 : Int32) (d2 d3 : Option Value), Zo g (mX7_firstBeyondItsPurses g 2) (fun b : Int32 => (some (.int b), zw σ)) (k2 x1) 0 0 2 [some (.ref 1), some (.int x1), d2, d3] [] (zw σ)) (o3 : Option Value) : Zo g (mX7_firstBeyondItsPurses g 2) (fun b : Int32 => (some (.int b), zw σ)) (s_X7_firstBeyondItsPurses_C46 k2 l1 l2 σ) 0 0 46 [some (.ref 1), some (.int l1), some (.int l2), o3] [] (zw σ) := by
  unfold s_X7_firstBeyondItsPurses_C46
  refine Zo_aload0 dX7_firstBeyondItsPurses_46 ?_
  refine Zo_iload1 dX7_firstBeyondItsPurses_47 ?_
  refine Zo_cVI1 lk_X7_58 (e_X7_isStreet g _ _) kd_1 (zFit_rm (by decide)) (zle rfl) dX7_firstBeyondItsPurses_48 fun r1 => ?_
  refine Zo_ifeq 66 dX7_firstBeyondItsPurses_51 (by decide) ?_ ?_
  · refine Zo_iinc1 rfl (1 : Int32) ic_1 (zlt rfl) dX7_firstBeyondItsPurses_66 ?_
    refine Zo_goto 2 dX7_firstBeyondItsPurses_69 (by decide) ?_
    exact hk2 _ _ _
  · refine Zo_aload0 dX7_firstBeyondItsPurses_54 ?_
    refine Zo_getr (j := 5) fl_X7_21 kd_1 rfl dX7_firstBeyondItsPurses_55 ?_
    refine Zo_iload1 dX7_firstBeyondItsPurses_58 ?_
    refine Zo_iald kd_5 dX7_firstBeyondItsPurses_59 fun v2 => ?_
    refine Zo_iload2 dX7_firstBeyondItsPurses_60 ?_
    refine Zo_icmple 66 dX7_firstBeyondItsPurses_61 (by decide) ?_ ?_
    · refine Zo_iinc1 rfl (1 : Int32) ic_1 (zlt rfl) dX7_firstBeyondItsPurses_66 ?_
      refine Zo_goto 2 dX7_firstBeyondItsPurses_69 (by decide) ?_
      exact hk2 _ _ _
    · refine Zo_iload1 dX7_firstBeyondItsPurses_64 ?_
      exact Zo_iret dX7_firstBeyondItsPurses_65 rfl rfl (Nat.le_refl _) (Nat.le_refl _)
def s_X7_firstBeyondItsPurses_L14 (k2 : Int32 → Option Int32) (l1 : Int32) (σ : ZSt) : Nat → Int32 → Int32 → Option Int32
  | 0, _, _ => none
  | n + 1, l2, l3 =>
    if (σ.1 1 5) ≤ l3 then (s_X7_firstBeyondItsPurses_C46 k2 l1 l2 σ)
      else ((s_X7_isOf l3 l1 σ).bind fun r1 => (if r1 = (0 : Int32) then (s_X7_firstBeyondItsPurses_L14 k2 l1 σ n l2 (l3 + (1 : Int32)))
        else (zLd (zIn l3 30) (σ.1 9 l3.toNatClampNeg) fun v2 => (s_X7_firstBeyondItsPurses_L14 k2 l1 σ n (l2 + v2) (l3 + (1 : Int32))))))
set_option maxHeartbeats 4000000 in
set_option maxRecDepth 100000 in
theorem z_X7_firstBeyondItsPurses_L14 (g : ZG) (k2 : Int32 → Option Int32) (l1 : Int32) (σ : ZSt) (hk2 : ∀ (x1 : Int32) (d2 d3 : Option Value), Zo g (mX7_firstBeyondItsPurses g 2) (fun b : Int32 => (some (.int b), zw σ)) (k2 x1) 0 0 2 [some (.ref 1), some (.int x1), d2, d3] [] (zw σ)) : ∀ (n : Nat) (l2 : Int32) (l3 : Int32), Zo g (mX7_firstBeyondItsPurses g 2) (fun b : Int32 => (some (.int b), zw σ)) (s_X7_firstBeyondItsPurses_L14 k2 l1 σ n l2 l3) 0 0 14 [some (.ref 1), some (.int l1), some (.int l2), some (.int l3)] [] (zw σ) := by
  intro n
  induction n with
  | zero => intros; exact Zo_none
  | succ n ih =>
    intro l2 l3
    rw [s_X7_firstBeyondItsPurses_L14]
    refine Zo_iload3 dX7_firstBeyondItsPurses_14 ?_
    refine Zo_aload0 dX7_firstBeyondItsPurses_15 ?_
    refine Zo_geti fl_X7_52 kd_1 dX7_firstBeyondItsPurses_16 ?_
    refine Zo_icmpge 46 dX7_firstBeyondItsPurses_19 (by decide) ?_ ?_
    · exact z_X7_firstBeyondItsPurses_C46 g k2 _ _ _ hk2 _
    · refine Zo_aload0 dX7_firstBeyondItsPurses_22 ?_
      refine Zo_iload3 dX7_firstBeyondItsPurses_23 ?_
      refine Zo_iload1 dX7_firstBeyondItsPurses_24 ?_
      refine Zo_cVI2 lk_X7_83 (e_X7_isOf g _ _ _) kd_1 (zFit_rm (by decide)) (zle rfl) dX7_firstBeyondItsPurses_25 fun r1 => ?_
      refine Zo_ifeq 40 dX7_firstBeyondItsPurses_28 (by decide) ?_ ?_
      · refine Zo_iinc3 rfl (1 : Int32) ic_1 (zlt rfl) dX7_firstBeyondItsPurses_40 ?_
        refine Zo_goto 14 dX7_firstBeyondItsPurses_43 (by decide) ?_
        exact ih _ _
      · refine Zo_iload2 dX7_firstBeyondItsPurses_31 ?_
        refine Zo_aload0 dX7_firstBeyondItsPurses_32 ?_
        refine Zo_getr (j := 9) fl_X7_33 kd_1 rfl dX7_firstBeyondItsPurses_33 ?_
        refine Zo_iload3 dX7_firstBeyondItsPurses_36 ?_
        refine Zo_iald kd_9 dX7_firstBeyondItsPurses_37 fun v2 => ?_
        refine Zo_iadd dX7_firstBeyondItsPurses_38 ?_
        refine Zo_istore2 rfl (zlt rfl) dX7_firstBeyondItsPurses_39 ?_
        show Zo g _ _ _ 0 0 40 _ _ _
        refine Zo_iinc3 rfl (1 : Int32) ic_1 (zlt rfl) dX7_firstBeyondItsPurses_40 ?_
        refine Zo_goto 14 dX7_firstBeyondItsPurses_43 (by decide) ?_
        exact ih _ _
def s_X7_firstBeyondItsPurses_L2 (σ : ZSt) : Nat → Int32 → Option Int32
  | 0, _ => none
  | n + 1, l1 =>
    if (σ.1 1 0) ≤ l1 then (some (-2 : Int32))
      else (s_X7_firstBeyondItsPurses_L14 (s_X7_firstBeyondItsPurses_L2 σ n) l1 σ 200 (0 : Int32) (0 : Int32))
set_option maxHeartbeats 4000000 in
set_option maxRecDepth 100000 in
theorem z_X7_firstBeyondItsPurses_L2 (g : ZG) (σ : ZSt) : ∀ (n : Nat) (l1 : Int32) (o2 o3 : Option Value), Zo g (mX7_firstBeyondItsPurses g 2) (fun b : Int32 => (some (.int b), zw σ)) (s_X7_firstBeyondItsPurses_L2 σ n l1) 0 0 2 [some (.ref 1), some (.int l1), o2, o3] [] (zw σ) := by
  intro n
  induction n with
  | zero => intros; exact Zo_none
  | succ n ih =>
    intro l1 o2 o3
    rw [s_X7_firstBeyondItsPurses_L2]
    refine Zo_iload1 dX7_firstBeyondItsPurses_2 ?_
    refine Zo_aload0 dX7_firstBeyondItsPurses_3 ?_
    refine Zo_geti fl_X7_48 kd_1 dX7_firstBeyondItsPurses_4 ?_
    refine Zo_icmpge 72 dX7_firstBeyondItsPurses_7 (by decide) ?_ ?_
    · refine Zo_bipush (-2 : Int32) dX7_firstBeyondItsPurses_72 bp_m2 ?_
      exact Zo_iret dX7_firstBeyondItsPurses_74 rfl rfl (Nat.le_refl _) (Nat.le_refl _)
    · refine Zo_iconst (0 : Int32) dX7_firstBeyondItsPurses_10 ic_0 ?_
      refine Zo_istore2 rfl (zlt rfl) dX7_firstBeyondItsPurses_11 ?_
      refine Zo_iconst (0 : Int32) dX7_firstBeyondItsPurses_12 ic_0 ?_
      refine Zo_istore3 rfl (zlt rfl) dX7_firstBeyondItsPurses_13 ?_
      exact z_X7_firstBeyondItsPurses_L14 g (s_X7_firstBeyondItsPurses_L2 σ n) _ _ ih _ _ _
def s_X7_firstBeyondItsPurses (σ : ZSt) : Option Int32 :=
  s_X7_firstBeyondItsPurses_L2 σ 200 (0 : Int32)
set_option maxHeartbeats 4000000 in
set_option maxRecDepth 100000 in
theorem z_X7_firstBeyondItsPurses (g : ZG) (σ : ZSt) : Zo g (mX7_firstBeyondItsPurses g 2) (fun b : Int32 => (some (.int b), zw σ)) (s_X7_firstBeyondItsPurses σ) 0 0 0 [some (.ref 1), none, none, none] [] (zw σ) := by
  unfold s_X7_firstBeyondItsPurses
  refine Zo_iconst (0 : Int32) dX7_firstBeyondItsPurses_0 ic_0 ?_
  refine Zo_istore1 rfl (zlt rfl) dX7_firstBeyondItsPurses_1 ?_
  exact z_X7_firstBeyondItsPurses_L2 g _ _ _ _ _
theorem e_X7_firstBeyondItsPurses (g : ZG) (σ : ZSt) : zEvI g 2 yX7_firstBeyondItsPurses cX7_firstBeyondItsPurses 4 (some .int) [.ref 1] σ (s_X7_firstBeyondItsPurses σ) :=
  zEvI_of 3 rfl rfl (z_X7_firstBeyondItsPurses g σ)
abbrev mX7_windowsInAll (g : ZG) (q : Nat) : ZM := (yX7_windowsInAll, cX7_windowsInAll, 1, (some .int), zRm q 0 0, zTg g 0 0)
def s_X7_windowsInAll (σ : ZSt) : Option Int32 :=
  some (σ.1 1 5)
set_option maxHeartbeats 4000000 in
set_option maxRecDepth 100000 in
theorem z_X7_windowsInAll (g : ZG) (σ : ZSt) : Zo g (mX7_windowsInAll g 0) (fun b : Int32 => (some (.int b), zw σ)) (s_X7_windowsInAll σ) 0 0 0 [some (.ref 1)] [] (zw σ) := by
  unfold s_X7_windowsInAll
  refine Zo_aload0 dX7_windowsInAll_0 ?_
  refine Zo_geti fl_X7_52 kd_1 dX7_windowsInAll_1 ?_
  exact Zo_iret dX7_windowsInAll_4 rfl rfl (Nat.le_refl _) (Nat.le_refl _)
theorem e_X7_windowsInAll (g : ZG) (σ : ZSt) : zEvI g 0 yX7_windowsInAll cX7_windowsInAll 1 (some .int) [.ref 1] σ (s_X7_windowsInAll σ) :=
  zEvI_of 0 rfl rfl (z_X7_windowsInAll g σ)
