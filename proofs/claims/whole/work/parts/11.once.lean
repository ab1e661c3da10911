abbrev mX5_bargain (g : ZG) (q : Nat) : ZM := (yX5_bargain, cX5_bargain, 6, (some .int), zRm q 0 0, zTg g 0 0)
def s_X5_bargain (p0 : Int32) (p1 : Int32) (p2 : Int32) (σ : ZSt) : Option Int32 :=
  (s_X7_least p0 p1 σ).bind fun r1 => ((s_X7_most p1 p2 σ).bind fun r2 => (if r2 < r1 then (some (-2 : Int32))
    else (some ((r1 + r2) / (2 : Int32)))))
set_option maxHeartbeats 4000000 in
set_option maxRecDepth 100000 in
theorem z_X5_bargain (g : ZG) (p0 : Int32) (p1 : Int32) (p2 : Int32) (σ : ZSt) : Zo g (mX5_bargain g 4) (fun b : Int32 => (some (.int b), zw σ)) (s_X5_bargain p0 p1 p2 σ) 0 0 0 [some (.ref 14), some (.int p0), some (.int p1), some (.int p2), none, none] [] (zw σ) := by
  unfold s_X5_bargain
  refine Zo_aload0 dX5_bargain_0 ?_
  refine Zo_getr (j := 1) fl_X5_9 kd_14 rfl dX5_bargain_1 ?_
  refine Zo_iload1 dX5_bargain_4 ?_
  refine Zo_iload2 dX5_bargain_5 ?_
  refine Zo_cVI2 lk_X5_15 (e_X7_least g _ _ _) kd_1 (zFit_rm (by decide)) (zle rfl) dX5_bargain_6 fun r1 => ?_
  refine Zo_istore4 rfl (zlt rfl) dX5_bargain_9 ?_
  refine Zo_aload0 dX5_bargain_11 ?_
  show Zo g _ _ _ 0 0 12 _ _ _
  refine Zo_getr (j := 1) fl_X5_9 kd_14 rfl dX5_bargain_12 ?_
  refine Zo_iload2 dX5_bargain_15 ?_
  refine Zo_iload3 dX5_bargain_16 ?_
  refine Zo_cVI2 lk_X5_21 (e_X7_most g _ _ _) kd_1 (zFit_rm (by decide)) (zle rfl) dX5_bargain_17 fun r2 => ?_
  refine Zo_istore5 rfl (zlt rfl) dX5_bargain_20 ?_
  refine Zo_iload5 dX5_bargain_22 ?_
  refine Zo_iload4 dX5_bargain_24 ?_
  refine Zo_icmplt 39 dX5_bargain_26 (by decide) ?_ ?_
  · refine Zo_bipush (-2 : Int32) dX5_bargain_39 bp_m2 ?_
    exact Zo_iret dX5_bargain_41 rfl rfl (Nat.le_refl _) (Nat.le_refl _)
  · refine Zo_iload4 dX5_bargain_29 ?_
    refine Zo_iload5 dX5_bargain_31 ?_
    refine Zo_iadd dX5_bargain_33 ?_
    refine Zo_iconst (2 : Int32) dX5_bargain_34 ic_2 ?_
    refine Zo_idiv dX5_bargain_35 (by decide) ?_
    refine Zo_goto 41 dX5_bargain_36 (by decide) ?_
    exact Zo_iret dX5_bargain_41 rfl rfl (Nat.le_refl _) (Nat.le_refl _)
theorem e_X5_bargain (g : ZG) (p0 : Int32) (p1 : Int32) (p2 : Int32) (σ : ZSt) : zEvI g 4 yX5_bargain cX5_bargain 6 (some .int) [.ref 14, .int p0, .int p1, .int p2] σ (s_X5_bargain p0 p1 p2 σ) :=
  zEvI_of 2 rfl rfl (z_X5_bargain g p0 p1 p2 σ)
abbrev mX5_haste (g : ZG) (q : Nat) : ZM := (yX5_haste, cX5_haste, 4, (some .int), zRm q 0 0, zTg g 0 0)
def s_X5_haste (p0 : Int32) (p1 : Int32) (p2 : Int32) (σ : ZSt) : Option Int32 :=
  if (p0 + (p1 * (p2 - (1 : Int32)))) ≤ (0 : Int32) then (some (0 : Int32))
    else (if (p0 + (p1 * (p2 - (1 : Int32)))) = (0 : Int32) then none else (some (((1000 : Int32) * p0) / (p0 + (p1 * (p2 - (1 : Int32)))))))
set_option maxHeartbeats 4000000 in
set_option maxRecDepth 100000 in
theorem z_X5_haste (g : ZG) (p0 : Int32) (p1 : Int32) (p2 : Int32) (σ : ZSt) : Zo g (mX5_haste g 0) (fun b : Int32 => (some (.int b), zw σ)) (s_X5_haste p0 p1 p2 σ) 0 0 0 [some (.int p0), some (.int p1), some (.int p2), none] [] (zw σ) := by
  unfold s_X5_haste
  refine Zo_iload0 dX5_haste_0 ?_
  refine Zo_iload1 dX5_haste_1 ?_
  refine Zo_iload2 dX5_haste_2 ?_
  refine Zo_iconst (1 : Int32) dX5_haste_3 ic_1 ?_
  refine Zo_isub dX5_haste_4 ?_
  refine Zo_imul dX5_haste_5 ?_
  refine Zo_iadd dX5_haste_6 ?_
  show Zo g _ _ _ 0 0 7 _ _ _
  refine Zo_istore3 rfl (zlt rfl) dX5_haste_7 ?_
  refine Zo_iload3 dX5_haste_8 ?_
  refine Zo_ifle 22 dX5_haste_9 (by decide) ?_ ?_
  · refine Zo_iconst (0 : Int32) dX5_haste_22 ic_0 ?_
    exact Zo_iret dX5_haste_23 rfl rfl (Nat.le_refl _) (Nat.le_refl _)
  · refine Zo_sipush (1000 : Int32) dX5_haste_12 sp_1000 ?_
    refine Zo_iload0 dX5_haste_15 ?_
    refine Zo_imul dX5_haste_16 ?_
    refine Zo_iload3 dX5_haste_17 ?_
    refine Zo_gn fun hn1 => ?_
    refine Zo_idiv dX5_haste_18 hn1 ?_
    refine Zo_goto 23 dX5_haste_19 (by decide) ?_
    exact Zo_iret dX5_haste_23 rfl rfl (Nat.le_refl _) (Nat.le_refl _)
theorem e_X5_haste (g : ZG) (p0 : Int32) (p1 : Int32) (p2 : Int32) (σ : ZSt) : zEvI g 0 yX5_haste cX5_haste 4 (some .int) [.int p0, .int p1, .int p2] σ (s_X5_haste p0 p1 p2 σ) :=
  zEvI_of 1 rfl rfl (z_X5_haste g p0 p1 p2 σ)
abbrev mX5_firstToPay (g : ZG) (q : Nat) : ZM := (yX5_firstToPay, cX5_firstToPay, 11, (some .int), zRm q 0 0, zTg g 0 0)
def s_X5_firstToPay_C114 (l9 : Int32) (l10 : Int32) (σ : ZSt) : Option Int32 :=
  some ((l9 * (30 : Int32)) + l10)
set_option maxHeartbeats 4000000 in
set_option maxRecDepth 100000 in
theorem z_X5_firstToPay_C114 (g : ZG) (l9 : Int32) (l10 : Int32) (σ : ZSt) (o0 : Option Value) (o1 : Option Value) (o2 : Option Value) (o3 : Option Value) (o4 : Option Value) (o5 : Option Value) (o6 : Option Value) (o7 : Option Value) (o8 : Option Value) : Zo g (mX5_firstToPay g 4) (fun b : Int32 => (some (.int b), zw σ)) (s_X5_firstToPay_C114 l9 l10 σ) 0 0 114 [o0, o1, o2, o3, o4, o5, o6, o7, o8, some (.int l9), some (.int l10)] [] (zw σ) := by
  unfold s_X5_firstToPay_C114
  refine Zo_iload9 dX5_firstToPay_114 ?_
  refine Zo_bipush (30 : Int32) dX5_firstToPay_116 bp_30 ?_
  refine Zo_imul dX5_firstToPay_118 ?_
  refine Zo_iload10 dX5_firstToPay_119 ?_
  refine Zo_iadd dX5_firstToPay_121 ?_
  exact Zo_iret dX5_firstToPay_122 rfl rfl (Nat.le_refl _) (Nat.le_refl _)
def s_X5_firstToPay_L48 (k38 : Int32 → Int32 → Option Int32) (l2 : Int32) (l4 : Int32) (l5 : Int32) (l6 : Int32) (l7 : Int32) (l9 : Int32) (σ : ZSt) : Nat → Int32 → Int32 → Option Int32
  | 0, _, _ => none
  | n + 1, l8, l10 =>
    if (30 : Int32) ≤ l10 then (k38 l8 (l9 + (1 : Int32)))
      else ((s_X7_isHarmed l10 l5 l6 σ).bind fun r1 => (if r1 = (0 : Int32) then (s_X5_firstToPay_L48 k38 l2 l4 l5 l6 l7 l9 σ n l8 (l10 + (1 : Int32)))
        else ((s_X7_harmTo l10 l6 σ).bind fun r2 => ((s_X5_haste r2 l2 l7 σ).bind fun r3 => (if r3 ≤ (zRem ((((l8 * (1103515245 : Int32)) + (12345 : Int32)).toUInt32 >>> ((8 : Int32).toUInt32 &&& Int32.toUInt32 31)).toInt32) (1000 : Int32)) then (s_X5_firstToPay_L48 k38 l2 l4 l5 l6 l7 l9 σ n ((l8 * (1103515245 : Int32)) + (12345 : Int32)) (l10 + (1 : Int32)))
          else (s_X5_firstToPay_C114 l9 l10 σ))))))
set_option maxHeartbeats 4000000 in
set_option maxRecDepth 100000 in
theorem z_X5_firstToPay_L48 (g : ZG) (k38 : Int32 → Int32 → Option Int32) (l2 : Int32) (l4 : Int32) (l5 : Int32) (l6 : Int32) (l7 : Int32) (l9 : Int32) (σ : ZSt) (hk38 : ∀ (x8 : Int32) (x9 : Int32) (d1 d3 d10 : Option Value), Zo g (mX5_firstToPay g 4) (fun b : Int32 => (some (.int b), zw σ)) (k38 x8 x9) 0 0 38 [some (.ref 14), d1, some (.int l2), d3, some (.int l4), some (.int l5), some (.int l6), some (.int l7), some (.int x8), some (.int x9), d10] [] (zw σ)) : ∀ (n : Nat) (l8 : Int32) (l10 : Int32) (o1 o3 : Option Value), Zo g (mX5_firstToPay g 4) (fun b : Int32 => (some (.int b), zw σ)) (s_X5_firstToPay_L48 k38 l2 l4 l5 l6 l7 l9 σ n l8 l10) 0 0 48 [some (.ref 14), o1, some (.int l2), o3, some (.int l4), some (.int l5), some (.int l6), some (.int l7), some (.int l8), some (.int l9), some (.int l10)] [] (zw σ) := by
  intro n
  induction n with
  | zero => intros; exact Zo_none
  | succ n ih =>
    intro l8 l10 o1 o3
    rw [s_X5_firstToPay_L48]
    refine Zo_iload10 dX5_firstToPay_48 ?_
    refine Zo_bipush (30 : Int32) dX5_firstToPay_50 bp_30 ?_
    refine Zo_icmpge 129 dX5_firstToPay_52 (by decide) ?_ ?_
    · refine Zo_iinc9 rfl (1 : Int32) ic_1 (zlt rfl) dX5_firstToPay_129 ?_
      refine Zo_goto 38 dX5_firstToPay_132 (by decide) ?_
      exact hk38 _ _ _ _ _
    · refine Zo_aload0 dX5_firstToPay_55 ?_
      refine Zo_getr (j := 1) fl_X5_9 kd_14 rfl dX5_firstToPay_56 ?_
      refine Zo_iload10 dX5_firstToPay_59 ?_
      refine Zo_iload5 dX5_firstToPay_61 ?_
      refine Zo_iload6 dX5_firstToPay_63 ?_
      refine Zo_cVI3 lk_X5_31 (e_X7_isHarmed g _ _ _ _) kd_1 (zFit_rm (by decide)) (zle rfl) dX5_firstToPay_65 fun r1 => ?_
      refine Zo_ifne 74 dX5_firstToPay_68 (by decide) ?_ ?_
      · refine Zo_iload8 dX5_firstToPay_74 ?_
        refine Zo_ldc rfl cw_X5_35 dX5_firstToPay_76 ?_
        refine Zo_imul dX5_firstToPay_78 ?_
        refine Zo_sipush (12345 : Int32) dX5_firstToPay_79 sp_12345 ?_
        refine Zo_iadd dX5_firstToPay_82 ?_
        refine Zo_istore8 rfl (zlt rfl) dX5_firstToPay_83 ?_
        refine Zo_iload8 dX5_firstToPay_85 ?_
        show Zo g _ _ _ 0 0 87 _ _ _
        refine Zo_bipush (8 : Int32) dX5_firstToPay_87 bp_8 ?_
        refine Zo_iushr dX5_firstToPay_89 ?_
        refine Zo_sipush (1000 : Int32) dX5_firstToPay_90 sp_1000 ?_
        refine Zo_irem dX5_firstToPay_93 (by decide) ?_
        refine Zo_aload0 dX5_firstToPay_94 ?_
        refine Zo_getr (j := 1) fl_X5_9 kd_14 rfl dX5_firstToPay_95 ?_
        refine Zo_iload10 dX5_firstToPay_98 ?_
        refine Zo_iload6 dX5_firstToPay_100 ?_
        show Zo g _ _ _ 0 0 102 _ _ _
        refine Zo_cVI2 lk_X5_36 (e_X7_harmTo g _ _ _) kd_1 (zFit_rm (by decide)) (zle rfl) dX5_firstToPay_102 fun r2 => ?_
        refine Zo_iload2 dX5_firstToPay_105 ?_
        refine Zo_iload7 dX5_firstToPay_106 ?_
        refine Zo_cSI3 lk_X5_39 (e_X5_haste g _ _ _ _) (zFit_rm (by decide)) (zle rfl) dX5_firstToPay_108 fun r3 => ?_
        refine Zo_icmpge 123 dX5_firstToPay_111 (by decide) ?_ ?_
        · refine Zo_iinc10 rfl (1 : Int32) ic_1 (zlt rfl) dX5_firstToPay_123 ?_
          refine Zo_goto 48 dX5_firstToPay_126 (by decide) ?_
          exact ih _ _ _ _
        · exact z_X5_firstToPay_C114 g _ _ _ _ _ _ _ _ _ _ _ _
      · refine Zo_goto 123 dX5_firstToPay_71 (by decide) ?_
        refine Zo_iinc10 rfl (1 : Int32) ic_1 (zlt rfl) dX5_firstToPay_123 ?_
        refine Zo_goto 48 dX5_firstToPay_126 (by decide) ?_
        exact ih _ _ _ _
def s_X5_firstToPay_L38 (l2 : Int32) (l4 : Int32) (l5 : Int32) (l6 : Int32) (l7 : Int32) (σ : ZSt) : Nat → Int32 → Int32 → Option Int32
  | 0, _, _ => none
  | n + 1, l8, l9 =>
    if l4 ≤ l9 then (some (-2 : Int32))
      else (s_X5_firstToPay_L48 (s_X5_firstToPay_L38 l2 l4 l5 l6 l7 σ n) l2 l4 l5 l6 l7 l9 σ 200 l8 (0 : Int32))
set_option maxHeartbeats 4000000 in
set_option maxRecDepth 100000 in
theorem z_X5_firstToPay_L38 (g : ZG) (l2 : Int32) (l4 : Int32) (l5 : Int32) (l6 : Int32) (l7 : Int32) (σ : ZSt) : ∀ (n : Nat) (l8 : Int32) (l9 : Int32) (o1 o3 o10 : Option Value), Zo g (mX5_firstToPay g 4) (fun b : Int32 => (some (.int b), zw σ)) (s_X5_firstToPay_L38 l2 l4 l5 l6 l7 σ n l8 l9) 0 0 38 [some (.ref 14), o1, some (.int l2), o3, some (.int l4), some (.int l5), some (.int l6), some (.int l7), some (.int l8), some (.int l9), o10] [] (zw σ) := by
  intro n
  induction n with
  | zero => intros; exact Zo_none
  | succ n ih =>
    intro l8 l9 o1 o3 o10
    rw [s_X5_firstToPay_L38]
    refine Zo_iload9 dX5_firstToPay_38 ?_
    refine Zo_iload4 dX5_firstToPay_40 ?_
    refine Zo_icmpge 135 dX5_firstToPay_42 (by decide) ?_ ?_
    · refine Zo_bipush (-2 : Int32) dX5_firstToPay_135 bp_m2 ?_
      exact Zo_iret dX5_firstToPay_137 rfl rfl (Nat.le_refl _) (Nat.le_refl _)
    · refine Zo_iconst (0 : Int32) dX5_firstToPay_45 ic_0 ?_
      refine Zo_istore10 rfl (zlt rfl) dX5_firstToPay_46 ?_
      exact z_X5_firstToPay_L48 g (s_X5_firstToPay_L38 l2 l4 l5 l6 l7 σ n) _ _ _ _ _ _ _ ih _ _ _ _ _
def s_X5_firstToPay (p0 : Int32) (p1 : Int32) (p2 : Int32) (p3 : Int32) (σ : ZSt) : Option Int32 :=
  (s_X7_goodOf (p0 / (10 : Int32)) σ).bind fun r1 => ((s_X7_howManyHarmed (zRem p0 (10 : Int32)) r1 σ).bind fun r2 => (s_X5_firstToPay_L38 p1 p3 (zRem p0 (10 : Int32)) r1 r2 σ 200 p2 (0 : Int32)))
set_option maxHeartbeats 4000000 in
set_option maxRecDepth 100000 in
theorem z_X5_firstToPay (g : ZG) (p0 : Int32) (p1 : Int32) (p2 : Int32) (p3 : Int32) (σ : ZSt) : Zo g (mX5_firstToPay g 4) (fun b : Int32 => (some (.int b), zw σ)) (s_X5_firstToPay p0 p1 p2 p3 σ) 0 0 0 [some (.ref 14), some (.int p0), some (.int p1), some (.int p2), some (.int p3), none, none, none, none, none, none] [] (zw σ) := by
  unfold s_X5_firstToPay
  refine Zo_iload1 dX5_firstToPay_0 ?_
  refine Zo_bipush (10 : Int32) dX5_firstToPay_1 bp_10 ?_
  refine Zo_irem dX5_firstToPay_3 (by decide) ?_
  refine Zo_istore5 rfl (zlt rfl) dX5_firstToPay_4 ?_
  refine Zo_aload0 dX5_firstToPay_6 ?_
  refine Zo_getr (j := 1) fl_X5_9 kd_14 rfl dX5_firstToPay_7 ?_
  refine Zo_iload1 dX5_firstToPay_10 ?_
  show Zo g _ _ _ 0 0 11 _ _ _
  refine Zo_bipush (10 : Int32) dX5_firstToPay_11 bp_10 ?_
  refine Zo_idiv dX5_firstToPay_13 (by decide) ?_
  refine Zo_cVI1 lk_X5_24 (e_X7_goodOf g _ _) kd_1 (zFit_rm (by decide)) (zle rfl) dX5_firstToPay_14 fun r1 => ?_
  refine Zo_istore6 rfl (zlt rfl) dX5_firstToPay_17 ?_
  refine Zo_aload0 dX5_firstToPay_19 ?_
  refine Zo_getr (j := 1) fl_X5_9 kd_14 rfl dX5_firstToPay_20 ?_
  refine Zo_iload5 dX5_firstToPay_23 ?_
  refine Zo_iload6 dX5_firstToPay_25 ?_
  show Zo g _ _ _ 0 0 27 _ _ _
  refine Zo_cVI2 lk_X5_28 (e_X7_howManyHarmed g _ _ _) kd_1 (zFit_rm (by decide)) (zle rfl) dX5_firstToPay_27 fun r2 => ?_
  refine Zo_istore7 rfl (zlt rfl) dX5_firstToPay_30 ?_
  refine Zo_iload3 dX5_firstToPay_32 ?_
  refine Zo_istore8 rfl (zlt rfl) dX5_firstToPay_33 ?_
  refine Zo_iconst (0 : Int32) dX5_firstToPay_35 ic_0 ?_
  refine Zo_istore9 rfl (zlt rfl) dX5_firstToPay_36 ?_
  exact z_X5_firstToPay_L38 g _ _ _ _ _ _ _ _ _ _ _ _
theorem e_X5_firstToPay (g : ZG) (p0 : Int32) (p1 : Int32) (p2 : Int32) (p3 : Int32) (σ : ZSt) : zEvI g 4 yX5_firstToPay cX5_firstToPay 11 (some .int) [.ref 14, .int p0, .int p1, .int p2, .int p3] σ (s_X5_firstToPay p0 p1 p2 p3 σ) :=
  zEvI_of 6 rfl rfl (z_X5_firstToPay g p0 p1 p2 p3 σ)
abbrev mX5_lost (g : ZG) (q : Nat) : ZM := (yX5_lost, cX5_lost, 3, (some .int), zRm q 0 0, zTg g 0 0)
def s_X5_lost (p0 : Int32) (p1 : Int32) (σ : ZSt) : Option Int32 :=
  (s_X7_goodOf (p0 / (10 : Int32)) σ).bind fun r1 => ((s_X7_most (zRem p0 (10 : Int32)) r1 σ).bind fun r2 => (some (r2 * p1)))
set_option maxHeartbeats 4000000 in
set_option maxRecDepth 100000 in
theorem z_X5_lost (g : ZG) (p0 : Int32) (p1 : Int32) (σ : ZSt) : Zo g (mX5_lost g 4) (fun b : Int32 => (some (.int b), zw σ)) (s_X5_lost p0 p1 σ) 0 0 0 [some (.ref 14), some (.int p0), some (.int p1)] [] (zw σ) := by
  unfold s_X5_lost
  refine Zo_aload0 dX5_lost_0 ?_
  refine Zo_getr (j := 1) fl_X5_9 kd_14 rfl dX5_lost_1 ?_
  refine Zo_iload1 dX5_lost_4 ?_
  refine Zo_bipush (10 : Int32) dX5_lost_5 bp_10 ?_
  refine Zo_irem dX5_lost_7 (by decide) ?_
  refine Zo_aload0 dX5_lost_8 ?_
  refine Zo_getr (j := 1) fl_X5_9 kd_14 rfl dX5_lost_9 ?_
  show Zo g _ _ _ 0 0 12 _ _ _
  refine Zo_iload1 dX5_lost_12 ?_
  refine Zo_bipush (10 : Int32) dX5_lost_13 bp_10 ?_
  refine Zo_idiv dX5_lost_15 (by decide) ?_
  refine Zo_cVI1 lk_X5_24 (e_X7_goodOf g _ _) kd_1 (zFit_rm (by decide)) (zle rfl) dX5_lost_16 fun r1 => ?_
  refine Zo_cVI2 lk_X5_21 (e_X7_most g _ _ _) kd_1 (zFit_rm (by decide)) (zle rfl) dX5_lost_19 fun r2 => ?_
  refine Zo_iload2 dX5_lost_22 ?_
  refine Zo_imul dX5_lost_23 ?_
  exact Zo_iret dX5_lost_24 rfl rfl (Nat.le_refl _) (Nat.le_refl _)
theorem e_X5_lost (g : ZG) (p0 : Int32) (p1 : Int32) (σ : ZSt) : zEvI g 4 yX5_lost cX5_lost 3 (some .int) [.ref 14, .int p0, .int p1] σ (s_X5_lost p0 p1 σ) :=
  zEvI_of 0 rfl rfl (z_X5_lost g p0 p1 σ)
abbrev mX5_unpaidThousandths (g : ZG) (q : Nat) : ZM := (yX5_unpaidThousandths, cX5_unpaidThousandths, 10, (some .int), zRm q 0 0, zTg g 0 0)
def s_X5_unpaidThousandths_L48 (k39 : Int32 → Int32 → Option Int32) (l2 : Int32) (l3 : Int32) (l4 : Int32) (l5 : Int32) (l6 : Int32) (l8 : Int32) (σ : ZSt) : Nat → Int32 → Int32 → Option Int32
  | 0, _, _ => none
  | n + 1, l7, l9 =>
    if (30 : Int32) ≤ l9 then (k39 l7 (l8 + (1 : Int32)))
      else ((s_X7_isHarmed l9 l4 l5 σ).bind fun r1 => (if r1 = (0 : Int32) then (s_X5_unpaidThousandths_L48 k39 l2 l3 l4 l5 l6 l8 σ n l7 (l9 + (1 : Int32)))
        else ((s_X7_harmTo l9 l5 σ).bind fun r2 => ((s_X5_haste r2 l2 l6 σ).bind fun r3 => (s_X5_unpaidThousandths_L48 k39 l2 l3 l4 l5 l6 l8 σ n ((l7 * ((1000 : Int32) - r3)) / (1000 : Int32)) (l9 + (1 : Int32)))))))
set_option maxHeartbeats 4000000 in
set_option maxRecDepth 100000 in
theorem z_X5_unpaidThousandths_L48 (g : ZG) (k39 : Int32 → Int32 → Option Int32) (l2 : Int32) (l3 : Int32) (l4 : Int32) (l5 : Int32) (l6 : Int32) (l8 : Int32) (σ : ZSt) (hk39 : ∀ (x7 : Int32) (x8 : Int32) (d1 d9 : Option Value), Zo g (mX5_unpaidThousandths g 4) (fun b : Int32 => (some (.int b), zw σ)) (k39 x7 x8) 0 0 39 [some (.ref 14), d1, some (.int l2), some (.int l3), some (.int l4), some (.int l5), some (.int l6), some (.int x7), some (.int x8), d9] [] (zw σ)) : ∀ (n : Nat) (l7 : Int32) (l9 : Int32) (o1 : Option Value), Zo g (mX5_unpaidThousandths g 4) (fun b : Int32 => (some (.int b), zw σ)) (s_X5_unpaidThousandths_L48 k39 l2 l3 l4 l5 l6 l8 σ n l7 l9) 0 0 48 [some (.ref 14), o1, some (.int l2), some (.int l3), some (.int l4), some (.int l5), some (.int l6), some (.int l7), some (.int l8), some (.int l9)] [] (zw σ) := by
  intro n
  induction n with
  | zero => intros; exact Zo_none
  | succ n ih =>
    intro l7 l9 o1
    rw [s_X5_unpaidThousandths_L48]
    refine Zo_iload9 dX5_unpaidThousandths_48 ?_
    refine Zo_bipush (30 : Int32) dX5_unpaidThousandths_50 bp_30 ?_
    refine Zo_icmpge 110 dX5_unpaidThousandths_52 (by decide) ?_ ?_
    · refine Zo_iinc8 rfl (1 : Int32) ic_1 (zlt rfl) dX5_unpaidThousandths_110 ?_
      refine Zo_goto 39 dX5_unpaidThousandths_113 (by decide) ?_
      exact hk39 _ _ _ _
    · refine Zo_aload0 dX5_unpaidThousandths_55 ?_
      refine Zo_getr (j := 1) fl_X5_9 kd_14 rfl dX5_unpaidThousandths_56 ?_
      refine Zo_iload9 dX5_unpaidThousandths_59 ?_
      refine Zo_iload4 dX5_unpaidThousandths_61 ?_
      refine Zo_iload5 dX5_unpaidThousandths_63 ?_
      refine Zo_cVI3 lk_X5_31 (e_X7_isHarmed g _ _ _ _) kd_1 (zFit_rm (by decide)) (zle rfl) dX5_unpaidThousandths_65 fun r1 => ?_
      refine Zo_ifne 74 dX5_unpaidThousandths_68 (by decide) ?_ ?_
      · refine Zo_iload7 dX5_unpaidThousandths_74 ?_
        refine Zo_sipush (1000 : Int32) dX5_unpaidThousandths_76 sp_1000 ?_
        refine Zo_aload0 dX5_unpaidThousandths_79 ?_
        refine Zo_getr (j := 1) fl_X5_9 kd_14 rfl dX5_unpaidThousandths_80 ?_
        refine Zo_iload9 dX5_unpaidThousandths_83 ?_
        refine Zo_iload5 dX5_unpaidThousandths_85 ?_
        refine Zo_cVI2 lk_X5_36 (e_X7_harmTo g _ _ _) kd_1 (zFit_rm (by decide)) (zle rfl) dX5_unpaidThousandths_87 fun r2 => ?_
        show Zo g _ _ _ 0 0 90 _ _ _
        refine Zo_iload2 dX5_unpaidThousandths_90 ?_
        refine Zo_iload6 dX5_unpaidThousandths_91 ?_
        refine Zo_cSI3 lk_X5_39 (e_X5_haste g _ _ _ _) (zFit_rm (by decide)) (zle rfl) dX5_unpaidThousandths_93 fun r3 => ?_
        refine Zo_isub dX5_unpaidThousandths_96 ?_
        refine Zo_imul dX5_unpaidThousandths_97 ?_
        refine Zo_sipush (1000 : Int32) dX5_unpaidThousandths_98 sp_1000 ?_
        refine Zo_idiv dX5_unpaidThousandths_101 (by decide) ?_
        refine Zo_istore7 rfl (zlt rfl) dX5_unpaidThousandths_102 ?_
        show Zo g _ _ _ 0 0 104 _ _ _
        refine Zo_iinc9 rfl (1 : Int32) ic_1 (zlt rfl) dX5_unpaidThousandths_104 ?_
        refine Zo_goto 48 dX5_unpaidThousandths_107 (by decide) ?_
        exact ih _ _ _
      · refine Zo_goto 104 dX5_unpaidThousandths_71 (by decide) ?_
        refine Zo_iinc9 rfl (1 : Int32) ic_1 (zlt rfl) dX5_unpaidThousandths_104 ?_
        refine Zo_goto 48 dX5_unpaidThousandths_107 (by decide) ?_
        exact ih _ _ _
def s_X5_unpaidThousandths_L39 (l2 : Int32) (l3 : Int32) (l4 : Int32) (l5 : Int32) (l6 : Int32) (σ : ZSt) : Nat → Int32 → Int32 → Option Int32
  | 0, _, _ => none
  | n + 1, l7, l8 =>
    if l3 ≤ l8 then (some (l7 / (1000 : Int32)))
      else (s_X5_unpaidThousandths_L48 (s_X5_unpaidThousandths_L39 l2 l3 l4 l5 l6 σ n) l2 l3 l4 l5 l6 l8 σ 200 l7 (0 : Int32))
set_option maxHeartbeats 4000000 in
set_option maxRecDepth 100000 in
theorem z_X5_unpaidThousandths_L39 (g : ZG) (l2 : Int32) (l3 : Int32) (l4 : Int32) (l5 : Int32) (l6 : Int32) (σ : ZSt) : ∀ (n : Nat) (l7 : Int32) (l8 : Int32) (o1 o9 : Option Value), Zo g (mX5_unpaidThousandths g 4) (fun b : Int32 => (some (.int b), zw σ)) (s_X5_unpaidThousandths_L39 l2 l3 l4 l5 l6 σ n l7 l8) 0 0 39 [some (.ref 14), o1, some (.int l2), some (.int l3), some (.int l4), some (.int l5), some (.int l6), some (.int l7), some (.int l8), o9] [] (zw σ) := by
  intro n
  induction n with
  | zero => intros; exact Zo_none
  | succ n ih =>
    intro l7 l8 o1 o9
    rw [s_X5_unpaidThousandths_L39]
    refine Zo_iload8 dX5_unpaidThousandths_39 ?_
    refine Zo_iload3 dX5_unpaidThousandths_41 ?_
    refine Zo_icmpge 116 dX5_unpaidThousandths_42 (by decide) ?_ ?_
    · refine Zo_iload7 dX5_unpaidThousandths_116 ?_
      refine Zo_sipush (1000 : Int32) dX5_unpaidThousandths_118 sp_1000 ?_
      refine Zo_idiv dX5_unpaidThousandths_121 (by decide) ?_
      exact Zo_iret dX5_unpaidThousandths_122 rfl rfl (Nat.le_refl _) (Nat.le_refl _)
    · refine Zo_iconst (0 : Int32) dX5_unpaidThousandths_45 ic_0 ?_
      refine Zo_istore9 rfl (zlt rfl) dX5_unpaidThousandths_46 ?_
      exact z_X5_unpaidThousandths_L48 g (s_X5_unpaidThousandths_L39 l2 l3 l4 l5 l6 σ n) _ _ _ _ _ _ _ ih _ _ _ _
def s_X5_unpaidThousandths (p0 : Int32) (p1 : Int32) (p2 : Int32) (σ : ZSt) : Option Int32 :=
  (s_X7_goodOf (p0 / (10 : Int32)) σ).bind fun r1 => ((s_X7_howManyHarmed (zRem p0 (10 : Int32)) r1 σ).bind fun r2 => (s_X5_unpaidThousandths_L39 p1 p2 (zRem p0 (10 : Int32)) r1 r2 σ 200 (1000000 : Int32) (0 : Int32)))
set_option maxHeartbeats 4000000 in
set_option maxRecDepth 100000 in
theorem z_X5_unpaidThousandths (g : ZG) (p0 : Int32) (p1 : Int32) (p2 : Int32) (σ : ZSt) : Zo g (mX5_unpaidThousandths g 4) (fun b : Int32 => (some (.int b), zw σ)) (s_X5_unpaidThousandths p0 p1 p2 σ) 0 0 0 [some (.ref 14), some (.int p0), some (.int p1), some (.int p2), none, none, none, none, none, none] [] (zw σ) := by
  unfold s_X5_unpaidThousandths
  refine Zo_iload1 dX5_unpaidThousandths_0 ?_
  refine Zo_bipush (10 : Int32) dX5_unpaidThousandths_1 bp_10 ?_
  refine Zo_irem dX5_unpaidThousandths_3 (by decide) ?_
  refine Zo_istore4 rfl (zlt rfl) dX5_unpaidThousandths_4 ?_
  refine Zo_aload0 dX5_unpaidThousandths_6 ?_
  refine Zo_getr (j := 1) fl_X5_9 kd_14 rfl dX5_unpaidThousandths_7 ?_
  refine Zo_iload1 dX5_unpaidThousandths_10 ?_
  show Zo g _ _ _ 0 0 11 _ _ _
  refine Zo_bipush (10 : Int32) dX5_unpaidThousandths_11 bp_10 ?_
  refine Zo_idiv dX5_unpaidThousandths_13 (by decide) ?_
  refine Zo_cVI1 lk_X5_24 (e_X7_goodOf g _ _) kd_1 (zFit_rm (by decide)) (zle rfl) dX5_unpaidThousandths_14 fun r1 => ?_
  refine Zo_istore5 rfl (zlt rfl) dX5_unpaidThousandths_17 ?_
  refine Zo_aload0 dX5_unpaidThousandths_19 ?_
  refine Zo_getr (j := 1) fl_X5_9 kd_14 rfl dX5_unpaidThousandths_20 ?_
  refine Zo_iload4 dX5_unpaidThousandths_23 ?_
  refine Zo_iload5 dX5_unpaidThousandths_25 ?_
  show Zo g _ _ _ 0 0 27 _ _ _
  refine Zo_cVI2 lk_X5_28 (e_X7_howManyHarmed g _ _ _) kd_1 (zFit_rm (by decide)) (zle rfl) dX5_unpaidThousandths_27 fun r2 => ?_
  refine Zo_istore6 rfl (zlt rfl) dX5_unpaidThousandths_30 ?_
  refine Zo_ldc rfl cw_X5_43 dX5_unpaidThousandths_32 ?_
  refine Zo_istore7 rfl (zlt rfl) dX5_unpaidThousandths_34 ?_
  refine Zo_iconst (0 : Int32) dX5_unpaidThousandths_36 ic_0 ?_
  refine Zo_istore8 rfl (zlt rfl) dX5_unpaidThousandths_37 ?_
  exact z_X5_unpaidThousandths_L39 g _ _ _ _ _ _ _ _ _ _ _
theorem e_X5_unpaidThousandths (g : ZG) (p0 : Int32) (p1 : Int32) (p2 : Int32) (σ : ZSt) : zEvI g 4 yX5_unpaidThousandths cX5_unpaidThousandths 10 (some .int) [.ref 14, .int p0, .int p1, .int p2] σ (s_X5_unpaidThousandths p0 p1 p2 σ) :=
  zEvI_of 6 rfl rfl (z_X5_unpaidThousandths g p0 p1 p2 σ)
