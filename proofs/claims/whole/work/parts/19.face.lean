abbrev mX9_street (g : ZG) (q : Nat) : ZM := (yX9_street, cX9_street, 3, (some .int), zRm q 0 0, zTg g 0 0)
def s_X9_street (p0 : Int32) (p1 : Int32) (σ : ZSt) : Option (Int32 × ZSt) :=
  (s_X9_isWithin p0 (0 : Int32) (99 : Int32) σ).bind fun r1 => (if r1 = (0 : Int32) then (some ((-1 : Int32), σ))
    else ((s_X9_isWithin p1 (0 : Int32) (99 : Int32) σ).bind fun r2 => (if r2 = (0 : Int32) then (some ((-1 : Int32), σ))
      else ((s_X7_addStreet p0 p1 σ).bind fun r3 => (some (r3.1, r3.2))))))
set_option maxHeartbeats 4000000 in
set_option maxRecDepth 100000 in
theorem z_X9_street (g : ZG) (p0 : Int32) (p1 : Int32) (σ : ZSt) : Zo g (mX9_street g 1) (fun b : Int32 × ZSt => (some (.int b.1), zw b.2)) (s_X9_street p0 p1 σ) 0 0 0 [some (.ref 0), some (.int p0), some (.int p1)] [] (zw σ) := by
  unfold s_X9_street
  refine Zo_iload1 dX9_street_0 ?_
  refine Zo_iconst (0 : Int32) dX9_street_1 ic_0 ?_
  refine Zo_bipush (99 : Int32) dX9_street_2 bp_99 ?_
  refine Zo_cSI3 lk_X9_80 (e_X9_isWithin g _ _ _ _) (zFit_rm (by decide)) (zle rfl) dX9_street_4 fun r1 => ?_
  refine Zo_ifeq 20 dX9_street_7 (by decide) ?_ ?_
  · refine Zo_iconst (-1 : Int32) dX9_street_20 ic_m1 ?_
    exact Zo_iret dX9_street_21 rfl rfl (Nat.le_refl _) (Nat.le_refl _)
  · refine Zo_iload2 dX9_street_10 ?_
    refine Zo_iconst (0 : Int32) dX9_street_11 ic_0 ?_
    refine Zo_bipush (99 : Int32) dX9_street_12 bp_99 ?_
    refine Zo_cSI3 lk_X9_80 (e_X9_isWithin g _ _ _ _) (zFit_rm (by decide)) (zle rfl) dX9_street_14 fun r2 => ?_
    refine Zo_ifne 22 dX9_street_17 (by decide) ?_ ?_
    · refine Zo_aload0 dX9_street_22 ?_
      refine Zo_getr (j := 1) fl_X9_10 kd_0 rfl dX9_street_23 ?_
      refine Zo_iload1 dX9_street_26 ?_
      refine Zo_iload2 dX9_street_27 ?_
      refine Zo_cVS2 lk_X9_84 (e_X7_addStreet g _ _ _) kd_1 (zFit_rm (by decide)) (zle rfl) dX9_street_28 fun r3 => ?_
      exact Zo_iret dX9_street_31 rfl rfl (Nat.le_refl _) (Nat.le_refl _)
    · refine Zo_iconst (-1 : Int32) dX9_street_20 ic_m1 ?_
      exact Zo_iret dX9_street_21 rfl rfl (Nat.le_refl _) (Nat.le_refl _)
theorem e_X9_street (g : ZG) (p0 : Int32) (p1 : Int32) (σ : ZSt) : zEvS g 1 yX9_street cX9_street 3 (some .int) [.ref 0, .int p0, .int p1] σ (s_X9_street p0 p1 σ) :=
  zEvS_of 0 rfl rfl (z_X9_street g p0 p1 σ)
abbrev mX9_window (g : ZG) (q : Nat) : ZM := (yX9_window, cX9_window, 7, (some .int), zRm q 0 0, zTg g 0 0)
def s_X9_window (p0 : Int32) (p1 : Int32) (σ : ZSt) : Option (Int32 × ZSt) :=
  if p0 < (0 : Int32) then (some ((-1 : Int32), σ))
    else (if (0 : Int32) ≤ p1 then ((s_X7_takesWindow (p0 / (100 : Int32)) (zRem p0 (100 : Int32)) ((p1 / (1000 : Int32)) - (99 : Int32)) (zRem p1 (1000 : Int32)) σ).bind fun r1 => (if r1 = (0 : Int32) then (some ((-1 : Int32), σ))
        else ((s_X7_addWindow (p0 / (100 : Int32)) (zRem p0 (100 : Int32)) ((p1 / (1000 : Int32)) - (99 : Int32)) (zRem p1 (1000 : Int32)) σ).bind fun r2 => (some (r2.1, r2.2)))))
      else (some ((-1 : Int32), σ)))
set_option maxHeartbeats 4000000 in
set_option maxRecDepth 100000 in
theorem z_X9_window (g : ZG) (p0 : Int32) (p1 : Int32) (σ : ZSt) : Zo g (mX9_window g 2) (fun b : Int32 × ZSt => (some (.int b.1), zw b.2)) (s_X9_window p0 p1 σ) 0 0 0 [some (.ref 0), some (.int p0), some (.int p1), none, none, none, none] [] (zw σ) := by
  unfold s_X9_window
  refine Zo_iload1 dX9_window_0 ?_
  refine Zo_iflt 8 dX9_window_1 (by decide) ?_ ?_
  · refine Zo_iconst (-1 : Int32) dX9_window_8 ic_m1 ?_
    exact Zo_iret dX9_window_9 rfl rfl (Nat.le_refl _) (Nat.le_refl _)
  · refine Zo_iload2 dX9_window_4 ?_
    refine Zo_ifge 10 dX9_window_5 (by decide) ?_ ?_
    · refine Zo_iload1 dX9_window_10 ?_
      refine Zo_bipush (100 : Int32) dX9_window_11 bp_100 ?_
      refine Zo_idiv dX9_window_13 (by decide) ?_
      refine Zo_istore3 rfl (zlt rfl) dX9_window_14 ?_
      refine Zo_iload1 dX9_window_15 ?_
      refine Zo_bipush (100 : Int32) dX9_window_16 bp_100 ?_
      refine Zo_irem dX9_window_18 (by decide) ?_
      show Zo g _ _ _ 0 0 19 _ _ _
      refine Zo_istore4 rfl (zlt rfl) dX9_window_19 ?_
      refine Zo_iload2 dX9_window_21 ?_
      refine Zo_sipush (1000 : Int32) dX9_window_22 sp_1000 ?_
      refine Zo_idiv dX9_window_25 (by decide) ?_
      refine Zo_bipush (99 : Int32) dX9_window_26 bp_99 ?_
      refine Zo_isub dX9_window_28 ?_
      refine Zo_istore5 rfl (zlt rfl) dX9_window_29 ?_
      refine Zo_iload2 dX9_window_31 ?_
      show Zo g _ _ _ 0 0 32 _ _ _
      refine Zo_sipush (1000 : Int32) dX9_window_32 sp_1000 ?_
      refine Zo_irem dX9_window_35 (by decide) ?_
      refine Zo_istore6 rfl (zlt rfl) dX9_window_36 ?_
      refine Zo_aload0 dX9_window_38 ?_
      refine Zo_getr (j := 1) fl_X9_10 kd_0 rfl dX9_window_39 ?_
      refine Zo_iload3 dX9_window_42 ?_
      refine Zo_iload4 dX9_window_43 ?_
      refine Zo_iload5 dX9_window_45 ?_
      show Zo g _ _ _ 0 0 47 _ _ _
      refine Zo_iload6 dX9_window_47 ?_
      refine Zo_cVI4 lk_X9_88 (e_X7_takesWindow g _ _ _ _ _) kd_1 (zFit_rm (by decide)) (zle rfl) dX9_window_49 fun r1 => ?_
      refine Zo_ifne 57 dX9_window_52 (by decide) ?_ ?_
      · refine Zo_aload0 dX9_window_57 ?_
        refine Zo_getr (j := 1) fl_X9_10 kd_0 rfl dX9_window_58 ?_
        refine Zo_iload3 dX9_window_61 ?_
        refine Zo_iload4 dX9_window_62 ?_
        refine Zo_iload5 dX9_window_64 ?_
        refine Zo_iload6 dX9_window_66 ?_
        refine Zo_cVS4 lk_X9_92 (e_X7_addWindow g _ _ _ _ _) kd_1 (zFit_rm (by decide)) (zle rfl) dX9_window_68 fun r2 => ?_
        show Zo g _ _ _ 0 0 71 _ _ _
        exact Zo_iret dX9_window_71 rfl rfl (Nat.le_refl _) (Nat.le_refl _)
      · refine Zo_iconst (-1 : Int32) dX9_window_55 ic_m1 ?_
        exact Zo_iret dX9_window_56 rfl rfl (Nat.le_refl _) (Nat.le_refl _)
    · refine Zo_iconst (-1 : Int32) dX9_window_8 ic_m1 ?_
      exact Zo_iret dX9_window_9 rfl rfl (Nat.le_refl _) (Nat.le_refl _)
theorem e_X9_window (g : ZG) (p0 : Int32) (p1 : Int32) (σ : ZSt) : zEvS g 2 yX9_window cX9_window 7 (some .int) [.ref 0, .int p0, .int p1] σ (s_X9_window p0 p1 σ) :=
  zEvS_of 4 rfl rfl (z_X9_window g p0 p1 σ)
abbrev mX9_comesFromRow (g : ZG) (q : Nat) : ZM := (yX9_comesFromRow, cX9_comesFromRow, 7, (some .boolean), zRm q 0 0, zTg g 0 0)
def s_X9_comesFromRow (p0 : Int32) (p1 : Int32) (σ : ZSt) : Option (Int32 × ZSt) :=
  (s_X6_hasPlaces p0 p1 (4 : Int32) σ).bind fun r1 => (if r1 = (0 : Int32) then (some ((0 : Int32), σ))
    else ((s_X6_elementAt p0 p1 σ).bind fun r2 => ((s_X6_elementAt p0 (p1 + (1 : Int32)) σ).bind fun r3 => ((s_X6_elementAt p0 (p1 + (2 : Int32)) σ).bind fun r4 => ((s_X6_elementAt p0 (p1 + (3 : Int32)) σ).bind fun r5 => ((s_X7_takesWindow (r2.toInt32) (r3.toInt32) (r4.toInt32) (r5.toInt32) σ).bind fun r6 => (if r6 = (0 : Int32) then (some ((0 : Int32), σ))
      else ((s_X7_addWindow (r2.toInt32) (r3.toInt32) (r4.toInt32) (r5.toInt32) σ).bind fun r7 => (if r7.1 < (0 : Int32) then (some ((0 : Int32), r7.2))
        else (some ((1 : Int32), r7.2)))))))))))
set_option maxHeartbeats 4000000 in
set_option maxRecDepth 100000 in
theorem z_X9_comesFromRow (g : ZG) (p0 : Int32) (p1 : Int32) (σ : ZSt) : Zo g (mX9_comesFromRow g 4) (fun b : Int32 × ZSt => (some (.int b.1), zw b.2)) (s_X9_comesFromRow p0 p1 σ) 0 0 0 [some (.ref 0), some (.int p0), some (.int p1), none, none, none, none] [] (zw σ) := by
  unfold s_X9_comesFromRow
  refine Zo_aload0 dX9_comesFromRow_0 ?_
  refine Zo_getr (j := 51) fl_X9_66 kd_0 rfl dX9_comesFromRow_1 ?_
  refine Zo_iload1 dX9_comesFromRow_4 ?_
  refine Zo_iload2 dX9_comesFromRow_5 ?_
  refine Zo_iconst (4 : Int32) dX9_comesFromRow_6 ic_4 ?_
  refine Zo_cVI3 lk_X9_110 (e_X6_hasPlaces g _ _ _ _) kd_51 (zFit_rm (by decide)) (zle rfl) dX9_comesFromRow_7 fun r1 => ?_
  refine Zo_ifne 15 dX9_comesFromRow_10 (by decide) ?_ ?_
  · refine Zo_aload0 dX9_comesFromRow_15 ?_
    refine Zo_getr (j := 51) fl_X9_66 kd_0 rfl dX9_comesFromRow_16 ?_
    refine Zo_iload1 dX9_comesFromRow_19 ?_
    refine Zo_iload2 dX9_comesFromRow_20 ?_
    refine Zo_cVJ2 lk_X9_113 (e_X6_elementAt g _ _ _) kd_51 (zFit_rm (by decide)) (zle rfl) dX9_comesFromRow_21 fun r2 => ?_
    refine Zo_l2i dX9_comesFromRow_24 ?_
    refine Zo_istore3 rfl (zlt rfl) dX9_comesFromRow_25 ?_
    show Zo g _ _ _ 0 0 26 _ _ _
    refine Zo_aload0 dX9_comesFromRow_26 ?_
    refine Zo_getr (j := 51) fl_X9_66 kd_0 rfl dX9_comesFromRow_27 ?_
    refine Zo_iload1 dX9_comesFromRow_30 ?_
    refine Zo_iload2 dX9_comesFromRow_31 ?_
    refine Zo_iconst (1 : Int32) dX9_comesFromRow_32 ic_1 ?_
    refine Zo_iadd dX9_comesFromRow_33 ?_
    refine Zo_cVJ2 lk_X9_113 (e_X6_elementAt g _ _ _) kd_51 (zFit_rm (by decide)) (zle rfl) dX9_comesFromRow_34 fun r3 => ?_
    refine Zo_l2i dX9_comesFromRow_37 ?_
    show Zo g _ _ _ 0 0 38 _ _ _
    refine Zo_istore4 rfl (zlt rfl) dX9_comesFromRow_38 ?_
    refine Zo_aload0 dX9_comesFromRow_40 ?_
    refine Zo_getr (j := 51) fl_X9_66 kd_0 rfl dX9_comesFromRow_41 ?_
    refine Zo_iload1 dX9_comesFromRow_44 ?_
    refine Zo_iload2 dX9_comesFromRow_45 ?_
    refine Zo_iconst (2 : Int32) dX9_comesFromRow_46 ic_2 ?_
    refine Zo_iadd dX9_comesFromRow_47 ?_
    refine Zo_cVJ2 lk_X9_113 (e_X6_elementAt g _ _ _) kd_51 (zFit_rm (by decide)) (zle rfl) dX9_comesFromRow_48 fun r4 => ?_
    show Zo g _ _ _ 0 0 51 _ _ _
    refine Zo_l2i dX9_comesFromRow_51 ?_
    refine Zo_istore5 rfl (zlt rfl) dX9_comesFromRow_52 ?_
    refine Zo_aload0 dX9_comesFromRow_54 ?_
    refine Zo_getr (j := 51) fl_X9_66 kd_0 rfl dX9_comesFromRow_55 ?_
    refine Zo_iload1 dX9_comesFromRow_58 ?_
    refine Zo_iload2 dX9_comesFromRow_59 ?_
    refine Zo_iconst (3 : Int32) dX9_comesFromRow_60 ic_3 ?_
    refine Zo_iadd dX9_comesFromRow_61 ?_
    show Zo g _ _ _ 0 0 62 _ _ _
    refine Zo_cVJ2 lk_X9_113 (e_X6_elementAt g _ _ _) kd_51 (zFit_rm (by decide)) (zle rfl) dX9_comesFromRow_62 fun r5 => ?_
    refine Zo_l2i dX9_comesFromRow_65 ?_
    refine Zo_istore6 rfl (zlt rfl) dX9_comesFromRow_66 ?_
    refine Zo_aload0 dX9_comesFromRow_68 ?_
    refine Zo_getr (j := 1) fl_X9_10 kd_0 rfl dX9_comesFromRow_69 ?_
    refine Zo_iload3 dX9_comesFromRow_72 ?_
    refine Zo_iload4 dX9_comesFromRow_73 ?_
    refine Zo_iload5 dX9_comesFromRow_75 ?_
    show Zo g _ _ _ 0 0 77 _ _ _
    refine Zo_iload6 dX9_comesFromRow_77 ?_
    refine Zo_cVI4 lk_X9_88 (e_X7_takesWindow g _ _ _ _ _) kd_1 (zFit_rm (by decide)) (zle rfl) dX9_comesFromRow_79 fun r6 => ?_
    refine Zo_ifeq 106 dX9_comesFromRow_82 (by decide) ?_ ?_
    · refine Zo_iconst (0 : Int32) dX9_comesFromRow_106 ic_0 ?_
      exact Zo_zret dX9_comesFromRow_107 rfl rfl (Or.inl rfl) (Nat.le_refl _) (Nat.le_refl _)
    · refine Zo_aload0 dX9_comesFromRow_85 ?_
      refine Zo_getr (j := 1) fl_X9_10 kd_0 rfl dX9_comesFromRow_86 ?_
      refine Zo_iload3 dX9_comesFromRow_89 ?_
      refine Zo_iload4 dX9_comesFromRow_90 ?_
      refine Zo_iload5 dX9_comesFromRow_92 ?_
      refine Zo_iload6 dX9_comesFromRow_94 ?_
      refine Zo_cVS4 lk_X9_92 (e_X7_addWindow g _ _ _ _ _) kd_1 (zFit_rm (by decide)) (zle rfl) dX9_comesFromRow_96 fun r7 => ?_
      show Zo g _ _ _ 0 0 99 _ _ _
      refine Zo_iflt 106 dX9_comesFromRow_99 (by decide) ?_ ?_
      · refine Zo_iconst (0 : Int32) dX9_comesFromRow_106 ic_0 ?_
        exact Zo_zret dX9_comesFromRow_107 rfl rfl (Or.inl rfl) (Nat.le_refl _) (Nat.le_refl _)
      · refine Zo_iconst (1 : Int32) dX9_comesFromRow_102 ic_1 ?_
        refine Zo_goto 107 dX9_comesFromRow_103 (by decide) ?_
        exact Zo_zret dX9_comesFromRow_107 rfl rfl (Or.inr rfl) (Nat.le_refl _) (Nat.le_refl _)
  · refine Zo_iconst (0 : Int32) dX9_comesFromRow_13 ic_0 ?_
    exact Zo_zret dX9_comesFromRow_14 rfl rfl (Or.inl rfl) (Nat.le_refl _) (Nat.le_refl _)
theorem e_X9_comesFromRow (g : ZG) (p0 : Int32) (p1 : Int32) (σ : ZSt) : zEvS g 4 yX9_comesFromRow cX9_comesFromRow 7 (some .boolean) [.ref 0, .int p0, .int p1] σ (s_X9_comesFromRow p0 p1 σ) :=
  zEvS_of 4 rfl rfl (z_X9_comesFromRow g p0 p1 σ)
abbrev mX9_windows (g : ZG) (q : Nat) : ZM := (yX9_windows, cX9_windows, 5, (some .int), zRm q 0 0, zTg g 0 0)
def s_X9_windows_L53 (l1 : Int32) (l2 : Int32) (l3 : Int32) : Nat → Int32 → ZSt → Option (Int32 × ZSt)
  | 0, _, _ => none
  | n + 1, l4, σ =>
    if l3 ≤ l4 then (some (l4, σ))
      else ((s_X9_comesFromRow l1 (l2 + ((4 : Int32) * l4)) σ).bind fun r1 => (if r1.1 = (0 : Int32) then (some (l4, r1.2))
        else (s_X9_windows_L53 l1 l2 l3 n (l4 + (1 : Int32)) r1.2)))
set_option maxHeartbeats 4000000 in
set_option maxRecDepth 100000 in
theorem z_X9_windows_L53 (g : ZG) (l1 : Int32) (l2 : Int32) (l3 : Int32) : ∀ (n : Nat) (l4 : Int32) (σ : ZSt), Zo g (mX9_windows g 5) (fun b : Int32 × ZSt => (some (.int b.1), zw b.2)) (s_X9_windows_L53 l1 l2 l3 n l4 σ) 0 0 53 [some (.ref 0), some (.int l1), some (.int l2), some (.int l3), some (.int l4)] [] (zw σ) := by
  intro n
  induction n with
  | zero => intros; exact Zo_none
  | succ n ih =>
    intro l4 σ
    rw [s_X9_windows_L53]
    refine Zo_iload4 dX9_windows_53 ?_
    refine Zo_iload3 dX9_windows_55 ?_
    refine Zo_icmpge 79 dX9_windows_56 (by decide) ?_ ?_
    · refine Zo_iload4 dX9_windows_79 ?_
      exact Zo_iret dX9_windows_81 rfl rfl (Nat.le_refl _) (Nat.le_refl _)
    · refine Zo_aload0 dX9_windows_59 ?_
      refine Zo_iload1 dX9_windows_60 ?_
      refine Zo_iload2 dX9_windows_61 ?_
      refine Zo_iconst (4 : Int32) dX9_windows_62 ic_4 ?_
      refine Zo_iload4 dX9_windows_63 ?_
      refine Zo_imul dX9_windows_65 ?_
      refine Zo_iadd dX9_windows_66 ?_
      show Zo g _ _ _ 0 0 67 _ _ _
      refine Zo_cVS2 lk_X9_106 (e_X9_comesFromRow g _ _ _) kd_0 (zFit_rm (by decide)) (zle rfl) dX9_windows_67 fun r1 => ?_
      refine Zo_ifeq 79 dX9_windows_70 (by decide) ?_ ?_
      · refine Zo_iload4 dX9_windows_79 ?_
        exact Zo_iret dX9_windows_81 rfl rfl (Nat.le_refl _) (Nat.le_refl _)
      · refine Zo_iinc4 rfl (1 : Int32) ic_1 (zlt rfl) dX9_windows_73 ?_
        refine Zo_goto 53 dX9_windows_76 (by decide) ?_
        exact ih _ _
def s_X9_windows (p0 : Int32) (p1 : Int32) (p2 : Int32) (σ : ZSt) : Option (Int32 × ZSt) :=
  (s_X6_isShelf p0 σ).bind fun r1 => (if r1 = (0 : Int32) then (some ((-1 : Int32), σ))
    else ((s_X9_isWithin p2 (1 : Int32) (15 : Int32) σ).bind fun r2 => (if r2 = (0 : Int32) then (some ((-1 : Int32), σ))
      else ((s_X6_isEmpty p0 σ).bind fun r3 => (if r3 = (0 : Int32) then ((s_X6_isRowOfShorts p0 σ).bind fun r4 => (if r4 = (0 : Int32) then (some ((-12 : Int32), σ))
          else (s_X9_windows_L53 p0 p1 p2 200 (0 : Int32) σ)))
        else (some ((0 : Int32), σ)))))))
set_option maxHeartbeats 4000000 in
set_option maxRecDepth 100000 in
theorem z_X9_windows (g : ZG) (p0 : Int32) (p1 : Int32) (p2 : Int32) (σ : ZSt) : Zo g (mX9_windows g 5) (fun b : Int32 × ZSt => (some (.int b.1), zw b.2)) (s_X9_windows p0 p1 p2 σ) 0 0 0 [some (.ref 0), some (.int p0), some (.int p1), some (.int p2), none] [] (zw σ) := by
  unfold s_X9_windows
  refine Zo_aload0 dX9_windows_0 ?_
  refine Zo_getr (j := 51) fl_X9_66 kd_0 rfl dX9_windows_1 ?_
  refine Zo_iload1 dX9_windows_4 ?_
  refine Zo_cVI1 lk_X9_96 (e_X6_isShelf g _ _) kd_51 (zFit_rm (by decide)) (zle rfl) dX9_windows_5 fun r1 => ?_
  refine Zo_ifeq 21 dX9_windows_8 (by decide) ?_ ?_
  · refine Zo_iconst (-1 : Int32) dX9_windows_21 ic_m1 ?_
    exact Zo_iret dX9_windows_22 rfl rfl (Nat.le_refl _) (Nat.le_refl _)
  · refine Zo_iload3 dX9_windows_11 ?_
    refine Zo_iconst (1 : Int32) dX9_windows_12 ic_1 ?_
    refine Zo_bipush (15 : Int32) dX9_windows_13 bp_15 ?_
    refine Zo_cSI3 lk_X9_80 (e_X9_isWithin g _ _ _ _) (zFit_rm (by decide)) (zle rfl) dX9_windows_15 fun r2 => ?_
    refine Zo_ifne 23 dX9_windows_18 (by decide) ?_ ?_
    · refine Zo_aload0 dX9_windows_23 ?_
      refine Zo_getr (j := 51) fl_X9_66 kd_0 rfl dX9_windows_24 ?_
      refine Zo_iload1 dX9_windows_27 ?_
      refine Zo_cVI1 lk_X9_100 (e_X6_isEmpty g _ _) kd_51 (zFit_rm (by decide)) (zle rfl) dX9_windows_28 fun r3 => ?_
      refine Zo_ifeq 36 dX9_windows_31 (by decide) ?_ ?_
      · refine Zo_aload0 dX9_windows_36 ?_
        refine Zo_getr (j := 51) fl_X9_66 kd_0 rfl dX9_windows_37 ?_
        refine Zo_iload1 dX9_windows_40 ?_
        refine Zo_cVI1 lk_X9_103 (e_X6_isRowOfShorts g _ _) kd_51 (zFit_rm (by decide)) (zle rfl) dX9_windows_41 fun r4 => ?_
        refine Zo_ifne 50 dX9_windows_44 (by decide) ?_ ?_
        · refine Zo_iconst (0 : Int32) dX9_windows_50 ic_0 ?_
          refine Zo_istore4 rfl (zlt rfl) dX9_windows_51 ?_
          exact z_X9_windows_L53 g _ _ _ _ _ _
        · refine Zo_bipush (-12 : Int32) dX9_windows_47 bp_m12 ?_
          exact Zo_iret dX9_windows_49 rfl rfl (Nat.le_refl _) (Nat.le_refl _)
      · refine Zo_iconst (0 : Int32) dX9_windows_34 ic_0 ?_
        exact Zo_iret dX9_windows_35 rfl rfl (Nat.le_refl _) (Nat.le_refl _)
    · refine Zo_iconst (-1 : Int32) dX9_windows_21 ic_m1 ?_
      exact Zo_iret dX9_windows_22 rfl rfl (Nat.le_refl _) (Nat.le_refl _)
theorem e_X9_windows (g : ZG) (p0 : Int32) (p1 : Int32) (p2 : Int32) (σ : ZSt) : zEvS g 5 yX9_windows cX9_windows 5 (some .int) [.ref 0, .int p0, .int p1, .int p2] σ (s_X9_windows p0 p1 p2 σ) :=
  zEvS_of 1 rfl rfl (z_X9_windows g p0 p1 p2 σ)
abbrev mX9_player (g : ZG) (q : Nat) : ZM := (yX9_player, cX9_player, 4, (some .int), zRm q 0 0, zTg g 0 0)
def s_X9_player (p0 : Int32) (p1 : Int32) (p2 : Int32) (σ : ZSt) : Option (Int32 × ZSt) :=
  (s_X9_isWithin p0 (0 : Int32) (1099 : Int32) σ).bind fun r1 => (if r1 = (0 : Int32) then (some ((-1 : Int32), σ))
    else ((s_X9_isWithin p1 (0 : Int32) (100 : Int32) σ).bind fun r2 => (if r2 = (0 : Int32) then (some ((-1 : Int32), σ))
      else (if p2 = (-1 : Int32) then ((s_X7_addPlayer (p0 / (100 : Int32)) (zRem p0 (100 : Int32)) p1 p2 σ).bind fun r3 => (some (r3.1, r3.2)))
        else ((s_X7_isStreet p2 σ).bind fun r4 => (if r4 = (0 : Int32) then (some ((-1 : Int32), σ))
          else ((s_X7_addPlayer (p0 / (100 : Int32)) (zRem p0 (100 : Int32)) p1 p2 σ).bind fun r5 => (some (r5.1, r5.2)))))))))
set_option maxHeartbeats 4000000 in
set_option maxRecDepth 100000 in
theorem z_X9_player (g : ZG) (p0 : Int32) (p1 : Int32) (p2 : Int32) (σ : ZSt) : Zo g (mX9_player g 1) (fun b : Int32 × ZSt => (some (.int b.1), zw b.2)) (s_X9_player p0 p1 p2 σ) 0 0 0 [some (.ref 0), some (.int p0), some (.int p1), some (.int p2)] [] (zw σ) := by
  unfold s_X9_player
  refine Zo_iload1 dX9_player_0 ?_
  refine Zo_iconst (0 : Int32) dX9_player_1 ic_0 ?_
  refine Zo_sipush (1099 : Int32) dX9_player_2 sp_1099 ?_
  refine Zo_cSI3 lk_X9_80 (e_X9_isWithin g _ _ _ _) (zFit_rm (by decide)) (zle rfl) dX9_player_5 fun r1 => ?_
  refine Zo_ifeq 21 dX9_player_8 (by decide) ?_ ?_
  · refine Zo_iconst (-1 : Int32) dX9_player_21 ic_m1 ?_
    exact Zo_iret dX9_player_22 rfl rfl (Nat.le_refl _) (Nat.le_refl _)
  · refine Zo_iload2 dX9_player_11 ?_
    refine Zo_iconst (0 : Int32) dX9_player_12 ic_0 ?_
    refine Zo_bipush (100 : Int32) dX9_player_13 bp_100 ?_
    refine Zo_cSI3 lk_X9_80 (e_X9_isWithin g _ _ _ _) (zFit_rm (by decide)) (zle rfl) dX9_player_15 fun r2 => ?_
    refine Zo_ifne 23 dX9_player_18 (by decide) ?_ ?_
    · refine Zo_iload3 dX9_player_23 ?_
      refine Zo_iconst (-1 : Int32) dX9_player_24 ic_m1 ?_
      refine Zo_icmpeq 41 dX9_player_25 (by decide) ?_ ?_
      · refine Zo_aload0 dX9_player_41 ?_
        refine Zo_getr (j := 1) fl_X9_10 kd_0 rfl dX9_player_42 ?_
        refine Zo_iload1 dX9_player_45 ?_
        refine Zo_bipush (100 : Int32) dX9_player_46 bp_100 ?_
        refine Zo_idiv dX9_player_48 (by decide) ?_
        refine Zo_iload1 dX9_player_49 ?_
        refine Zo_bipush (100 : Int32) dX9_player_50 bp_100 ?_
        show Zo g _ _ _ 0 0 52 _ _ _
        refine Zo_irem dX9_player_52 (by decide) ?_
        refine Zo_iload2 dX9_player_53 ?_
        refine Zo_iload3 dX9_player_54 ?_
        refine Zo_cVS4 lk_X9_120 (e_X7_addPlayer g _ _ _ _ _) kd_1 (zFit_rm (by decide)) (zle rfl) dX9_player_55 fun r3 => ?_
        exact Zo_iret dX9_player_58 rfl rfl (Nat.le_refl _) (Nat.le_refl _)
      · refine Zo_aload0 dX9_player_28 ?_
        refine Zo_getr (j := 1) fl_X9_10 kd_0 rfl dX9_player_29 ?_
        refine Zo_iload3 dX9_player_32 ?_
        refine Zo_cVI1 lk_X9_117 (e_X7_isStreet g _ _) kd_1 (zFit_rm (by decide)) (zle rfl) dX9_player_33 fun r4 => ?_
        refine Zo_ifne 41 dX9_player_36 (by decide) ?_ ?_
        · refine Zo_aload0 dX9_player_41 ?_
          refine Zo_getr (j := 1) fl_X9_10 kd_0 rfl dX9_player_42 ?_
          refine Zo_iload1 dX9_player_45 ?_
          refine Zo_bipush (100 : Int32) dX9_player_46 bp_100 ?_
          refine Zo_idiv dX9_player_48 (by decide) ?_
          refine Zo_iload1 dX9_player_49 ?_
          refine Zo_bipush (100 : Int32) dX9_player_50 bp_100 ?_
          show Zo g _ _ _ 0 0 52 _ _ _
          refine Zo_irem dX9_player_52 (by decide) ?_
          refine Zo_iload2 dX9_player_53 ?_
          refine Zo_iload3 dX9_player_54 ?_
          refine Zo_cVS4 lk_X9_120 (e_X7_addPlayer g _ _ _ _ _) kd_1 (zFit_rm (by decide)) (zle rfl) dX9_player_55 fun r5 => ?_
          exact Zo_iret dX9_player_58 rfl rfl (Nat.le_refl _) (Nat.le_refl _)
        · refine Zo_iconst (-1 : Int32) dX9_player_39 ic_m1 ?_
          exact Zo_iret dX9_player_40 rfl rfl (Nat.le_refl _) (Nat.le_refl _)
    · refine Zo_iconst (-1 : Int32) dX9_player_21 ic_m1 ?_
      exact Zo_iret dX9_player_22 rfl rfl (Nat.le_refl _) (Nat.le_refl _)
theorem e_X9_player (g : ZG) (p0 : Int32) (p1 : Int32) (p2 : Int32) (σ : ZSt) : zEvS g 1 yX9_player cX9_player 4 (some .int) [.ref 0, .int p0, .int p1, .int p2] σ (s_X9_player p0 p1 p2 σ) :=
  zEvS_of 0 rfl rfl (z_X9_player g p0 p1 p2 σ)
abbrev mX9_mend (g : ZG) (q : Nat) : ZM := (yX9_mend, cX9_mend, 5, (some .int), zRm q 0 0, zTg g 0 0)
def s_X9_mend (p0 : Int32) (p1 : Int32) (p2 : Int32) (σ : ZSt) : Option (Int32 × ZSt) :=
  (s_X7_takesMend p0 p1 p2 σ).bind fun r1 => (if r1 = (0 : Int32) then (some ((-2000000000 : Int32), σ))
    else ((s_X7_told p0 p1 σ).bind fun r2 => (if r2 = p2 then (some (r2, σ))
      else ((s_X1_add p0 p1 r2 p2 σ).bind fun σ3 => ((s_X7_tell p0 p1 p2 σ3).bind fun σ4 => (some (r2, σ4)))))))
set_option maxHeartbeats 4000000 in
set_option maxRecDepth 100000 in
theorem z_X9_mend (g : ZG) (p0 : Int32) (p1 : Int32) (p2 : Int32) (σ : ZSt) : Zo g (mX9_mend g 3) (fun b : Int32 × ZSt => (some (.int b.1), zw b.2)) (s_X9_mend p0 p1 p2 σ) 0 0 0 [some (.ref 0), some (.int p0), some (.int p1), some (.int p2), none] [] (zw σ) := by
  unfold s_X9_mend
  refine Zo_aload0 dX9_mend_0 ?_
  refine Zo_getr (j := 1) fl_X9_10 kd_0 rfl dX9_mend_1 ?_
  refine Zo_iload1 dX9_mend_4 ?_
  refine Zo_iload2 dX9_mend_5 ?_
  refine Zo_iload3 dX9_mend_6 ?_
  refine Zo_cVI3 lk_X9_123 (e_X7_takesMend g _ _ _ _) kd_1 (zFit_rm (by decide)) (zle rfl) dX9_mend_7 fun r1 => ?_
  refine Zo_ifne 16 dX9_mend_10 (by decide) ?_ ?_
  · refine Zo_aload0 dX9_mend_16 ?_
    refine Zo_getr (j := 1) fl_X9_10 kd_0 rfl dX9_mend_17 ?_
    refine Zo_iload1 dX9_mend_20 ?_
    refine Zo_iload2 dX9_mend_21 ?_
    refine Zo_cVI2 lk_X9_127 (e_X7_told g _ _ _) kd_1 (zFit_rm (by decide)) (zle rfl) dX9_mend_22 fun r2 => ?_
    refine Zo_istore4 rfl (zlt rfl) dX9_mend_25 ?_
    refine Zo_iload4 dX9_mend_27 ?_
    show Zo g _ _ _ 0 0 29 _ _ _
    refine Zo_iload3 dX9_mend_29 ?_
    refine Zo_icmpeq 55 dX9_mend_30 (by decide) ?_ ?_
    · refine Zo_iload4 dX9_mend_55 ?_
      exact Zo_iret dX9_mend_57 rfl rfl (Nat.le_refl _) (Nat.le_refl _)
    · refine Zo_aload0 dX9_mend_33 ?_
      refine Zo_getr (j := 41) fl_X9_45 kd_0 rfl dX9_mend_34 ?_
      refine Zo_iload1 dX9_mend_37 ?_
      refine Zo_iload2 dX9_mend_38 ?_
      refine Zo_iload4 dX9_mend_39 ?_
      refine Zo_iload3 dX9_mend_41 ?_
      refine Zo_cVV4 lk_X9_130 (e_X1_add g _ _ _ _ _) kd_41 (zFit_rm (by decide)) (zle rfl) dX9_mend_42 fun σ3 => ?_
      show Zo g _ _ _ 0 0 45 _ _ _
      refine Zo_aload0 dX9_mend_45 ?_
      refine Zo_getr (j := 1) fl_X9_10 kd_0 rfl dX9_mend_46 ?_
      refine Zo_iload1 dX9_mend_49 ?_
      refine Zo_iload2 dX9_mend_50 ?_
      refine Zo_iload3 dX9_mend_51 ?_
      refine Zo_cVV3 lk_X9_134 (e_X7_tell g _ _ _ _) kd_1 (zFit_rm (by decide)) (zle rfl) dX9_mend_52 fun σ4 => ?_
      refine Zo_iload4 dX9_mend_55 ?_
      exact Zo_iret dX9_mend_57 rfl rfl (Nat.le_refl _) (Nat.le_refl _)
  · refine Zo_ldc rfl cw_X9_126 dX9_mend_13 ?_
    exact Zo_iret dX9_mend_15 rfl rfl (Nat.le_refl _) (Nat.le_refl _)
theorem e_X9_mend (g : ZG) (p0 : Int32) (p1 : Int32) (p2 : Int32) (σ : ZSt) : zEvS g 3 yX9_mend cX9_mend 5 (some .int) [.ref 0, .int p0, .int p1, .int p2] σ (s_X9_mend p0 p1 p2 σ) :=
  zEvS_of 1 rfl rfl (z_X9_mend g p0 p1 p2 σ)
abbrev mX9_pay (g : ZG) (q : Nat) : ZM := (yX9_pay, cX9_pay, 4, (some .int), zRm q 0 0, zTg g 0 0)
def s_X9_pay (p0 : Int32) (p1 : Int32) (σ : ZSt) : Option (Int32 × ZSt) :=
  (s_X7_isStreet p0 σ).bind fun r1 => (if r1 = (0 : Int32) then (some ((-1 : Int32), σ))
    else ((s_X9_isWithin p1 (0 : Int32) (499 : Int32) σ).bind fun r2 => (if r2 = (0 : Int32) then (some ((-1 : Int32), σ))
      else ((s_X7_wayAndSum p0 σ).bind fun r3 => ((s_X7_setWay p0 (p1 / (100 : Int32)) (zRem p1 (100 : Int32)) σ).bind fun σ4 => (some (r3, σ4)))))))
set_option maxHeartbeats 4000000 in
set_option maxRecDepth 100000 in
theorem z_X9_pay (g : ZG) (p0 : Int32) (p1 : Int32) (σ : ZSt) : Zo g (mX9_pay g 2) (fun b : Int32 × ZSt => (some (.int b.1), zw b.2)) (s_X9_pay p0 p1 σ) 0 0 0 [some (.ref 0), some (.int p0), some (.int p1), none] [] (zw σ) := by
  unfold s_X9_pay
  refine Zo_aload0 dX9_pay_0 ?_
  refine Zo_getr (j := 1) fl_X9_10 kd_0 rfl dX9_pay_1 ?_
  refine Zo_iload1 dX9_pay_4 ?_
  refine Zo_cVI1 lk_X9_117 (e_X7_isStreet g _ _) kd_1 (zFit_rm (by decide)) (zle rfl) dX9_pay_5 fun r1 => ?_
  refine Zo_ifeq 22 dX9_pay_8 (by decide) ?_ ?_
  · refine Zo_iconst (-1 : Int32) dX9_pay_22 ic_m1 ?_
    exact Zo_iret dX9_pay_23 rfl rfl (Nat.le_refl _) (Nat.le_refl _)
  · refine Zo_iload2 dX9_pay_11 ?_
    refine Zo_iconst (0 : Int32) dX9_pay_12 ic_0 ?_
    refine Zo_sipush (499 : Int32) dX9_pay_13 sp_499 ?_
    refine Zo_cSI3 lk_X9_80 (e_X9_isWithin g _ _ _ _) (zFit_rm (by decide)) (zle rfl) dX9_pay_16 fun r2 => ?_
    refine Zo_ifne 24 dX9_pay_19 (by decide) ?_ ?_
    · refine Zo_aload0 dX9_pay_24 ?_
      refine Zo_getr (j := 1) fl_X9_10 kd_0 rfl dX9_pay_25 ?_
      refine Zo_iload1 dX9_pay_28 ?_
      refine Zo_cVI1 lk_X9_138 (e_X7_wayAndSum g _ _) kd_1 (zFit_rm (by decide)) (zle rfl) dX9_pay_29 fun r3 => ?_
      refine Zo_istore3 rfl (zlt rfl) dX9_pay_32 ?_
      refine Zo_aload0 dX9_pay_33 ?_
      refine Zo_getr (j := 1) fl_X9_10 kd_0 rfl dX9_pay_34 ?_
      show Zo g _ _ _ 0 0 37 _ _ _
      refine Zo_iload1 dX9_pay_37 ?_
      refine Zo_iload2 dX9_pay_38 ?_
      refine Zo_bipush (100 : Int32) dX9_pay_39 bp_100 ?_
      refine Zo_idiv dX9_pay_41 (by decide) ?_
      refine Zo_iload2 dX9_pay_42 ?_
      refine Zo_bipush (100 : Int32) dX9_pay_43 bp_100 ?_
      refine Zo_irem dX9_pay_45 (by decide) ?_
      refine Zo_cVV3 lk_X9_142 (e_X7_setWay g _ _ _ _) kd_1 (zFit_rm (by decide)) (zle rfl) dX9_pay_46 fun σ4 => ?_
      show Zo g _ _ _ 0 0 49 _ _ _
      refine Zo_iload3 dX9_pay_49 ?_
      exact Zo_iret dX9_pay_50 rfl rfl (Nat.le_refl _) (Nat.le_refl _)
    · refine Zo_iconst (-1 : Int32) dX9_pay_22 ic_m1 ?_
      exact Zo_iret dX9_pay_23 rfl rfl (Nat.le_refl _) (Nat.le_refl _)
theorem e_X9_pay (g : ZG) (p0 : Int32) (p1 : Int32) (σ : ZSt) : zEvS g 2 yX9_pay cX9_pay 4 (some .int) [.ref 0, .int p0, .int p1] σ (s_X9_pay p0 p1 σ) :=
  zEvS_of 1 rfl rfl (z_X9_pay g p0 p1 σ)
abbrev mX9_of (g : ZG) (q : Nat) : ZM := (yX9_of, cX9_of, 3, (some .int), zRm q 0 0, zTg g 0 0)
def s_X9_of_C65 (l1 : Int32) (l2 : Int32) (σ : ZSt) : Option Int32 :=
  (s_X9_isWithin l2 (20 : Int32) (23 : Int32) σ).bind fun r1 => (if r1 = (0 : Int32) then (some (-2000000000 : Int32))
    else ((s_X7_isStreet l1 σ).bind fun r2 => (if r2 = (0 : Int32) then (some (-2000000000 : Int32))
      else ((s_X7_ofStreet l1 (l2 - (20 : Int32)) σ).bind fun r3 => (some r3)))))
set_option maxHeartbeats 4000000 in
set_option maxRecDepth 100000 in
theorem z_X9_of_C65 (g : ZG) (l1 : Int32) (l2 : Int32) (σ : ZSt) : Zo g (mX9_of g 4) (fun b : Int32 => (some (.int b), zw σ)) (s_X9_of_C65 l1 l2 σ) 0 0 65 [some (.ref 0), some (.int l1), some (.int l2)] [] (zw σ) := by
  unfold s_X9_of_C65
  refine Zo_iload2 dX9_of_65 ?_
  refine Zo_bipush (20 : Int32) dX9_of_66 bp_20 ?_
  refine Zo_bipush (23 : Int32) dX9_of_68 bp_23 ?_
  refine Zo_cSI3 lk_X9_80 (e_X9_isWithin g _ _ _ _) (zFit_rm (by decide)) (zle rfl) dX9_of_70 fun r1 => ?_
  refine Zo_ifeq 100 dX9_of_73 (by decide) ?_ ?_
  · refine Zo_ldc rfl cw_X9_126 dX9_of_100 ?_
    exact Zo_iret dX9_of_102 rfl rfl (Nat.le_refl _) (Nat.le_refl _)
  · refine Zo_aload0 dX9_of_76 ?_
    refine Zo_getr (j := 1) fl_X9_10 kd_0 rfl dX9_of_77 ?_
    refine Zo_iload1 dX9_of_80 ?_
    refine Zo_cVI1 lk_X9_117 (e_X7_isStreet g _ _) kd_1 (zFit_rm (by decide)) (zle rfl) dX9_of_81 fun r2 => ?_
    refine Zo_ifeq 100 dX9_of_84 (by decide) ?_ ?_
    · refine Zo_ldc rfl cw_X9_126 dX9_of_100 ?_
      exact Zo_iret dX9_of_102 rfl rfl (Nat.le_refl _) (Nat.le_refl _)
    · refine Zo_aload0 dX9_of_87 ?_
      refine Zo_getr (j := 1) fl_X9_10 kd_0 rfl dX9_of_88 ?_
      refine Zo_iload1 dX9_of_91 ?_
      refine Zo_iload2 dX9_of_92 ?_
      refine Zo_bipush (20 : Int32) dX9_of_93 bp_20 ?_
      refine Zo_isub dX9_of_95 ?_
      refine Zo_cVI2 lk_X9_157 (e_X7_ofStreet g _ _ _) kd_1 (zFit_rm (by decide)) (zle rfl) dX9_of_96 fun r3 => ?_
      show Zo g _ _ _ 0 0 99 _ _ _
      exact Zo_iret dX9_of_99 rfl rfl (Nat.le_refl _) (Nat.le_refl _)
def s_X9_of_C30 (l1 : Int32) (l2 : Int32) (σ : ZSt) : Option Int32 :=
  (s_X9_isWithin l2 (10 : Int32) (13 : Int32) σ).bind fun r1 => (if r1 = (0 : Int32) then (s_X9_of_C65 l1 l2 σ)
    else ((s_X7_isWindow l1 σ).bind fun r2 => (if r2 = (0 : Int32) then (s_X9_of_C65 l1 l2 σ)
      else ((s_X7_ofWindow l1 (l2 - (10 : Int32)) σ).bind fun r3 => (some r3)))))
set_option maxHeartbeats 4000000 in
set_option maxRecDepth 100000 in
theorem z_X9_of_C30 (g : ZG) (l1 : Int32) (l2 : Int32) (σ : ZSt) : Zo g (mX9_of g 4) (fun b : Int32 => (some (.int b), zw σ)) (s_X9_of_C30 l1 l2 σ) 0 0 30 [some (.ref 0), some (.int l1), some (.int l2)] [] (zw σ) := by
  unfold s_X9_of_C30
  refine Zo_iload2 dX9_of_30 ?_
  refine Zo_bipush (10 : Int32) dX9_of_31 bp_10 ?_
  refine Zo_bipush (13 : Int32) dX9_of_33 bp_13 ?_
  refine Zo_cSI3 lk_X9_80 (e_X9_isWithin g _ _ _ _) (zFit_rm (by decide)) (zle rfl) dX9_of_35 fun r1 => ?_
  refine Zo_ifeq 65 dX9_of_38 (by decide) ?_ ?_
  · exact z_X9_of_C65 g _ _ _ 
  · refine Zo_aload0 dX9_of_41 ?_
    refine Zo_getr (j := 1) fl_X9_10 kd_0 rfl dX9_of_42 ?_
    refine Zo_iload1 dX9_of_45 ?_
    refine Zo_cVI1 lk_X9_151 (e_X7_isWindow g _ _) kd_1 (zFit_rm (by decide)) (zle rfl) dX9_of_46 fun r2 => ?_
    refine Zo_ifeq 65 dX9_of_49 (by decide) ?_ ?_
    · exact z_X9_of_C65 g _ _ _ 
    · refine Zo_aload0 dX9_of_52 ?_
      refine Zo_getr (j := 1) fl_X9_10 kd_0 rfl dX9_of_53 ?_
      refine Zo_iload1 dX9_of_56 ?_
      refine Zo_iload2 dX9_of_57 ?_
      refine Zo_bipush (10 : Int32) dX9_of_58 bp_10 ?_
      refine Zo_isub dX9_of_60 ?_
      refine Zo_cVI2 lk_X9_154 (e_X7_ofWindow g _ _ _) kd_1 (zFit_rm (by decide)) (zle rfl) dX9_of_61 fun r3 => ?_
      show Zo g _ _ _ 0 0 64 _ _ _
      exact Zo_iret dX9_of_64 rfl rfl (Nat.le_refl _) (Nat.le_refl _)
def s_X9_of (p0 : Int32) (p1 : Int32) (σ : ZSt) : Option Int32 :=
  (s_X9_isWithin p1 (0 : Int32) (3 : Int32) σ).bind fun r1 => (if r1 = (0 : Int32) then (s_X9_of_C30 p0 p1 σ)
    else ((s_X7_isPlayer p0 σ).bind fun r2 => (if r2 = (0 : Int32) then (s_X9_of_C30 p0 p1 σ)
      else ((s_X7_ofPlayer p0 p1 σ).bind fun r3 => (some r3)))))
set_option maxHeartbeats 4000000 in
set_option maxRecDepth 100000 in
theorem z_X9_of (g : ZG) (p0 : Int32) (p1 : Int32) (σ : ZSt) : Zo g (mX9_of g 4) (fun b : Int32 => (some (.int b), zw σ)) (s_X9_of p0 p1 σ) 0 0 0 [some (.ref 0), some (.int p0), some (.int p1)] [] (zw σ) := by
  unfold s_X9_of
  refine Zo_iload2 dX9_of_0 ?_
  refine Zo_iconst (0 : Int32) dX9_of_1 ic_0 ?_
  refine Zo_iconst (3 : Int32) dX9_of_2 ic_3 ?_
  refine Zo_cSI3 lk_X9_80 (e_X9_isWithin g _ _ _ _) (zFit_rm (by decide)) (zle rfl) dX9_of_3 fun r1 => ?_
  refine Zo_ifeq 30 dX9_of_6 (by decide) ?_ ?_
  · exact z_X9_of_C30 g _ _ _ 
  · refine Zo_aload0 dX9_of_9 ?_
    refine Zo_getr (j := 1) fl_X9_10 kd_0 rfl dX9_of_10 ?_
    refine Zo_iload1 dX9_of_13 ?_
    refine Zo_cVI1 lk_X9_145 (e_X7_isPlayer g _ _) kd_1 (zFit_rm (by decide)) (zle rfl) dX9_of_14 fun r2 => ?_
    refine Zo_ifeq 30 dX9_of_17 (by decide) ?_ ?_
    · exact z_X9_of_C30 g _ _ _ 
    · refine Zo_aload0 dX9_of_20 ?_
      refine Zo_getr (j := 1) fl_X9_10 kd_0 rfl dX9_of_21 ?_
      refine Zo_iload1 dX9_of_24 ?_
      refine Zo_iload2 dX9_of_25 ?_
      refine Zo_cVI2 lk_X9_148 (e_X7_ofPlayer g _ _ _) kd_1 (zFit_rm (by decide)) (zle rfl) dX9_of_26 fun r3 => ?_
      exact Zo_iret dX9_of_29 rfl rfl (Nat.le_refl _) (Nat.le_refl _)
theorem e_X9_of (g : ZG) (p0 : Int32) (p1 : Int32) (σ : ZSt) : zEvI g 4 yX9_of cX9_of 3 (some .int) [.ref 0, .int p0, .int p1] σ (s_X9_of p0 p1 σ) :=
  zEvI_of 0 rfl rfl (z_X9_of g p0 p1 σ)
abbrev mX9_harm (g : ZG) (q : Nat) : ZM := (yX9_harm, cX9_harm, 2, (some .int), zRm q 0 0, zTg g 0 0)
def s_X9_harm (p0 : Int32) (σ : ZSt) : Option Int32 :=
  if p0 < (0 : Int32) then (some (-2000000000 : Int32))
    else ((s_X7_isPlayer (p0 / (100 : Int32)) σ).bind fun r1 => (if r1 = (0 : Int32) then (some (-2000000000 : Int32))
      else ((s_X7_isWindow (zRem p0 (100 : Int32)) σ).bind fun r2 => (if r2 = (0 : Int32) then (some (-2000000000 : Int32))
        else ((s_X7_goodOf (p0 / (100 : Int32)) σ).bind fun r3 => ((s_X7_harmTo (zRem p0 (100 : Int32)) r3 σ).bind fun r4 => (some r4)))))))
set_option maxHeartbeats 4000000 in
set_option maxRecDepth 100000 in
theorem z_X9_harm (g : ZG) (p0 : Int32) (σ : ZSt) : Zo g (mX9_harm g 2) (fun b : Int32 => (some (.int b), zw σ)) (s_X9_harm p0 σ) 0 0 0 [some (.ref 0), some (.int p0)] [] (zw σ) := by
  unfold s_X9_harm
  refine Zo_iload1 dX9_harm_0 ?_
  refine Zo_iflt 32 dX9_harm_1 (by decide) ?_ ?_
  · refine Zo_ldc rfl cw_X9_126 dX9_harm_32 ?_
    exact Zo_iret dX9_harm_34 rfl rfl (Nat.le_refl _) (Nat.le_refl _)
  · refine Zo_aload0 dX9_harm_4 ?_
    refine Zo_getr (j := 1) fl_X9_10 kd_0 rfl dX9_harm_5 ?_
    refine Zo_iload1 dX9_harm_8 ?_
    refine Zo_bipush (100 : Int32) dX9_harm_9 bp_100 ?_
    refine Zo_idiv dX9_harm_11 (by decide) ?_
    refine Zo_cVI1 lk_X9_145 (e_X7_isPlayer g _ _) kd_1 (zFit_rm (by decide)) (zle rfl) dX9_harm_12 fun r1 => ?_
    refine Zo_ifeq 32 dX9_harm_15 (by decide) ?_ ?_
    · refine Zo_ldc rfl cw_X9_126 dX9_harm_32 ?_
      exact Zo_iret dX9_harm_34 rfl rfl (Nat.le_refl _) (Nat.le_refl _)
    · refine Zo_aload0 dX9_harm_18 ?_
      refine Zo_getr (j := 1) fl_X9_10 kd_0 rfl dX9_harm_19 ?_
      refine Zo_iload1 dX9_harm_22 ?_
      refine Zo_bipush (100 : Int32) dX9_harm_23 bp_100 ?_
      refine Zo_irem dX9_harm_25 (by decide) ?_
      refine Zo_cVI1 lk_X9_151 (e_X7_isWindow g _ _) kd_1 (zFit_rm (by decide)) (zle rfl) dX9_harm_26 fun r2 => ?_
      refine Zo_ifne 35 dX9_harm_29 (by decide) ?_ ?_
      · refine Zo_aload0 dX9_harm_35 ?_
        refine Zo_getr (j := 1) fl_X9_10 kd_0 rfl dX9_harm_36 ?_
        refine Zo_iload1 dX9_harm_39 ?_
        refine Zo_bipush (100 : Int32) dX9_harm_40 bp_100 ?_
        refine Zo_irem dX9_harm_42 (by decide) ?_
        refine Zo_aload0 dX9_harm_43 ?_
        refine Zo_getr (j := 1) fl_X9_10 kd_0 rfl dX9_harm_44 ?_
        show Zo g _ _ _ 0 0 47 _ _ _
        refine Zo_iload1 dX9_harm_47 ?_
        refine Zo_bipush (100 : Int32) dX9_harm_48 bp_100 ?_
        refine Zo_idiv dX9_harm_50 (by decide) ?_
        refine Zo_cVI1 lk_X9_160 (e_X7_goodOf g _ _) kd_1 (zFit_rm (by decide)) (zle rfl) dX9_harm_51 fun r3 => ?_
        refine Zo_cVI2 lk_X9_163 (e_X7_harmTo g _ _ _) kd_1 (zFit_rm (by decide)) (zle rfl) dX9_harm_54 fun r4 => ?_
        exact Zo_iret dX9_harm_57 rfl rfl (Nat.le_refl _) (Nat.le_refl _)
      · refine Zo_ldc rfl cw_X9_126 dX9_harm_32 ?_
        exact Zo_iret dX9_harm_34 rfl rfl (Nat.le_refl _) (Nat.le_refl _)
theorem e_X9_harm (g : ZG) (p0 : Int32) (σ : ZSt) : zEvI g 2 yX9_harm cX9_harm 2 (some .int) [.ref 0, .int p0] σ (s_X9_harm p0 σ) :=
  zEvI_of 0 rfl rfl (z_X9_harm g p0 σ)
abbrev mX9_isPair (g : ZG) (q : Nat) : ZM := (yX9_isPair, cX9_isPair, 2, (some .boolean), zRm q 0 0, zTg g 0 0)
def s_X9_isPair (p0 : Int32) (σ : ZSt) : Option Int32 :=
  if p0 < (0 : Int32) then (some (0 : Int32))
    else ((s_X7_isPlayer (p0 / (10 : Int32)) σ).bind fun r1 => (if r1 = (0 : Int32) then (some (0 : Int32))
      else ((s_X7_isStreet (zRem p0 (10 : Int32)) σ).bind fun r2 => (if r2 = (0 : Int32) then (some (0 : Int32))
        else (some (1 : Int32))))))
set_option maxHeartbeats 4000000 in
set_option maxRecDepth 100000 in
theorem z_X9_isPair (g : ZG) (p0 : Int32) (σ : ZSt) : Zo g (mX9_isPair g 1) (fun b : Int32 => (some (.int b), zw σ)) (s_X9_isPair p0 σ) 0 0 0 [some (.ref 0), some (.int p0)] [] (zw σ) := by
  unfold s_X9_isPair
  refine Zo_iload1 dX9_isPair_0 ?_
  refine Zo_iflt 36 dX9_isPair_1 (by decide) ?_ ?_
  · refine Zo_iconst (0 : Int32) dX9_isPair_36 ic_0 ?_
    exact Zo_zret dX9_isPair_37 rfl rfl (Or.inl rfl) (Nat.le_refl _) (Nat.le_refl _)
  · refine Zo_aload0 dX9_isPair_4 ?_
    refine Zo_getr (j := 1) fl_X9_10 kd_0 rfl dX9_isPair_5 ?_
    refine Zo_iload1 dX9_isPair_8 ?_
    refine Zo_bipush (10 : Int32) dX9_isPair_9 bp_10 ?_
    refine Zo_idiv dX9_isPair_11 (by decide) ?_
    refine Zo_cVI1 lk_X9_145 (e_X7_isPlayer g _ _) kd_1 (zFit_rm (by decide)) (zle rfl) dX9_isPair_12 fun r1 => ?_
    refine Zo_ifeq 36 dX9_isPair_15 (by decide) ?_ ?_
    · refine Zo_iconst (0 : Int32) dX9_isPair_36 ic_0 ?_
      exact Zo_zret dX9_isPair_37 rfl rfl (Or.inl rfl) (Nat.le_refl _) (Nat.le_refl _)
    · refine Zo_aload0 dX9_isPair_18 ?_
      refine Zo_getr (j := 1) fl_X9_10 kd_0 rfl dX9_isPair_19 ?_
      refine Zo_iload1 dX9_isPair_22 ?_
      refine Zo_bipush (10 : Int32) dX9_isPair_23 bp_10 ?_
      refine Zo_irem dX9_isPair_25 (by decide) ?_
      refine Zo_cVI1 lk_X9_117 (e_X7_isStreet g _ _) kd_1 (zFit_rm (by decide)) (zle rfl) dX9_isPair_26 fun r2 => ?_
      refine Zo_ifeq 36 dX9_isPair_29 (by decide) ?_ ?_
      · refine Zo_iconst (0 : Int32) dX9_isPair_36 ic_0 ?_
        exact Zo_zret dX9_isPair_37 rfl rfl (Or.inl rfl) (Nat.le_refl _) (Nat.le_refl _)
      · refine Zo_iconst (1 : Int32) dX9_isPair_32 ic_1 ?_
        refine Zo_goto 37 dX9_isPair_33 (by decide) ?_
        exact Zo_zret dX9_isPair_37 rfl rfl (Or.inr rfl) (Nat.le_refl _) (Nat.le_refl _)
theorem e_X9_isPair (g : ZG) (p0 : Int32) (σ : ZSt) : zEvI g 1 yX9_isPair cX9_isPair 2 (some .boolean) [.ref 0, .int p0] σ (s_X9_isPair p0 σ) :=
  zEvI_of 0 rfl rfl (z_X9_isPair g p0 σ)
abbrev mX9_once (g : ZG) (q : Nat) : ZM := (yX9_once, cX9_once, 5, (some .int), zRm q 0 0, zTg g 0 0)
def s_X9_once (p0 : Int32) (p1 : Int32) (σ : ZSt) : Option Int32 :=
  (s_X9_isPair p0 σ).bind fun r1 => (if r1 = (0 : Int32) then (some (-2000000000 : Int32))
    else (if p1 = (0 : Int32) then ((s_X7_goodOf (p0 / (10 : Int32)) σ).bind fun r2 => ((s_X7_harmOfStreet (zRem p0 (10 : Int32)) r2 σ).bind fun r3 => (some r3)))
      else (if p1 = (1 : Int32) then ((s_X7_least (p0 / (10 : Int32)) (zRem p0 (10 : Int32)) σ).bind fun r4 => (some r4))
      else (if p1 = (2 : Int32) then ((s_X7_goodOf (p0 / (10 : Int32)) σ).bind fun r5 => ((s_X7_most (zRem p0 (10 : Int32)) r5 σ).bind fun r6 => (some r6)))
      else (if p1 = (3 : Int32) then ((s_X7_goodOf (p0 / (10 : Int32)) σ).bind fun r7 => ((s_X5_bargain (p0 / (10 : Int32)) (zRem p0 (10 : Int32)) r7 σ).bind fun r8 => (some r8)))
      else (some (-2000000000 : Int32)))))))
set_option maxHeartbeats 4000000 in
set_option maxRecDepth 100000 in
theorem z_X9_once (g : ZG) (p0 : Int32) (p1 : Int32) (σ : ZSt) : Zo g (mX9_once g 5) (fun b : Int32 => (some (.int b), zw σ)) (s_X9_once p0 p1 σ) 0 0 0 [some (.ref 0), some (.int p0), some (.int p1), none, none] [] (zw σ) := by
  unfold s_X9_once
  refine Zo_aload0 dX9_once_0 ?_
  refine Zo_iload1 dX9_once_1 ?_
  refine Zo_cVI1 lk_X9_166 (e_X9_isPair g _ _) kd_0 (zFit_rm (by decide)) (zle rfl) dX9_once_2 fun r1 => ?_
  refine Zo_ifne 11 dX9_once_5 (by decide) ?_ ?_
  · refine Zo_iload1 dX9_once_11 ?_
    refine Zo_bipush (10 : Int32) dX9_once_12 bp_10 ?_
    refine Zo_idiv dX9_once_14 (by decide) ?_
    refine Zo_istore3 rfl (zlt rfl) dX9_once_15 ?_
    refine Zo_iload1 dX9_once_16 ?_
    refine Zo_bipush (10 : Int32) dX9_once_17 bp_10 ?_
    refine Zo_irem dX9_once_19 (by decide) ?_
    show Zo g _ _ _ 0 0 20 _ _ _
    refine Zo_istore4 rfl (zlt rfl) dX9_once_20 ?_
    refine Zo_iload2 dX9_once_22 ?_
    refine Zo_ite (fun hc0 => ?_) (fun hc0 => ?_)
    · refine Zo_tswC (off := 29) (0 : Int32) 52 hc0 dX9_once_23 (by decide) (by decide) (by decide) (by decide) ?_
      refine Zo_aload0 dX9_once_52 ?_
      refine Zo_getr (j := 1) fl_X9_10 kd_0 rfl dX9_once_53 ?_
      refine Zo_iload4 dX9_once_56 ?_
      refine Zo_aload0 dX9_once_58 ?_
      refine Zo_getr (j := 1) fl_X9_10 kd_0 rfl dX9_once_59 ?_
      refine Zo_iload3 dX9_once_62 ?_
      refine Zo_cVI1 lk_X9_160 (e_X7_goodOf g _ _) kd_1 (zFit_rm (by decide)) (zle rfl) dX9_once_63 fun r2 => ?_
      show Zo g _ _ _ 0 0 66 _ _ _
      refine Zo_cVI2 lk_X9_169 (e_X7_harmOfStreet g _ _ _) kd_1 (zFit_rm (by decide)) (zle rfl) dX9_once_66 fun r3 => ?_
      exact Zo_iret dX9_once_69 rfl rfl (Nat.le_refl _) (Nat.le_refl _)
    refine Zo_ite (fun hc1 => ?_) (fun hc1 => ?_)
    · refine Zo_tswC (off := 47) (1 : Int32) 70 hc1 dX9_once_23 (by decide) (by decide) (by decide) (by decide) ?_
      refine Zo_aload0 dX9_once_70 ?_
      refine Zo_getr (j := 1) fl_X9_10 kd_0 rfl dX9_once_71 ?_
      refine Zo_iload3 dX9_once_74 ?_
      refine Zo_iload4 dX9_once_75 ?_
      refine Zo_cVI2 lk_X9_172 (e_X7_least g _ _ _) kd_1 (zFit_rm (by decide)) (zle rfl) dX9_once_77 fun r4 => ?_
      exact Zo_iret dX9_once_80 rfl rfl (Nat.le_refl _) (Nat.le_refl _)
    refine Zo_ite (fun hc2 => ?_) (fun hc2 => ?_)
    · refine Zo_tswC (off := 58) (2 : Int32) 81 hc2 dX9_once_23 (by decide) (by decide) (by decide) (by decide) ?_
      refine Zo_aload0 dX9_once_81 ?_
      refine Zo_getr (j := 1) fl_X9_10 kd_0 rfl dX9_once_82 ?_
      refine Zo_iload4 dX9_once_85 ?_
      refine Zo_aload0 dX9_once_87 ?_
      refine Zo_getr (j := 1) fl_X9_10 kd_0 rfl dX9_once_88 ?_
      refine Zo_iload3 dX9_once_91 ?_
      refine Zo_cVI1 lk_X9_160 (e_X7_goodOf g _ _) kd_1 (zFit_rm (by decide)) (zle rfl) dX9_once_92 fun r5 => ?_
      show Zo g _ _ _ 0 0 95 _ _ _
      refine Zo_cVI2 lk_X9_175 (e_X7_most g _ _ _) kd_1 (zFit_rm (by decide)) (zle rfl) dX9_once_95 fun r6 => ?_
      exact Zo_iret dX9_once_98 rfl rfl (Nat.le_refl _) (Nat.le_refl _)
    refine Zo_ite (fun hc3 => ?_) (fun hc3 => ?_)
    · refine Zo_tswC (off := 76) (3 : Int32) 99 hc3 dX9_once_23 (by decide) (by decide) (by decide) (by decide) ?_
      refine Zo_aload0 dX9_once_99 ?_
      refine Zo_getr (j := 14) fl_X9_21 kd_0 rfl dX9_once_100 ?_
      refine Zo_iload3 dX9_once_103 ?_
      refine Zo_iload4 dX9_once_104 ?_
      refine Zo_aload0 dX9_once_106 ?_
      refine Zo_getr (j := 1) fl_X9_10 kd_0 rfl dX9_once_107 ?_
      refine Zo_iload3 dX9_once_110 ?_
      show Zo g _ _ _ 0 0 111 _ _ _
      refine Zo_cVI1 lk_X9_160 (e_X7_goodOf g _ _) kd_1 (zFit_rm (by decide)) (zle rfl) dX9_once_111 fun r7 => ?_
      refine Zo_cVI3 lk_X9_178 (e_X5_bargain g _ _ _ _) kd_14 (zFit_rm (by decide)) (zle rfl) dX9_once_114 fun r8 => ?_
      exact Zo_iret dX9_once_117 rfl rfl (Nat.le_refl _) (Nat.le_refl _)
    refine Zo_tswOut 118 dX9_once_23 (by have a0 := zne_0 hc0; have a1 := zne_1 hc1; have a2 := zne_2 hc2; have a3 := zne_3 hc3; omega) (by decide) ?_
    refine Zo_ldc rfl cw_X9_126 dX9_once_118 ?_
    exact Zo_iret dX9_once_120 rfl rfl (Nat.le_refl _) (Nat.le_refl _)
  · refine Zo_ldc rfl cw_X9_126 dX9_once_8 ?_
    exact Zo_iret dX9_once_10 rfl rfl (Nat.le_refl _) (Nat.le_refl _)
theorem e_X9_once (g : ZG) (p0 : Int32) (p1 : Int32) (σ : ZSt) : zEvI g 5 yX9_once cX9_once 5 (some .int) [.ref 0, .int p0, .int p1] σ (s_X9_once p0 p1 σ) :=
  zEvI_of 2 rfl rfl (z_X9_once g p0 p1 σ)
abbrev mX9_waiting (g : ZG) (q : Nat) : ZM := (yX9_waiting, cX9_waiting, 8, (some .int), zRm q 0 0, zTg g 0 0)
def s_X9_waiting (p0 : Int32) (p1 : Int32) (p2 : Int32) (p3 : Int32) (σ : ZSt) : Option Int32 :=
  (s_X9_isPair p0 σ).bind fun r1 => (if r1 = (0 : Int32) then (some (-1 : Int32))
    else ((s_X9_isWithin p1 (0 : Int32) (99 : Int32) σ).bind fun r2 => (if r2 = (0 : Int32) then (some (-1 : Int32))
      else (if (0 : Int32) ≤ p3 then ((s_X9_isWithin (p3 / (10 : Int32)) (1 : Int32) (60 : Int32) σ).bind fun r3 => (if r3 = (0 : Int32) then (some (-1 : Int32))
          else (if (zRem p3 (10 : Int32)) ≤ (2 : Int32) then ((s_X5_firstToPay p0 p1 p2 (p3 / (10 : Int32)) σ).bind fun r4 => (if (zRem p3 (10 : Int32)) = (2 : Int32) then (if r4 = (-2 : Int32) then ((s_X5_lost p0 (p3 / (10 : Int32)) σ).bind fun r6 => (some r6))
                else ((s_X5_lost p0 (r4 / (30 : Int32)) σ).bind fun r5 => (some r5)))
              else (if r4 = (-2 : Int32) then (some (-2 : Int32))
                else (if (zRem p3 (10 : Int32)) = (0 : Int32) then (some (r4 / (30 : Int32)))
                  else (some (zRem r4 (30 : Int32)))))))
            else (some (-1 : Int32)))))
        else (some (-1 : Int32))))))
set_option maxHeartbeats 4000000 in
set_option maxRecDepth 100000 in
theorem z_X9_waiting (g : ZG) (p0 : Int32) (p1 : Int32) (p2 : Int32) (p3 : Int32) (σ : ZSt) : Zo g (mX9_waiting g 5) (fun b : Int32 => (some (.int b), zw σ)) (s_X9_waiting p0 p1 p2 p3 σ) 0 0 0 [some (.ref 0), some (.int p0), some (.int p1), some (.int p2), some (.int p3), none, none, none] [] (zw σ) := by
  unfold s_X9_waiting
  refine Zo_aload0 dX9_waiting_0 ?_
  refine Zo_iload1 dX9_waiting_1 ?_
  refine Zo_cVI1 lk_X9_166 (e_X9_isPair g _ _) kd_0 (zFit_rm (by decide)) (zle rfl) dX9_waiting_2 fun r1 => ?_
  refine Zo_ifeq 23 dX9_waiting_5 (by decide) ?_ ?_
  · refine Zo_iconst (-1 : Int32) dX9_waiting_23 ic_m1 ?_
    exact Zo_iret dX9_waiting_24 rfl rfl (Nat.le_refl _) (Nat.le_refl _)
  · refine Zo_iload2 dX9_waiting_8 ?_
    refine Zo_iconst (0 : Int32) dX9_waiting_9 ic_0 ?_
    refine Zo_bipush (99 : Int32) dX9_waiting_10 bp_99 ?_
    refine Zo_cSI3 lk_X9_80 (e_X9_isWithin g _ _ _ _) (zFit_rm (by decide)) (zle rfl) dX9_waiting_12 fun r2 => ?_
    refine Zo_ifeq 23 dX9_waiting_15 (by decide) ?_ ?_
    · refine Zo_iconst (-1 : Int32) dX9_waiting_23 ic_m1 ?_
      exact Zo_iret dX9_waiting_24 rfl rfl (Nat.le_refl _) (Nat.le_refl _)
    · refine Zo_iload4 dX9_waiting_18 ?_
      refine Zo_ifge 25 dX9_waiting_20 (by decide) ?_ ?_
      · refine Zo_iload4 dX9_waiting_25 ?_
        refine Zo_bipush (10 : Int32) dX9_waiting_27 bp_10 ?_
        refine Zo_idiv dX9_waiting_29 (by decide) ?_
        refine Zo_istore5 rfl (zlt rfl) dX9_waiting_30 ?_
        refine Zo_iload4 dX9_waiting_32 ?_
        refine Zo_bipush (10 : Int32) dX9_waiting_34 bp_10 ?_
        refine Zo_irem dX9_waiting_36 (by decide) ?_
        show Zo g _ _ _ 0 0 37 _ _ _
        refine Zo_istore6 rfl (zlt rfl) dX9_waiting_37 ?_
        refine Zo_iload5 dX9_waiting_39 ?_
        refine Zo_iconst (1 : Int32) dX9_waiting_41 ic_1 ?_
        refine Zo_bipush (60 : Int32) dX9_waiting_42 bp_60 ?_
        refine Zo_cSI3 lk_X9_80 (e_X9_isWithin g _ _ _ _) (zFit_rm (by decide)) (zle rfl) dX9_waiting_44 fun r3 => ?_
        refine Zo_ifeq 56 dX9_waiting_47 (by decide) ?_ ?_
        · refine Zo_iconst (-1 : Int32) dX9_waiting_56 ic_m1 ?_
          exact Zo_iret dX9_waiting_57 rfl rfl (Nat.le_refl _) (Nat.le_refl _)
        · refine Zo_iload6 dX9_waiting_50 ?_
          refine Zo_iconst (2 : Int32) dX9_waiting_52 ic_2 ?_
          refine Zo_icmple 58 dX9_waiting_53 (by decide) ?_ ?_
          · refine Zo_aload0 dX9_waiting_58 ?_
            refine Zo_getr (j := 14) fl_X9_21 kd_0 rfl dX9_waiting_59 ?_
            refine Zo_iload1 dX9_waiting_62 ?_
            refine Zo_iload2 dX9_waiting_63 ?_
            refine Zo_iload3 dX9_waiting_64 ?_
            refine Zo_iload5 dX9_waiting_65 ?_
            refine Zo_cVI4 lk_X9_182 (e_X5_firstToPay g _ _ _ _ _) kd_14 (zFit_rm (by decide)) (zle rfl) dX9_waiting_67 fun r4 => ?_
            show Zo g _ _ _ 0 0 70 _ _ _
            refine Zo_istore7 rfl (zlt rfl) dX9_waiting_70 ?_
            refine Zo_iload6 dX9_waiting_72 ?_
            refine Zo_iconst (2 : Int32) dX9_waiting_74 ic_2 ?_
            refine Zo_icmpne 104 dX9_waiting_75 (by decide) ?_ ?_
            · refine Zo_iload7 dX9_waiting_104 ?_
              refine Zo_bipush (-2 : Int32) dX9_waiting_106 bp_m2 ?_
              refine Zo_icmpne 114 dX9_waiting_108 (by decide) ?_ ?_
              · refine Zo_iload6 dX9_waiting_114 ?_
                refine Zo_ifne 127 dX9_waiting_116 (by decide) ?_ ?_
                · refine Zo_iload7 dX9_waiting_127 ?_
                  refine Zo_bipush (30 : Int32) dX9_waiting_129 bp_30 ?_
                  refine Zo_irem dX9_waiting_131 (by decide) ?_
                  exact Zo_iret dX9_waiting_132 rfl rfl (Nat.le_refl _) (Nat.le_refl _)
                · refine Zo_iload7 dX9_waiting_119 ?_
                  refine Zo_bipush (30 : Int32) dX9_waiting_121 bp_30 ?_
                  refine Zo_idiv dX9_waiting_123 (by decide) ?_
                  refine Zo_goto 132 dX9_waiting_124 (by decide) ?_
                  exact Zo_iret dX9_waiting_132 rfl rfl (Nat.le_refl _) (Nat.le_refl _)
              · refine Zo_bipush (-2 : Int32) dX9_waiting_111 bp_m2 ?_
                exact Zo_iret dX9_waiting_113 rfl rfl (Nat.le_refl _) (Nat.le_refl _)
            · refine Zo_aload0 dX9_waiting_78 ?_
              refine Zo_getr (j := 14) fl_X9_21 kd_0 rfl dX9_waiting_79 ?_
              refine Zo_iload1 dX9_waiting_82 ?_
              refine Zo_iload7 dX9_waiting_83 ?_
              refine Zo_bipush (-2 : Int32) dX9_waiting_85 bp_m2 ?_
              refine Zo_icmpne 95 dX9_waiting_87 (by decide) ?_ ?_
              · refine Zo_iload7 dX9_waiting_95 ?_
                refine Zo_bipush (30 : Int32) dX9_waiting_97 bp_30 ?_
                refine Zo_idiv dX9_waiting_99 (by decide) ?_
                refine Zo_cVI2 lk_X9_185 (e_X5_lost g _ _ _) kd_14 (zFit_rm (by decide)) (zle rfl) dX9_waiting_100 fun r5 => ?_
                exact Zo_iret dX9_waiting_103 rfl rfl (Nat.le_refl _) (Nat.le_refl _)
              · refine Zo_iload5 dX9_waiting_90 ?_
                refine Zo_goto 100 dX9_waiting_92 (by decide) ?_
                refine Zo_cVI2 lk_X9_185 (e_X5_lost g _ _ _) kd_14 (zFit_rm (by decide)) (zle rfl) dX9_waiting_100 fun r6 => ?_
                exact Zo_iret dX9_waiting_103 rfl rfl (Nat.le_refl _) (Nat.le_refl _)
          · refine Zo_iconst (-1 : Int32) dX9_waiting_56 ic_m1 ?_
            exact Zo_iret dX9_waiting_57 rfl rfl (Nat.le_refl _) (Nat.le_refl _)
      · refine Zo_iconst (-1 : Int32) dX9_waiting_23 ic_m1 ?_
        exact Zo_iret dX9_waiting_24 rfl rfl (Nat.le_refl _) (Nat.le_refl _)
theorem e_X9_waiting (g : ZG) (p0 : Int32) (p1 : Int32) (p2 : Int32) (p3 : Int32) (σ : ZSt) : zEvI g 5 yX9_waiting cX9_waiting 8 (some .int) [.ref 0, .int p0, .int p1, .int p2, .int p3] σ (s_X9_waiting p0 p1 p2 p3 σ) :=
  zEvI_of 3 rfl rfl (z_X9_waiting g p0 p1 p2 p3 σ)
abbrev mX9_exactly (g : ZG) (q : Nat) : ZM := (yX9_exactly, cX9_exactly, 4, (some .int), zRm q 0 0, zTg g 0 0)
def s_X9_exactly (p0 : Int32) (p1 : Int32) (p2 : Int32) (σ : ZSt) : Option Int32 :=
  (s_X9_isPair p0 σ).bind fun r1 => (if r1 = (0 : Int32) then (some (-1 : Int32))
    else ((s_X9_isWithin p1 (0 : Int32) (99 : Int32) σ).bind fun r2 => (if r2 = (0 : Int32) then (some (-1 : Int32))
      else ((s_X9_isWithin p2 (0 : Int32) (60 : Int32) σ).bind fun r3 => (if r3 = (0 : Int32) then (some (-1 : Int32))
        else ((s_X5_unpaidThousandths p0 p1 p2 σ).bind fun r4 => (some r4)))))))
set_option maxHeartbeats 4000000 in
set_option maxRecDepth 100000 in
theorem z_X9_exactly (g : ZG) (p0 : Int32) (p1 : Int32) (p2 : Int32) (σ : ZSt) : Zo g (mX9_exactly g 5) (fun b : Int32 => (some (.int b), zw σ)) (s_X9_exactly p0 p1 p2 σ) 0 0 0 [some (.ref 0), some (.int p0), some (.int p1), some (.int p2)] [] (zw σ) := by
  unfold s_X9_exactly
  refine Zo_aload0 dX9_exactly_0 ?_
  refine Zo_iload1 dX9_exactly_1 ?_
  refine Zo_cVI1 lk_X9_166 (e_X9_isPair g _ _) kd_0 (zFit_rm (by decide)) (zle rfl) dX9_exactly_2 fun r1 => ?_
  refine Zo_ifeq 28 dX9_exactly_5 (by decide) ?_ ?_
  · refine Zo_iconst (-1 : Int32) dX9_exactly_28 ic_m1 ?_
    exact Zo_iret dX9_exactly_29 rfl rfl (Nat.le_refl _) (Nat.le_refl _)
  · refine Zo_iload2 dX9_exactly_8 ?_
    refine Zo_iconst (0 : Int32) dX9_exactly_9 ic_0 ?_
    refine Zo_bipush (99 : Int32) dX9_exactly_10 bp_99 ?_
    refine Zo_cSI3 lk_X9_80 (e_X9_isWithin g _ _ _ _) (zFit_rm (by decide)) (zle rfl) dX9_exactly_12 fun r2 => ?_
    refine Zo_ifeq 28 dX9_exactly_15 (by decide) ?_ ?_
    · refine Zo_iconst (-1 : Int32) dX9_exactly_28 ic_m1 ?_
      exact Zo_iret dX9_exactly_29 rfl rfl (Nat.le_refl _) (Nat.le_refl _)
    · refine Zo_iload3 dX9_exactly_18 ?_
      refine Zo_iconst (0 : Int32) dX9_exactly_19 ic_0 ?_
      refine Zo_bipush (60 : Int32) dX9_exactly_20 bp_60 ?_
      refine Zo_cSI3 lk_X9_80 (e_X9_isWithin g _ _ _ _) (zFit_rm (by decide)) (zle rfl) dX9_exactly_22 fun r3 => ?_
      refine Zo_ifne 30 dX9_exactly_25 (by decide) ?_ ?_
      · refine Zo_aload0 dX9_exactly_30 ?_
        refine Zo_getr (j := 14) fl_X9_21 kd_0 rfl dX9_exactly_31 ?_
        refine Zo_iload1 dX9_exactly_34 ?_
        refine Zo_iload2 dX9_exactly_35 ?_
        refine Zo_iload3 dX9_exactly_36 ?_
        refine Zo_cVI3 lk_X9_188 (e_X5_unpaidThousandths g _ _ _ _) kd_14 (zFit_rm (by decide)) (zle rfl) dX9_exactly_37 fun r4 => ?_
        exact Zo_iret dX9_exactly_40 rfl rfl (Nat.le_refl _) (Nat.le_refl _)
      · refine Zo_iconst (-1 : Int32) dX9_exactly_28 ic_m1 ?_
        exact Zo_iret dX9_exactly_29 rfl rfl (Nat.le_refl _) (Nat.le_refl _)
theorem e_X9_exactly (g : ZG) (p0 : Int32) (p1 : Int32) (p2 : Int32) (σ : ZSt) : zEvI g 5 yX9_exactly cX9_exactly 4 (some .int) [.ref 0, .int p0, .int p1, .int p2] σ (s_X9_exactly p0 p1 p2 σ) :=
  zEvI_of 0 rfl rfl (z_X9_exactly g p0 p1 p2 σ)
abbrev mX9_feed (g : ZG) (q : Nat) : ZM := (yX9_feed, cX9_feed, 3, (some .int), zRm q 0 0, zTg g 0 0)
def s_X9_feed (p0 : Int32) (p1 : Int32) (σ : ZSt) : Option (Int32 × ZSt) :=
  (s_X9_isWithin p0 (1 : Int32) (4 : Int32) σ).bind fun r1 => (if r1 = (0 : Int32) then (some ((-1 : Int32), σ))
    else ((s_X3_feedBytes p0 p1 σ).bind fun r2 => (some (r2.1, r2.2))))
set_option maxHeartbeats 4000000 in
set_option maxRecDepth 100000 in
theorem z_X9_feed (g : ZG) (p0 : Int32) (p1 : Int32) (σ : ZSt) : Zo g (mX9_feed g 1) (fun b : Int32 × ZSt => (some (.int b.1), zw b.2)) (s_X9_feed p0 p1 σ) 0 0 0 [some (.ref 0), some (.int p0), some (.int p1)] [] (zw σ) := by
  unfold s_X9_feed
  refine Zo_iload1 dX9_feed_0 ?_
  refine Zo_iconst (1 : Int32) dX9_feed_1 ic_1 ?_
  refine Zo_iconst (4 : Int32) dX9_feed_2 ic_4 ?_
  refine Zo_cSI3 lk_X9_80 (e_X9_isWithin g _ _ _ _) (zFit_rm (by decide)) (zle rfl) dX9_feed_3 fun r1 => ?_
  refine Zo_ifne 11 dX9_feed_6 (by decide) ?_ ?_
  · refine Zo_aload0 dX9_feed_11 ?_
    refine Zo_getr (j := 46) fl_X9_52 kd_0 rfl dX9_feed_12 ?_
    refine Zo_iload1 dX9_feed_15 ?_
    refine Zo_iload2 dX9_feed_16 ?_
    refine Zo_cVS2 lk_X9_191 (e_X3_feedBytes g _ _ _) kd_46 (zFit_rm (by decide)) (zle rfl) dX9_feed_17 fun r2 => ?_
    exact Zo_iret dX9_feed_20 rfl rfl (Nat.le_refl _) (Nat.le_refl _)
  · refine Zo_iconst (-1 : Int32) dX9_feed_9 ic_m1 ?_
    exact Zo_iret dX9_feed_10 rfl rfl (Nat.le_refl _) (Nat.le_refl _)
theorem e_X9_feed (g : ZG) (p0 : Int32) (p1 : Int32) (σ : ZSt) : zEvS g 1 yX9_feed cX9_feed 3 (some .int) [.ref 0, .int p0, .int p1] σ (s_X9_feed p0 p1 σ) :=
  zEvS_of 0 rfl rfl (z_X9_feed g p0 p1 σ)
abbrev mX9_law (g : ZG) (q : Nat) : ZM := (yX9_law, cX9_law, 3, (some .int), zRm q 0 0, zTg g 0 0)
def s_X9_law (σ : ZSt) : Option (Int32 × ZSt) :=
  (zDyn (σ.1 0 10)).bind fun t1 => ((s_X3_read t1 σ).bind fun r2 => (if r2.1 = (-1 : Int32) then ((zDyn (r2.2.1 0 9)).bind fun t3 => ((zDyn (r2.2.1 0 10)).bind fun t4 => (zSt' (zWD r2.2 0 9 (Int32.ofNat t4)) fun σ5 => (zSt' (zWD σ5 0 10 (Int32.ofNat t3)) fun σ6 => (some ((1 : Int32), σ6))))))
    else (some (((-100 : Int32) - r2.1), r2.2))))
set_option maxHeartbeats 4000000 in
set_option maxRecDepth 100000 in
theorem z_X9_law (g : ZG) (σ : ZSt) : Zo g (mX9_law g 72) (fun b : Int32 × ZSt => (some (.int b.1), zw b.2)) (s_X9_law σ) 0 0 0 [some (.ref 0), none, none] [] (zw σ) := by
  unfold s_X9_law
  refine Zo_aload0 dX9_law_0 ?_
  refine Zo_getr (j := 46) fl_X9_52 kd_0 rfl dX9_law_1 ?_
  refine Zo_aload0 dX9_law_4 ?_
  refine Zo_getd fl_X9_77 kd_0 dX9_law_5 fun t1 ht1 => ?_
  refine Zo_cVS1 lk_X9_194 (e_X3_read g _ _ ht1) kd_46 (zFit_rm (by decide)) (zle rfl) dX9_law_8 fun r2 => ?_
  refine Zo_istore1 rfl (zlt rfl) dX9_law_11 ?_
  refine Zo_iload1 dX9_law_12 ?_
  show Zo g _ _ _ 0 0 13 _ _ _
  refine Zo_iconst (-1 : Int32) dX9_law_13 ic_m1 ?_
  refine Zo_icmpeq 22 dX9_law_14 (by decide) ?_ ?_
  · refine Zo_aload0 dX9_law_22 ?_
    refine Zo_getd fl_X9_73 kd_0 dX9_law_23 fun t3 ht3 => ?_
    refine Zo_astore2 rfl (zlt rfl) dX9_law_26 ?_
    refine Zo_aload0 dX9_law_27 ?_
    refine Zo_aload0 dX9_law_28 ?_
    refine Zo_getd fl_X9_77 kd_0 dX9_law_29 fun t4 ht4 => ?_
    refine Zo_putd ht4 fl_X9_73 kd_0 dX9_law_32 fun σ5 => ?_
    show Zo g _ _ _ 0 0 35 _ _ _
    refine Zo_aload0 dX9_law_35 ?_
    refine Zo_aload2 dX9_law_36 ?_
    refine Zo_putd ht3 fl_X9_77 kd_0 dX9_law_37 fun σ6 => ?_
    refine Zo_iconst (1 : Int32) dX9_law_40 ic_1 ?_
    exact Zo_iret dX9_law_41 rfl rfl (Nat.le_refl _) (Nat.le_refl _)
  · refine Zo_bipush (-100 : Int32) dX9_law_17 bp_m100 ?_
    refine Zo_iload1 dX9_law_19 ?_
    refine Zo_isub dX9_law_20 ?_
    exact Zo_iret dX9_law_21 rfl rfl (Nat.le_refl _) (Nat.le_refl _)
theorem e_X9_law (g : ZG) (σ : ZSt) : zEvS g 72 yX9_law cX9_law 3 (some .int) [.ref 0] σ (s_X9_law σ) :=
  zEvS_of 2 rfl rfl (z_X9_law g σ)
abbrev mX9_weeks (g : ZG) (q : Nat) : ZM := (yX9_weeks, cX9_weeks, 3, (some .int), zRm q 0 0, zTg g 0 0)
def s_X9_weeks (p0 : Int32) (p1 : Int32) (σ : ZSt) : Option (Int32 × ZSt) :=
  (s_X9_isWithin p0 (1 : Int32) (60 : Int32) σ).bind fun r1 => (if r1 = (0 : Int32) then (some ((-1 : Int32), σ))
    else ((s_X9_isWithin p1 (0 : Int32) (1 : Int32) σ).bind fun r2 => (if r2 = (0 : Int32) then (some ((-1 : Int32), σ))
      else ((s_X8_takeWays 19 σ).bind fun σ3 => ((zDyn (σ3.1 0 9)).bind fun t4 => ((s_X8_follow 19 t4 p0 σ3).bind fun σ5 => ((s_X8_settleAll 19 σ5).bind fun σ6 => (if p1 = (1 : Int32) then ((s_X8_leaveThemThere 19 σ6).bind fun σ8 => ((s_X8_somewhere 19 σ8).bind fun r9 => (some (r9, σ8))))
        else ((s_X8_somewhere 19 σ6).bind fun r7 => (some (r7, σ6)))))))))))
set_option maxHeartbeats 4000000 in
set_option maxRecDepth 100000 in
theorem z_X9_weeks (g : ZG) (p0 : Int32) (p1 : Int32) (σ : ZSt) : Zo g (mX9_weeks g 6) (fun b : Int32 × ZSt => (some (.int b.1), zw b.2)) (s_X9_weeks p0 p1 σ) 0 0 0 [some (.ref 0), some (.int p0), some (.int p1)] [] (zw σ) := by
  unfold s_X9_weeks
  refine Zo_iload1 dX9_weeks_0 ?_
  refine Zo_iconst (1 : Int32) dX9_weeks_1 ic_1 ?_
  refine Zo_bipush (60 : Int32) dX9_weeks_2 bp_60 ?_
  refine Zo_cSI3 lk_X9_80 (e_X9_isWithin g _ _ _ _) (zFit_rm (by decide)) (zle rfl) dX9_weeks_4 fun r1 => ?_
  refine Zo_ifeq 19 dX9_weeks_7 (by decide) ?_ ?_
  · refine Zo_iconst (-1 : Int32) dX9_weeks_19 ic_m1 ?_
    exact Zo_iret dX9_weeks_20 rfl rfl (Nat.le_refl _) (Nat.le_refl _)
  · refine Zo_iload2 dX9_weeks_10 ?_
    refine Zo_iconst (0 : Int32) dX9_weeks_11 ic_0 ?_
    refine Zo_iconst (1 : Int32) dX9_weeks_12 ic_1 ?_
    refine Zo_cSI3 lk_X9_80 (e_X9_isWithin g _ _ _ _) (zFit_rm (by decide)) (zle rfl) dX9_weeks_13 fun r2 => ?_
    refine Zo_ifne 21 dX9_weeks_16 (by decide) ?_ ?_
    · refine Zo_aload0 dX9_weeks_21 ?_
      refine Zo_getr (j := 19) fl_X9_35 kd_0 rfl dX9_weeks_22 ?_
      refine Zo_cVV0 lk_X9_198 (e_X8_takeWays g _ _ (Or.inl rfl)) kd_19 (zFit_rm (by decide)) (zle rfl) dX9_weeks_25 fun σ3 => ?_
      refine Zo_aload0 dX9_weeks_28 ?_
      refine Zo_getr (j := 19) fl_X9_35 kd_0 rfl dX9_weeks_29 ?_
      refine Zo_aload0 dX9_weeks_32 ?_
      refine Zo_getd fl_X9_73 kd_0 dX9_weeks_33 fun t4 ht4 => ?_
      show Zo g _ _ _ 0 0 36 _ _ _
      refine Zo_iload1 dX9_weeks_36 ?_
      refine Zo_cVV2 lk_X9_201 (e_X8_follow g _ _ _ _ (Or.inl rfl) ht4) kd_19 (zFit_rm (by decide)) (zle rfl) dX9_weeks_37 fun σ5 => ?_
      refine Zo_aload0 dX9_weeks_40 ?_
      refine Zo_getr (j := 19) fl_X9_35 kd_0 rfl dX9_weeks_41 ?_
      refine Zo_cVV0 lk_X9_205 (e_X8_settleAll g _ _ (Or.inl rfl)) kd_19 (zFit_rm (by decide)) (zle rfl) dX9_weeks_44 fun σ6 => ?_
      refine Zo_iload2 dX9_weeks_47 ?_
      refine Zo_iconst (1 : Int32) dX9_weeks_48 ic_1 ?_
      refine Zo_icmpne 59 dX9_weeks_49 (by decide) ?_ ?_
      · refine Zo_aload0 dX9_weeks_59 ?_
        refine Zo_getr (j := 19) fl_X9_35 kd_0 rfl dX9_weeks_60 ?_
        refine Zo_cVI0 lk_X9_211 (e_X8_somewhere g _ _ (Or.inl rfl)) kd_19 (zFit_rm (by decide)) (zle rfl) dX9_weeks_63 fun r7 => ?_
        exact Zo_iret dX9_weeks_66 rfl rfl (Nat.le_refl _) (Nat.le_refl _)
      · refine Zo_aload0 dX9_weeks_52 ?_
        refine Zo_getr (j := 19) fl_X9_35 kd_0 rfl dX9_weeks_53 ?_
        refine Zo_cVV0 lk_X9_208 (e_X8_leaveThemThere g _ _ (Or.inl rfl)) kd_19 (zFit_rm (by decide)) (zle rfl) dX9_weeks_56 fun σ8 => ?_
        refine Zo_aload0 dX9_weeks_59 ?_
        refine Zo_getr (j := 19) fl_X9_35 kd_0 rfl dX9_weeks_60 ?_
        refine Zo_cVI0 lk_X9_211 (e_X8_somewhere g _ _ (Or.inl rfl)) kd_19 (zFit_rm (by decide)) (zle rfl) dX9_weeks_63 fun r9 => ?_
        exact Zo_iret dX9_weeks_66 rfl rfl (Nat.le_refl _) (Nat.le_refl _)
    · refine Zo_iconst (-1 : Int32) dX9_weeks_19 ic_m1 ?_
      exact Zo_iret dX9_weeks_20 rfl rfl (Nat.le_refl _) (Nat.le_refl _)
theorem e_X9_weeks (g : ZG) (p0 : Int32) (p1 : Int32) (σ : ZSt) : zEvS g 6 yX9_weeks cX9_weeks 3 (some .int) [.ref 0, .int p0, .int p1] σ (s_X9_weeks p0 p1 σ) :=
  zEvS_of 0 rfl rfl (z_X9_weeks g p0 p1 σ)
abbrev mX9_week (g : ZG) (q : Nat) : ZM := (yX9_week, cX9_week, 3, (some .int), zRm q 0 0, zTg g 0 0)
def s_X9_week_C44 (l1 : Int32) (l2 : Int32) (σ : ZSt) : Option Int32 :=
  (s_X9_isWithin l2 (2 : Int32) (4 : Int32) σ).bind fun r1 => (if r1 = (0 : Int32) then (some (-2000000000 : Int32))
    else ((s_X8_knowsStreet 19 l1 σ).bind fun r2 => (if r2 = (0 : Int32) then (some (-2000000000 : Int32))
      else (if l2 = (2 : Int32) then ((s_X8_costOf 19 l1 σ).bind fun r5 => (some r5))
        else (if l2 = (3 : Int32) then ((s_X8_thereAt 19 l1 σ).bind fun r4 => (some r4))
          else ((s_X8_ledAt 19 l1 σ).bind fun r3 => (some r3)))))))
set_option maxHeartbeats 4000000 in
set_option maxRecDepth 100000 in
theorem z_X9_week_C44 (g : ZG) (l1 : Int32) (l2 : Int32) (σ : ZSt) : Zo g (mX9_week g 2) (fun b : Int32 => (some (.int b), zw σ)) (s_X9_week_C44 l1 l2 σ) 0 0 44 [some (.ref 0), some (.int l1), some (.int l2)] [] (zw σ) := by
  unfold s_X9_week_C44
  refine Zo_iload2 dX9_week_44 ?_
  refine Zo_iconst (2 : Int32) dX9_week_45 ic_2 ?_
  refine Zo_iconst (4 : Int32) dX9_week_46 ic_4 ?_
  refine Zo_cSI3 lk_X9_80 (e_X9_isWithin g _ _ _ _) (zFit_rm (by decide)) (zle rfl) dX9_week_47 fun r1 => ?_
  refine Zo_ifeq 64 dX9_week_50 (by decide) ?_ ?_
  · refine Zo_ldc rfl cw_X9_126 dX9_week_64 ?_
    exact Zo_iret dX9_week_66 rfl rfl (Nat.le_refl _) (Nat.le_refl _)
  · refine Zo_aload0 dX9_week_53 ?_
    refine Zo_getr (j := 19) fl_X9_35 kd_0 rfl dX9_week_54 ?_
    refine Zo_iload1 dX9_week_57 ?_
    refine Zo_cVI1 lk_X9_224 (e_X8_knowsStreet g _ _ _ (Or.inl rfl)) kd_19 (zFit_rm (by decide)) (zle rfl) dX9_week_58 fun r2 => ?_
    refine Zo_ifne 67 dX9_week_61 (by decide) ?_ ?_
    · refine Zo_iload2 dX9_week_67 ?_
      refine Zo_iconst (2 : Int32) dX9_week_68 ic_2 ?_
      refine Zo_icmpne 81 dX9_week_69 (by decide) ?_ ?_
      · refine Zo_iload2 dX9_week_81 ?_
        refine Zo_iconst (3 : Int32) dX9_week_82 ic_3 ?_
        refine Zo_icmpne 97 dX9_week_83 (by decide) ?_ ?_
        · refine Zo_aload0 dX9_week_97 ?_
          refine Zo_getr (j := 19) fl_X9_35 kd_0 rfl dX9_week_98 ?_
          refine Zo_iload1 dX9_week_101 ?_
          refine Zo_cVI1 lk_X9_233 (e_X8_ledAt g _ _ _ (Or.inl rfl)) kd_19 (zFit_rm (by decide)) (zle rfl) dX9_week_102 fun r3 => ?_
          exact Zo_iret dX9_week_105 rfl rfl (Nat.le_refl _) (Nat.le_refl _)
        · refine Zo_aload0 dX9_week_86 ?_
          refine Zo_getr (j := 19) fl_X9_35 kd_0 rfl dX9_week_87 ?_
          refine Zo_iload1 dX9_week_90 ?_
          refine Zo_cVI1 lk_X9_230 (e_X8_thereAt g _ _ _ (Or.inl rfl)) kd_19 (zFit_rm (by decide)) (zle rfl) dX9_week_91 fun r4 => ?_
          refine Zo_goto 105 dX9_week_94 (by decide) ?_
          exact Zo_iret dX9_week_105 rfl rfl (Nat.le_refl _) (Nat.le_refl _)
      · refine Zo_aload0 dX9_week_72 ?_
        refine Zo_getr (j := 19) fl_X9_35 kd_0 rfl dX9_week_73 ?_
        refine Zo_iload1 dX9_week_76 ?_
        refine Zo_cVI1 lk_X9_227 (e_X8_costOf g _ _ _ (Or.inl rfl)) kd_19 (zFit_rm (by decide)) (zle rfl) dX9_week_77 fun r5 => ?_
        exact Zo_iret dX9_week_80 rfl rfl (Nat.le_refl _) (Nat.le_refl _)
    · refine Zo_ldc rfl cw_X9_126 dX9_week_64 ?_
      exact Zo_iret dX9_week_66 rfl rfl (Nat.le_refl _) (Nat.le_refl _)
def s_X9_week (p0 : Int32) (p1 : Int32) (σ : ZSt) : Option Int32 :=
  (s_X9_isWithin p1 (0 : Int32) (1 : Int32) σ).bind fun r1 => (if r1 = (0 : Int32) then (s_X9_week_C44 p0 p1 σ)
    else ((s_X8_knowsPlayer 19 p0 σ).bind fun r2 => (if r2 = (0 : Int32) then (s_X9_week_C44 p0 p1 σ)
      else (if p1 = (0 : Int32) then ((s_X8_whereIs 19 p0 σ).bind fun r4 => (some r4))
        else ((s_X8_earnedBy 19 p0 σ).bind fun r3 => (some r3))))))
set_option maxHeartbeats 4000000 in
set_option maxRecDepth 100000 in
theorem z_X9_week (g : ZG) (p0 : Int32) (p1 : Int32) (σ : ZSt) : Zo g (mX9_week g 2) (fun b : Int32 => (some (.int b), zw σ)) (s_X9_week p0 p1 σ) 0 0 0 [some (.ref 0), some (.int p0), some (.int p1)] [] (zw σ) := by
  unfold s_X9_week
  refine Zo_iload2 dX9_week_0 ?_
  refine Zo_iconst (0 : Int32) dX9_week_1 ic_0 ?_
  refine Zo_iconst (1 : Int32) dX9_week_2 ic_1 ?_
  refine Zo_cSI3 lk_X9_80 (e_X9_isWithin g _ _ _ _) (zFit_rm (by decide)) (zle rfl) dX9_week_3 fun r1 => ?_
  refine Zo_ifeq 44 dX9_week_6 (by decide) ?_ ?_
  · exact z_X9_week_C44 g _ _ _ 
  · refine Zo_aload0 dX9_week_9 ?_
    refine Zo_getr (j := 19) fl_X9_35 kd_0 rfl dX9_week_10 ?_
    refine Zo_iload1 dX9_week_13 ?_
    refine Zo_cVI1 lk_X9_215 (e_X8_knowsPlayer g _ _ _ (Or.inl rfl)) kd_19 (zFit_rm (by decide)) (zle rfl) dX9_week_14 fun r2 => ?_
    refine Zo_ifeq 44 dX9_week_17 (by decide) ?_ ?_
    · exact z_X9_week_C44 g _ _ _ 
    · refine Zo_iload2 dX9_week_20 ?_
      refine Zo_ifne 35 dX9_week_21 (by decide) ?_ ?_
      · refine Zo_aload0 dX9_week_35 ?_
        refine Zo_getr (j := 19) fl_X9_35 kd_0 rfl dX9_week_36 ?_
        refine Zo_iload1 dX9_week_39 ?_
        refine Zo_cVI1 lk_X9_221 (e_X8_earnedBy g _ _ _ (Or.inl rfl)) kd_19 (zFit_rm (by decide)) (zle rfl) dX9_week_40 fun r3 => ?_
        exact Zo_iret dX9_week_43 rfl rfl (Nat.le_refl _) (Nat.le_refl _)
      · refine Zo_aload0 dX9_week_24 ?_
        refine Zo_getr (j := 19) fl_X9_35 kd_0 rfl dX9_week_25 ?_
        refine Zo_iload1 dX9_week_28 ?_
        refine Zo_cVI1 lk_X9_218 (e_X8_whereIs g _ _ _ (Or.inl rfl)) kd_19 (zFit_rm (by decide)) (zle rfl) dX9_week_29 fun r4 => ?_
        refine Zo_goto 43 dX9_week_32 (by decide) ?_
        exact Zo_iret dX9_week_43 rfl rfl (Nat.le_refl _) (Nat.le_refl _)
theorem e_X9_week (g : ZG) (p0 : Int32) (p1 : Int32) (σ : ZSt) : zEvI g 2 yX9_week cX9_week 3 (some .int) [.ref 0, .int p0, .int p1] σ (s_X9_week p0 p1 σ) :=
  zEvI_of 0 rfl rfl (z_X9_week g p0 p1 σ)
abbrev mX9_isThought (g : ZG) (q : Nat) : ZM := (yX9_isThought, cX9_isThought, 3, (some .boolean), zRm q 0 0, zTg g 0 0)
def s_X9_isThought (p0 : Int32) (p1 : Int32) (σ : ZSt) : Option Int32 :=
  (s_X7_isStreet p0 σ).bind fun r1 => (if r1 = (0 : Int32) then (some (0 : Int32))
    else ((s_X9_isWithin p1 (1 : Int32) (60 : Int32) σ).bind fun r2 => (if r2 = (0 : Int32) then (some (0 : Int32))
      else (some (1 : Int32)))))
set_option maxHeartbeats 4000000 in
set_option maxRecDepth 100000 in
theorem z_X9_isThought (g : ZG) (p0 : Int32) (p1 : Int32) (σ : ZSt) : Zo g (mX9_isThought g 1) (fun b : Int32 => (some (.int b), zw σ)) (s_X9_isThought p0 p1 σ) 0 0 0 [some (.ref 0), some (.int p0), some (.int p1)] [] (zw σ) := by
  unfold s_X9_isThought
  refine Zo_aload0 dX9_isThought_0 ?_
  refine Zo_getr (j := 1) fl_X9_10 kd_0 rfl dX9_isThought_1 ?_
  refine Zo_iload1 dX9_isThought_4 ?_
  refine Zo_cVI1 lk_X9_117 (e_X7_isStreet g _ _) kd_1 (zFit_rm (by decide)) (zle rfl) dX9_isThought_5 fun r1 => ?_
  refine Zo_ifeq 25 dX9_isThought_8 (by decide) ?_ ?_
  · refine Zo_iconst (0 : Int32) dX9_isThought_25 ic_0 ?_
    exact Zo_zret dX9_isThought_26 rfl rfl (Or.inl rfl) (Nat.le_refl _) (Nat.le_refl _)
  · refine Zo_iload2 dX9_isThought_11 ?_
    refine Zo_iconst (1 : Int32) dX9_isThought_12 ic_1 ?_
    refine Zo_bipush (60 : Int32) dX9_isThought_13 bp_60 ?_
    refine Zo_cSI3 lk_X9_80 (e_X9_isWithin g _ _ _ _) (zFit_rm (by decide)) (zle rfl) dX9_isThought_15 fun r2 => ?_
    refine Zo_ifeq 25 dX9_isThought_18 (by decide) ?_ ?_
    · refine Zo_iconst (0 : Int32) dX9_isThought_25 ic_0 ?_
      exact Zo_zret dX9_isThought_26 rfl rfl (Or.inl rfl) (Nat.le_refl _) (Nat.le_refl _)
    · refine Zo_iconst (1 : Int32) dX9_isThought_21 ic_1 ?_
      refine Zo_goto 26 dX9_isThought_22 (by decide) ?_
      exact Zo_zret dX9_isThought_26 rfl rfl (Or.inr rfl) (Nat.le_refl _) (Nat.le_refl _)
theorem e_X9_isThought (g : ZG) (p0 : Int32) (p1 : Int32) (σ : ZSt) : zEvI g 1 yX9_isThought cX9_isThought 3 (some .boolean) [.ref 0, .int p0, .int p1] σ (s_X9_isThought p0 p1 σ) :=
  zEvI_of 0 rfl rfl (z_X9_isThought g p0 p1 σ)
abbrev mX9_costInThought (g : ZG) (q : Nat) : ZM := (yX9_costInThought, cX9_costInThought, 5, (some .int), zRm q 0 0, zTg g 0 0)
def s_X9_costInThought (p0 : Int32) (p1 : Int32) (p2 : Int32) (p3 : Int32) (σ : ZSt) : Option (Int32 × ZSt) :=
  (s_X8_takeWays 30 σ).bind fun σ1 => ((s_X8_supposeWay 30 p0 p2 p3 σ1).bind fun σ2 => ((zDyn (σ2.1 0 9)).bind fun t3 => ((s_X8_follow 30 t3 p1 σ2).bind fun σ4 => ((s_X8_settleAll 30 σ4).bind fun σ5 => ((s_X8_costOf 30 p0 σ5).bind fun r6 => (some (r6, σ5)))))))
set_option maxHeartbeats 4000000 in
set_option maxRecDepth 100000 in
theorem z_X9_costInThought (g : ZG) (p0 : Int32) (p1 : Int32) (p2 : Int32) (p3 : Int32) (σ : ZSt) : Zo g (mX9_costInThought g 6) (fun b : Int32 × ZSt => (some (.int b.1), zw b.2)) (s_X9_costInThought p0 p1 p2 p3 σ) 0 0 0 [some (.ref 0), some (.int p0), some (.int p1), some (.int p2), some (.int p3)] [] (zw σ) := by
  unfold s_X9_costInThought
  refine Zo_aload0 dX9_costInThought_0 ?_
  refine Zo_getr (j := 30) fl_X9_39 kd_0 rfl dX9_costInThought_1 ?_
  refine Zo_cVV0 lk_X9_198 (e_X8_takeWays g _ _ (Or.inr rfl)) kd_30 (zFit_rm (by decide)) (zle rfl) dX9_costInThought_4 fun σ1 => ?_
  refine Zo_aload0 dX9_costInThought_7 ?_
  refine Zo_getr (j := 30) fl_X9_39 kd_0 rfl dX9_costInThought_8 ?_
  refine Zo_iload1 dX9_costInThought_11 ?_
  refine Zo_iload3 dX9_costInThought_12 ?_
  show Zo g _ _ _ 0 0 13 _ _ _
  refine Zo_iload4 dX9_costInThought_13 ?_
  refine Zo_cVV3 lk_X9_245 (e_X8_supposeWay g _ _ _ _ _ (Or.inr rfl)) kd_30 (zFit_rm (by decide)) (zle rfl) dX9_costInThought_15 fun σ2 => ?_
  refine Zo_aload0 dX9_costInThought_18 ?_
  refine Zo_getr (j := 30) fl_X9_39 kd_0 rfl dX9_costInThought_19 ?_
  refine Zo_aload0 dX9_costInThought_22 ?_
  refine Zo_getd fl_X9_73 kd_0 dX9_costInThought_23 fun t3 ht3 => ?_
  refine Zo_iload2 dX9_costInThought_26 ?_
  refine Zo_cVV2 lk_X9_201 (e_X8_follow g _ _ _ _ (Or.inr rfl) ht3) kd_30 (zFit_rm (by decide)) (zle rfl) dX9_costInThought_27 fun σ4 => ?_
  show Zo g _ _ _ 0 0 30 _ _ _
  refine Zo_aload0 dX9_costInThought_30 ?_
  refine Zo_getr (j := 30) fl_X9_39 kd_0 rfl dX9_costInThought_31 ?_
  refine Zo_cVV0 lk_X9_205 (e_X8_settleAll g _ _ (Or.inr rfl)) kd_30 (zFit_rm (by decide)) (zle rfl) dX9_costInThought_34 fun σ5 => ?_
  refine Zo_aload0 dX9_costInThought_37 ?_
  refine Zo_getr (j := 30) fl_X9_39 kd_0 rfl dX9_costInThought_38 ?_
  refine Zo_iload1 dX9_costInThought_41 ?_
  refine Zo_cVI1 lk_X9_227 (e_X8_costOf g _ _ _ (Or.inr rfl)) kd_30 (zFit_rm (by decide)) (zle rfl) dX9_costInThought_42 fun r6 => ?_
  exact Zo_iret dX9_costInThought_45 rfl rfl (Nat.le_refl _) (Nat.le_refl _)
theorem e_X9_costInThought (g : ZG) (p0 : Int32) (p1 : Int32) (p2 : Int32) (p3 : Int32) (σ : ZSt) : zEvS g 6 yX9_costInThought cX9_costInThought 5 (some .int) [.ref 0, .int p0, .int p1, .int p2, .int p3] σ (s_X9_costInThought p0 p1 p2 p3 σ) :=
  zEvS_of 0 rfl rfl (z_X9_costInThought g p0 p1 p2 p3 σ)
abbrev mX9_best (g : ZG) (q : Nat) : ZM := (yX9_best, cX9_best, 10, (some .int), zRm q 0 0, zTg g 0 0)
def s_X9_best_L59 (k31 : Int32 → Int32 → Int32 → ZSt → Option (Int32 × ZSt)) (l1 : Int32) (l2 : Int32) (l3 : Int32) (l6 : Int32) (l7 : Int32) : Nat → Int32 → Int32 → Int32 → ZSt → Option (Int32 × ZSt)
  | 0, _, _, _, _ => none
  | n + 1, l4, l5, l8, σ =>
    if l7 < l8 then (k31 l4 l5 (l6 + (1 : Int32)) σ)
      else ((s_X9_costInThought l1 l2 l6 l8 σ).bind fun r1 => (if l5 = (-2 : Int32) then (s_X9_best_L59 k31 l1 l2 l3 l6 l7 n r1.1 (((100 : Int32) * l6) + l8) (l8 + (10 : Int32)) r1.2)
        else (if l4 ≤ r1.1 then (s_X9_best_L59 k31 l1 l2 l3 l6 l7 n l4 l5 (l8 + (10 : Int32)) r1.2)
          else (s_X9_best_L59 k31 l1 l2 l3 l6 l7 n r1.1 (((100 : Int32) * l6) + l8) (l8 + (10 : Int32)) r1.2))))
set_option maxHeartbeats 4000000 in
set_option maxRecDepth 100000 in
theorem z_X9_best_L59 (g : ZG) (k31 : Int32 → Int32 → Int32 → ZSt → Option (Int32 × ZSt)) (l1 : Int32) (l2 : Int32) (l3 : Int32) (l6 : Int32) (l7 : Int32) (hk31 : ∀ (x4 : Int32) (x5 : Int32) (x6 : Int32) (σx : ZSt) (d7 d8 d9 : Option Value), Zo g (mX9_best g 7) (fun b : Int32 × ZSt => (some (.int b.1), zw b.2)) (k31 x4 x5 x6 σx) 0 0 31 [some (.ref 0), some (.int l1), some (.int l2), some (.int l3), some (.int x4), some (.int x5), some (.int x6), d7, d8, d9] [] (zw σx)) : ∀ (n : Nat) (l4 : Int32) (l5 : Int32) (l8 : Int32) (σ : ZSt) (o9 : Option Value), Zo g (mX9_best g 7) (fun b : Int32 × ZSt => (some (.int b.1), zw b.2)) (s_X9_best_L59 k31 l1 l2 l3 l6 l7 n l4 l5 l8 σ) 0 0 59 [some (.ref 0), some (.int l1), some (.int l2), some (.int l3), some (.int l4), some (.int l5), some (.int l6), some (.int l7), some (.int l8), o9] [] (zw σ) := by
  intro n
  induction n with
  | zero => intros; exact Zo_none
  | succ n ih =>
    intro l4 l5 l8 σ o9
    rw [s_X9_best_L59]
    refine Zo_iload8 dX9_best_59 ?_
    refine Zo_iload7 dX9_best_61 ?_
    refine Zo_icmpgt 112 dX9_best_63 (by decide) ?_ ?_
    · refine Zo_iinc6 rfl (1 : Int32) ic_1 (zlt rfl) dX9_best_112 ?_
      refine Zo_goto 31 dX9_best_115 (by decide) ?_
      exact hk31 _ _ _ _ _ _ _
    · refine Zo_aload0 dX9_best_66 ?_
      refine Zo_iload1 dX9_best_67 ?_
      refine Zo_iload2 dX9_best_68 ?_
      refine Zo_iload6 dX9_best_69 ?_
      refine Zo_iload8 dX9_best_71 ?_
      refine Zo_cVS4 lk_X9_239 (e_X9_costInThought g _ _ _ _ _) kd_0 (zFit_rm (by decide)) (zle rfl) dX9_best_73 fun r1 => ?_
      refine Zo_istore9 rfl (zlt rfl) dX9_best_76 ?_
      show Zo g _ _ _ 0 0 78 _ _ _
      refine Zo_iload5 dX9_best_78 ?_
      refine Zo_bipush (-2 : Int32) dX9_best_80 bp_m2 ?_
      refine Zo_icmpeq 92 dX9_best_82 (by decide) ?_ ?_
      · refine Zo_iload9 dX9_best_92 ?_
        refine Zo_istore4 rfl (zlt rfl) dX9_best_94 ?_
        refine Zo_bipush (100 : Int32) dX9_best_96 bp_100 ?_
        refine Zo_iload6 dX9_best_98 ?_
        refine Zo_imul dX9_best_100 ?_
        refine Zo_iload8 dX9_best_101 ?_
        refine Zo_iadd dX9_best_103 ?_
        show Zo g _ _ _ 0 0 104 _ _ _
        refine Zo_istore5 rfl (zlt rfl) dX9_best_104 ?_
        refine Zo_iinc8 rfl (10 : Int32) ic_10 (zlt rfl) dX9_best_106 ?_
        refine Zo_goto 59 dX9_best_109 (by decide) ?_
        exact ih _ _ _ _ _
      · refine Zo_iload9 dX9_best_85 ?_
        refine Zo_iload4 dX9_best_87 ?_
        refine Zo_icmpge 106 dX9_best_89 (by decide) ?_ ?_
        · refine Zo_iinc8 rfl (10 : Int32) ic_10 (zlt rfl) dX9_best_106 ?_
          refine Zo_goto 59 dX9_best_109 (by decide) ?_
          exact ih _ _ _ _ _
        · refine Zo_iload9 dX9_best_92 ?_
          refine Zo_istore4 rfl (zlt rfl) dX9_best_94 ?_
          refine Zo_bipush (100 : Int32) dX9_best_96 bp_100 ?_
          refine Zo_iload6 dX9_best_98 ?_
          refine Zo_imul dX9_best_100 ?_
          refine Zo_iload8 dX9_best_101 ?_
          refine Zo_iadd dX9_best_103 ?_
          show Zo g _ _ _ 0 0 104 _ _ _
          refine Zo_istore5 rfl (zlt rfl) dX9_best_104 ?_
          refine Zo_iinc8 rfl (10 : Int32) ic_10 (zlt rfl) dX9_best_106 ?_
          refine Zo_goto 59 dX9_best_109 (by decide) ?_
          exact ih _ _ _ _ _
def s_X9_best_C118 (l3 : Int32) (l4 : Int32) (l5 : Int32) (σ : ZSt) : Option (Int32 × ZSt) :=
  if l3 = (0 : Int32) then (some (l5, σ))
    else (some (l4, σ))
set_option maxHeartbeats 4000000 in
set_option maxRecDepth 100000 in
theorem z_X9_best_C118 (g : ZG) (l3 : Int32) (l4 : Int32) (l5 : Int32) (σ : ZSt) (o0 : Option Value) (o1 : Option Value) (o2 : Option Value) (o6 : Option Value) (o7 : Option Value) (o8 : Option Value) (o9 : Option Value) : Zo g (mX9_best g 7) (fun b : Int32 × ZSt => (some (.int b.1), zw b.2)) (s_X9_best_C118 l3 l4 l5 σ) 0 0 118 [o0, o1, o2, some (.int l3), some (.int l4), some (.int l5), o6, o7, o8, o9] [] (zw σ) := by
  unfold s_X9_best_C118
  refine Zo_iload3 dX9_best_118 ?_
  refine Zo_ifne 127 dX9_best_119 (by decide) ?_ ?_
  · refine Zo_iload4 dX9_best_127 ?_
    exact Zo_iret dX9_best_129 rfl rfl (Nat.le_refl _) (Nat.le_refl _)
  · refine Zo_iload5 dX9_best_122 ?_
    refine Zo_goto 129 dX9_best_124 (by decide) ?_
    exact Zo_iret dX9_best_129 rfl rfl (Nat.le_refl _) (Nat.le_refl _)
def s_X9_best_L31 (l1 : Int32) (l2 : Int32) (l3 : Int32) : Nat → Int32 → Int32 → Int32 → ZSt → Option (Int32 × ZSt)
  | 0, _, _, _, _ => none
  | n + 1, l4, l5, l6, σ =>
    if (4 : Int32) < l6 then (s_X9_best_C118 l3 l4 l5 σ)
      else (if l6 = (0 : Int32) then (s_X9_best_L59 (s_X9_best_L31 l1 l2 l3 n) l1 l2 l3 l6 (0 : Int32) 200 l4 l5 (0 : Int32) σ)
        else (if l6 = (3 : Int32) then (s_X9_best_L59 (s_X9_best_L31 l1 l2 l3 n) l1 l2 l3 l6 (0 : Int32) 200 l4 l5 (0 : Int32) σ)
          else (s_X9_best_L59 (s_X9_best_L31 l1 l2 l3 n) l1 l2 l3 l6 (90 : Int32) 200 l4 l5 (0 : Int32) σ)))
set_option maxHeartbeats 4000000 in
set_option maxRecDepth 100000 in
theorem z_X9_best_L31 (g : ZG) (l1 : Int32) (l2 : Int32) (l3 : Int32) : ∀ (n : Nat) (l4 : Int32) (l5 : Int32) (l6 : Int32) (σ : ZSt) (o7 o8 o9 : Option Value), Zo g (mX9_best g 7) (fun b : Int32 × ZSt => (some (.int b.1), zw b.2)) (s_X9_best_L31 l1 l2 l3 n l4 l5 l6 σ) 0 0 31 [some (.ref 0), some (.int l1), some (.int l2), some (.int l3), some (.int l4), some (.int l5), some (.int l6), o7, o8, o9] [] (zw σ) := by
  intro n
  induction n with
  | zero => intros; exact Zo_none
  | succ n ih =>
    intro l4 l5 l6 σ o7 o8 o9
    rw [s_X9_best_L31]
    refine Zo_iload6 dX9_best_31 ?_
    refine Zo_iconst (4 : Int32) dX9_best_33 ic_4 ?_
    refine Zo_icmpgt 118 dX9_best_34 (by decide) ?_ ?_
    · exact z_X9_best_C118 g _ _ _ _ _ _ _ _ _ _ _
    · refine Zo_iload6 dX9_best_37 ?_
      refine Zo_ifeq 48 dX9_best_39 (by decide) ?_ ?_
      · refine Zo_iconst (0 : Int32) dX9_best_48 ic_0 ?_
        refine Zo_goto 54 dX9_best_49 (by decide) ?_
        refine Zo_istore7 rfl (zlt rfl) dX9_best_54 ?_
        refine Zo_iconst (0 : Int32) dX9_best_56 ic_0 ?_
        refine Zo_istore8 rfl (zlt rfl) dX9_best_57 ?_
        exact z_X9_best_L59 g (s_X9_best_L31 l1 l2 l3 n) _ _ _ _ _ ih _ _ _ _ _ _
      · refine Zo_iload6 dX9_best_42 ?_
        refine Zo_iconst (3 : Int32) dX9_best_44 ic_3 ?_
        refine Zo_icmpne 52 dX9_best_45 (by decide) ?_ ?_
        · refine Zo_bipush (90 : Int32) dX9_best_52 bp_90 ?_
          refine Zo_istore7 rfl (zlt rfl) dX9_best_54 ?_
          refine Zo_iconst (0 : Int32) dX9_best_56 ic_0 ?_
          refine Zo_istore8 rfl (zlt rfl) dX9_best_57 ?_
          exact z_X9_best_L59 g (s_X9_best_L31 l1 l2 l3 n) _ _ _ _ _ ih _ _ _ _ _ _
        · refine Zo_iconst (0 : Int32) dX9_best_48 ic_0 ?_
          refine Zo_goto 54 dX9_best_49 (by decide) ?_
          refine Zo_istore7 rfl (zlt rfl) dX9_best_54 ?_
          refine Zo_iconst (0 : Int32) dX9_best_56 ic_0 ?_
          refine Zo_istore8 rfl (zlt rfl) dX9_best_57 ?_
          exact z_X9_best_L59 g (s_X9_best_L31 l1 l2 l3 n) _ _ _ _ _ ih _ _ _ _ _ _
def s_X9_best (p0 : Int32) (p1 : Int32) (p2 : Int32) (σ : ZSt) : Option (Int32 × ZSt) :=
  (s_X9_isThought p0 p1 σ).bind fun r1 => (if r1 = (0 : Int32) then (some ((-2000000000 : Int32), σ))
    else ((s_X9_isWithin p2 (0 : Int32) (1 : Int32) σ).bind fun r2 => (if r2 = (0 : Int32) then (some ((-2000000000 : Int32), σ))
      else (s_X9_best_L31 p0 p1 p2 200 (0 : Int32) (-2 : Int32) (0 : Int32) σ))))
set_option maxHeartbeats 4000000 in
set_option maxRecDepth 100000 in
theorem z_X9_best (g : ZG) (p0 : Int32) (p1 : Int32) (p2 : Int32) (σ : ZSt) : Zo g (mX9_best g 7) (fun b : Int32 × ZSt => (some (.int b.1), zw b.2)) (s_X9_best p0 p1 p2 σ) 0 0 0 [some (.ref 0), some (.int p0), some (.int p1), some (.int p2), none, none, none, none, none, none] [] (zw σ) := by
  unfold s_X9_best
  refine Zo_aload0 dX9_best_0 ?_
  refine Zo_iload1 dX9_best_1 ?_
  refine Zo_iload2 dX9_best_2 ?_
  refine Zo_cVI2 lk_X9_236 (e_X9_isThought g _ _ _) kd_0 (zFit_rm (by decide)) (zle rfl) dX9_best_3 fun r1 => ?_
  refine Zo_ifeq 18 dX9_best_6 (by decide) ?_ ?_
  · refine Zo_ldc rfl cw_X9_126 dX9_best_18 ?_
    exact Zo_iret dX9_best_20 rfl rfl (Nat.le_refl _) (Nat.le_refl _)
  · refine Zo_iload3 dX9_best_9 ?_
    refine Zo_iconst (0 : Int32) dX9_best_10 ic_0 ?_
    refine Zo_iconst (1 : Int32) dX9_best_11 ic_1 ?_
    refine Zo_cSI3 lk_X9_80 (e_X9_isWithin g _ _ _ _) (zFit_rm (by decide)) (zle rfl) dX9_best_12 fun r2 => ?_
    refine Zo_ifne 21 dX9_best_15 (by decide) ?_ ?_
    · refine Zo_iconst (0 : Int32) dX9_best_21 ic_0 ?_
      refine Zo_istore4 rfl (zlt rfl) dX9_best_22 ?_
      refine Zo_bipush (-2 : Int32) dX9_best_24 bp_m2 ?_
      refine Zo_istore5 rfl (zlt rfl) dX9_best_26 ?_
      refine Zo_iconst (0 : Int32) dX9_best_28 ic_0 ?_
      refine Zo_istore6 rfl (zlt rfl) dX9_best_29 ?_
      exact z_X9_best_L31 g _ _ _ _ _ _ _ _ _ _ _
    · refine Zo_ldc rfl cw_X9_126 dX9_best_18 ?_
      exact Zo_iret dX9_best_20 rfl rfl (Nat.le_refl _) (Nat.le_refl _)
theorem e_X9_best (g : ZG) (p0 : Int32) (p1 : Int32) (p2 : Int32) (σ : ZSt) : zEvS g 7 yX9_best cX9_best 10 (some .int) [.ref 0, .int p0, .int p1, .int p2] σ (s_X9_best p0 p1 p2 σ) :=
  zEvS_of 6 rfl rfl (z_X9_best g p0 p1 p2 σ)
abbrev mX9_thereInThought (g : ZG) (q : Nat) : ZM := (yX9_thereInThought, cX9_thereInThought, 5, (some .int), zRm q 0 0, zTg g 0 0)
def s_X9_thereInThought (p0 : Int32) (p1 : Int32) (p2 : Int32) (p3 : Int32) (σ : ZSt) : Option (Int32 × ZSt) :=
  (s_X8_takeWays 30 σ).bind fun σ1 => ((s_X8_supposeWay 30 p0 p2 p3 σ1).bind fun σ2 => ((zDyn (σ2.1 0 9)).bind fun t3 => ((s_X8_follow 30 t3 p1 σ2).bind fun σ4 => ((s_X8_thereAt 30 p0 σ4).bind fun r5 => (some (r5, σ4))))))
set_option maxHeartbeats 4000000 in
set_option maxRecDepth 100000 in
theorem z_X9_thereInThought (g : ZG) (p0 : Int32) (p1 : Int32) (p2 : Int32) (p3 : Int32) (σ : ZSt) : Zo g (mX9_thereInThought g 5) (fun b : Int32 × ZSt => (some (.int b.1), zw b.2)) (s_X9_thereInThought p0 p1 p2 p3 σ) 0 0 0 [some (.ref 0), some (.int p0), some (.int p1), some (.int p2), some (.int p3)] [] (zw σ) := by
  unfold s_X9_thereInThought
  refine Zo_aload0 dX9_thereInThought_0 ?_
  refine Zo_getr (j := 30) fl_X9_39 kd_0 rfl dX9_thereInThought_1 ?_
  refine Zo_cVV0 lk_X9_198 (e_X8_takeWays g _ _ (Or.inr rfl)) kd_30 (zFit_rm (by decide)) (zle rfl) dX9_thereInThought_4 fun σ1 => ?_
  refine Zo_aload0 dX9_thereInThought_7 ?_
  refine Zo_getr (j := 30) fl_X9_39 kd_0 rfl dX9_thereInThought_8 ?_
  refine Zo_iload1 dX9_thereInThought_11 ?_
  refine Zo_iload3 dX9_thereInThought_12 ?_
  show Zo g _ _ _ 0 0 13 _ _ _
  refine Zo_iload4 dX9_thereInThought_13 ?_
  refine Zo_cVV3 lk_X9_245 (e_X8_supposeWay g _ _ _ _ _ (Or.inr rfl)) kd_30 (zFit_rm (by decide)) (zle rfl) dX9_thereInThought_15 fun σ2 => ?_
  refine Zo_aload0 dX9_thereInThought_18 ?_
  refine Zo_getr (j := 30) fl_X9_39 kd_0 rfl dX9_thereInThought_19 ?_
  refine Zo_aload0 dX9_thereInThought_22 ?_
  refine Zo_getd fl_X9_73 kd_0 dX9_thereInThought_23 fun t3 ht3 => ?_
  refine Zo_iload2 dX9_thereInThought_26 ?_
  refine Zo_cVV2 lk_X9_201 (e_X8_follow g _ _ _ _ (Or.inr rfl) ht3) kd_30 (zFit_rm (by decide)) (zle rfl) dX9_thereInThought_27 fun σ4 => ?_
  show Zo g _ _ _ 0 0 30 _ _ _
  refine Zo_aload0 dX9_thereInThought_30 ?_
  refine Zo_getr (j := 30) fl_X9_39 kd_0 rfl dX9_thereInThought_31 ?_
  refine Zo_iload1 dX9_thereInThought_34 ?_
  refine Zo_cVI1 lk_X9_230 (e_X8_thereAt g _ _ _ (Or.inr rfl)) kd_30 (zFit_rm (by decide)) (zle rfl) dX9_thereInThought_35 fun r5 => ?_
  exact Zo_iret dX9_thereInThought_38 rfl rfl (Nat.le_refl _) (Nat.le_refl _)
theorem e_X9_thereInThought (g : ZG) (p0 : Int32) (p1 : Int32) (p2 : Int32) (p3 : Int32) (σ : ZSt) : zEvS g 5 yX9_thereInThought cX9_thereInThought 5 (some .int) [.ref 0, .int p0, .int p1, .int p2, .int p3] σ (s_X9_thereInThought p0 p1 p2 p3 σ) :=
  zEvS_of 0 rfl rfl (z_X9_thereInThought g p0 p1 p2 p3 σ)
abbrev mX9_called (g : ZG) (q : Nat) : ZM := (yX9_called, cX9_called, 4, (some .int), zRm q 0 0, zTg g 0 0)
def s_X9_called (p0 : Int32) (p1 : Int32) (σ : ZSt) : Option (Int32 × ZSt) :=
  (s_X9_isThought p0 p1 σ).bind fun r1 => (if r1 = (0 : Int32) then (some ((-2000000000 : Int32), σ))
    else ((s_X7_wayAndSum p0 σ).bind fun r2 => ((s_X9_thereInThought p0 p1 (r2 / (100 : Int32)) (zRem r2 (100 : Int32)) σ).bind fun r3 => ((s_X9_thereInThought p0 p1 (0 : Int32) (0 : Int32) r3.2).bind fun r4 => (some ((r3.1 - r4.1), r4.2))))))
set_option maxHeartbeats 4000000 in
set_option maxRecDepth 100000 in
theorem z_X9_called (g : ZG) (p0 : Int32) (p1 : Int32) (σ : ZSt) : Zo g (mX9_called g 6) (fun b : Int32 × ZSt => (some (.int b.1), zw b.2)) (s_X9_called p0 p1 σ) 0 0 0 [some (.ref 0), some (.int p0), some (.int p1), none] [] (zw σ) := by
  unfold s_X9_called
  refine Zo_aload0 dX9_called_0 ?_
  refine Zo_iload1 dX9_called_1 ?_
  refine Zo_iload2 dX9_called_2 ?_
  refine Zo_cVI2 lk_X9_236 (e_X9_isThought g _ _ _) kd_0 (zFit_rm (by decide)) (zle rfl) dX9_called_3 fun r1 => ?_
  refine Zo_ifne 12 dX9_called_6 (by decide) ?_ ?_
  · refine Zo_aload0 dX9_called_12 ?_
    refine Zo_getr (j := 1) fl_X9_10 kd_0 rfl dX9_called_13 ?_
    refine Zo_iload1 dX9_called_16 ?_
    refine Zo_cVI1 lk_X9_138 (e_X7_wayAndSum g _ _) kd_1 (zFit_rm (by decide)) (zle rfl) dX9_called_17 fun r2 => ?_
    refine Zo_istore3 rfl (zlt rfl) dX9_called_20 ?_
    refine Zo_aload0 dX9_called_21 ?_
    refine Zo_iload1 dX9_called_22 ?_
    show Zo g _ _ _ 0 0 23 _ _ _
    refine Zo_iload2 dX9_called_23 ?_
    refine Zo_iload3 dX9_called_24 ?_
    refine Zo_bipush (100 : Int32) dX9_called_25 bp_100 ?_
    refine Zo_idiv dX9_called_27 (by decide) ?_
    refine Zo_iload3 dX9_called_28 ?_
    refine Zo_bipush (100 : Int32) dX9_called_29 bp_100 ?_
    refine Zo_irem dX9_called_31 (by decide) ?_
    refine Zo_cVS4 lk_X9_242 (e_X9_thereInThought g _ _ _ _ _) kd_0 (zFit_rm (by decide)) (zle rfl) dX9_called_32 fun r3 => ?_
    show Zo g _ _ _ 0 0 35 _ _ _
    refine Zo_aload0 dX9_called_35 ?_
    refine Zo_iload1 dX9_called_36 ?_
    refine Zo_iload2 dX9_called_37 ?_
    refine Zo_iconst (0 : Int32) dX9_called_38 ic_0 ?_
    refine Zo_iconst (0 : Int32) dX9_called_39 ic_0 ?_
    refine Zo_cVS4 lk_X9_242 (e_X9_thereInThought g _ _ _ _ _) kd_0 (zFit_rm (by decide)) (zle rfl) dX9_called_40 fun r4 => ?_
    refine Zo_isub dX9_called_43 ?_
    exact Zo_iret dX9_called_44 rfl rfl (Nat.le_refl _) (Nat.le_refl _)
  · refine Zo_ldc rfl cw_X9_126 dX9_called_9 ?_
    exact Zo_iret dX9_called_11 rfl rfl (Nat.le_refl _) (Nat.le_refl _)
theorem e_X9_called (g : ZG) (p0 : Int32) (p1 : Int32) (σ : ZSt) : zEvS g 6 yX9_called cX9_called 4 (some .int) [.ref 0, .int p0, .int p1] σ (s_X9_called p0 p1 σ) :=
  zEvS_of 1 rfl rfl (z_X9_called g p0 p1 σ)
abbrev mX9_off (g : ZG) (q : Nat) : ZM := (yX9_off, cX9_off, 4, (some .int), zRm q 0 0, zTg g 0 0)
def s_X9_off_L13 (l1 : Int32) (l2 : Int32) : Nat → Int32 → ZSt → Option (Int32 × ZSt)
  | 0, _, _ => none
  | n + 1, l3, σ =>
    if (99 : Int32) < l3 then (some ((-2 : Int32), σ))
      else ((s_X9_thereInThought l1 l2 (2 : Int32) l3 σ).bind fun r1 => (if (1 : Int32) < r1.1 then (s_X9_off_L13 l1 l2 n (l3 + (1 : Int32)) r1.2)
        else (some (l3, r1.2))))
set_option maxHeartbeats 4000000 in
set_option maxRecDepth 100000 in
theorem z_X9_off_L13 (g : ZG) (l1 : Int32) (l2 : Int32) : ∀ (n : Nat) (l3 : Int32) (σ : ZSt), Zo g (mX9_off g 6) (fun b : Int32 × ZSt => (some (.int b.1), zw b.2)) (s_X9_off_L13 l1 l2 n l3 σ) 0 0 13 [some (.ref 0), some (.int l1), some (.int l2), some (.int l3)] [] (zw σ) := by
  intro n
  induction n with
  | zero => intros; exact Zo_none
  | succ n ih =>
    intro l3 σ
    rw [s_X9_off_L13]
    refine Zo_iload3 dX9_off_13 ?_
    refine Zo_bipush (99 : Int32) dX9_off_14 bp_99 ?_
    refine Zo_icmpgt 39 dX9_off_16 (by decide) ?_ ?_
    · refine Zo_bipush (-2 : Int32) dX9_off_39 bp_m2 ?_
      exact Zo_iret dX9_off_41 rfl rfl (Nat.le_refl _) (Nat.le_refl _)
    · refine Zo_aload0 dX9_off_19 ?_
      refine Zo_iload1 dX9_off_20 ?_
      refine Zo_iload2 dX9_off_21 ?_
      refine Zo_iconst (2 : Int32) dX9_off_22 ic_2 ?_
      refine Zo_iload3 dX9_off_23 ?_
      refine Zo_cVS4 lk_X9_242 (e_X9_thereInThought g _ _ _ _ _) kd_0 (zFit_rm (by decide)) (zle rfl) dX9_off_24 fun r1 => ?_
      refine Zo_iconst (1 : Int32) dX9_off_27 ic_1 ?_
      show Zo g _ _ _ 0 0 28 _ _ _
      refine Zo_icmpgt 33 dX9_off_28 (by decide) ?_ ?_
      · refine Zo_iinc3 rfl (1 : Int32) ic_1 (zlt rfl) dX9_off_33 ?_
        refine Zo_goto 13 dX9_off_36 (by decide) ?_
        exact ih _ _
      · refine Zo_iload3 dX9_off_31 ?_
        exact Zo_iret dX9_off_32 rfl rfl (Nat.le_refl _) (Nat.le_refl _)
def s_X9_off (p0 : Int32) (p1 : Int32) (σ : ZSt) : Option (Int32 × ZSt) :=
  (s_X9_isThought p0 p1 σ).bind fun r1 => (if r1 = (0 : Int32) then (some ((-1 : Int32), σ))
    else (s_X9_off_L13 p0 p1 200 (0 : Int32) σ))
set_option maxHeartbeats 4000000 in
set_option maxRecDepth 100000 in
theorem z_X9_off (g : ZG) (p0 : Int32) (p1 : Int32) (σ : ZSt) : Zo g (mX9_off g 6) (fun b : Int32 × ZSt => (some (.int b.1), zw b.2)) (s_X9_off p0 p1 σ) 0 0 0 [some (.ref 0), some (.int p0), some (.int p1), none] [] (zw σ) := by
  unfold s_X9_off
  refine Zo_aload0 dX9_off_0 ?_
  refine Zo_iload1 dX9_off_1 ?_
  refine Zo_iload2 dX9_off_2 ?_
  refine Zo_cVI2 lk_X9_236 (e_X9_isThought g _ _ _) kd_0 (zFit_rm (by decide)) (zle rfl) dX9_off_3 fun r1 => ?_
  refine Zo_ifne 11 dX9_off_6 (by decide) ?_ ?_
  · refine Zo_iconst (0 : Int32) dX9_off_11 ic_0 ?_
    refine Zo_istore3 rfl (zlt rfl) dX9_off_12 ?_
    exact z_X9_off_L13 g _ _ _ _ _
  · refine Zo_iconst (-1 : Int32) dX9_off_9 ic_m1 ?_
    exact Zo_iret dX9_off_10 rfl rfl (Nat.le_refl _) (Nat.le_refl _)
theorem e_X9_off (g : ZG) (p0 : Int32) (p1 : Int32) (σ : ZSt) : zEvS g 6 yX9_off cX9_off 4 (some .int) [.ref 0, .int p0, .int p1] σ (s_X9_off p0 p1 σ) :=
  zEvS_of 1 rfl rfl (z_X9_off g p0 p1 σ)
abbrev mX9_fund (g : ZG) (q : Nat) : ZM := (yX9_fund, cX9_fund, 4, (some .int), zRm q 0 0, zTg g 0 0)
def s_X9_fund (p0 : Int32) (p1 : Int32) (p2 : Int32) (σ : ZSt) : Option (Int32 × ZSt) :=
  (s_X9_isPair p0 σ).bind fun r1 => (if r1 = (0 : Int32) then (some ((-1 : Int32), σ))
    else ((s_X9_isWithin p1 (0 : Int32) (9999 : Int32) σ).bind fun r2 => (if r2 = (0 : Int32) then (some ((-1 : Int32), σ))
      else (if p2 < (-2 : Int32) then (some ((-1 : Int32), σ))
        else ((s_X7_windowsOf (zRem p0 (10 : Int32)) σ).bind fun r3 => (if p2 < r3 then ((s_X7_goodOf (p0 / (10 : Int32)) σ).bind fun r4 => ((s_X2_share (zRem p0 (10 : Int32)) r4 p1 σ).bind fun σ5 => (if p2 = (-1 : Int32) then ((s_X2_holds σ5).bind fun r8 => (if r8 = (0 : Int32) then (some ((0 : Int32), σ5))
              else (some ((1 : Int32), σ5))))
            else (if p2 = (-2 : Int32) then ((s_X2_unwilling σ5).bind fun r7 => (some (r7, σ5)))
              else ((s_X2_partOf p2 σ5).bind fun r6 => (some (r6, σ5)))))))
          else (some ((-1 : Int32), σ))))))))
set_option maxHeartbeats 4000000 in
set_option maxRecDepth 100000 in
theorem z_X9_fund (g : ZG) (p0 : Int32) (p1 : Int32) (p2 : Int32) (σ : ZSt) : Zo g (mX9_fund g 5) (fun b : Int32 × ZSt => (some (.int b.1), zw b.2)) (s_X9_fund p0 p1 p2 σ) 0 0 0 [some (.ref 0), some (.int p0), some (.int p1), some (.int p2)] [] (zw σ) := by
  unfold s_X9_fund
  refine Zo_aload0 dX9_fund_0 ?_
  refine Zo_iload1 dX9_fund_1 ?_
  refine Zo_cVI1 lk_X9_166 (e_X9_isPair g _ _) kd_0 (zFit_rm (by decide)) (zle rfl) dX9_fund_2 fun r1 => ?_
  refine Zo_ifeq 19 dX9_fund_5 (by decide) ?_ ?_
  · refine Zo_iconst (-1 : Int32) dX9_fund_19 ic_m1 ?_
    exact Zo_iret dX9_fund_20 rfl rfl (Nat.le_refl _) (Nat.le_refl _)
  · refine Zo_iload2 dX9_fund_8 ?_
    refine Zo_iconst (0 : Int32) dX9_fund_9 ic_0 ?_
    refine Zo_sipush (9999 : Int32) dX9_fund_10 sp_9999 ?_
    refine Zo_cSI3 lk_X9_80 (e_X9_isWithin g _ _ _ _) (zFit_rm (by decide)) (zle rfl) dX9_fund_13 fun r2 => ?_
    refine Zo_ifne 21 dX9_fund_16 (by decide) ?_ ?_
    · refine Zo_iload3 dX9_fund_21 ?_
      refine Zo_bipush (-2 : Int32) dX9_fund_22 bp_m2 ?_
      refine Zo_icmplt 42 dX9_fund_24 (by decide) ?_ ?_
      · refine Zo_iconst (-1 : Int32) dX9_fund_42 ic_m1 ?_
        exact Zo_iret dX9_fund_43 rfl rfl (Nat.le_refl _) (Nat.le_refl _)
      · refine Zo_iload3 dX9_fund_27 ?_
        refine Zo_aload0 dX9_fund_28 ?_
        refine Zo_getr (j := 1) fl_X9_10 kd_0 rfl dX9_fund_29 ?_
        refine Zo_iload1 dX9_fund_32 ?_
        refine Zo_bipush (10 : Int32) dX9_fund_33 bp_10 ?_
        refine Zo_irem dX9_fund_35 (by decide) ?_
        refine Zo_cVI1 lk_X9_248 (e_X7_windowsOf g _ _) kd_1 (zFit_rm (by decide)) (zle rfl) dX9_fund_36 fun r3 => ?_
        show Zo g _ _ _ 0 0 39 _ _ _
        refine Zo_icmplt 44 dX9_fund_39 (by decide) ?_ ?_
        · refine Zo_aload0 dX9_fund_44 ?_
          refine Zo_getr (j := 15) fl_X9_28 kd_0 rfl dX9_fund_45 ?_
          refine Zo_iload1 dX9_fund_48 ?_
          refine Zo_bipush (10 : Int32) dX9_fund_49 bp_10 ?_
          refine Zo_irem dX9_fund_51 (by decide) ?_
          refine Zo_aload0 dX9_fund_52 ?_
          refine Zo_getr (j := 1) fl_X9_10 kd_0 rfl dX9_fund_53 ?_
          show Zo g _ _ _ 0 0 56 _ _ _
          refine Zo_iload1 dX9_fund_56 ?_
          refine Zo_bipush (10 : Int32) dX9_fund_57 bp_10 ?_
          refine Zo_idiv dX9_fund_59 (by decide) ?_
          refine Zo_cVI1 lk_X9_160 (e_X7_goodOf g _ _) kd_1 (zFit_rm (by decide)) (zle rfl) dX9_fund_60 fun r4 => ?_
          refine Zo_iload2 dX9_fund_63 ?_
          refine Zo_cVV3 lk_X9_251 (e_X2_share g _ _ _ _) kd_15 (zFit_rm (by decide)) (zle rfl) dX9_fund_64 fun σ5 => ?_
          refine Zo_iload3 dX9_fund_67 ?_
          refine Zo_iconst (-1 : Int32) dX9_fund_68 ic_m1 ?_
          show Zo g _ _ _ 0 0 69 _ _ _
          refine Zo_icmpne 88 dX9_fund_69 (by decide) ?_ ?_
          · refine Zo_iload3 dX9_fund_88 ?_
            refine Zo_bipush (-2 : Int32) dX9_fund_89 bp_m2 ?_
            refine Zo_icmpne 102 dX9_fund_91 (by decide) ?_ ?_
            · refine Zo_aload0 dX9_fund_102 ?_
              refine Zo_getr (j := 15) fl_X9_28 kd_0 rfl dX9_fund_103 ?_
              refine Zo_iload3 dX9_fund_106 ?_
              refine Zo_cVI1 lk_X9_261 (e_X2_partOf g _ _) kd_15 (zFit_rm (by decide)) (zle rfl) dX9_fund_107 fun r6 => ?_
              exact Zo_iret dX9_fund_110 rfl rfl (Nat.le_refl _) (Nat.le_refl _)
            · refine Zo_aload0 dX9_fund_94 ?_
              refine Zo_getr (j := 15) fl_X9_28 kd_0 rfl dX9_fund_95 ?_
              refine Zo_cVI0 lk_X9_258 (e_X2_unwilling g _) kd_15 (zFit_rm (by decide)) (zle rfl) dX9_fund_98 fun r7 => ?_
              exact Zo_iret dX9_fund_101 rfl rfl (Nat.le_refl _) (Nat.le_refl _)
          · refine Zo_aload0 dX9_fund_72 ?_
            refine Zo_getr (j := 15) fl_X9_28 kd_0 rfl dX9_fund_73 ?_
            refine Zo_cVI0 lk_X9_254 (e_X2_holds g _) kd_15 (zFit_rm (by decide)) (zle rfl) dX9_fund_76 fun r8 => ?_
            refine Zo_ifeq 86 dX9_fund_79 (by decide) ?_ ?_
            · refine Zo_iconst (0 : Int32) dX9_fund_86 ic_0 ?_
              exact Zo_iret dX9_fund_87 rfl rfl (Nat.le_refl _) (Nat.le_refl _)
            · refine Zo_iconst (1 : Int32) dX9_fund_82 ic_1 ?_
              refine Zo_goto 87 dX9_fund_83 (by decide) ?_
              exact Zo_iret dX9_fund_87 rfl rfl (Nat.le_refl _) (Nat.le_refl _)
        · refine Zo_iconst (-1 : Int32) dX9_fund_42 ic_m1 ?_
          exact Zo_iret dX9_fund_43 rfl rfl (Nat.le_refl _) (Nat.le_refl _)
    · refine Zo_iconst (-1 : Int32) dX9_fund_19 ic_m1 ?_
      exact Zo_iret dX9_fund_20 rfl rfl (Nat.le_refl _) (Nat.le_refl _)
theorem e_X9_fund (g : ZG) (p0 : Int32) (p1 : Int32) (p2 : Int32) (σ : ZSt) : zEvS g 5 yX9_fund cX9_fund 4 (some .int) [.ref 0, .int p0, .int p1, .int p2] σ (s_X9_fund p0 p1 p2 σ) :=
  zEvS_of 0 rfl rfl (z_X9_fund g p0 p1 p2 σ)
abbrev mX9_fetch (g : ZG) (q : Nat) : ZM := (yX9_fetch, cX9_fetch, 6, (some .int), zRm q 0 0, zTg g 0 0)
def s_X9_fetch (p0 : Int32) (σ : ZSt) : Option Int32 :=
  (s_X9_isPair p0 σ).bind fun r1 => (if r1 = (0 : Int32) then (some (-1 : Int32))
    else ((s_X7_lawOfQuiet (zRem p0 (10 : Int32)) σ).bind fun r2 => ((s_X7_goodOf (p0 / (10 : Int32)) σ).bind fun r3 => ((s_X5_bargain (p0 / (10 : Int32)) (zRem p0 (10 : Int32)) r3 σ).bind fun r4 => (if r2 = (0 : Int32) then (some (-2 : Int32))
      else (if r4 = (-2 : Int32) then (some (-2 : Int32))
        else (if r4 ≤ r2 then (some (0 : Int32))
          else (some (1 : Int32)))))))))
set_option maxHeartbeats 4000000 in
set_option maxRecDepth 100000 in
theorem z_X9_fetch (g : ZG) (p0 : Int32) (σ : ZSt) : Zo g (mX9_fetch g 5) (fun b : Int32 => (some (.int b), zw σ)) (s_X9_fetch p0 σ) 0 0 0 [some (.ref 0), some (.int p0), none, none, none, none] [] (zw σ) := by
  unfold s_X9_fetch
  refine Zo_aload0 dX9_fetch_0 ?_
  refine Zo_iload1 dX9_fetch_1 ?_
  refine Zo_cVI1 lk_X9_166 (e_X9_isPair g _ _) kd_0 (zFit_rm (by decide)) (zle rfl) dX9_fetch_2 fun r1 => ?_
  refine Zo_ifne 10 dX9_fetch_5 (by decide) ?_ ?_
  · refine Zo_iload1 dX9_fetch_10 ?_
    refine Zo_bipush (10 : Int32) dX9_fetch_11 bp_10 ?_
    refine Zo_idiv dX9_fetch_13 (by decide) ?_
    refine Zo_istore2 rfl (zlt rfl) dX9_fetch_14 ?_
    refine Zo_iload1 dX9_fetch_15 ?_
    refine Zo_bipush (10 : Int32) dX9_fetch_16 bp_10 ?_
    refine Zo_irem dX9_fetch_18 (by decide) ?_
    show Zo g _ _ _ 0 0 19 _ _ _
    refine Zo_istore3 rfl (zlt rfl) dX9_fetch_19 ?_
    refine Zo_aload0 dX9_fetch_20 ?_
    refine Zo_getr (j := 1) fl_X9_10 kd_0 rfl dX9_fetch_21 ?_
    refine Zo_iload3 dX9_fetch_24 ?_
    refine Zo_cVI1 lk_X9_264 (e_X7_lawOfQuiet g _ _) kd_1 (zFit_rm (by decide)) (zle rfl) dX9_fetch_25 fun r2 => ?_
    refine Zo_istore4 rfl (zlt rfl) dX9_fetch_28 ?_
    refine Zo_aload0 dX9_fetch_30 ?_
    refine Zo_getr (j := 14) fl_X9_21 kd_0 rfl dX9_fetch_31 ?_
    show Zo g _ _ _ 0 0 34 _ _ _
    refine Zo_iload2 dX9_fetch_34 ?_
    refine Zo_iload3 dX9_fetch_35 ?_
    refine Zo_aload0 dX9_fetch_36 ?_
    refine Zo_getr (j := 1) fl_X9_10 kd_0 rfl dX9_fetch_37 ?_
    refine Zo_iload2 dX9_fetch_40 ?_
    refine Zo_cVI1 lk_X9_160 (e_X7_goodOf g _ _) kd_1 (zFit_rm (by decide)) (zle rfl) dX9_fetch_41 fun r3 => ?_
    refine Zo_cVI3 lk_X9_178 (e_X5_bargain g _ _ _ _) kd_14 (zFit_rm (by decide)) (zle rfl) dX9_fetch_44 fun r4 => ?_
    refine Zo_istore5 rfl (zlt rfl) dX9_fetch_47 ?_
    show Zo g _ _ _ 0 0 49 _ _ _
    refine Zo_iload4 dX9_fetch_49 ?_
    refine Zo_ifeq 61 dX9_fetch_51 (by decide) ?_ ?_
    · refine Zo_bipush (-2 : Int32) dX9_fetch_61 bp_m2 ?_
      exact Zo_iret dX9_fetch_63 rfl rfl (Nat.le_refl _) (Nat.le_refl _)
    · refine Zo_iload5 dX9_fetch_54 ?_
      refine Zo_bipush (-2 : Int32) dX9_fetch_56 bp_m2 ?_
      refine Zo_icmpne 64 dX9_fetch_58 (by decide) ?_ ?_
      · refine Zo_iload4 dX9_fetch_64 ?_
        refine Zo_iload5 dX9_fetch_66 ?_
        refine Zo_icmpge 75 dX9_fetch_68 (by decide) ?_ ?_
        · refine Zo_iconst (0 : Int32) dX9_fetch_75 ic_0 ?_
          exact Zo_iret dX9_fetch_76 rfl rfl (Nat.le_refl _) (Nat.le_refl _)
        · refine Zo_iconst (1 : Int32) dX9_fetch_71 ic_1 ?_
          refine Zo_goto 76 dX9_fetch_72 (by decide) ?_
          exact Zo_iret dX9_fetch_76 rfl rfl (Nat.le_refl _) (Nat.le_refl _)
      · refine Zo_bipush (-2 : Int32) dX9_fetch_61 bp_m2 ?_
        exact Zo_iret dX9_fetch_63 rfl rfl (Nat.le_refl _) (Nat.le_refl _)
  · refine Zo_iconst (-1 : Int32) dX9_fetch_8 ic_m1 ?_
    exact Zo_iret dX9_fetch_9 rfl rfl (Nat.le_refl _) (Nat.le_refl _)
theorem e_X9_fetch (g : ZG) (p0 : Int32) (σ : ZSt) : zEvI g 5 yX9_fetch cX9_fetch 6 (some .int) [.ref 0, .int p0] σ (s_X9_fetch p0 σ) :=
  zEvI_of 4 rfl rfl (z_X9_fetch g p0 σ)
abbrev mX9_worse (g : ZG) (q : Nat) : ZM := (yX9_worse, cX9_worse, 6, (some .int), zRm q 0 0, zTg g 0 0)
def s_X9_worse_L19 (l1 : Int32) (σ : ZSt) : Nat → Int32 → Int32 → Int32 → Option Int32
  | 0, _, _, _ => none
  | n + 1, l2, l3, l4 =>
    if (10 : Int32) < l4 then (some l3)
      else ((s_X5_bargain (l1 / (10 : Int32)) (zRem l1 (10 : Int32)) l4 σ).bind fun r1 => (if r1 ≤ l2 then (s_X9_worse_L19 l1 σ n l2 l3 (l4 + (1 : Int32)))
        else (s_X9_worse_L19 l1 σ n r1 l4 (l4 + (1 : Int32)))))
set_option maxHeartbeats 4000000 in
set_option maxRecDepth 100000 in
theorem z_X9_worse_L19 (g : ZG) (l1 : Int32) (σ : ZSt) : ∀ (n : Nat) (l2 : Int32) (l3 : Int32) (l4 : Int32) (o5 : Option Value), Zo g (mX9_worse g 5) (fun b : Int32 => (some (.int b), zw σ)) (s_X9_worse_L19 l1 σ n l2 l3 l4) 0 0 19 [some (.ref 0), some (.int l1), some (.int l2), some (.int l3), some (.int l4), o5] [] (zw σ) := by
  intro n
  induction n with
  | zero => intros; exact Zo_none
  | succ n ih =>
    intro l2 l3 l4 o5
    rw [s_X9_worse_L19]
    refine Zo_iload4 dX9_worse_19 ?_
    refine Zo_bipush (10 : Int32) dX9_worse_21 bp_10 ?_
    refine Zo_icmpgt 63 dX9_worse_23 (by decide) ?_ ?_
    · refine Zo_iload3 dX9_worse_63 ?_
      exact Zo_iret dX9_worse_64 rfl rfl (Nat.le_refl _) (Nat.le_refl _)
    · refine Zo_aload0 dX9_worse_26 ?_
      refine Zo_getr (j := 14) fl_X9_21 kd_0 rfl dX9_worse_27 ?_
      refine Zo_iload1 dX9_worse_30 ?_
      refine Zo_bipush (10 : Int32) dX9_worse_31 bp_10 ?_
      refine Zo_idiv dX9_worse_33 (by decide) ?_
      refine Zo_iload1 dX9_worse_34 ?_
      refine Zo_bipush (10 : Int32) dX9_worse_35 bp_10 ?_
      show Zo g _ _ _ 0 0 37 _ _ _
      refine Zo_irem dX9_worse_37 (by decide) ?_
      refine Zo_iload4 dX9_worse_38 ?_
      refine Zo_cVI3 lk_X9_178 (e_X5_bargain g _ _ _ _) kd_14 (zFit_rm (by decide)) (zle rfl) dX9_worse_40 fun r1 => ?_
      refine Zo_istore5 rfl (zlt rfl) dX9_worse_43 ?_
      refine Zo_iload5 dX9_worse_45 ?_
      refine Zo_iload2 dX9_worse_47 ?_
      refine Zo_icmple 57 dX9_worse_48 (by decide) ?_ ?_
      · refine Zo_iinc4 rfl (1 : Int32) ic_1 (zlt rfl) dX9_worse_57 ?_
        refine Zo_goto 19 dX9_worse_60 (by decide) ?_
        exact ih _ _ _ _
      · refine Zo_iload5 dX9_worse_51 ?_
        refine Zo_istore2 rfl (zlt rfl) dX9_worse_53 ?_
        refine Zo_iload4 dX9_worse_54 ?_
        refine Zo_istore3 rfl (zlt rfl) dX9_worse_56 ?_
        refine Zo_iinc4 rfl (1 : Int32) ic_1 (zlt rfl) dX9_worse_57 ?_
        refine Zo_goto 19 dX9_worse_60 (by decide) ?_
        exact ih _ _ _ _
def s_X9_worse (p0 : Int32) (σ : ZSt) : Option Int32 :=
  (s_X9_isPair p0 σ).bind fun r1 => (if r1 = (0 : Int32) then (some (-1 : Int32))
    else (s_X9_worse_L19 p0 σ 200 (-2 : Int32) (-2 : Int32) (0 : Int32)))
set_option maxHeartbeats 4000000 in
set_option maxRecDepth 100000 in
theorem z_X9_worse (g : ZG) (p0 : Int32) (σ : ZSt) : Zo g (mX9_worse g 5) (fun b : Int32 => (some (.int b), zw σ)) (s_X9_worse p0 σ) 0 0 0 [some (.ref 0), some (.int p0), none, none, none, none] [] (zw σ) := by
  unfold s_X9_worse
  refine Zo_aload0 dX9_worse_0 ?_
  refine Zo_iload1 dX9_worse_1 ?_
  refine Zo_cVI1 lk_X9_166 (e_X9_isPair g _ _) kd_0 (zFit_rm (by decide)) (zle rfl) dX9_worse_2 fun r1 => ?_
  refine Zo_ifne 10 dX9_worse_5 (by decide) ?_ ?_
  · refine Zo_bipush (-2 : Int32) dX9_worse_10 bp_m2 ?_
    refine Zo_istore2 rfl (zlt rfl) dX9_worse_12 ?_
    refine Zo_bipush (-2 : Int32) dX9_worse_13 bp_m2 ?_
    refine Zo_istore3 rfl (zlt rfl) dX9_worse_15 ?_
    refine Zo_iconst (0 : Int32) dX9_worse_16 ic_0 ?_
    refine Zo_istore4 rfl (zlt rfl) dX9_worse_17 ?_
    exact z_X9_worse_L19 g _ _ _ _ _ _ _
  · refine Zo_iconst (-1 : Int32) dX9_worse_8 ic_m1 ?_
    exact Zo_iret dX9_worse_9 rfl rfl (Nat.le_refl _) (Nat.le_refl _)
theorem e_X9_worse (g : ZG) (p0 : Int32) (σ : ZSt) : zEvI g 5 yX9_worse cX9_worse 6 (some .int) [.ref 0, .int p0] σ (s_X9_worse p0 σ) :=
  zEvI_of 4 rfl rfl (z_X9_worse g p0 σ)
abbrev mX9_lovers (g : ZG) (q : Nat) : ZM := (yX9_lovers, cX9_lovers, 6, (some .int), zRm q 0 0, zTg g 0 0)
def s_X9_lovers (p0 : Int32) (p1 : Int32) (σ : ZSt) : Option Int32 :=
  (s_X9_isPair p0 σ).bind fun r1 => (if r1 = (0 : Int32) then (some (-1 : Int32))
    else ((s_X9_isWithin p1 (0 : Int32) (1 : Int32) σ).bind fun r2 => (if r2 = (0 : Int32) then (some (-1 : Int32))
      else ((s_X7_goodOf (p0 / (10 : Int32)) σ).bind fun r3 => ((s_X7_most (zRem p0 (10 : Int32)) r3 σ).bind fun r4 => ((s_X7_goodOf (p0 / (10 : Int32)) σ).bind fun r5 => ((s_X7_harmOfStreet (zRem p0 (10 : Int32)) r5 σ).bind fun r6 => (if p1 = (0 : Int32) then (some (r4 - r6))
        else ((s_X7_least (p0 / (10 : Int32)) (zRem p0 (10 : Int32)) σ).bind fun r7 => (if (r4 - r6) < r7 then (some (0 : Int32))
          else (some (1 : Int32))))))))))))
set_option maxHeartbeats 4000000 in
set_option maxRecDepth 100000 in
theorem z_X9_lovers (g : ZG) (p0 : Int32) (p1 : Int32) (σ : ZSt) : Zo g (mX9_lovers g 4) (fun b : Int32 => (some (.int b), zw σ)) (s_X9_lovers p0 p1 σ) 0 0 0 [some (.ref 0), some (.int p0), some (.int p1), none, none, none] [] (zw σ) := by
  unfold s_X9_lovers
  refine Zo_aload0 dX9_lovers_0 ?_
  refine Zo_iload1 dX9_lovers_1 ?_
  refine Zo_cVI1 lk_X9_166 (e_X9_isPair g _ _) kd_0 (zFit_rm (by decide)) (zle rfl) dX9_lovers_2 fun r1 => ?_
  refine Zo_ifeq 17 dX9_lovers_5 (by decide) ?_ ?_
  · refine Zo_iconst (-1 : Int32) dX9_lovers_17 ic_m1 ?_
    exact Zo_iret dX9_lovers_18 rfl rfl (Nat.le_refl _) (Nat.le_refl _)
  · refine Zo_iload2 dX9_lovers_8 ?_
    refine Zo_iconst (0 : Int32) dX9_lovers_9 ic_0 ?_
    refine Zo_iconst (1 : Int32) dX9_lovers_10 ic_1 ?_
    refine Zo_cSI3 lk_X9_80 (e_X9_isWithin g _ _ _ _) (zFit_rm (by decide)) (zle rfl) dX9_lovers_11 fun r2 => ?_
    refine Zo_ifne 19 dX9_lovers_14 (by decide) ?_ ?_
    · refine Zo_iload1 dX9_lovers_19 ?_
      refine Zo_bipush (10 : Int32) dX9_lovers_20 bp_10 ?_
      refine Zo_idiv dX9_lovers_22 (by decide) ?_
      refine Zo_istore3 rfl (zlt rfl) dX9_lovers_23 ?_
      refine Zo_iload1 dX9_lovers_24 ?_
      refine Zo_bipush (10 : Int32) dX9_lovers_25 bp_10 ?_
      refine Zo_irem dX9_lovers_27 (by decide) ?_
      show Zo g _ _ _ 0 0 28 _ _ _
      refine Zo_istore4 rfl (zlt rfl) dX9_lovers_28 ?_
      refine Zo_aload0 dX9_lovers_30 ?_
      refine Zo_getr (j := 1) fl_X9_10 kd_0 rfl dX9_lovers_31 ?_
      refine Zo_iload4 dX9_lovers_34 ?_
      refine Zo_aload0 dX9_lovers_36 ?_
      refine Zo_getr (j := 1) fl_X9_10 kd_0 rfl dX9_lovers_37 ?_
      refine Zo_iload3 dX9_lovers_40 ?_
      refine Zo_cVI1 lk_X9_160 (e_X7_goodOf g _ _) kd_1 (zFit_rm (by decide)) (zle rfl) dX9_lovers_41 fun r3 => ?_
      show Zo g _ _ _ 0 0 44 _ _ _
      refine Zo_cVI2 lk_X9_175 (e_X7_most g _ _ _) kd_1 (zFit_rm (by decide)) (zle rfl) dX9_lovers_44 fun r4 => ?_
      refine Zo_aload0 dX9_lovers_47 ?_
      refine Zo_getr (j := 1) fl_X9_10 kd_0 rfl dX9_lovers_48 ?_
      refine Zo_iload4 dX9_lovers_51 ?_
      refine Zo_aload0 dX9_lovers_53 ?_
      refine Zo_getr (j := 1) fl_X9_10 kd_0 rfl dX9_lovers_54 ?_
      refine Zo_iload3 dX9_lovers_57 ?_
      refine Zo_cVI1 lk_X9_160 (e_X7_goodOf g _ _) kd_1 (zFit_rm (by decide)) (zle rfl) dX9_lovers_58 fun r5 => ?_
      show Zo g _ _ _ 0 0 61 _ _ _
      refine Zo_cVI2 lk_X9_169 (e_X7_harmOfStreet g _ _ _) kd_1 (zFit_rm (by decide)) (zle rfl) dX9_lovers_61 fun r6 => ?_
      refine Zo_isub dX9_lovers_64 ?_
      refine Zo_istore5 rfl (zlt rfl) dX9_lovers_65 ?_
      refine Zo_iload2 dX9_lovers_67 ?_
      refine Zo_ifne 74 dX9_lovers_68 (by decide) ?_ ?_
      · refine Zo_iload5 dX9_lovers_74 ?_
        refine Zo_aload0 dX9_lovers_76 ?_
        refine Zo_getr (j := 1) fl_X9_10 kd_0 rfl dX9_lovers_77 ?_
        refine Zo_iload3 dX9_lovers_80 ?_
        refine Zo_iload4 dX9_lovers_81 ?_
        refine Zo_cVI2 lk_X9_172 (e_X7_least g _ _ _) kd_1 (zFit_rm (by decide)) (zle rfl) dX9_lovers_83 fun r7 => ?_
        refine Zo_icmplt 93 dX9_lovers_86 (by decide) ?_ ?_
        · refine Zo_iconst (0 : Int32) dX9_lovers_93 ic_0 ?_
          exact Zo_iret dX9_lovers_94 rfl rfl (Nat.le_refl _) (Nat.le_refl _)
        · refine Zo_iconst (1 : Int32) dX9_lovers_89 ic_1 ?_
          refine Zo_goto 94 dX9_lovers_90 (by decide) ?_
          exact Zo_iret dX9_lovers_94 rfl rfl (Nat.le_refl _) (Nat.le_refl _)
      · refine Zo_iload5 dX9_lovers_71 ?_
        exact Zo_iret dX9_lovers_73 rfl rfl (Nat.le_refl _) (Nat.le_refl _)
    · refine Zo_iconst (-1 : Int32) dX9_lovers_17 ic_m1 ?_
      exact Zo_iret dX9_lovers_18 rfl rfl (Nat.le_refl _) (Nat.le_refl _)
theorem e_X9_lovers (g : ZG) (p0 : Int32) (p1 : Int32) (σ : ZSt) : zEvI g 4 yX9_lovers cX9_lovers 6 (some .int) [.ref 0, .int p0, .int p1] σ (s_X9_lovers p0 p1 σ) :=
  zEvI_of 3 rfl rfl (z_X9_lovers g p0 p1 σ)
abbrev mX9_judge (g : ZG) (q : Nat) : ZM := (yX9_judge, cX9_judge, 1, (some .int), zRm q 0 0, zTg g 0 0)
def s_X9_judge (σ : ZSt) : Option Int32 :=
  (s_X7_firstBeyondItsPurses σ).bind fun r1 => (some r1)
set_option maxHeartbeats 4000000 in
set_option maxRecDepth 100000 in
theorem z_X9_judge (g : ZG) (σ : ZSt) : Zo g (mX9_judge g 3) (fun b : Int32 => (some (.int b), zw σ)) (s_X9_judge σ) 0 0 0 [some (.ref 0)] [] (zw σ) := by
  unfold s_X9_judge
  refine Zo_aload0 dX9_judge_0 ?_
  refine Zo_getr (j := 1) fl_X9_10 kd_0 rfl dX9_judge_1 ?_
  refine Zo_cVI0 lk_X9_267 (e_X7_firstBeyondItsPurses g _) kd_1 (zFit_rm (by decide)) (zle rfl) dX9_judge_4 fun r1 => ?_
  exact Zo_iret dX9_judge_7 rfl rfl (Nat.le_refl _) (Nat.le_refl _)
theorem e_X9_judge (g : ZG) (σ : ZSt) : zEvI g 3 yX9_judge cX9_judge 1 (some .int) [.ref 0] σ (s_X9_judge σ) :=
  zEvI_of 0 rfl rfl (z_X9_judge g σ)
abbrev mX9_undo (g : ZG) (q : Nat) : ZM := (yX9_undo, cX9_undo, 2, (some .int), zRm q 0 0, zTg g 0 0)
def s_X9_undo (σ : ZSt) : Option (Int32 × ZSt) :=
  (s_X1_stepBack σ).bind fun r1 => (if (0 : Int32) ≤ r1.1 then ((s_X1_numberOf r1.1 r1.2).bind fun r2 => ((s_X1_whatOf r1.1 r1.2).bind fun r3 => ((s_X1_beforeOf r1.1 r1.2).bind fun r4 => ((s_X7_tell r2 r3 r4 r1.2).bind fun σ5 => ((s_X1_undoable σ5).bind fun r6 => (some (r6, σ5)))))))
    else (some ((-5 : Int32), r1.2)))
set_option maxHeartbeats 4000000 in
set_option maxRecDepth 100000 in
theorem z_X9_undo (g : ZG) (σ : ZSt) : Zo g (mX9_undo g 2) (fun b : Int32 × ZSt => (some (.int b.1), zw b.2)) (s_X9_undo σ) 0 0 0 [some (.ref 0), none] [] (zw σ) := by
  unfold s_X9_undo
  refine Zo_aload0 dX9_undo_0 ?_
  refine Zo_getr (j := 41) fl_X9_45 kd_0 rfl dX9_undo_1 ?_
  refine Zo_cVS0 lk_X9_270 (e_X1_stepBack g _) kd_41 (zFit_rm (by decide)) (zle rfl) dX9_undo_4 fun r1 => ?_
  refine Zo_istore1 rfl (zlt rfl) dX9_undo_7 ?_
  refine Zo_iload1 dX9_undo_8 ?_
  refine Zo_ifge 15 dX9_undo_9 (by decide) ?_ ?_
  · refine Zo_aload0 dX9_undo_15 ?_
    refine Zo_getr (j := 1) fl_X9_10 kd_0 rfl dX9_undo_16 ?_
    refine Zo_aload0 dX9_undo_19 ?_
    refine Zo_getr (j := 41) fl_X9_45 kd_0 rfl dX9_undo_20 ?_
    refine Zo_iload1 dX9_undo_23 ?_
    refine Zo_cVI1 lk_X9_273 (e_X1_numberOf g _ _) kd_41 (zFit_rm (by decide)) (zle rfl) dX9_undo_24 fun r2 => ?_
    refine Zo_aload0 dX9_undo_27 ?_
    show Zo g _ _ _ 0 0 28 _ _ _
    refine Zo_getr (j := 41) fl_X9_45 kd_0 rfl dX9_undo_28 ?_
    refine Zo_iload1 dX9_undo_31 ?_
    refine Zo_cVI1 lk_X9_276 (e_X1_whatOf g _ _) kd_41 (zFit_rm (by decide)) (zle rfl) dX9_undo_32 fun r3 => ?_
    refine Zo_aload0 dX9_undo_35 ?_
    refine Zo_getr (j := 41) fl_X9_45 kd_0 rfl dX9_undo_36 ?_
    refine Zo_iload1 dX9_undo_39 ?_
    refine Zo_cVI1 lk_X9_279 (e_X1_beforeOf g _ _) kd_41 (zFit_rm (by decide)) (zle rfl) dX9_undo_40 fun r4 => ?_
    refine Zo_cVV3 lk_X9_134 (e_X7_tell g _ _ _ _) kd_1 (zFit_rm (by decide)) (zle rfl) dX9_undo_43 fun σ5 => ?_
    show Zo g _ _ _ 0 0 46 _ _ _
    refine Zo_aload0 dX9_undo_46 ?_
    refine Zo_getr (j := 41) fl_X9_45 kd_0 rfl dX9_undo_47 ?_
    refine Zo_cVI0 lk_X9_282 (e_X1_undoable g _) kd_41 (zFit_rm (by decide)) (zle rfl) dX9_undo_50 fun r6 => ?_
    exact Zo_iret dX9_undo_53 rfl rfl (Nat.le_refl _) (Nat.le_refl _)
  · refine Zo_bipush (-5 : Int32) dX9_undo_12 bp_m5 ?_
    exact Zo_iret dX9_undo_14 rfl rfl (Nat.le_refl _) (Nat.le_refl _)
theorem e_X9_undo (g : ZG) (σ : ZSt) : zEvS g 2 yX9_undo cX9_undo 2 (some .int) [.ref 0] σ (s_X9_undo σ) :=
  zEvS_of 1 rfl rfl (z_X9_undo g σ)
abbrev mX9_redo (g : ZG) (q : Nat) : ZM := (yX9_redo, cX9_redo, 2, (some .int), zRm q 0 0, zTg g 0 0)
def s_X9_redo (σ : ZSt) : Option (Int32 × ZSt) :=
  (s_X1_stepOn σ).bind fun r1 => (if (0 : Int32) ≤ r1.1 then ((s_X1_numberOf r1.1 r1.2).bind fun r2 => ((s_X1_whatOf r1.1 r1.2).bind fun r3 => ((s_X1_behindOf r1.1 r1.2).bind fun r4 => ((s_X7_tell r2 r3 r4 r1.2).bind fun σ5 => ((s_X1_redoable σ5).bind fun r6 => (some (r6, σ5)))))))
    else (some ((-5 : Int32), r1.2)))
set_option maxHeartbeats 4000000 in
set_option maxRecDepth 100000 in
theorem z_X9_redo (g : ZG) (σ : ZSt) : Zo g (mX9_redo g 2) (fun b : Int32 × ZSt => (some (.int b.1), zw b.2)) (s_X9_redo σ) 0 0 0 [some (.ref 0), none] [] (zw σ) := by
  unfold s_X9_redo
  refine Zo_aload0 dX9_redo_0 ?_
  refine Zo_getr (j := 41) fl_X9_45 kd_0 rfl dX9_redo_1 ?_
  refine Zo_cVS0 lk_X9_285 (e_X1_stepOn g _) kd_41 (zFit_rm (by decide)) (zle rfl) dX9_redo_4 fun r1 => ?_
  refine Zo_istore1 rfl (zlt rfl) dX9_redo_7 ?_
  refine Zo_iload1 dX9_redo_8 ?_
  refine Zo_ifge 15 dX9_redo_9 (by decide) ?_ ?_
  · refine Zo_aload0 dX9_redo_15 ?_
    refine Zo_getr (j := 1) fl_X9_10 kd_0 rfl dX9_redo_16 ?_
    refine Zo_aload0 dX9_redo_19 ?_
    refine Zo_getr (j := 41) fl_X9_45 kd_0 rfl dX9_redo_20 ?_
    refine Zo_iload1 dX9_redo_23 ?_
    refine Zo_cVI1 lk_X9_273 (e_X1_numberOf g _ _) kd_41 (zFit_rm (by decide)) (zle rfl) dX9_redo_24 fun r2 => ?_
    refine Zo_aload0 dX9_redo_27 ?_
    show Zo g _ _ _ 0 0 28 _ _ _
    refine Zo_getr (j := 41) fl_X9_45 kd_0 rfl dX9_redo_28 ?_
    refine Zo_iload1 dX9_redo_31 ?_
    refine Zo_cVI1 lk_X9_276 (e_X1_whatOf g _ _) kd_41 (zFit_rm (by decide)) (zle rfl) dX9_redo_32 fun r3 => ?_
    refine Zo_aload0 dX9_redo_35 ?_
    refine Zo_getr (j := 41) fl_X9_45 kd_0 rfl dX9_redo_36 ?_
    refine Zo_iload1 dX9_redo_39 ?_
    refine Zo_cVI1 lk_X9_288 (e_X1_behindOf g _ _) kd_41 (zFit_rm (by decide)) (zle rfl) dX9_redo_40 fun r4 => ?_
    refine Zo_cVV3 lk_X9_134 (e_X7_tell g _ _ _ _) kd_1 (zFit_rm (by decide)) (zle rfl) dX9_redo_43 fun σ5 => ?_
    show Zo g _ _ _ 0 0 46 _ _ _
    refine Zo_aload0 dX9_redo_46 ?_
    refine Zo_getr (j := 41) fl_X9_45 kd_0 rfl dX9_redo_47 ?_
    refine Zo_cVI0 lk_X9_291 (e_X1_redoable g _) kd_41 (zFit_rm (by decide)) (zle rfl) dX9_redo_50 fun r6 => ?_
    exact Zo_iret dX9_redo_53 rfl rfl (Nat.le_refl _) (Nat.le_refl _)
  · refine Zo_bipush (-5 : Int32) dX9_redo_12 bp_m5 ?_
    exact Zo_iret dX9_redo_14 rfl rfl (Nat.le_refl _) (Nat.le_refl _)
theorem e_X9_redo (g : ZG) (σ : ZSt) : zEvS g 2 yX9_redo cX9_redo 2 (some .int) [.ref 0] σ (s_X9_redo σ) :=
  zEvS_of 1 rfl rfl (z_X9_redo g σ)
abbrev mX9_body (g : ZG) (q : Nat) : ZM := (yX9_body, cX9_body, 2, (some .int), zRm q 0 0, zTg g 0 0)
def s_X9_body (p0 : Int32) (σ : ZSt) : Option (Int32 × ZSt) :=
  (s_X9_isWithin p0 (0 : Int32) (7 : Int32) σ).bind fun r1 => (if r1 = (0 : Int32) then (some ((-1 : Int32), σ))
    else ((s_X0_addBody p0 σ).bind fun r2 => (some (r2.1, r2.2))))
set_option maxHeartbeats 4000000 in
set_option maxRecDepth 100000 in
theorem z_X9_body (g : ZG) (p0 : Int32) (σ : ZSt) : Zo g (mX9_body g 1) (fun b : Int32 × ZSt => (some (.int b.1), zw b.2)) (s_X9_body p0 σ) 0 0 0 [some (.ref 0), some (.int p0)] [] (zw σ) := by
  unfold s_X9_body
  refine Zo_iload1 dX9_body_0 ?_
  refine Zo_iconst (0 : Int32) dX9_body_1 ic_0 ?_
  refine Zo_bipush (7 : Int32) dX9_body_2 bp_7 ?_
  refine Zo_cSI3 lk_X9_80 (e_X9_isWithin g _ _ _ _) (zFit_rm (by decide)) (zle rfl) dX9_body_4 fun r1 => ?_
  refine Zo_ifne 12 dX9_body_7 (by decide) ?_ ?_
  · refine Zo_aload0 dX9_body_12 ?_
    refine Zo_getr (j := 48) fl_X9_59 kd_0 rfl dX9_body_13 ?_
    refine Zo_iload1 dX9_body_16 ?_
    refine Zo_cVS1 lk_X9_294 (e_X0_addBody g _ _) kd_48 (zFit_rm (by decide)) (zle rfl) dX9_body_17 fun r2 => ?_
    exact Zo_iret dX9_body_20 rfl rfl (Nat.le_refl _) (Nat.le_refl _)
  · refine Zo_iconst (-1 : Int32) dX9_body_10 ic_m1 ?_
    exact Zo_iret dX9_body_11 rfl rfl (Nat.le_refl _) (Nat.le_refl _)
theorem e_X9_body (g : ZG) (p0 : Int32) (σ : ZSt) : zEvS g 1 yX9_body cX9_body 2 (some .int) [.ref 0, .int p0] σ (s_X9_body p0 σ) :=
  zEvS_of 0 rfl rfl (z_X9_body g p0 σ)
abbrev mX9_act (g : ZG) (q : Nat) : ZM := (yX9_act, cX9_act, 4, (some .int), zRm q 0 0, zTg g 0 0)
def s_X9_act (p0 : Int32) (p1 : Int32) (p2 : Int32) (σ : ZSt) : Option (Int32 × ZSt) :=
  (s_X0_run p0 p1 p2 σ).bind fun r1 => (some (r1.1, r1.2))
set_option maxHeartbeats 4000000 in
set_option maxRecDepth 100000 in
theorem z_X9_act (g : ZG) (p0 : Int32) (p1 : Int32) (p2 : Int32) (σ : ZSt) : Zo g (mX9_act g 105) (fun b : Int32 × ZSt => (some (.int b.1), zw b.2)) (s_X9_act p0 p1 p2 σ) 0 0 0 [some (.ref 0), some (.int p0), some (.int p1), some (.int p2)] [] (zw σ) := by
  unfold s_X9_act
  refine Zo_aload0 dX9_act_0 ?_
  refine Zo_getr (j := 48) fl_X9_59 kd_0 rfl dX9_act_1 ?_
  refine Zo_iload1 dX9_act_4 ?_
  refine Zo_iload2 dX9_act_5 ?_
  refine Zo_iload3 dX9_act_6 ?_
  refine Zo_cVS3 lk_X9_297 (e_X0_run g _ _ _ _) kd_48 (zFit_rm (by decide)) (zle rfl) dX9_act_7 fun r1 => ?_
  exact Zo_iret dX9_act_10 rfl rfl (Nat.le_refl _) (Nat.le_refl _)
theorem e_X9_act (g : ZG) (p0 : Int32) (p1 : Int32) (p2 : Int32) (σ : ZSt) : zEvS g 105 yX9_act cX9_act 4 (some .int) [.ref 0, .int p0, .int p1, .int p2] σ (s_X9_act p0 p1 p2 σ) :=
  zEvS_of 0 rfl rfl (z_X9_act g p0 p1 p2 σ)
abbrev mX9_trace (g : ZG) (q : Nat) : ZM := (yX9_trace, cX9_trace, 2, (some .int), zRm q 0 0, zTg g 0 0)
def s_X9_trace (p0 : Int32) (σ : ZSt) : Option Int32 :=
  (s_X0_traced p0 σ).bind fun r1 => (some r1)
set_option maxHeartbeats 4000000 in
set_option maxRecDepth 100000 in
theorem z_X9_trace (g : ZG) (p0 : Int32) (σ : ZSt) : Zo g (mX9_trace g 1) (fun b : Int32 => (some (.int b), zw σ)) (s_X9_trace p0 σ) 0 0 0 [some (.ref 0), some (.int p0)] [] (zw σ) := by
  unfold s_X9_trace
  refine Zo_aload0 dX9_trace_0 ?_
  refine Zo_getr (j := 48) fl_X9_59 kd_0 rfl dX9_trace_1 ?_
  refine Zo_iload1 dX9_trace_4 ?_
  refine Zo_cVI1 lk_X9_300 (e_X0_traced g _ _) kd_48 (zFit_rm (by decide)) (zle rfl) dX9_trace_5 fun r1 => ?_
  exact Zo_iret dX9_trace_8 rfl rfl (Nat.le_refl _) (Nat.le_refl _)
theorem e_X9_trace (g : ZG) (p0 : Int32) (σ : ZSt) : zEvI g 1 yX9_trace cX9_trace 2 (some .int) [.ref 0, .int p0] σ (s_X9_trace p0 σ) :=
  zEvI_of 0 rfl rfl (z_X9_trace g p0 σ)
abbrev mX9_keep (g : ZG) (q : Nat) : ZM := (yX9_keep, cX9_keep, 3, (some .int), zRm q 0 0, zTg g 0 0)
def s_X9_keep_C31 (l1 : Int32) (l2 : Int32) (σ : ZSt) : Option (Int32 × ZSt) :=
  if l2 = (-1 : Int32) then ((s_X6_clearShelf l1 σ).bind fun σ2 => (some ((1 : Int32), σ2)))
    else ((s_X6_holdBody l1 l2 σ).bind fun σ1 => (some ((1 : Int32), σ1)))
set_option maxHeartbeats 4000000 in
set_option maxRecDepth 100000 in
theorem z_X9_keep_C31 (g : ZG) (l1 : Int32) (l2 : Int32) (σ : ZSt) : Zo g (mX9_keep g 2) (fun b : Int32 × ZSt => (some (.int b.1), zw b.2)) (s_X9_keep_C31 l1 l2 σ) 0 0 31 [some (.ref 0), some (.int l1), some (.int l2)] [] (zw σ) := by
  unfold s_X9_keep_C31
  refine Zo_iload2 dX9_keep_31 ?_
  refine Zo_iconst (-1 : Int32) dX9_keep_32 ic_m1 ?_
  refine Zo_icmpne 47 dX9_keep_33 (by decide) ?_ ?_
  · refine Zo_aload0 dX9_keep_47 ?_
    refine Zo_getr (j := 51) fl_X9_66 kd_0 rfl dX9_keep_48 ?_
    refine Zo_iload1 dX9_keep_51 ?_
    refine Zo_iload2 dX9_keep_52 ?_
    refine Zo_cVV2 lk_X9_310 (e_X6_holdBody g _ _ _) kd_51 (zFit_rm (by decide)) (zle rfl) dX9_keep_53 fun σ1 => ?_
    refine Zo_iconst (1 : Int32) dX9_keep_56 ic_1 ?_
    exact Zo_iret dX9_keep_57 rfl rfl (Nat.le_refl _) (Nat.le_refl _)
  · refine Zo_aload0 dX9_keep_36 ?_
    refine Zo_getr (j := 51) fl_X9_66 kd_0 rfl dX9_keep_37 ?_
    refine Zo_iload1 dX9_keep_40 ?_
    refine Zo_cVV1 lk_X9_306 (e_X6_clearShelf g _ _) kd_51 (zFit_rm (by decide)) (zle rfl) dX9_keep_41 fun σ2 => ?_
    refine Zo_goto 56 dX9_keep_44 (by decide) ?_
    refine Zo_iconst (1 : Int32) dX9_keep_56 ic_1 ?_
    exact Zo_iret dX9_keep_57 rfl rfl (Nat.le_refl _) (Nat.le_refl _)
def s_X9_keep (p0 : Int32) (p1 : Int32) (σ : ZSt) : Option (Int32 × ZSt) :=
  (s_X6_isShelf p0 σ).bind fun r1 => (if r1 = (0 : Int32) then (some ((-1 : Int32), σ))
    else (if p1 = (-1 : Int32) then (s_X9_keep_C31 p0 p1 σ)
      else ((s_X0_isBody p1 σ).bind fun r2 => (if r2 = (0 : Int32) then (some ((-1 : Int32), σ))
        else (s_X9_keep_C31 p0 p1 σ)))))
set_option maxHeartbeats 4000000 in
set_option maxRecDepth 100000 in
theorem z_X9_keep (g : ZG) (p0 : Int32) (p1 : Int32) (σ : ZSt) : Zo g (mX9_keep g 2) (fun b : Int32 × ZSt => (some (.int b.1), zw b.2)) (s_X9_keep p0 p1 σ) 0 0 0 [some (.ref 0), some (.int p0), some (.int p1)] [] (zw σ) := by
  unfold s_X9_keep
  refine Zo_aload0 dX9_keep_0 ?_
  refine Zo_getr (j := 51) fl_X9_66 kd_0 rfl dX9_keep_1 ?_
  refine Zo_iload1 dX9_keep_4 ?_
  refine Zo_cVI1 lk_X9_96 (e_X6_isShelf g _ _) kd_51 (zFit_rm (by decide)) (zle rfl) dX9_keep_5 fun r1 => ?_
  refine Zo_ifne 13 dX9_keep_8 (by decide) ?_ ?_
  · refine Zo_iload2 dX9_keep_13 ?_
    refine Zo_iconst (-1 : Int32) dX9_keep_14 ic_m1 ?_
    refine Zo_icmpeq 31 dX9_keep_15 (by decide) ?_ ?_
    · exact z_X9_keep_C31 g _ _ _ 
    · refine Zo_aload0 dX9_keep_18 ?_
      refine Zo_getr (j := 48) fl_X9_59 kd_0 rfl dX9_keep_19 ?_
      refine Zo_iload2 dX9_keep_22 ?_
      refine Zo_cVI1 lk_X9_303 (e_X0_isBody g _ _) kd_48 (zFit_rm (by decide)) (zle rfl) dX9_keep_23 fun r2 => ?_
      refine Zo_ifne 31 dX9_keep_26 (by decide) ?_ ?_
      · exact z_X9_keep_C31 g _ _ _ 
      · refine Zo_iconst (-1 : Int32) dX9_keep_29 ic_m1 ?_
        exact Zo_iret dX9_keep_30 rfl rfl (Nat.le_refl _) (Nat.le_refl _)
  · refine Zo_iconst (-1 : Int32) dX9_keep_11 ic_m1 ?_
    exact Zo_iret dX9_keep_12 rfl rfl (Nat.le_refl _) (Nat.le_refl _)
theorem e_X9_keep (g : ZG) (p0 : Int32) (p1 : Int32) (σ : ZSt) : zEvS g 2 yX9_keep cX9_keep 3 (some .int) [.ref 0, .int p0, .int p1] σ (s_X9_keep p0 p1 σ) :=
  zEvS_of 0 rfl rfl (z_X9_keep g p0 p1 σ)
abbrev mX9_row (g : ZG) (q : Nat) : ZM := (yX9_row, cX9_row, 4, (some .int), zRm q 0 0, zTg g 0 0)
def s_X9_row (p0 : Int32) (p1 : Int32) (p2 : Int32) (σ : ZSt) : Option (Int32 × ZSt) :=
  (s_X6_isShelf p0 σ).bind fun r1 => (if r1 = (0 : Int32) then (some ((-1 : Int32), σ))
    else ((s_X6_isSort p1 σ).bind fun r2 => (if r2 = (0 : Int32) then (some ((-1 : Int32), σ))
      else (if p2 ≤ (60 : Int32) then (if (0 : Int32) ≤ p2 then ((s_X6_holdRow p0 p1 p2 σ).bind fun σ3 => (some ((1 : Int32), σ3)))
          else (some ((-14 : Int32), σ)))
        else (some ((-1 : Int32), σ))))))
set_option maxHeartbeats 4000000 in
set_option maxRecDepth 100000 in
theorem z_X9_row (g : ZG) (p0 : Int32) (p1 : Int32) (p2 : Int32) (σ : ZSt) : Zo g (mX9_row g 2) (fun b : Int32 × ZSt => (some (.int b.1), zw b.2)) (s_X9_row p0 p1 p2 σ) 0 0 0 [some (.ref 0), some (.int p0), some (.int p1), some (.int p2)] [] (zw σ) := by
  unfold s_X9_row
  refine Zo_aload0 dX9_row_0 ?_
  refine Zo_getr (j := 51) fl_X9_66 kd_0 rfl dX9_row_1 ?_
  refine Zo_iload1 dX9_row_4 ?_
  refine Zo_cVI1 lk_X9_96 (e_X6_isShelf g _ _) kd_51 (zFit_rm (by decide)) (zle rfl) dX9_row_5 fun r1 => ?_
  refine Zo_ifeq 28 dX9_row_8 (by decide) ?_ ?_
  · refine Zo_iconst (-1 : Int32) dX9_row_28 ic_m1 ?_
    exact Zo_iret dX9_row_29 rfl rfl (Nat.le_refl _) (Nat.le_refl _)
  · refine Zo_aload0 dX9_row_11 ?_
    refine Zo_getr (j := 51) fl_X9_66 kd_0 rfl dX9_row_12 ?_
    refine Zo_iload2 dX9_row_15 ?_
    refine Zo_cVI1 lk_X9_314 (e_X6_isSort g _ _) kd_51 (zFit_rm (by decide)) (zle rfl) dX9_row_16 fun r2 => ?_
    refine Zo_ifeq 28 dX9_row_19 (by decide) ?_ ?_
    · refine Zo_iconst (-1 : Int32) dX9_row_28 ic_m1 ?_
      exact Zo_iret dX9_row_29 rfl rfl (Nat.le_refl _) (Nat.le_refl _)
    · refine Zo_iload3 dX9_row_22 ?_
      refine Zo_bipush (60 : Int32) dX9_row_23 bp_60 ?_
      refine Zo_icmple 30 dX9_row_25 (by decide) ?_ ?_
      · refine Zo_iload3 dX9_row_30 ?_
        refine Zo_ifge 37 dX9_row_31 (by decide) ?_ ?_
        · refine Zo_aload0 dX9_row_37 ?_
          refine Zo_getr (j := 51) fl_X9_66 kd_0 rfl dX9_row_38 ?_
          refine Zo_iload1 dX9_row_41 ?_
          refine Zo_iload2 dX9_row_42 ?_
          refine Zo_iload3 dX9_row_43 ?_
          refine Zo_cVV3 lk_X9_317 (e_X6_holdRow g _ _ _ _) kd_51 (zFit_rm (by decide)) (zle rfl) dX9_row_44 fun σ3 => ?_
          refine Zo_iconst (1 : Int32) dX9_row_47 ic_1 ?_
          show Zo g _ _ _ 0 0 48 _ _ _
          exact Zo_iret dX9_row_48 rfl rfl (Nat.le_refl _) (Nat.le_refl _)
        · refine Zo_bipush (-14 : Int32) dX9_row_34 bp_m14 ?_
          exact Zo_iret dX9_row_36 rfl rfl (Nat.le_refl _) (Nat.le_refl _)
      · refine Zo_iconst (-1 : Int32) dX9_row_28 ic_m1 ?_
        exact Zo_iret dX9_row_29 rfl rfl (Nat.le_refl _) (Nat.le_refl _)
theorem e_X9_row (g : ZG) (p0 : Int32) (p1 : Int32) (p2 : Int32) (σ : ZSt) : zEvS g 2 yX9_row cX9_row 4 (some .int) [.ref 0, .int p0, .int p1, .int p2] σ (s_X9_row p0 p1 p2 σ) :=
  zEvS_of 0 rfl rfl (z_X9_row g p0 p1 p2 σ)
abbrev mX9_put (g : ZG) (q : Nat) : ZM := (yX9_put, cX9_put, 6, (some .int), zRm q 0 0, zTg g 0 0)
def s_X9_put (p0 : Int32) (p1 : Int32) (p2 : Int64) (σ : ZSt) : Option (Int32 × ZSt) :=
  (s_X6_refusalOf p0 p1 σ).bind fun r1 => (if r1 = (0 : Int32) then ((s_X6_set p0 p1 p2 σ).bind fun σ2 => (some ((1 : Int32), σ2)))
    else (some (r1, σ)))
set_option maxHeartbeats 4000000 in
set_option maxRecDepth 100000 in
theorem z_X9_put (g : ZG) (p0 : Int32) (p1 : Int32) (p2 : Int64) (σ : ZSt) : Zo g (mX9_put g 4) (fun b : Int32 × ZSt => (some (.int b.1), zw b.2)) (s_X9_put p0 p1 p2 σ) 0 0 0 [some (.ref 0), some (.int p0), some (.int p1), some (.long p2), none, none] [] (zw σ) := by
  unfold s_X9_put
  refine Zo_aload0 dX9_put_0 ?_
  refine Zo_getr (j := 51) fl_X9_66 kd_0 rfl dX9_put_1 ?_
  refine Zo_iload1 dX9_put_4 ?_
  refine Zo_iload2 dX9_put_5 ?_
  refine Zo_cVI2 lk_X9_320 (e_X6_refusalOf g _ _ _) kd_51 (zFit_rm (by decide)) (zle rfl) dX9_put_6 fun r1 => ?_
  refine Zo_istore5 rfl (zlt rfl) dX9_put_9 ?_
  refine Zo_iload5 dX9_put_11 ?_
  show Zo g _ _ _ 0 0 13 _ _ _
  refine Zo_ifeq 19 dX9_put_13 (by decide) ?_ ?_
  · refine Zo_aload0 dX9_put_19 ?_
    refine Zo_getr (j := 51) fl_X9_66 kd_0 rfl dX9_put_20 ?_
    refine Zo_iload1 dX9_put_23 ?_
    refine Zo_iload2 dX9_put_24 ?_
    refine Zo_lload3 dX9_put_25 ?_
    refine Zo_cVV3 lk_X9_323 (e_X6_set g _ _ _ _) kd_51 (zFit_rm (by decide)) (zle rfl) dX9_put_26 fun σ2 => ?_
    refine Zo_iconst (1 : Int32) dX9_put_29 ic_1 ?_
    show Zo g _ _ _ 0 0 30 _ _ _
    exact Zo_iret dX9_put_30 rfl rfl (Nat.le_refl _) (Nat.le_refl _)
  · refine Zo_iload5 dX9_put_16 ?_
    exact Zo_iret dX9_put_18 rfl rfl (Nat.le_refl _) (Nat.le_refl _)
theorem e_X9_put (g : ZG) (p0 : Int32) (p1 : Int32) (p2 : Int64) (σ : ZSt) : zEvS g 4 yX9_put cX9_put 6 (some .int) [.ref 0, .int p0, .int p1, .long p2] σ (s_X9_put p0 p1 p2 σ) :=
  zEvS_of 1 rfl rfl (z_X9_put g p0 p1 p2 σ)
abbrev mX9_element (g : ZG) (q : Nat) : ZM := (yX9_element, cX9_element, 3, (some .long), zRm q 0 0, zTg g 0 0)
def s_X9_element (p0 : Int32) (p1 : Int32) (σ : ZSt) : Option Int64 :=
  (s_X6_refusalOf p0 p1 σ).bind fun r1 => (if r1 = (0 : Int32) then ((s_X6_elementAt p0 p1 σ).bind fun r2 => (some r2))
    else (some (-9223372036854775808 : Int64)))
set_option maxHeartbeats 4000000 in
set_option maxRecDepth 100000 in
theorem z_X9_element (g : ZG) (p0 : Int32) (p1 : Int32) (σ : ZSt) : Zo g (mX9_element g 4) (fun b : Int64 => (some (.long b), zw σ)) (s_X9_element p0 p1 σ) 0 0 0 [some (.ref 0), some (.int p0), some (.int p1)] [] (zw σ) := by
  unfold s_X9_element
  refine Zo_aload0 dX9_element_0 ?_
  refine Zo_getr (j := 51) fl_X9_66 kd_0 rfl dX9_element_1 ?_
  refine Zo_iload1 dX9_element_4 ?_
  refine Zo_iload2 dX9_element_5 ?_
  refine Zo_cVI2 lk_X9_320 (e_X6_refusalOf g _ _ _) kd_51 (zFit_rm (by decide)) (zle rfl) dX9_element_6 fun r1 => ?_
  refine Zo_ifeq 16 dX9_element_9 (by decide) ?_ ?_
  · refine Zo_aload0 dX9_element_16 ?_
    refine Zo_getr (j := 51) fl_X9_66 kd_0 rfl dX9_element_17 ?_
    refine Zo_iload1 dX9_element_20 ?_
    refine Zo_iload2 dX9_element_21 ?_
    refine Zo_cVJ2 lk_X9_113 (e_X6_elementAt g _ _ _) kd_51 (zFit_rm (by decide)) (zle rfl) dX9_element_22 fun r2 => ?_
    exact Zo_lret dX9_element_25 rfl rfl (Nat.le_refl _) (Nat.le_refl _)
  · refine Zo_ldc2 rfl cw_X9_327 dX9_element_12 ?_
    exact Zo_lret dX9_element_15 rfl rfl (Nat.le_refl _) (Nat.le_refl _)
theorem e_X9_element (g : ZG) (p0 : Int32) (p1 : Int32) (σ : ZSt) : zEvJ g 4 yX9_element cX9_element 3 (some .long) [.ref 0, .int p0, .int p1] σ (s_X9_element p0 p1 σ) :=
  zEvJ_of 0 rfl rfl (z_X9_element g p0 p1 σ)
abbrev mX9_shift (g : ZG) (q : Nat) : ZM := (yX9_shift, cX9_shift, 6, (some .int), zRm q 0 0, zTg g 0 0)
def s_X9_shift (p0 : Int32) (p1 : Int32) (p2 : Int32) (p3 : Int32) (p4 : Int32) (σ : ZSt) : Option (Int32 × ZSt) :=
  (s_X6_isShelf p0 σ).bind fun r1 => (if r1 = (0 : Int32) then (some ((-1 : Int32), σ))
    else ((s_X6_isShelf p2 σ).bind fun r2 => (if r2 = (0 : Int32) then (some ((-1 : Int32), σ))
      else ((s_X6_isEmpty p0 σ).bind fun r3 => (if r3 = (0 : Int32) then ((s_X6_isEmpty p2 σ).bind fun r4 => (if r4 = (0 : Int32) then ((s_X6_areLikeRows p0 p2 σ).bind fun r5 => (if r5 = (0 : Int32) then (some ((-12 : Int32), σ))
            else ((s_X6_hasPlaces p0 p1 p4 σ).bind fun r6 => (if r6 = (0 : Int32) then (some ((-13 : Int32), σ))
              else ((s_X6_hasPlaces p2 p3 p4 σ).bind fun r7 => (if r7 = (0 : Int32) then (some ((-13 : Int32), σ))
                else ((s_X6_copy p0 p1 p2 p3 p4 σ).bind fun σ8 => (some (p4, σ8)))))))))
          else (some ((-11 : Int32), σ))))
        else (some ((-11 : Int32), σ)))))))
set_option maxHeartbeats 4000000 in
set_option maxRecDepth 100000 in
theorem z_X9_shift (g : ZG) (p0 : Int32) (p1 : Int32) (p2 : Int32) (p3 : Int32) (p4 : Int32) (σ : ZSt) : Zo g (mX9_shift g 4) (fun b : Int32 × ZSt => (some (.int b.1), zw b.2)) (s_X9_shift p0 p1 p2 p3 p4 σ) 0 0 0 [some (.ref 0), some (.int p0), some (.int p1), some (.int p2), some (.int p3), some (.int p4)] [] (zw σ) := by
  unfold s_X9_shift
  refine Zo_aload0 dX9_shift_0 ?_
  refine Zo_getr (j := 51) fl_X9_66 kd_0 rfl dX9_shift_1 ?_
  refine Zo_iload1 dX9_shift_4 ?_
  refine Zo_cVI1 lk_X9_96 (e_X6_isShelf g _ _) kd_51 (zFit_rm (by decide)) (zle rfl) dX9_shift_5 fun r1 => ?_
  refine Zo_ifeq 22 dX9_shift_8 (by decide) ?_ ?_
  · refine Zo_iconst (-1 : Int32) dX9_shift_22 ic_m1 ?_
    exact Zo_iret dX9_shift_23 rfl rfl (Nat.le_refl _) (Nat.le_refl _)
  · refine Zo_aload0 dX9_shift_11 ?_
    refine Zo_getr (j := 51) fl_X9_66 kd_0 rfl dX9_shift_12 ?_
    refine Zo_iload3 dX9_shift_15 ?_
    refine Zo_cVI1 lk_X9_96 (e_X6_isShelf g _ _) kd_51 (zFit_rm (by decide)) (zle rfl) dX9_shift_16 fun r2 => ?_
    refine Zo_ifne 24 dX9_shift_19 (by decide) ?_ ?_
    · refine Zo_aload0 dX9_shift_24 ?_
      refine Zo_getr (j := 51) fl_X9_66 kd_0 rfl dX9_shift_25 ?_
      refine Zo_iload1 dX9_shift_28 ?_
      refine Zo_cVI1 lk_X9_100 (e_X6_isEmpty g _ _) kd_51 (zFit_rm (by decide)) (zle rfl) dX9_shift_29 fun r3 => ?_
      refine Zo_ifne 46 dX9_shift_32 (by decide) ?_ ?_
      · refine Zo_bipush (-11 : Int32) dX9_shift_46 bp_m11 ?_
        exact Zo_iret dX9_shift_48 rfl rfl (Nat.le_refl _) (Nat.le_refl _)
      · refine Zo_aload0 dX9_shift_35 ?_
        refine Zo_getr (j := 51) fl_X9_66 kd_0 rfl dX9_shift_36 ?_
        refine Zo_iload3 dX9_shift_39 ?_
        refine Zo_cVI1 lk_X9_100 (e_X6_isEmpty g _ _) kd_51 (zFit_rm (by decide)) (zle rfl) dX9_shift_40 fun r4 => ?_
        refine Zo_ifeq 49 dX9_shift_43 (by decide) ?_ ?_
        · refine Zo_aload0 dX9_shift_49 ?_
          refine Zo_getr (j := 51) fl_X9_66 kd_0 rfl dX9_shift_50 ?_
          refine Zo_iload1 dX9_shift_53 ?_
          refine Zo_iload3 dX9_shift_54 ?_
          refine Zo_cVI2 lk_X9_329 (e_X6_areLikeRows g _ _ _) kd_51 (zFit_rm (by decide)) (zle rfl) dX9_shift_55 fun r5 => ?_
          refine Zo_ifne 64 dX9_shift_58 (by decide) ?_ ?_
          · refine Zo_aload0 dX9_shift_64 ?_
            refine Zo_getr (j := 51) fl_X9_66 kd_0 rfl dX9_shift_65 ?_
            refine Zo_iload1 dX9_shift_68 ?_
            refine Zo_iload2 dX9_shift_69 ?_
            refine Zo_iload5 dX9_shift_70 ?_
            refine Zo_cVI3 lk_X9_110 (e_X6_hasPlaces g _ _ _ _) kd_51 (zFit_rm (by decide)) (zle rfl) dX9_shift_72 fun r6 => ?_
            refine Zo_ifeq 93 dX9_shift_75 (by decide) ?_ ?_
            · refine Zo_bipush (-13 : Int32) dX9_shift_93 bp_m13 ?_
              exact Zo_iret dX9_shift_95 rfl rfl (Nat.le_refl _) (Nat.le_refl _)
            · refine Zo_aload0 dX9_shift_78 ?_
              refine Zo_getr (j := 51) fl_X9_66 kd_0 rfl dX9_shift_79 ?_
              refine Zo_iload3 dX9_shift_82 ?_
              refine Zo_iload4 dX9_shift_83 ?_
              refine Zo_iload5 dX9_shift_85 ?_
              refine Zo_cVI3 lk_X9_110 (e_X6_hasPlaces g _ _ _ _) kd_51 (zFit_rm (by decide)) (zle rfl) dX9_shift_87 fun r7 => ?_
              refine Zo_ifne 96 dX9_shift_90 (by decide) ?_ ?_
              · refine Zo_aload0 dX9_shift_96 ?_
                refine Zo_getr (j := 51) fl_X9_66 kd_0 rfl dX9_shift_97 ?_
                refine Zo_iload1 dX9_shift_100 ?_
                refine Zo_iload2 dX9_shift_101 ?_
                refine Zo_iload3 dX9_shift_102 ?_
                refine Zo_iload4 dX9_shift_103 ?_
                refine Zo_iload5 dX9_shift_105 ?_
                show Zo g _ _ _ 0 0 107 _ _ _
                refine Zo_cVV5 lk_X9_332 (e_X6_copy g _ _ _ _ _ _) kd_51 (zFit_rm (by decide)) (zle rfl) dX9_shift_107 fun σ8 => ?_
                refine Zo_iload5 dX9_shift_110 ?_
                exact Zo_iret dX9_shift_112 rfl rfl (Nat.le_refl _) (Nat.le_refl _)
              · refine Zo_bipush (-13 : Int32) dX9_shift_93 bp_m13 ?_
                exact Zo_iret dX9_shift_95 rfl rfl (Nat.le_refl _) (Nat.le_refl _)
          · refine Zo_bipush (-12 : Int32) dX9_shift_61 bp_m12 ?_
            exact Zo_iret dX9_shift_63 rfl rfl (Nat.le_refl _) (Nat.le_refl _)
        · refine Zo_bipush (-11 : Int32) dX9_shift_46 bp_m11 ?_
          exact Zo_iret dX9_shift_48 rfl rfl (Nat.le_refl _) (Nat.le_refl _)
    · refine Zo_iconst (-1 : Int32) dX9_shift_22 ic_m1 ?_
      exact Zo_iret dX9_shift_23 rfl rfl (Nat.le_refl _) (Nat.le_refl _)
theorem e_X9_shift (g : ZG) (p0 : Int32) (p1 : Int32) (p2 : Int32) (p3 : Int32) (p4 : Int32) (σ : ZSt) : zEvS g 4 yX9_shift cX9_shift 6 (some .int) [.ref 0, .int p0, .int p1, .int p2, .int p3, .int p4] σ (s_X9_shift p0 p1 p2 p3 p4 σ) :=
  zEvS_of 0 rfl rfl (z_X9_shift g p0 p1 p2 p3 p4 σ)
abbrev mX9_taken (g : ZG) (q : Nat) : ZM := (yX9_taken, cX9_taken, 4, (some .int), zRm q 0 0, zTg g 0 0)
def s_X9_taken (p0 : Int32) (p1 : Int32) (σ : ZSt) : Option Int32 :=
  (s_X6_isShelf p0 σ).bind fun r1 => (if r1 = (0 : Int32) then (some (-1 : Int32))
    else ((s_X9_isWithin p1 (0 : Int32) (7 : Int32) σ).bind fun r2 => (if r2 = (0 : Int32) then (some (-1 : Int32))
      else ((s_X6_isEmpty p0 σ).bind fun r3 => (if r3 = (0 : Int32) then ((s_X6_isRow p0 σ).bind fun r4 => (if r4 = (0 : Int32) then ((s_X6_bodyOn p0 σ).bind fun r5 => ((s_X0_kindOf r5 σ).bind fun r6 => ((s_X0_isUnder r6 p1 σ).bind fun r7 => (if r7 = (0 : Int32) then (some (-12 : Int32))
            else (some r6)))))
          else (some (-12 : Int32))))
        else (some (-11 : Int32)))))))
set_option maxHeartbeats 4000000 in
set_option maxRecDepth 100000 in
theorem z_X9_taken (g : ZG) (p0 : Int32) (p1 : Int32) (σ : ZSt) : Zo g (mX9_taken g 2) (fun b : Int32 => (some (.int b), zw σ)) (s_X9_taken p0 p1 σ) 0 0 0 [some (.ref 0), some (.int p0), some (.int p1), none] [] (zw σ) := by
  unfold s_X9_taken
  refine Zo_aload0 dX9_taken_0 ?_
  refine Zo_getr (j := 51) fl_X9_66 kd_0 rfl dX9_taken_1 ?_
  refine Zo_iload1 dX9_taken_4 ?_
  refine Zo_cVI1 lk_X9_96 (e_X6_isShelf g _ _) kd_51 (zFit_rm (by decide)) (zle rfl) dX9_taken_5 fun r1 => ?_
  refine Zo_ifeq 21 dX9_taken_8 (by decide) ?_ ?_
  · refine Zo_iconst (-1 : Int32) dX9_taken_21 ic_m1 ?_
    exact Zo_iret dX9_taken_22 rfl rfl (Nat.le_refl _) (Nat.le_refl _)
  · refine Zo_iload2 dX9_taken_11 ?_
    refine Zo_iconst (0 : Int32) dX9_taken_12 ic_0 ?_
    refine Zo_bipush (7 : Int32) dX9_taken_13 bp_7 ?_
    refine Zo_cSI3 lk_X9_80 (e_X9_isWithin g _ _ _ _) (zFit_rm (by decide)) (zle rfl) dX9_taken_15 fun r2 => ?_
    refine Zo_ifne 23 dX9_taken_18 (by decide) ?_ ?_
    · refine Zo_aload0 dX9_taken_23 ?_
      refine Zo_getr (j := 51) fl_X9_66 kd_0 rfl dX9_taken_24 ?_
      refine Zo_iload1 dX9_taken_27 ?_
      refine Zo_cVI1 lk_X9_100 (e_X6_isEmpty g _ _) kd_51 (zFit_rm (by decide)) (zle rfl) dX9_taken_28 fun r3 => ?_
      refine Zo_ifeq 37 dX9_taken_31 (by decide) ?_ ?_
      · refine Zo_aload0 dX9_taken_37 ?_
        refine Zo_getr (j := 51) fl_X9_66 kd_0 rfl dX9_taken_38 ?_
        refine Zo_iload1 dX9_taken_41 ?_
        refine Zo_cVI1 lk_X9_336 (e_X6_isRow g _ _) kd_51 (zFit_rm (by decide)) (zle rfl) dX9_taken_42 fun r4 => ?_
        refine Zo_ifeq 51 dX9_taken_45 (by decide) ?_ ?_
        · refine Zo_aload0 dX9_taken_51 ?_
          refine Zo_getr (j := 48) fl_X9_59 kd_0 rfl dX9_taken_52 ?_
          refine Zo_aload0 dX9_taken_55 ?_
          refine Zo_getr (j := 51) fl_X9_66 kd_0 rfl dX9_taken_56 ?_
          refine Zo_iload1 dX9_taken_59 ?_
          refine Zo_cVI1 lk_X9_339 (e_X6_bodyOn g _ _) kd_51 (zFit_rm (by decide)) (zle rfl) dX9_taken_60 fun r5 => ?_
          refine Zo_cVI1 lk_X9_342 (e_X0_kindOf g _ _) kd_48 (zFit_rm (by decide)) (zle rfl) dX9_taken_63 fun r6 => ?_
          show Zo g _ _ _ 0 0 66 _ _ _
          refine Zo_istore3 rfl (zlt rfl) dX9_taken_66 ?_
          refine Zo_iload3 dX9_taken_67 ?_
          refine Zo_iload2 dX9_taken_68 ?_
          refine Zo_cSI2 lk_X9_345 (e_X0_isUnder g _ _ _) (zFit_rm (by decide)) (zle rfl) dX9_taken_69 fun r7 => ?_
          refine Zo_ifeq 79 dX9_taken_72 (by decide) ?_ ?_
          · refine Zo_bipush (-12 : Int32) dX9_taken_79 bp_m12 ?_
            exact Zo_iret dX9_taken_81 rfl rfl (Nat.le_refl _) (Nat.le_refl _)
          · refine Zo_iload3 dX9_taken_75 ?_
            refine Zo_goto 81 dX9_taken_76 (by decide) ?_
            exact Zo_iret dX9_taken_81 rfl rfl (Nat.le_refl _) (Nat.le_refl _)
        · refine Zo_bipush (-12 : Int32) dX9_taken_48 bp_m12 ?_
          exact Zo_iret dX9_taken_50 rfl rfl (Nat.le_refl _) (Nat.le_refl _)
      · refine Zo_bipush (-11 : Int32) dX9_taken_34 bp_m11 ?_
        exact Zo_iret dX9_taken_36 rfl rfl (Nat.le_refl _) (Nat.le_refl _)
    · refine Zo_iconst (-1 : Int32) dX9_taken_21 ic_m1 ?_
      exact Zo_iret dX9_taken_22 rfl rfl (Nat.le_refl _) (Nat.le_refl _)
theorem e_X9_taken (g : ZG) (p0 : Int32) (p1 : Int32) (σ : ZSt) : zEvI g 2 yX9_taken cX9_taken 4 (some .int) [.ref 0, .int p0, .int p1] σ (s_X9_taken p0 p1 σ) :=
  zEvI_of 1 rfl rfl (z_X9_taken g p0 p1 σ)
abbrev mX9_count (g : ZG) (q : Nat) : ZM := (yX9_count, cX9_count, 2, (some .int), zRm q 0 0, zTg g 0 0)
def s_X9_count (p0 : Int32) (σ : ZSt) : Option Int32 :=
  if p0 = (0 : Int32) then ((s_X7_streets σ).bind fun r1 => (some r1))
    else (if p0 = (1 : Int32) then ((s_X7_windowsInAll σ).bind fun r2 => (some r2))
    else (if p0 = (2 : Int32) then ((s_X7_players σ).bind fun r3 => (some r3))
    else (if p0 = (3 : Int32) then ((s_X3_bytes σ).bind fun r4 => (some r4))
    else (if p0 = (4 : Int32) then ((s_X1_undoable σ).bind fun r5 => (some r5))
    else (if p0 = (5 : Int32) then ((s_X0_bodies σ).bind fun r6 => (some r6))
    else (if p0 = (6 : Int32) then ((s_X0_ranInAll σ).bind fun r7 => (some r7))
    else (some (-1 : Int32))))))))
set_option maxHeartbeats 4000000 in
set_option maxRecDepth 100000 in
theorem z_X9_count (g : ZG) (p0 : Int32) (σ : ZSt) : Zo g (mX9_count g 1) (fun b : Int32 => (some (.int b), zw σ)) (s_X9_count p0 σ) 0 0 0 [some (.ref 0), some (.int p0)] [] (zw σ) := by
  unfold s_X9_count
  refine Zo_iload1 dX9_count_0 ?_
  refine Zo_ite (fun hc0 => ?_) (fun hc0 => ?_)
  · refine Zo_tswC (off := 43) (0 : Int32) 44 hc0 dX9_count_1 (by decide) (by decide) (by decide) (by decide) ?_
    refine Zo_aload0 dX9_count_44 ?_
    refine Zo_getr (j := 1) fl_X9_10 kd_0 rfl dX9_count_45 ?_
    refine Zo_cVI0 lk_X9_348 (e_X7_streets g _) kd_1 (zFit_rm (by decide)) (zle rfl) dX9_count_48 fun r1 => ?_
    exact Zo_iret dX9_count_51 rfl rfl (Nat.le_refl _) (Nat.le_refl _)
  refine Zo_ite (fun hc1 => ?_) (fun hc1 => ?_)
  · refine Zo_tswC (off := 51) (1 : Int32) 52 hc1 dX9_count_1 (by decide) (by decide) (by decide) (by decide) ?_
    refine Zo_aload0 dX9_count_52 ?_
    refine Zo_getr (j := 1) fl_X9_10 kd_0 rfl dX9_count_53 ?_
    refine Zo_cVI0 lk_X9_351 (e_X7_windowsInAll g _) kd_1 (zFit_rm (by decide)) (zle rfl) dX9_count_56 fun r2 => ?_
    exact Zo_iret dX9_count_59 rfl rfl (Nat.le_refl _) (Nat.le_refl _)
  refine Zo_ite (fun hc2 => ?_) (fun hc2 => ?_)
  · refine Zo_tswC (off := 59) (2 : Int32) 60 hc2 dX9_count_1 (by decide) (by decide) (by decide) (by decide) ?_
    refine Zo_aload0 dX9_count_60 ?_
    refine Zo_getr (j := 1) fl_X9_10 kd_0 rfl dX9_count_61 ?_
    refine Zo_cVI0 lk_X9_354 (e_X7_players g _) kd_1 (zFit_rm (by decide)) (zle rfl) dX9_count_64 fun r3 => ?_
    exact Zo_iret dX9_count_67 rfl rfl (Nat.le_refl _) (Nat.le_refl _)
  refine Zo_ite (fun hc3 => ?_) (fun hc3 => ?_)
  · refine Zo_tswC (off := 67) (3 : Int32) 68 hc3 dX9_count_1 (by decide) (by decide) (by decide) (by decide) ?_
    refine Zo_aload0 dX9_count_68 ?_
    refine Zo_getr (j := 46) fl_X9_52 kd_0 rfl dX9_count_69 ?_
    refine Zo_cVI0 lk_X9_357 (e_X3_bytes g _) kd_46 (zFit_rm (by decide)) (zle rfl) dX9_count_72 fun r4 => ?_
    exact Zo_iret dX9_count_75 rfl rfl (Nat.le_refl _) (Nat.le_refl _)
  refine Zo_ite (fun hc4 => ?_) (fun hc4 => ?_)
  · refine Zo_tswC (off := 75) (4 : Int32) 76 hc4 dX9_count_1 (by decide) (by decide) (by decide) (by decide) ?_
    refine Zo_aload0 dX9_count_76 ?_
    refine Zo_getr (j := 41) fl_X9_45 kd_0 rfl dX9_count_77 ?_
    refine Zo_cVI0 lk_X9_282 (e_X1_undoable g _) kd_41 (zFit_rm (by decide)) (zle rfl) dX9_count_80 fun r5 => ?_
    exact Zo_iret dX9_count_83 rfl rfl (Nat.le_refl _) (Nat.le_refl _)
  refine Zo_ite (fun hc5 => ?_) (fun hc5 => ?_)
  · refine Zo_tswC (off := 83) (5 : Int32) 84 hc5 dX9_count_1 (by decide) (by decide) (by decide) (by decide) ?_
    refine Zo_aload0 dX9_count_84 ?_
    refine Zo_getr (j := 48) fl_X9_59 kd_0 rfl dX9_count_85 ?_
    refine Zo_cVI0 lk_X9_360 (e_X0_bodies g _) kd_48 (zFit_rm (by decide)) (zle rfl) dX9_count_88 fun r6 => ?_
    exact Zo_iret dX9_count_91 rfl rfl (Nat.le_refl _) (Nat.le_refl _)
  refine Zo_ite (fun hc6 => ?_) (fun hc6 => ?_)
  · refine Zo_tswC (off := 91) (6 : Int32) 92 hc6 dX9_count_1 (by decide) (by decide) (by decide) (by decide) ?_
    refine Zo_aload0 dX9_count_92 ?_
    refine Zo_getr (j := 48) fl_X9_59 kd_0 rfl dX9_count_93 ?_
    refine Zo_cVI0 lk_X9_363 (e_X0_ranInAll g _) kd_48 (zFit_rm (by decide)) (zle rfl) dX9_count_96 fun r7 => ?_
    exact Zo_iret dX9_count_99 rfl rfl (Nat.le_refl _) (Nat.le_refl _)
  refine Zo_tswOut 100 dX9_count_1 (by have a0 := zne_0 hc0; have a1 := zne_1 hc1; have a2 := zne_2 hc2; have a3 := zne_3 hc3; have a4 := zne_4 hc4; have a5 := zne_5 hc5; have a6 := zne_6 hc6; omega) (by decide) ?_
  refine Zo_iconst (-1 : Int32) dX9_count_100 ic_m1 ?_
  exact Zo_iret dX9_count_101 rfl rfl (Nat.le_refl _) (Nat.le_refl _)
theorem e_X9_count (g : ZG) (p0 : Int32) (σ : ZSt) : zEvI g 1 yX9_count cX9_count 2 (some .int) [.ref 0, .int p0] σ (s_X9_count p0 σ) :=
  zEvI_of 0 rfl rfl (z_X9_count g p0 σ)
