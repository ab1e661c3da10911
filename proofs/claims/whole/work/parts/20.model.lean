abbrev mX10_within (g : ZG) (q : Nat) : ZM := (yX10_within, cX10_within, 6, (some .boolean), zRm q 0 0, zTg g 0 0)
def s_X10_within (p0 : Int64) (p1 : Int64) (p2 : Int64) (σ : ZSt) : Option Int32 :=
  if (lg_cmp p0 p1) < (0 : Int32) then (some (0 : Int32))
    else (if (0 : Int32) < (lg_cmp p0 p2) then (some (0 : Int32))
      else (some (1 : Int32)))
set_option maxHeartbeats 4000000 in
set_option maxRecDepth 100000 in
theorem z_X10_within (g : ZG) (p0 : Int64) (p1 : Int64) (p2 : Int64) (σ : ZSt) : Zo g (mX10_within g 0) (fun b : Int32 => (some (.int b), zw σ)) (s_X10_within p0 p1 p2 σ) 0 0 0 [some (.long p0), none, some (.long p1), none, some (.long p2), none] [] (zw σ) := by
  unfold s_X10_within
  refine Zo_lload0 dX10_within_0 ?_
  refine Zo_lload2 dX10_within_1 ?_
  refine Zo_lcmp dX10_within_2 ?_
  refine Zo_iflt 17 dX10_within_3 (by decide) ?_ ?_
  · refine Zo_iconst (0 : Int32) dX10_within_17 ic_0 ?_
    exact Zo_zret dX10_within_18 rfl rfl (Or.inl rfl) (Nat.le_refl _) (Nat.le_refl _)
  · refine Zo_lload0 dX10_within_6 ?_
    refine Zo_lload4 dX10_within_7 ?_
    refine Zo_lcmp dX10_within_9 ?_
    refine Zo_ifgt 17 dX10_within_10 (by decide) ?_ ?_
    · refine Zo_iconst (0 : Int32) dX10_within_17 ic_0 ?_
      exact Zo_zret dX10_within_18 rfl rfl (Or.inl rfl) (Nat.le_refl _) (Nat.le_refl _)
    · refine Zo_iconst (1 : Int32) dX10_within_13 ic_1 ?_
      refine Zo_goto 18 dX10_within_14 (by decide) ?_
      exact Zo_zret dX10_within_18 rfl rfl (Or.inr rfl) (Nat.le_refl _) (Nat.le_refl _)
theorem e_X10_within (g : ZG) (p0 : Int64) (p1 : Int64) (p2 : Int64) (σ : ZSt) : zEvI g 0 yX10_within cX10_within 6 (some .boolean) [.long p0, .long p1, .long p2] σ (s_X10_within p0 p1 p2 σ) :=
  zEvI_of 0 rfl rfl (z_X10_within g p0 p1 p2 σ)
abbrev mX10_becomes (g : ZG) (q : Nat) : ZM := (yX10_becomes, cX10_becomes, 5, (some .int), zRm q 0 0, zTg g 0 0)
def s_X10_becomes_C97 (l1 : Int32) (l2 : Int32) (l3 : Int32) (σ : ZSt) : Option (Int32 × ZSt) :=
  zSg (zIn (σ.1 68 5) 40) (zWD σ 70 (σ.1 68 5).toNatClampNeg l1) fun σ1 => (zSg (zIn (σ1.1 68 5) 40) (zWD σ1 71 (σ1.1 68 5).toNatClampNeg l3) fun σ2 => (zSg (zIn (σ2.1 68 5) 40) (zWD σ2 72 (σ2.1 68 5).toNatClampNeg l2) fun σ3 => (zSt' (zWD σ3 68 5 ((σ3.1 68 5) + (1 : Int32))) fun σ4 => (zSt' (zWD σ4 68 4 (σ4.1 68 5)) fun σ5 => (zSg (zIn l1 66) (zWD σ5 69 l1.toNatClampNeg l2) fun σ6 => (some (l3, σ6)))))))
set_option maxHeartbeats 4000000 in
set_option maxRecDepth 100000 in
theorem z_X10_becomes_C97 (g : ZG) (l1 : Int32) (l2 : Int32) (l3 : Int32) (σ : ZSt) (o4 : Option Value) : Zo g (mX10_becomes g 0) (fun b : Int32 × ZSt => (some (.int b.1), zw b.2)) (s_X10_becomes_C97 l1 l2 l3 σ) 0 0 97 [some (.ref 68), some (.int l1), some (.int l2), some (.int l3), o4] [] (zw σ) := by
  unfold s_X10_becomes_C97
  refine Zo_aload0 dX10_becomes_97 ?_
  refine Zo_getr (j := 70) fl_X10_13 kd_68 rfl dX10_becomes_98 ?_
  refine Zo_aload0 dX10_becomes_101 ?_
  refine Zo_geti fl_X10_111 kd_68 dX10_becomes_102 ?_
  refine Zo_iload1 dX10_becomes_105 ?_
  refine Zo_iast kd_70 dX10_becomes_106 fun σ1 => ?_
  refine Zo_aload0 dX10_becomes_107 ?_
  show Zo g _ _ _ 0 0 108 _ _ _
  refine Zo_getr (j := 71) fl_X10_16 kd_68 rfl dX10_becomes_108 ?_
  refine Zo_aload0 dX10_becomes_111 ?_
  refine Zo_geti fl_X10_111 kd_68 dX10_becomes_112 ?_
  refine Zo_iload3 dX10_becomes_115 ?_
  refine Zo_iast kd_71 dX10_becomes_116 fun σ2 => ?_
  refine Zo_aload0 dX10_becomes_117 ?_
  refine Zo_getr (j := 72) fl_X10_19 kd_68 rfl dX10_becomes_118 ?_
  refine Zo_aload0 dX10_becomes_121 ?_
  show Zo g _ _ _ 0 0 122 _ _ _
  refine Zo_geti fl_X10_111 kd_68 dX10_becomes_122 ?_
  refine Zo_iload2 dX10_becomes_125 ?_
  refine Zo_iast kd_72 dX10_becomes_126 fun σ3 => ?_
  refine Zo_aload0 dX10_becomes_127 ?_
  refine Zo_dup dX10_becomes_128 rfl ?_
  refine Zo_geti fl_X10_111 kd_68 dX10_becomes_129 ?_
  refine Zo_iconst (1 : Int32) dX10_becomes_132 ic_1 ?_
  refine Zo_iadd dX10_becomes_133 ?_
  show Zo g _ _ _ 0 0 134 _ _ _
  refine Zo_puti fl_X10_111 kd_68 dX10_becomes_134 fun σ4 => ?_
  refine Zo_aload0 dX10_becomes_137 ?_
  refine Zo_aload0 dX10_becomes_138 ?_
  refine Zo_geti fl_X10_111 kd_68 dX10_becomes_139 ?_
  refine Zo_puti fl_X10_114 kd_68 dX10_becomes_142 fun σ5 => ?_
  refine Zo_aload0 dX10_becomes_145 ?_
  refine Zo_getr (j := 69) fl_X10_9 kd_68 rfl dX10_becomes_146 ?_
  refine Zo_iload1 dX10_becomes_149 ?_
  show Zo g _ _ _ 0 0 150 _ _ _
  refine Zo_iload2 dX10_becomes_150 ?_
  refine Zo_iast kd_69 dX10_becomes_151 fun σ6 => ?_
  refine Zo_iload3 dX10_becomes_152 ?_
  exact Zo_iret dX10_becomes_153 rfl rfl (Nat.le_refl _) (Nat.le_refl _)
def s_X10_becomes_C87 (l1 : Int32) (l2 : Int32) (l3 : Int32) (σ : ZSt) : Option (Int32 × ZSt) :=
  zSt' (zWD σ 68 5 ((σ.1 68 5) - (1 : Int32))) fun σ1 => (s_X10_becomes_C97 l1 l2 l3 σ1)
set_option maxHeartbeats 4000000 in
set_option maxRecDepth 100000 in
theorem z_X10_becomes_C87 (g : ZG) (l1 : Int32) (l2 : Int32) (l3 : Int32) (σ : ZSt) (o4 : Option Value) : Zo g (mX10_becomes g 0) (fun b : Int32 × ZSt => (some (.int b.1), zw b.2)) (s_X10_becomes_C87 l1 l2 l3 σ) 0 0 87 [some (.ref 68), some (.int l1), some (.int l2), some (.int l3), o4] [] (zw σ) := by
  unfold s_X10_becomes_C87
  refine Zo_aload0 dX10_becomes_87 ?_
  refine Zo_dup dX10_becomes_88 rfl ?_
  refine Zo_geti fl_X10_111 kd_68 dX10_becomes_89 ?_
  refine Zo_iconst (1 : Int32) dX10_becomes_92 ic_1 ?_
  refine Zo_isub dX10_becomes_93 ?_
  refine Zo_puti fl_X10_111 kd_68 dX10_becomes_94 fun σ1 => ?_
  exact z_X10_becomes_C97 g _ _ _ _ _
def s_X10_becomes_L26 (l1 : Int32) (l2 : Int32) (l3 : Int32) : Nat → Int32 → ZSt → Option (Int32 × ZSt)
  | 0, _, _ => none
  | n + 1, l4, σ =>
    if (40 : Int32) ≤ l4 then (s_X10_becomes_C87 l1 l2 l3 σ)
      else (zLd (zIn l4 40) (σ.1 70 l4.toNatClampNeg) fun v1 => (zSg (zIn (l4 - (1 : Int32)) 40) (zWD σ 70 (l4 - (1 : Int32)).toNatClampNeg v1) fun σ2 => (zLd (zIn l4 40) (σ2.1 71 l4.toNatClampNeg) fun v3 => (zSg (zIn (l4 - (1 : Int32)) 40) (zWD σ2 71 (l4 - (1 : Int32)).toNatClampNeg v3) fun σ4 => (zLd (zIn l4 40) (σ4.1 72 l4.toNatClampNeg) fun v5 => (zSg (zIn (l4 - (1 : Int32)) 40) (zWD σ4 72 (l4 - (1 : Int32)).toNatClampNeg v5) fun σ6 => (s_X10_becomes_L26 l1 l2 l3 n (l4 + (1 : Int32)) σ6)))))))
set_option maxHeartbeats 4000000 in
set_option maxRecDepth 100000 in
theorem z_X10_becomes_L26 (g : ZG) (l1 : Int32) (l2 : Int32) (l3 : Int32) : ∀ (n : Nat) (l4 : Int32) (σ : ZSt), Zo g (mX10_becomes g 0) (fun b : Int32 × ZSt => (some (.int b.1), zw b.2)) (s_X10_becomes_L26 l1 l2 l3 n l4 σ) 0 0 26 [some (.ref 68), some (.int l1), some (.int l2), some (.int l3), some (.int l4)] [] (zw σ) := by
  intro n
  induction n with
  | zero => intros; exact Zo_none
  | succ n ih =>
    intro l4 σ
    rw [s_X10_becomes_L26]
    refine Zo_iload4 dX10_becomes_26 ?_
    refine Zo_bipush (40 : Int32) dX10_becomes_28 bp_40 ?_
    refine Zo_icmpge 87 dX10_becomes_30 (by decide) ?_ ?_
    · exact z_X10_becomes_C87 g _ _ _ _ _
    · refine Zo_aload0 dX10_becomes_33 ?_
      refine Zo_getr (j := 70) fl_X10_13 kd_68 rfl dX10_becomes_34 ?_
      refine Zo_iload4 dX10_becomes_37 ?_
      refine Zo_iconst (1 : Int32) dX10_becomes_39 ic_1 ?_
      refine Zo_isub dX10_becomes_40 ?_
      refine Zo_aload0 dX10_becomes_41 ?_
      refine Zo_getr (j := 70) fl_X10_13 kd_68 rfl dX10_becomes_42 ?_
      show Zo g _ _ _ 0 0 45 _ _ _
      refine Zo_iload4 dX10_becomes_45 ?_
      refine Zo_iald kd_70 dX10_becomes_47 fun v1 => ?_
      refine Zo_iast kd_70 dX10_becomes_48 fun σ2 => ?_
      refine Zo_aload0 dX10_becomes_49 ?_
      refine Zo_getr (j := 71) fl_X10_16 kd_68 rfl dX10_becomes_50 ?_
      refine Zo_iload4 dX10_becomes_53 ?_
      refine Zo_iconst (1 : Int32) dX10_becomes_55 ic_1 ?_
      refine Zo_isub dX10_becomes_56 ?_
      show Zo g _ _ _ 0 0 57 _ _ _
      refine Zo_aload0 dX10_becomes_57 ?_
      refine Zo_getr (j := 71) fl_X10_16 kd_68 rfl dX10_becomes_58 ?_
      refine Zo_iload4 dX10_becomes_61 ?_
      refine Zo_iald kd_71 dX10_becomes_63 fun v3 => ?_
      refine Zo_iast kd_71 dX10_becomes_64 fun σ4 => ?_
      refine Zo_aload0 dX10_becomes_65 ?_
      refine Zo_getr (j := 72) fl_X10_19 kd_68 rfl dX10_becomes_66 ?_
      refine Zo_iload4 dX10_becomes_69 ?_
      show Zo g _ _ _ 0 0 71 _ _ _
      refine Zo_iconst (1 : Int32) dX10_becomes_71 ic_1 ?_
      refine Zo_isub dX10_becomes_72 ?_
      refine Zo_aload0 dX10_becomes_73 ?_
      refine Zo_getr (j := 72) fl_X10_19 kd_68 rfl dX10_becomes_74 ?_
      refine Zo_iload4 dX10_becomes_77 ?_
      refine Zo_iald kd_72 dX10_becomes_79 fun v5 => ?_
      refine Zo_iast kd_72 dX10_becomes_80 fun σ6 => ?_
      refine Zo_iinc4 rfl (1 : Int32) ic_1 (zlt rfl) dX10_becomes_81 ?_
      show Zo g _ _ _ 0 0 84 _ _ _
      refine Zo_goto 26 dX10_becomes_84 (by decide) ?_
      exact ih _ _
def s_X10_becomes (p0 : Int32) (p1 : Int32) (σ : ZSt) : Option (Int32 × ZSt) :=
  zLd (zIn p0 66) (σ.1 69 p0.toNatClampNeg) fun v1 => (if v1 = p1 then (some (v1, σ))
    else (if (σ.1 68 5) = (40 : Int32) then (s_X10_becomes_L26 p0 p1 v1 200 (1 : Int32) σ)
      else (s_X10_becomes_C97 p0 p1 v1 σ)))
set_option maxHeartbeats 4000000 in
set_option maxRecDepth 100000 in
theorem z_X10_becomes (g : ZG) (p0 : Int32) (p1 : Int32) (σ : ZSt) : Zo g (mX10_becomes g 0) (fun b : Int32 × ZSt => (some (.int b.1), zw b.2)) (s_X10_becomes p0 p1 σ) 0 0 0 [some (.ref 68), some (.int p0), some (.int p1), none, none] [] (zw σ) := by
  unfold s_X10_becomes
  refine Zo_aload0 dX10_becomes_0 ?_
  refine Zo_getr (j := 69) fl_X10_9 kd_68 rfl dX10_becomes_1 ?_
  refine Zo_iload1 dX10_becomes_4 ?_
  refine Zo_iald kd_69 dX10_becomes_5 fun v1 => ?_
  refine Zo_istore3 rfl (zlt rfl) dX10_becomes_6 ?_
  refine Zo_iload3 dX10_becomes_7 ?_
  refine Zo_iload2 dX10_becomes_8 ?_
  show Zo g _ _ _ 0 0 9 _ _ _
  refine Zo_icmpne 14 dX10_becomes_9 (by decide) ?_ ?_
  · refine Zo_aload0 dX10_becomes_14 ?_
    refine Zo_geti fl_X10_111 kd_68 dX10_becomes_15 ?_
    refine Zo_bipush (40 : Int32) dX10_becomes_18 bp_40 ?_
    refine Zo_icmpne 97 dX10_becomes_20 (by decide) ?_ ?_
    · exact z_X10_becomes_C97 g _ _ _ _ _
    · refine Zo_iconst (1 : Int32) dX10_becomes_23 ic_1 ?_
      refine Zo_istore4 rfl (zlt rfl) dX10_becomes_24 ?_
      exact z_X10_becomes_L26 g _ _ _ _ _ _
  · refine Zo_iload3 dX10_becomes_12 ?_
    exact Zo_iret dX10_becomes_13 rfl rfl (Nat.le_refl _) (Nat.le_refl _)
theorem e_X10_becomes (g : ZG) (p0 : Int32) (p1 : Int32) (σ : ZSt) : zEvS g 0 yX10_becomes cX10_becomes 5 (some .int) [.ref 68, .int p0, .int p1] σ (s_X10_becomes p0 p1 σ) :=
  zEvS_of 2 rfl rfl (z_X10_becomes g p0 p1 σ)
abbrev mX10_undo (g : ZG) (q : Nat) : ZM := (yX10_undo, cX10_undo, 1, (some .int), zRm q 0 0, zTg g 0 0)
def s_X10_undo (σ : ZSt) : Option (Int32 × ZSt) :=
  if (σ.1 68 5) = (0 : Int32) then (some ((-5 : Int32), σ))
    else (zSt' (zWD σ 68 5 ((σ.1 68 5) - (1 : Int32))) fun σ1 => (zLd (zIn (σ1.1 68 5) 40) (σ1.1 70 (σ1.1 68 5).toNatClampNeg) fun v2 => (zLd (zIn (σ1.1 68 5) 40) (σ1.1 71 (σ1.1 68 5).toNatClampNeg) fun v3 => (zSg (zIn v2 66) (zWD σ1 69 v2.toNatClampNeg v3) fun σ4 => (some ((σ4.1 68 5), σ4))))))
set_option maxHeartbeats 4000000 in
set_option maxRecDepth 100000 in
theorem z_X10_undo (g : ZG) (σ : ZSt) : Zo g (mX10_undo g 0) (fun b : Int32 × ZSt => (some (.int b.1), zw b.2)) (s_X10_undo σ) 0 0 0 [some (.ref 68)] [] (zw σ) := by
  unfold s_X10_undo
  refine Zo_aload0 dX10_undo_0 ?_
  refine Zo_geti fl_X10_111 kd_68 dX10_undo_1 ?_
  refine Zo_ifne 10 dX10_undo_4 (by decide) ?_ ?_
  · refine Zo_aload0 dX10_undo_10 ?_
    refine Zo_dup dX10_undo_11 rfl ?_
    refine Zo_geti fl_X10_111 kd_68 dX10_undo_12 ?_
    refine Zo_iconst (1 : Int32) dX10_undo_15 ic_1 ?_
    refine Zo_isub dX10_undo_16 ?_
    refine Zo_puti fl_X10_111 kd_68 dX10_undo_17 fun σ1 => ?_
    refine Zo_aload0 dX10_undo_20 ?_
    show Zo g _ _ _ 0 0 21 _ _ _
    refine Zo_getr (j := 69) fl_X10_9 kd_68 rfl dX10_undo_21 ?_
    refine Zo_aload0 dX10_undo_24 ?_
    refine Zo_getr (j := 70) fl_X10_13 kd_68 rfl dX10_undo_25 ?_
    refine Zo_aload0 dX10_undo_28 ?_
    refine Zo_geti fl_X10_111 kd_68 dX10_undo_29 ?_
    refine Zo_iald kd_70 dX10_undo_32 fun v2 => ?_
    refine Zo_aload0 dX10_undo_33 ?_
    refine Zo_getr (j := 71) fl_X10_16 kd_68 rfl dX10_undo_34 ?_
    show Zo g _ _ _ 0 0 37 _ _ _
    refine Zo_aload0 dX10_undo_37 ?_
    refine Zo_geti fl_X10_111 kd_68 dX10_undo_38 ?_
    refine Zo_iald kd_71 dX10_undo_41 fun v3 => ?_
    refine Zo_iast kd_69 dX10_undo_42 fun σ4 => ?_
    refine Zo_aload0 dX10_undo_43 ?_
    refine Zo_geti fl_X10_111 kd_68 dX10_undo_44 ?_
    exact Zo_iret dX10_undo_47 rfl rfl (Nat.le_refl _) (Nat.le_refl _)
  · refine Zo_bipush (-5 : Int32) dX10_undo_7 bp_m5 ?_
    exact Zo_iret dX10_undo_9 rfl rfl (Nat.le_refl _) (Nat.le_refl _)
theorem e_X10_undo (g : ZG) (σ : ZSt) : zEvS g 0 yX10_undo cX10_undo 1 (some .int) [.ref 68] σ (s_X10_undo σ) :=
  zEvS_of 0 rfl rfl (z_X10_undo g σ)
abbrev mX10_redo (g : ZG) (q : Nat) : ZM := (yX10_redo, cX10_redo, 1, (some .int), zRm q 0 0, zTg g 0 0)
def s_X10_redo (σ : ZSt) : Option (Int32 × ZSt) :=
  if (σ.1 68 5) = (σ.1 68 4) then (some ((-5 : Int32), σ))
    else (zLd (zIn (σ.1 68 5) 40) (σ.1 70 (σ.1 68 5).toNatClampNeg) fun v1 => (zLd (zIn (σ.1 68 5) 40) (σ.1 72 (σ.1 68 5).toNatClampNeg) fun v2 => (zSg (zIn v1 66) (zWD σ 69 v1.toNatClampNeg v2) fun σ3 => (zSt' (zWD σ3 68 5 ((σ3.1 68 5) + (1 : Int32))) fun σ4 => (some (((σ4.1 68 4) - (σ4.1 68 5)), σ4))))))
set_option maxHeartbeats 4000000 in
set_option maxRecDepth 100000 in
theorem z_X10_redo (g : ZG) (σ : ZSt) : Zo g (mX10_redo g 0) (fun b : Int32 × ZSt => (some (.int b.1), zw b.2)) (s_X10_redo σ) 0 0 0 [some (.ref 68)] [] (zw σ) := by
  unfold s_X10_redo
  refine Zo_aload0 dX10_redo_0 ?_
  refine Zo_geti fl_X10_111 kd_68 dX10_redo_1 ?_
  refine Zo_aload0 dX10_redo_4 ?_
  refine Zo_geti fl_X10_114 kd_68 dX10_redo_5 ?_
  refine Zo_icmpne 14 dX10_redo_8 (by decide) ?_ ?_
  · refine Zo_aload0 dX10_redo_14 ?_
    refine Zo_getr (j := 69) fl_X10_9 kd_68 rfl dX10_redo_15 ?_
    refine Zo_aload0 dX10_redo_18 ?_
    refine Zo_getr (j := 70) fl_X10_13 kd_68 rfl dX10_redo_19 ?_
    refine Zo_aload0 dX10_redo_22 ?_
    refine Zo_geti fl_X10_111 kd_68 dX10_redo_23 ?_
    refine Zo_iald kd_70 dX10_redo_26 fun v1 => ?_
    show Zo g _ _ _ 0 0 27 _ _ _
    refine Zo_aload0 dX10_redo_27 ?_
    refine Zo_getr (j := 72) fl_X10_19 kd_68 rfl dX10_redo_28 ?_
    refine Zo_aload0 dX10_redo_31 ?_
    refine Zo_geti fl_X10_111 kd_68 dX10_redo_32 ?_
    refine Zo_iald kd_72 dX10_redo_35 fun v2 => ?_
    refine Zo_iast kd_69 dX10_redo_36 fun σ3 => ?_
    refine Zo_aload0 dX10_redo_37 ?_
    refine Zo_dup dX10_redo_38 rfl ?_
    show Zo g _ _ _ 0 0 39 _ _ _
    refine Zo_geti fl_X10_111 kd_68 dX10_redo_39 ?_
    refine Zo_iconst (1 : Int32) dX10_redo_42 ic_1 ?_
    refine Zo_iadd dX10_redo_43 ?_
    refine Zo_puti fl_X10_111 kd_68 dX10_redo_44 fun σ4 => ?_
    refine Zo_aload0 dX10_redo_47 ?_
    refine Zo_geti fl_X10_114 kd_68 dX10_redo_48 ?_
    refine Zo_aload0 dX10_redo_51 ?_
    refine Zo_geti fl_X10_111 kd_68 dX10_redo_52 ?_
    show Zo g _ _ _ 0 0 55 _ _ _
    refine Zo_isub dX10_redo_55 ?_
    exact Zo_iret dX10_redo_56 rfl rfl (Nat.le_refl _) (Nat.le_refl _)
  · refine Zo_bipush (-5 : Int32) dX10_redo_11 bp_m5 ?_
    exact Zo_iret dX10_redo_13 rfl rfl (Nat.le_refl _) (Nat.le_refl _)
theorem e_X10_redo (g : ZG) (σ : ZSt) : zEvS g 0 yX10_redo cX10_redo 1 (some .int) [.ref 68] σ (s_X10_redo σ) :=
  zEvS_of 0 rfl rfl (z_X10_redo g σ)
abbrev mX10_isStreet (g : ZG) (q : Nat) : ZM := (yX10_isStreet, cX10_isStreet, 2, (some .boolean), zRm q 0 0, zTg g 0 0)
def s_X10_isStreet (p0 : Int32) (σ : ZSt) : Option Int32 :=
  (s_X10_within (p0.toInt64) (0 : Int64) (((σ.1 68 6) - (1 : Int32)).toInt64) σ).bind fun r1 => (if r1 = (0 : Int32) ∨ r1 = (1 : Int32) then some r1 else none)
set_option maxHeartbeats 4000000 in
set_option maxRecDepth 100000 in
theorem z_X10_isStreet (g : ZG) (p0 : Int32) (σ : ZSt) : Zo g (mX10_isStreet g 1) (fun b : Int32 => (some (.int b), zw σ)) (s_X10_isStreet p0 σ) 0 0 0 [some (.ref 68), some (.int p0)] [] (zw σ) := by
  unfold s_X10_isStreet
  refine Zo_iload1 dX10_isStreet_0 ?_
  refine Zo_i2l dX10_isStreet_1 ?_
  refine Zo_lconst (0 : Int64) dX10_isStreet_2 lc_0 ?_
  refine Zo_aload0 dX10_isStreet_3 ?_
  refine Zo_geti fl_X10_117 kd_68 dX10_isStreet_4 ?_
  refine Zo_iconst (1 : Int32) dX10_isStreet_7 ic_1 ?_
  refine Zo_isub dX10_isStreet_8 ?_
  show Zo g _ _ _ 0 0 9 _ _ _
  refine Zo_i2l dX10_isStreet_9 ?_
  refine Zo_cSI3 lk_X10_120 (e_X10_within g _ _ _ _) (zFit_rm (by decide)) (zle rfl) dX10_isStreet_10 fun r1 => ?_
  refine Zo_guard fun hb => ?_
  exact Zo_zret dX10_isStreet_13 rfl rfl hb (Nat.le_refl _) (Nat.le_refl _)
theorem e_X10_isStreet (g : ZG) (p0 : Int32) (σ : ZSt) : zEvI g 1 yX10_isStreet cX10_isStreet 2 (some .boolean) [.ref 68, .int p0] σ (s_X10_isStreet p0 σ) :=
  zEvI_of 0 rfl rfl (z_X10_isStreet g p0 σ)
abbrev mX10_isWindow (g : ZG) (q : Nat) : ZM := (yX10_isWindow, cX10_isWindow, 2, (some .boolean), zRm q 0 0, zTg g 0 0)
def s_X10_isWindow (p0 : Int32) (σ : ZSt) : Option Int32 :=
  (s_X10_within (p0.toInt64) (0 : Int64) (((σ.1 68 10) - (1 : Int32)).toInt64) σ).bind fun r1 => (if r1 = (0 : Int32) ∨ r1 = (1 : Int32) then some r1 else none)
set_option maxHeartbeats 4000000 in
set_option maxRecDepth 100000 in
theorem z_X10_isWindow (g : ZG) (p0 : Int32) (σ : ZSt) : Zo g (mX10_isWindow g 1) (fun b : Int32 => (some (.int b), zw σ)) (s_X10_isWindow p0 σ) 0 0 0 [some (.ref 68), some (.int p0)] [] (zw σ) := by
  unfold s_X10_isWindow
  refine Zo_iload1 dX10_isWindow_0 ?_
  refine Zo_i2l dX10_isWindow_1 ?_
  refine Zo_lconst (0 : Int64) dX10_isWindow_2 lc_0 ?_
  refine Zo_aload0 dX10_isWindow_3 ?_
  refine Zo_geti fl_X10_124 kd_68 dX10_isWindow_4 ?_
  refine Zo_iconst (1 : Int32) dX10_isWindow_7 ic_1 ?_
  refine Zo_isub dX10_isWindow_8 ?_
  show Zo g _ _ _ 0 0 9 _ _ _
  refine Zo_i2l dX10_isWindow_9 ?_
  refine Zo_cSI3 lk_X10_120 (e_X10_within g _ _ _ _) (zFit_rm (by decide)) (zle rfl) dX10_isWindow_10 fun r1 => ?_
  refine Zo_guard fun hb => ?_
  exact Zo_zret dX10_isWindow_13 rfl rfl hb (Nat.le_refl _) (Nat.le_refl _)
theorem e_X10_isWindow (g : ZG) (p0 : Int32) (σ : ZSt) : zEvI g 1 yX10_isWindow cX10_isWindow 2 (some .boolean) [.ref 68, .int p0] σ (s_X10_isWindow p0 σ) :=
  zEvI_of 0 rfl rfl (z_X10_isWindow g p0 σ)
abbrev mX10_isPlayer (g : ZG) (q : Nat) : ZM := (yX10_isPlayer, cX10_isPlayer, 2, (some .boolean), zRm q 0 0, zTg g 0 0)
def s_X10_isPlayer (p0 : Int32) (σ : ZSt) : Option Int32 :=
  (s_X10_within (p0.toInt64) (0 : Int64) (((σ.1 68 13) - (1 : Int32)).toInt64) σ).bind fun r1 => (if r1 = (0 : Int32) ∨ r1 = (1 : Int32) then some r1 else none)
set_option maxHeartbeats 4000000 in
set_option maxRecDepth 100000 in
theorem z_X10_isPlayer (g : ZG) (p0 : Int32) (σ : ZSt) : Zo g (mX10_isPlayer g 1) (fun b : Int32 => (some (.int b), zw σ)) (s_X10_isPlayer p0 σ) 0 0 0 [some (.ref 68), some (.int p0)] [] (zw σ) := by
  unfold s_X10_isPlayer
  refine Zo_iload1 dX10_isPlayer_0 ?_
  refine Zo_i2l dX10_isPlayer_1 ?_
  refine Zo_lconst (0 : Int64) dX10_isPlayer_2 lc_0 ?_
  refine Zo_aload0 dX10_isPlayer_3 ?_
  refine Zo_geti fl_X10_127 kd_68 dX10_isPlayer_4 ?_
  refine Zo_iconst (1 : Int32) dX10_isPlayer_7 ic_1 ?_
  refine Zo_isub dX10_isPlayer_8 ?_
  show Zo g _ _ _ 0 0 9 _ _ _
  refine Zo_i2l dX10_isPlayer_9 ?_
  refine Zo_cSI3 lk_X10_120 (e_X10_within g _ _ _ _) (zFit_rm (by decide)) (zle rfl) dX10_isPlayer_10 fun r1 => ?_
  refine Zo_guard fun hb => ?_
  exact Zo_zret dX10_isPlayer_13 rfl rfl hb (Nat.le_refl _) (Nat.le_refl _)
theorem e_X10_isPlayer (g : ZG) (p0 : Int32) (σ : ZSt) : zEvI g 1 yX10_isPlayer cX10_isPlayer 2 (some .boolean) [.ref 68, .int p0] σ (s_X10_isPlayer p0 σ) :=
  zEvI_of 0 rfl rfl (z_X10_isPlayer g p0 σ)
abbrev mX10_isTwo (g : ZG) (q : Nat) : ZM := (yX10_isTwo, cX10_isTwo, 2, (some .boolean), zRm q 0 0, zTg g 0 0)
def s_X10_isTwo (p0 : Int64) (σ : ZSt) : Option Int32 :=
  (s_X10_within p0 (0 : Int64) (99 : Int64) σ).bind fun r1 => (if r1 = (0 : Int32) ∨ r1 = (1 : Int32) then some r1 else none)
set_option maxHeartbeats 4000000 in
set_option maxRecDepth 100000 in
theorem z_X10_isTwo (g : ZG) (p0 : Int64) (σ : ZSt) : Zo g (mX10_isTwo g 1) (fun b : Int32 => (some (.int b), zw σ)) (s_X10_isTwo p0 σ) 0 0 0 [some (.long p0), none] [] (zw σ) := by
  unfold s_X10_isTwo
  refine Zo_lload0 dX10_isTwo_0 ?_
  refine Zo_lconst (0 : Int64) dX10_isTwo_1 lc_0 ?_
  refine Zo_ldc2 rfl cw_X10_130 dX10_isTwo_2 ?_
  refine Zo_cSI3 lk_X10_120 (e_X10_within g _ _ _ _) (zFit_rm (by decide)) (zle rfl) dX10_isTwo_5 fun r1 => ?_
  refine Zo_guard fun hb => ?_
  exact Zo_zret dX10_isTwo_8 rfl rfl hb (Nat.le_refl _) (Nat.le_refl _)
theorem e_X10_isTwo (g : ZG) (p0 : Int64) (σ : ZSt) : zEvI g 1 yX10_isTwo cX10_isTwo 2 (some .boolean) [.long p0] σ (s_X10_isTwo p0 σ) :=
  zEvI_of 0 rfl rfl (z_X10_isTwo g p0 σ)
abbrev mX10_take (g : ZG) (q : Nat) : ZM := (yX10_take, cX10_take, 2, (some .int), zRm q 0 0, zTg g 0 0)
def s_X10_take (p0 : Int32) (σ : ZSt) : Option Int32 :=
  zLd (zIn ((60 : Int32) + p0) 66) (σ.1 69 ((60 : Int32) + p0).toNatClampNeg) fun v1 => (some v1)
set_option maxHeartbeats 4000000 in
set_option maxRecDepth 100000 in
theorem z_X10_take (g : ZG) (p0 : Int32) (σ : ZSt) : Zo g (mX10_take g 0) (fun b : Int32 => (some (.int b), zw σ)) (s_X10_take p0 σ) 0 0 0 [some (.ref 68), some (.int p0)] [] (zw σ) := by
  unfold s_X10_take
  refine Zo_aload0 dX10_take_0 ?_
  refine Zo_getr (j := 69) fl_X10_9 kd_68 rfl dX10_take_1 ?_
  refine Zo_bipush (60 : Int32) dX10_take_4 bp_60 ?_
  refine Zo_iload1 dX10_take_6 ?_
  refine Zo_iadd dX10_take_7 ?_
  refine Zo_iald kd_69 dX10_take_8 fun v1 => ?_
  exact Zo_iret dX10_take_9 rfl rfl (Nat.le_refl _) (Nat.le_refl _)
theorem e_X10_take (g : ZG) (p0 : Int32) (σ : ZSt) : zEvI g 0 yX10_take cX10_take 2 (some .int) [.ref 68, .int p0] σ (s_X10_take p0 σ) :=
  zEvI_of 0 rfl rfl (z_X10_take g p0 σ)
abbrev mX10_street (g : ZG) (q : Nat) : ZM := (yX10_street, cX10_street, 3, (some .int), zRm q 0 0, zTg g 0 0)
def s_X10_street (p0 : Int32) (p1 : Int32) (σ : ZSt) : Option (Int32 × ZSt) :=
  (s_X10_isTwo (p0.toInt64) σ).bind fun r1 => (if r1 = (0 : Int32) then (some ((-1 : Int32), σ))
    else ((s_X10_isTwo (p1.toInt64) σ).bind fun r2 => (if r2 = (0 : Int32) then (some ((-1 : Int32), σ))
      else (if (σ.1 68 6) = (6 : Int32) then (some ((-3 : Int32), σ))
        else (zSg (zIn ((60 : Int32) + (σ.1 68 6)) 66) (zWD σ 69 ((60 : Int32) + (σ.1 68 6)).toNatClampNeg p0) fun σ3 => (zSg (zIn (σ3.1 68 6) 6) (zWD σ3 73 (σ3.1 68 6).toNatClampNeg p1) fun σ4 => (zSg (zIn (σ4.1 68 6) 6) (zWD σ4 74 (σ4.1 68 6).toNatClampNeg (0 : Int32)) fun σ5 => (zSg (zIn (σ5.1 68 6) 6) (zWD σ5 75 (σ5.1 68 6).toNatClampNeg (0 : Int32)) fun σ6 => (zSt' (zWD σ6 68 6 ((σ6.1 68 6) + (1 : Int32))) fun σ7 => (some (((σ7.1 68 6) - (1 : Int32)), σ7)))))))))))
set_option maxHeartbeats 4000000 in
set_option maxRecDepth 100000 in
theorem z_X10_street (g : ZG) (p0 : Int32) (p1 : Int32) (σ : ZSt) : Zo g (mX10_street g 2) (fun b : Int32 × ZSt => (some (.int b.1), zw b.2)) (s_X10_street p0 p1 σ) 0 0 0 [some (.ref 68), some (.int p0), some (.int p1)] [] (zw σ) := by
  unfold s_X10_street
  refine Zo_iload1 dX10_street_0 ?_
  refine Zo_i2l dX10_street_1 ?_
  refine Zo_cSI1 lk_X10_132 (e_X10_isTwo g _ _) (zFit_rm (by decide)) (zle rfl) dX10_street_2 fun r1 => ?_
  refine Zo_ifeq 16 dX10_street_5 (by decide) ?_ ?_
  · refine Zo_iconst (-1 : Int32) dX10_street_16 ic_m1 ?_
    exact Zo_iret dX10_street_17 rfl rfl (Nat.le_refl _) (Nat.le_refl _)
  · refine Zo_iload2 dX10_street_8 ?_
    refine Zo_i2l dX10_street_9 ?_
    refine Zo_cSI1 lk_X10_132 (e_X10_isTwo g _ _) (zFit_rm (by decide)) (zle rfl) dX10_street_10 fun r2 => ?_
    refine Zo_ifne 18 dX10_street_13 (by decide) ?_ ?_
    · refine Zo_aload0 dX10_street_18 ?_
      refine Zo_geti fl_X10_117 kd_68 dX10_street_19 ?_
      refine Zo_bipush (6 : Int32) dX10_street_22 bp_6 ?_
      refine Zo_icmpne 30 dX10_street_24 (by decide) ?_ ?_
      · refine Zo_aload0 dX10_street_30 ?_
        refine Zo_getr (j := 69) fl_X10_9 kd_68 rfl dX10_street_31 ?_
        refine Zo_bipush (60 : Int32) dX10_street_34 bp_60 ?_
        refine Zo_aload0 dX10_street_36 ?_
        refine Zo_geti fl_X10_117 kd_68 dX10_street_37 ?_
        refine Zo_iadd dX10_street_40 ?_
        refine Zo_iload1 dX10_street_41 ?_
        show Zo g _ _ _ 0 0 42 _ _ _
        refine Zo_iast kd_69 dX10_street_42 fun σ3 => ?_
        refine Zo_aload0 dX10_street_43 ?_
        refine Zo_getr (j := 73) fl_X10_22 kd_68 rfl dX10_street_44 ?_
        refine Zo_aload0 dX10_street_47 ?_
        refine Zo_geti fl_X10_117 kd_68 dX10_street_48 ?_
        refine Zo_iload2 dX10_street_51 ?_
        refine Zo_iast kd_73 dX10_street_52 fun σ4 => ?_
        refine Zo_aload0 dX10_street_53 ?_
        show Zo g _ _ _ 0 0 54 _ _ _
        refine Zo_getr (j := 74) fl_X10_25 kd_68 rfl dX10_street_54 ?_
        refine Zo_aload0 dX10_street_57 ?_
        refine Zo_geti fl_X10_117 kd_68 dX10_street_58 ?_
        refine Zo_iconst (0 : Int32) dX10_street_61 ic_0 ?_
        refine Zo_iast kd_74 dX10_street_62 fun σ5 => ?_
        refine Zo_aload0 dX10_street_63 ?_
        refine Zo_getr (j := 75) fl_X10_28 kd_68 rfl dX10_street_64 ?_
        refine Zo_aload0 dX10_street_67 ?_
        show Zo g _ _ _ 0 0 68 _ _ _
        refine Zo_geti fl_X10_117 kd_68 dX10_street_68 ?_
        refine Zo_iconst (0 : Int32) dX10_street_71 ic_0 ?_
        refine Zo_iast kd_75 dX10_street_72 fun σ6 => ?_
        refine Zo_aload0 dX10_street_73 ?_
        refine Zo_dup dX10_street_74 rfl ?_
        refine Zo_geti fl_X10_117 kd_68 dX10_street_75 ?_
        refine Zo_iconst (1 : Int32) dX10_street_78 ic_1 ?_
        refine Zo_iadd dX10_street_79 ?_
        show Zo g _ _ _ 0 0 80 _ _ _
        refine Zo_puti fl_X10_117 kd_68 dX10_street_80 fun σ7 => ?_
        refine Zo_aload0 dX10_street_83 ?_
        refine Zo_geti fl_X10_117 kd_68 dX10_street_84 ?_
        refine Zo_iconst (1 : Int32) dX10_street_87 ic_1 ?_
        refine Zo_isub dX10_street_88 ?_
        exact Zo_iret dX10_street_89 rfl rfl (Nat.le_refl _) (Nat.le_refl _)
      · refine Zo_bipush (-3 : Int32) dX10_street_27 bp_m3 ?_
        exact Zo_iret dX10_street_29 rfl rfl (Nat.le_refl _) (Nat.le_refl _)
    · refine Zo_iconst (-1 : Int32) dX10_street_16 ic_m1 ?_
      exact Zo_iret dX10_street_17 rfl rfl (Nat.le_refl _) (Nat.le_refl _)
theorem e_X10_street (g : ZG) (p0 : Int32) (p1 : Int32) (σ : ZSt) : zEvS g 2 yX10_street cX10_street 3 (some .int) [.ref 68, .int p0, .int p1] σ (s_X10_street p0 p1 σ) :=
  zEvS_of 0 rfl rfl (z_X10_street g p0 p1 σ)
abbrev mX10_isOne (g : ZG) (q : Nat) : ZM := (yX10_isOne, cX10_isOne, 9, (some .boolean), zRm q 0 0, zTg g 0 0)
def s_X10_isOne (p0 : Int64) (p1 : Int64) (p2 : Int64) (p3 : Int64) (σ : ZSt) : Option Int32 :=
  (s_X10_within p0 (0 : Int64) (((σ.1 68 6) - (1 : Int32)).toInt64) σ).bind fun r1 => (if r1 = (0 : Int32) then (some (0 : Int32))
    else ((s_X10_isTwo p1 σ).bind fun r2 => (if r2 = (0 : Int32) then (some (0 : Int32))
      else ((s_X10_within p2 (-99 : Int64) (99 : Int64) σ).bind fun r3 => (if r3 = (0 : Int32) then (some (0 : Int32))
        else ((s_X10_within p3 (0 : Int64) (999 : Int64) σ).bind fun r4 => (if r4 = (0 : Int32) then (some (0 : Int32))
          else (some (1 : Int32)))))))))
set_option maxHeartbeats 4000000 in
set_option maxRecDepth 100000 in
theorem z_X10_isOne (g : ZG) (p0 : Int64) (p1 : Int64) (p2 : Int64) (p3 : Int64) (σ : ZSt) : Zo g (mX10_isOne g 2) (fun b : Int32 => (some (.int b), zw σ)) (s_X10_isOne p0 p1 p2 p3 σ) 0 0 0 [some (.ref 68), some (.long p0), none, some (.long p1), none, some (.long p2), none, some (.long p3), none] [] (zw σ) := by
  unfold s_X10_isOne
  refine Zo_lload1 dX10_isOne_0 ?_
  refine Zo_lconst (0 : Int64) dX10_isOne_1 lc_0 ?_
  refine Zo_aload0 dX10_isOne_2 ?_
  refine Zo_geti fl_X10_117 kd_68 dX10_isOne_3 ?_
  refine Zo_iconst (1 : Int32) dX10_isOne_6 ic_1 ?_
  refine Zo_isub dX10_isOne_7 ?_
  refine Zo_i2l dX10_isOne_8 ?_
  show Zo g _ _ _ 0 0 9 _ _ _
  refine Zo_cSI3 lk_X10_120 (e_X10_within g _ _ _ _) (zFit_rm (by decide)) (zle rfl) dX10_isOne_9 fun r1 => ?_
  refine Zo_ifeq 52 dX10_isOne_12 (by decide) ?_ ?_
  · refine Zo_iconst (0 : Int32) dX10_isOne_52 ic_0 ?_
    exact Zo_zret dX10_isOne_53 rfl rfl (Or.inl rfl) (Nat.le_refl _) (Nat.le_refl _)
  · refine Zo_lload3 dX10_isOne_15 ?_
    refine Zo_cSI1 lk_X10_132 (e_X10_isTwo g _ _) (zFit_rm (by decide)) (zle rfl) dX10_isOne_16 fun r2 => ?_
    refine Zo_ifeq 52 dX10_isOne_19 (by decide) ?_ ?_
    · refine Zo_iconst (0 : Int32) dX10_isOne_52 ic_0 ?_
      exact Zo_zret dX10_isOne_53 rfl rfl (Or.inl rfl) (Nat.le_refl _) (Nat.le_refl _)
    · refine Zo_lload5 dX10_isOne_22 ?_
      refine Zo_ldc2 rfl cw_X10_136 dX10_isOne_24 ?_
      refine Zo_ldc2 rfl cw_X10_130 dX10_isOne_27 ?_
      refine Zo_cSI3 lk_X10_120 (e_X10_within g _ _ _ _) (zFit_rm (by decide)) (zle rfl) dX10_isOne_30 fun r3 => ?_
      refine Zo_ifeq 52 dX10_isOne_33 (by decide) ?_ ?_
      · refine Zo_iconst (0 : Int32) dX10_isOne_52 ic_0 ?_
        exact Zo_zret dX10_isOne_53 rfl rfl (Or.inl rfl) (Nat.le_refl _) (Nat.le_refl _)
      · refine Zo_lload7 dX10_isOne_36 ?_
        refine Zo_lconst (0 : Int64) dX10_isOne_38 lc_0 ?_
        refine Zo_ldc2 rfl cw_X10_138 dX10_isOne_39 ?_
        refine Zo_cSI3 lk_X10_120 (e_X10_within g _ _ _ _) (zFit_rm (by decide)) (zle rfl) dX10_isOne_42 fun r4 => ?_
        refine Zo_ifeq 52 dX10_isOne_45 (by decide) ?_ ?_
        · refine Zo_iconst (0 : Int32) dX10_isOne_52 ic_0 ?_
          exact Zo_zret dX10_isOne_53 rfl rfl (Or.inl rfl) (Nat.le_refl _) (Nat.le_refl _)
        · refine Zo_iconst (1 : Int32) dX10_isOne_48 ic_1 ?_
          refine Zo_goto 53 dX10_isOne_49 (by decide) ?_
          exact Zo_zret dX10_isOne_53 rfl rfl (Or.inr rfl) (Nat.le_refl _) (Nat.le_refl _)
theorem e_X10_isOne (g : ZG) (p0 : Int64) (p1 : Int64) (p2 : Int64) (p3 : Int64) (σ : ZSt) : zEvI g 2 yX10_isOne cX10_isOne 9 (some .boolean) [.ref 68, .long p0, .long p1, .long p2, .long p3] σ (s_X10_isOne p0 p1 p2 p3 σ) :=
  zEvI_of 0 rfl rfl (z_X10_isOne g p0 p1 p2 p3 σ)
abbrev mX10_adds (g : ZG) (q : Nat) : ZM := (yX10_adds, cX10_adds, 5, none, zRm q 0 0, zTg g 0 0)
def s_X10_adds (p0 : Int32) (p1 : Int32) (p2 : Int32) (p3 : Int32) (σ : ZSt) : Option ZSt :=
  zSg (zIn (σ.1 68 10) 30) (zWD σ 76 (σ.1 68 10).toNatClampNeg p0) fun σ1 => (zSg (zIn (σ1.1 68 10) 66) (zWD σ1 69 (σ1.1 68 10).toNatClampNeg p1) fun σ2 => (zSg (zIn ((30 : Int32) + (σ2.1 68 10)) 66) (zWD σ2 69 ((30 : Int32) + (σ2.1 68 10)).toNatClampNeg p2) fun σ3 => (zSg (zIn (σ3.1 68 10) 30) (zWD σ3 77 (σ3.1 68 10).toNatClampNeg p3) fun σ4 => (zSt' (zWD σ4 68 10 ((σ4.1 68 10) + (1 : Int32))) fun σ5 => (some σ5)))))
set_option maxHeartbeats 4000000 in
set_option maxRecDepth 100000 in
theorem z_X10_adds (g : ZG) (p0 : Int32) (p1 : Int32) (p2 : Int32) (p3 : Int32) (σ : ZSt) : Zo g (mX10_adds g 0) (fun b : ZSt => (none, zw b)) (s_X10_adds p0 p1 p2 p3 σ) 0 0 0 [some (.ref 68), some (.int p0), some (.int p1), some (.int p2), some (.int p3)] [] (zw σ) := by
  unfold s_X10_adds
  refine Zo_aload0 dX10_adds_0 ?_
  refine Zo_getr (j := 76) fl_X10_31 kd_68 rfl dX10_adds_1 ?_
  refine Zo_aload0 dX10_adds_4 ?_
  refine Zo_geti fl_X10_124 kd_68 dX10_adds_5 ?_
  refine Zo_iload1 dX10_adds_8 ?_
  refine Zo_iast kd_76 dX10_adds_9 fun σ1 => ?_
  refine Zo_aload0 dX10_adds_10 ?_
  show Zo g _ _ _ 0 0 11 _ _ _
  refine Zo_getr (j := 69) fl_X10_9 kd_68 rfl dX10_adds_11 ?_
  refine Zo_aload0 dX10_adds_14 ?_
  refine Zo_geti fl_X10_124 kd_68 dX10_adds_15 ?_
  refine Zo_iload2 dX10_adds_18 ?_
  refine Zo_iast kd_69 dX10_adds_19 fun σ2 => ?_
  refine Zo_aload0 dX10_adds_20 ?_
  refine Zo_getr (j := 69) fl_X10_9 kd_68 rfl dX10_adds_21 ?_
  refine Zo_bipush (30 : Int32) dX10_adds_24 bp_30 ?_
  show Zo g _ _ _ 0 0 26 _ _ _
  refine Zo_aload0 dX10_adds_26 ?_
  refine Zo_geti fl_X10_124 kd_68 dX10_adds_27 ?_
  refine Zo_iadd dX10_adds_30 ?_
  refine Zo_iload3 dX10_adds_31 ?_
  refine Zo_iast kd_69 dX10_adds_32 fun σ3 => ?_
  refine Zo_aload0 dX10_adds_33 ?_
  refine Zo_getr (j := 77) fl_X10_34 kd_68 rfl dX10_adds_34 ?_
  refine Zo_aload0 dX10_adds_37 ?_
  show Zo g _ _ _ 0 0 38 _ _ _
  refine Zo_geti fl_X10_124 kd_68 dX10_adds_38 ?_
  refine Zo_iload4 dX10_adds_41 ?_
  refine Zo_iast kd_77 dX10_adds_43 fun σ4 => ?_
  refine Zo_aload0 dX10_adds_44 ?_
  refine Zo_dup dX10_adds_45 rfl ?_
  refine Zo_geti fl_X10_124 kd_68 dX10_adds_46 ?_
  refine Zo_iconst (1 : Int32) dX10_adds_49 ic_1 ?_
  refine Zo_iadd dX10_adds_50 ?_
  show Zo g _ _ _ 0 0 51 _ _ _
  refine Zo_puti fl_X10_124 kd_68 dX10_adds_51 fun σ5 => ?_
  exact Zo_vret dX10_adds_54 rfl rfl (Nat.le_refl _) (Nat.le_refl _)
theorem e_X10_adds (g : ZG) (p0 : Int32) (p1 : Int32) (p2 : Int32) (p3 : Int32) (σ : ZSt) : zEvV g 0 yX10_adds cX10_adds 5 none [.ref 68, .int p0, .int p1, .int p2, .int p3] σ (s_X10_adds p0 p1 p2 p3 σ) :=
  zEvV_of 0 rfl rfl (z_X10_adds g p0 p1 p2 p3 σ)
abbrev mX10_window (g : ZG) (q : Nat) : ZM := (yX10_window, cX10_window, 3, (some .int), zRm q 0 0, zTg g 0 0)
def s_X10_window (p0 : Int32) (p1 : Int32) (σ : ZSt) : Option (Int32 × ZSt) :=
  if p0 < (0 : Int32) then (some ((-1 : Int32), σ))
    else (if p1 < (0 : Int32) then (some ((-1 : Int32), σ))
      else ((s_X10_isOne ((p0 / (100 : Int32)).toInt64) ((zRem p0 (100 : Int32)).toInt64) (((p1 / (1000 : Int32)) - (99 : Int32)).toInt64) ((zRem p1 (1000 : Int32)).toInt64) σ).bind fun r1 => (if r1 = (0 : Int32) then (some ((-1 : Int32), σ))
        else (if (σ.1 68 10) = (30 : Int32) then (some ((-3 : Int32), σ))
          else ((s_X10_adds (p0 / (100 : Int32)) (zRem p0 (100 : Int32)) ((p1 / (1000 : Int32)) - (99 : Int32)) (zRem p1 (1000 : Int32)) σ).bind fun σ2 => (some (((σ2.1 68 10) - (1 : Int32)), σ2)))))))
set_option maxHeartbeats 4000000 in
set_option maxRecDepth 100000 in
theorem z_X10_window (g : ZG) (p0 : Int32) (p1 : Int32) (σ : ZSt) : Zo g (mX10_window g 3) (fun b : Int32 × ZSt => (some (.int b.1), zw b.2)) (s_X10_window p0 p1 σ) 0 0 0 [some (.ref 68), some (.int p0), some (.int p1)] [] (zw σ) := by
  unfold s_X10_window
  refine Zo_iload1 dX10_window_0 ?_
  refine Zo_iflt 40 dX10_window_1 (by decide) ?_ ?_
  · refine Zo_iconst (-1 : Int32) dX10_window_40 ic_m1 ?_
    exact Zo_iret dX10_window_41 rfl rfl (Nat.le_refl _) (Nat.le_refl _)
  · refine Zo_iload2 dX10_window_4 ?_
    refine Zo_iflt 40 dX10_window_5 (by decide) ?_ ?_
    · refine Zo_iconst (-1 : Int32) dX10_window_40 ic_m1 ?_
      exact Zo_iret dX10_window_41 rfl rfl (Nat.le_refl _) (Nat.le_refl _)
    · refine Zo_aload0 dX10_window_8 ?_
      refine Zo_iload1 dX10_window_9 ?_
      refine Zo_bipush (100 : Int32) dX10_window_10 bp_100 ?_
      refine Zo_idiv dX10_window_12 (by decide) ?_
      refine Zo_i2l dX10_window_13 ?_
      refine Zo_iload1 dX10_window_14 ?_
      refine Zo_bipush (100 : Int32) dX10_window_15 bp_100 ?_
      show Zo g _ _ _ 0 0 17 _ _ _
      refine Zo_irem dX10_window_17 (by decide) ?_
      refine Zo_i2l dX10_window_18 ?_
      refine Zo_iload2 dX10_window_19 ?_
      refine Zo_sipush (1000 : Int32) dX10_window_20 sp_1000 ?_
      refine Zo_idiv dX10_window_23 (by decide) ?_
      refine Zo_bipush (99 : Int32) dX10_window_24 bp_99 ?_
      refine Zo_isub dX10_window_26 ?_
      refine Zo_i2l dX10_window_27 ?_
      show Zo g _ _ _ 0 0 28 _ _ _
      refine Zo_iload2 dX10_window_28 ?_
      refine Zo_sipush (1000 : Int32) dX10_window_29 sp_1000 ?_
      refine Zo_irem dX10_window_32 (by decide) ?_
      refine Zo_i2l dX10_window_33 ?_
      refine Zo_cVI4 lk_X10_140 (e_X10_isOne g _ _ _ _ _) kd_68 (zFit_rm (by decide)) (zle rfl) dX10_window_34 fun r1 => ?_
      refine Zo_ifne 42 dX10_window_37 (by decide) ?_ ?_
      · refine Zo_aload0 dX10_window_42 ?_
        refine Zo_geti fl_X10_124 kd_68 dX10_window_43 ?_
        refine Zo_bipush (30 : Int32) dX10_window_46 bp_30 ?_
        refine Zo_icmpne 54 dX10_window_48 (by decide) ?_ ?_
        · refine Zo_aload0 dX10_window_54 ?_
          refine Zo_iload1 dX10_window_55 ?_
          refine Zo_bipush (100 : Int32) dX10_window_56 bp_100 ?_
          refine Zo_idiv dX10_window_58 (by decide) ?_
          refine Zo_iload1 dX10_window_59 ?_
          refine Zo_bipush (100 : Int32) dX10_window_60 bp_100 ?_
          refine Zo_irem dX10_window_62 (by decide) ?_
          show Zo g _ _ _ 0 0 63 _ _ _
          refine Zo_iload2 dX10_window_63 ?_
          refine Zo_sipush (1000 : Int32) dX10_window_64 sp_1000 ?_
          refine Zo_idiv dX10_window_67 (by decide) ?_
          refine Zo_bipush (99 : Int32) dX10_window_68 bp_99 ?_
          refine Zo_isub dX10_window_70 ?_
          refine Zo_iload2 dX10_window_71 ?_
          refine Zo_sipush (1000 : Int32) dX10_window_72 sp_1000 ?_
          refine Zo_irem dX10_window_75 (by decide) ?_
          show Zo g _ _ _ 0 0 76 _ _ _
          refine Zo_cVV4 lk_X10_144 (e_X10_adds g _ _ _ _ _) kd_68 (zFit_rm (by decide)) (zle rfl) dX10_window_76 fun σ2 => ?_
          refine Zo_aload0 dX10_window_79 ?_
          refine Zo_geti fl_X10_124 kd_68 dX10_window_80 ?_
          refine Zo_iconst (1 : Int32) dX10_window_83 ic_1 ?_
          refine Zo_isub dX10_window_84 ?_
          exact Zo_iret dX10_window_85 rfl rfl (Nat.le_refl _) (Nat.le_refl _)
        · refine Zo_bipush (-3 : Int32) dX10_window_51 bp_m3 ?_
          exact Zo_iret dX10_window_53 rfl rfl (Nat.le_refl _) (Nat.le_refl _)
      · refine Zo_iconst (-1 : Int32) dX10_window_40 ic_m1 ?_
        exact Zo_iret dX10_window_41 rfl rfl (Nat.le_refl _) (Nat.le_refl _)
theorem e_X10_window (g : ZG) (p0 : Int32) (p1 : Int32) (σ : ZSt) : zEvS g 3 yX10_window cX10_window 3 (some .int) [.ref 68, .int p0, .int p1] σ (s_X10_window p0 p1 σ) :=
  zEvS_of 0 rfl rfl (z_X10_window g p0 p1 σ)
abbrev mX10_isShelf (g : ZG) (q : Nat) : ZM := (yX10_isShelf, cX10_isShelf, 1, (some .boolean), zRm q 0 0, zTg g 0 0)
def s_X10_isShelf (p0 : Int32) (σ : ZSt) : Option Int32 :=
  (s_X10_within (p0.toInt64) (0 : Int64) (5 : Int64) σ).bind fun r1 => (if r1 = (0 : Int32) ∨ r1 = (1 : Int32) then some r1 else none)
set_option maxHeartbeats 4000000 in
set_option maxRecDepth 100000 in
theorem z_X10_isShelf (g : ZG) (p0 : Int32) (σ : ZSt) : Zo g (mX10_isShelf g 1) (fun b : Int32 => (some (.int b), zw σ)) (s_X10_isShelf p0 σ) 0 0 0 [some (.int p0)] [] (zw σ) := by
  unfold s_X10_isShelf
  refine Zo_iload0 dX10_isShelf_0 ?_
  refine Zo_i2l dX10_isShelf_1 ?_
  refine Zo_lconst (0 : Int64) dX10_isShelf_2 lc_0 ?_
  refine Zo_ldc2 rfl cw_X10_350 dX10_isShelf_3 ?_
  refine Zo_cSI3 lk_X10_120 (e_X10_within g _ _ _ _) (zFit_rm (by decide)) (zle rfl) dX10_isShelf_6 fun r1 => ?_
  refine Zo_guard fun hb => ?_
  exact Zo_zret dX10_isShelf_9 rfl rfl hb (Nat.le_refl _) (Nat.le_refl _)
theorem e_X10_isShelf (g : ZG) (p0 : Int32) (σ : ZSt) : zEvI g 1 yX10_isShelf cX10_isShelf 1 (some .boolean) [.int p0] σ (s_X10_isShelf p0 σ) :=
  zEvI_of 0 rfl rfl (z_X10_isShelf g p0 σ)
abbrev mX10_windows (g : ZG) (q : Nat) : ZM := (yX10_windows, cX10_windows, 7, (some .int), zRm q 0 0, zTg g 0 0)
def s_X10_windows_C177 (k69 : Int32 → Int32 → ZSt → Option (Int32 × ZSt)) (l1 : Int32) (l2 : Int32) (l3 : Int32) (l4 : Int32) (l6 : Int32) (k_0 : Int32) (σ : ZSt) : Option (Int32 × ZSt) :=
  if k_0 = (0 : Int32) then (k69 l4 k_0 σ)
    else (zLd (zIn l6 360) (σ.2 98 l6.toNatClampNeg) fun v1 => (zLd (zIn (l6 + (1 : Int32)) 360) (σ.2 98 (l6 + (1 : Int32)).toNatClampNeg) fun v2 => (zLd (zIn (l6 + (2 : Int32)) 360) (σ.2 98 (l6 + (2 : Int32)).toNatClampNeg) fun v3 => (zLd (zIn (l6 + (3 : Int32)) 360) (σ.2 98 (l6 + (3 : Int32)).toNatClampNeg) fun v4 => ((s_X10_adds (v1.toInt32) (v2.toInt32) (v3.toInt32) (v4.toInt32) σ).bind fun σ5 => (k69 (l4 + (1 : Int32)) k_0 σ5))))))
set_option maxHeartbeats 4000000 in
set_option maxRecDepth 100000 in
theorem z_X10_windows_C177 (g : ZG) (k69 : Int32 → Int32 → ZSt → Option (Int32 × ZSt)) (l1 : Int32) (l2 : Int32) (l3 : Int32) (l4 : Int32) (l6 : Int32) (k_0 : Int32) (σ : ZSt) (hk69 : ∀ (x4 : Int32) (x5 : Int32) (σx : ZSt) (d6 : Option Value), Zo g (mX10_windows g 3) (fun b : Int32 × ZSt => (some (.int b.1), zw b.2)) (k69 x4 x5 σx) 0 0 69 [some (.ref 68), some (.int l1), some (.int l2), some (.int l3), some (.int x4), some (.int x5), d6] [] (zw σx)) (o5 : Option Value) : Zo g (mX10_windows g 3) (fun b : Int32 × ZSt => (some (.int b.1), zw b.2)) (s_X10_windows_C177 k69 l1 l2 l3 l4 l6 k_0 σ) 0 0 177 [some (.ref 68), some (.int l1), some (.int l2), some (.int l3), some (.int l4), o5, some (.int l6)] [.int k_0] (zw σ) := by
  unfold s_X10_windows_C177
  refine Zo_istore5 rfl (zlt rfl) dX10_windows_177 ?_
  refine Zo_iload5 dX10_windows_179 ?_
  refine Zo_ifeq 229 dX10_windows_181 (by decide) ?_ ?_
  · refine Zo_goto 69 dX10_windows_229 (by decide) ?_
    exact hk69 _ _ _ _
  · refine Zo_aload0 dX10_windows_184 ?_
    refine Zo_aload0 dX10_windows_185 ?_
    refine Zo_getr (j := 98) fl_X10_97 kd_68 rfl dX10_windows_186 ?_
    refine Zo_iload6 dX10_windows_189 ?_
    refine Zo_lald kd_98 dX10_windows_191 fun v1 => ?_
    refine Zo_l2i dX10_windows_192 ?_
    refine Zo_aload0 dX10_windows_193 ?_
    show Zo g _ _ _ 0 0 194 _ _ _
    refine Zo_getr (j := 98) fl_X10_97 kd_68 rfl dX10_windows_194 ?_
    refine Zo_iload6 dX10_windows_197 ?_
    refine Zo_iconst (1 : Int32) dX10_windows_199 ic_1 ?_
    refine Zo_iadd dX10_windows_200 ?_
    refine Zo_lald kd_98 dX10_windows_201 fun v2 => ?_
    refine Zo_l2i dX10_windows_202 ?_
    refine Zo_aload0 dX10_windows_203 ?_
    refine Zo_getr (j := 98) fl_X10_97 kd_68 rfl dX10_windows_204 ?_
    show Zo g _ _ _ 0 0 207 _ _ _
    refine Zo_iload6 dX10_windows_207 ?_
    refine Zo_iconst (2 : Int32) dX10_windows_209 ic_2 ?_
    refine Zo_iadd dX10_windows_210 ?_
    refine Zo_lald kd_98 dX10_windows_211 fun v3 => ?_
    refine Zo_l2i dX10_windows_212 ?_
    refine Zo_aload0 dX10_windows_213 ?_
    refine Zo_getr (j := 98) fl_X10_97 kd_68 rfl dX10_windows_214 ?_
    refine Zo_iload6 dX10_windows_217 ?_
    show Zo g _ _ _ 0 0 219 _ _ _
    refine Zo_iconst (3 : Int32) dX10_windows_219 ic_3 ?_
    refine Zo_iadd dX10_windows_220 ?_
    refine Zo_lald kd_98 dX10_windows_221 fun v4 => ?_
    refine Zo_l2i dX10_windows_222 ?_
    refine Zo_cVV4 lk_X10_144 (e_X10_adds g _ _ _ _ _) kd_68 (zFit_rm (by decide)) (zle rfl) dX10_windows_223 fun σ5 => ?_
    refine Zo_iinc4 rfl (1 : Int32) ic_1 (zlt rfl) dX10_windows_226 ?_
    refine Zo_goto 69 dX10_windows_229 (by decide) ?_
    exact hk69 _ _ _ _
def s_X10_windows_C111 (k69 : Int32 → Int32 → ZSt → Option (Int32 × ZSt)) (l1 : Int32) (l2 : Int32) (l3 : Int32) (l4 : Int32) (k_0 : Int32) (σ : ZSt) : Option (Int32 × ZSt) :=
  if k_0 = (0 : Int32) then (s_X10_windows_C177 k69 l1 l2 l3 l4 ((((60 : Int32) * l1) + l2) + ((4 : Int32) * l4)) (0 : Int32) σ)
    else (zLd (zIn ((((60 : Int32) * l1) + l2) + ((4 : Int32) * l4)) 360) (σ.2 98 ((((60 : Int32) * l1) + l2) + ((4 : Int32) * l4)).toNatClampNeg) fun v1 => (zLd (zIn (((((60 : Int32) * l1) + l2) + ((4 : Int32) * l4)) + (1 : Int32)) 360) (σ.2 98 (((((60 : Int32) * l1) + l2) + ((4 : Int32) * l4)) + (1 : Int32)).toNatClampNeg) fun v2 => (zLd (zIn (((((60 : Int32) * l1) + l2) + ((4 : Int32) * l4)) + (2 : Int32)) 360) (σ.2 98 (((((60 : Int32) * l1) + l2) + ((4 : Int32) * l4)) + (2 : Int32)).toNatClampNeg) fun v3 => (zLd (zIn (((((60 : Int32) * l1) + l2) + ((4 : Int32) * l4)) + (3 : Int32)) 360) (σ.2 98 (((((60 : Int32) * l1) + l2) + ((4 : Int32) * l4)) + (3 : Int32)).toNatClampNeg) fun v4 => ((s_X10_isOne v1 v2 v3 v4 σ).bind fun r5 => (if r5 = (0 : Int32) then (s_X10_windows_C177 k69 l1 l2 l3 l4 ((((60 : Int32) * l1) + l2) + ((4 : Int32) * l4)) (0 : Int32) σ)
      else (s_X10_windows_C177 k69 l1 l2 l3 l4 ((((60 : Int32) * l1) + l2) + ((4 : Int32) * l4)) (1 : Int32) σ)))))))
set_option maxHeartbeats 4000000 in
set_option maxRecDepth 100000 in
theorem z_X10_windows_C111 (g : ZG) (k69 : Int32 → Int32 → ZSt → Option (Int32 × ZSt)) (l1 : Int32) (l2 : Int32) (l3 : Int32) (l4 : Int32) (k_0 : Int32) (σ : ZSt) (hk69 : ∀ (x4 : Int32) (x5 : Int32) (σx : ZSt) (d6 : Option Value), Zo g (mX10_windows g 3) (fun b : Int32 × ZSt => (some (.int b.1), zw b.2)) (k69 x4 x5 σx) 0 0 69 [some (.ref 68), some (.int l1), some (.int l2), some (.int l3), some (.int x4), some (.int x5), d6] [] (zw σx)) (o5 : Option Value) (o6 : Option Value) : Zo g (mX10_windows g 3) (fun b : Int32 × ZSt => (some (.int b.1), zw b.2)) (s_X10_windows_C111 k69 l1 l2 l3 l4 k_0 σ) 0 0 111 [some (.ref 68), some (.int l1), some (.int l2), some (.int l3), some (.int l4), o5, o6] [.int k_0] (zw σ) := by
  unfold s_X10_windows_C111
  refine Zo_istore5 rfl (zlt rfl) dX10_windows_111 ?_
  refine Zo_bipush (60 : Int32) dX10_windows_113 bp_60 ?_
  refine Zo_iload1 dX10_windows_115 ?_
  refine Zo_imul dX10_windows_116 ?_
  refine Zo_iload2 dX10_windows_117 ?_
  refine Zo_iadd dX10_windows_118 ?_
  refine Zo_iconst (4 : Int32) dX10_windows_119 ic_4 ?_
  show Zo g _ _ _ 0 0 120 _ _ _
  refine Zo_iload4 dX10_windows_120 ?_
  refine Zo_imul dX10_windows_122 ?_
  refine Zo_iadd dX10_windows_123 ?_
  refine Zo_istore6 rfl (zlt rfl) dX10_windows_124 ?_
  refine Zo_iload5 dX10_windows_126 ?_
  refine Zo_ifeq 176 dX10_windows_128 (by decide) ?_ ?_
  · refine Zo_iconst (0 : Int32) dX10_windows_176 ic_0 ?_
    exact z_X10_windows_C177 g k69 _ _ _ _ _ _ _ hk69 _
  · refine Zo_aload0 dX10_windows_131 ?_
    refine Zo_aload0 dX10_windows_132 ?_
    refine Zo_getr (j := 98) fl_X10_97 kd_68 rfl dX10_windows_133 ?_
    refine Zo_iload6 dX10_windows_136 ?_
    refine Zo_lald kd_98 dX10_windows_138 fun v1 => ?_
    refine Zo_aload0 dX10_windows_139 ?_
    refine Zo_getr (j := 98) fl_X10_97 kd_68 rfl dX10_windows_140 ?_
    show Zo g _ _ _ 0 0 143 _ _ _
    refine Zo_iload6 dX10_windows_143 ?_
    refine Zo_iconst (1 : Int32) dX10_windows_145 ic_1 ?_
    refine Zo_iadd dX10_windows_146 ?_
    refine Zo_lald kd_98 dX10_windows_147 fun v2 => ?_
    refine Zo_aload0 dX10_windows_148 ?_
    refine Zo_getr (j := 98) fl_X10_97 kd_68 rfl dX10_windows_149 ?_
    refine Zo_iload6 dX10_windows_152 ?_
    refine Zo_iconst (2 : Int32) dX10_windows_154 ic_2 ?_
    show Zo g _ _ _ 0 0 155 _ _ _
    refine Zo_iadd dX10_windows_155 ?_
    refine Zo_lald kd_98 dX10_windows_156 fun v3 => ?_
    refine Zo_aload0 dX10_windows_157 ?_
    refine Zo_getr (j := 98) fl_X10_97 kd_68 rfl dX10_windows_158 ?_
    refine Zo_iload6 dX10_windows_161 ?_
    refine Zo_iconst (3 : Int32) dX10_windows_163 ic_3 ?_
    refine Zo_iadd dX10_windows_164 ?_
    refine Zo_lald kd_98 dX10_windows_165 fun v4 => ?_
    show Zo g _ _ _ 0 0 166 _ _ _
    refine Zo_cVI4 lk_X10_140 (e_X10_isOne g _ _ _ _ _) kd_68 (zFit_rm (by decide)) (zle rfl) dX10_windows_166 fun r5 => ?_
    refine Zo_ifeq 176 dX10_windows_169 (by decide) ?_ ?_
    · refine Zo_iconst (0 : Int32) dX10_windows_176 ic_0 ?_
      exact z_X10_windows_C177 g k69 _ _ _ _ _ _ _ hk69 _
    · refine Zo_iconst (1 : Int32) dX10_windows_172 ic_1 ?_
      refine Zo_goto 177 dX10_windows_173 (by decide) ?_
      exact z_X10_windows_C177 g k69 _ _ _ _ _ _ _ hk69 _
def s_X10_windows_L69 (l1 : Int32) (l2 : Int32) (l3 : Int32) : Nat → Int32 → Int32 → ZSt → Option (Int32 × ZSt)
  | 0, _, _, _ => none
  | n + 1, l4, l5, σ =>
    if l5 = (0 : Int32) then (some (l4, σ))
      else (if l3 ≤ l4 then (some (l4, σ))
        else (zLd (zIn l1 6) (σ.1 97 l1.toNatClampNeg) fun v1 => (if ((v1 - (4 : Int32)) - ((4 : Int32) * l4)) < l2 then (s_X10_windows_C111 (s_X10_windows_L69 l1 l2 l3 n) l1 l2 l3 l4 (0 : Int32) σ)
          else (if (30 : Int32) ≤ (σ.1 68 10) then (s_X10_windows_C111 (s_X10_windows_L69 l1 l2 l3 n) l1 l2 l3 l4 (0 : Int32) σ)
            else (s_X10_windows_C111 (s_X10_windows_L69 l1 l2 l3 n) l1 l2 l3 l4 (1 : Int32) σ)))))
set_option maxHeartbeats 4000000 in
set_option maxRecDepth 100000 in
theorem z_X10_windows_L69 (g : ZG) (l1 : Int32) (l2 : Int32) (l3 : Int32) : ∀ (n : Nat) (l4 : Int32) (l5 : Int32) (σ : ZSt) (o6 : Option Value), Zo g (mX10_windows g 3) (fun b : Int32 × ZSt => (some (.int b.1), zw b.2)) (s_X10_windows_L69 l1 l2 l3 n l4 l5 σ) 0 0 69 [some (.ref 68), some (.int l1), some (.int l2), some (.int l3), some (.int l4), some (.int l5), o6] [] (zw σ) := by
  intro n
  induction n with
  | zero => intros; exact Zo_none
  | succ n ih =>
    intro l4 l5 σ o6
    rw [s_X10_windows_L69]
    refine Zo_iload5 dX10_windows_69 ?_
    refine Zo_ifeq 232 dX10_windows_71 (by decide) ?_ ?_
    · refine Zo_iload4 dX10_windows_232 ?_
      exact Zo_iret dX10_windows_234 rfl rfl (Nat.le_refl _) (Nat.le_refl _)
    · refine Zo_iload4 dX10_windows_74 ?_
      refine Zo_iload3 dX10_windows_76 ?_
      refine Zo_icmpge 232 dX10_windows_77 (by decide) ?_ ?_
      · refine Zo_iload4 dX10_windows_232 ?_
        exact Zo_iret dX10_windows_234 rfl rfl (Nat.le_refl _) (Nat.le_refl _)
      · refine Zo_iload2 dX10_windows_80 ?_
        refine Zo_aload0 dX10_windows_81 ?_
        refine Zo_getr (j := 97) fl_X10_94 kd_68 rfl dX10_windows_82 ?_
        refine Zo_iload1 dX10_windows_85 ?_
        refine Zo_iald kd_97 dX10_windows_86 fun v1 => ?_
        refine Zo_iconst (4 : Int32) dX10_windows_87 ic_4 ?_
        refine Zo_isub dX10_windows_88 ?_
        show Zo g _ _ _ 0 0 89 _ _ _
        refine Zo_iconst (4 : Int32) dX10_windows_89 ic_4 ?_
        refine Zo_iload4 dX10_windows_90 ?_
        refine Zo_imul dX10_windows_92 ?_
        refine Zo_isub dX10_windows_93 ?_
        refine Zo_icmpgt 110 dX10_windows_94 (by decide) ?_ ?_
        · refine Zo_iconst (0 : Int32) dX10_windows_110 ic_0 ?_
          exact z_X10_windows_C111 g (s_X10_windows_L69 l1 l2 l3 n) _ _ _ _ _ _ ih _ _
        · refine Zo_aload0 dX10_windows_97 ?_
          refine Zo_geti fl_X10_124 kd_68 dX10_windows_98 ?_
          refine Zo_bipush (30 : Int32) dX10_windows_101 bp_30 ?_
          refine Zo_icmpge 110 dX10_windows_103 (by decide) ?_ ?_
          · refine Zo_iconst (0 : Int32) dX10_windows_110 ic_0 ?_
            exact z_X10_windows_C111 g (s_X10_windows_L69 l1 l2 l3 n) _ _ _ _ _ _ ih _ _
          · refine Zo_iconst (1 : Int32) dX10_windows_106 ic_1 ?_
            refine Zo_goto 111 dX10_windows_107 (by decide) ?_
            exact z_X10_windows_C111 g (s_X10_windows_L69 l1 l2 l3 n) _ _ _ _ _ _ ih _ _
def s_X10_windows_C44 (l1 : Int32) (l2 : Int32) (l3 : Int32) (σ : ZSt) : Option (Int32 × ZSt) :=
  zLd (zIn l1 6) (σ.1 96 l1.toNatClampNeg) fun v1 => (if v1 = (51 : Int32) then (if l2 < (0 : Int32) then (s_X10_windows_L69 l1 l2 l3 200 (0 : Int32) (0 : Int32) σ)
      else (s_X10_windows_L69 l1 l2 l3 200 (0 : Int32) (1 : Int32) σ))
    else (s_X10_windows_L69 l1 l2 l3 200 (0 : Int32) (0 : Int32) σ))
set_option maxHeartbeats 4000000 in
set_option maxRecDepth 100000 in
theorem z_X10_windows_C44 (g : ZG) (l1 : Int32) (l2 : Int32) (l3 : Int32) (σ : ZSt) (o4 : Option Value) (o5 : Option Value) (o6 : Option Value) : Zo g (mX10_windows g 3) (fun b : Int32 × ZSt => (some (.int b.1), zw b.2)) (s_X10_windows_C44 l1 l2 l3 σ) 0 0 44 [some (.ref 68), some (.int l1), some (.int l2), some (.int l3), o4, o5, o6] [] (zw σ) := by
  unfold s_X10_windows_C44
  refine Zo_iconst (0 : Int32) dX10_windows_44 ic_0 ?_
  refine Zo_istore4 rfl (zlt rfl) dX10_windows_45 ?_
  refine Zo_aload0 dX10_windows_47 ?_
  refine Zo_getr (j := 96) fl_X10_91 kd_68 rfl dX10_windows_48 ?_
  refine Zo_iload1 dX10_windows_51 ?_
  refine Zo_iald kd_96 dX10_windows_52 fun v1 => ?_
  refine Zo_bipush (51 : Int32) dX10_windows_53 bp_51 ?_
  show Zo g _ _ _ 0 0 55 _ _ _
  refine Zo_icmpne 66 dX10_windows_55 (by decide) ?_ ?_
  · refine Zo_iconst (0 : Int32) dX10_windows_66 ic_0 ?_
    refine Zo_istore5 rfl (zlt rfl) dX10_windows_67 ?_
    exact z_X10_windows_L69 g _ _ _ _ _ _ _ _
  · refine Zo_iload2 dX10_windows_58 ?_
    refine Zo_iflt 66 dX10_windows_59 (by decide) ?_ ?_
    · refine Zo_iconst (0 : Int32) dX10_windows_66 ic_0 ?_
      refine Zo_istore5 rfl (zlt rfl) dX10_windows_67 ?_
      exact z_X10_windows_L69 g _ _ _ _ _ _ _ _
    · refine Zo_iconst (1 : Int32) dX10_windows_62 ic_1 ?_
      refine Zo_goto 67 dX10_windows_63 (by decide) ?_
      refine Zo_istore5 rfl (zlt rfl) dX10_windows_67 ?_
      exact z_X10_windows_L69 g _ _ _ _ _ _ _ _
def s_X10_windows (p0 : Int32) (p1 : Int32) (p2 : Int32) (σ : ZSt) : Option (Int32 × ZSt) :=
  (s_X10_isShelf p0 σ).bind fun r1 => (if r1 = (0 : Int32) then (some ((-1 : Int32), σ))
    else ((s_X10_within (p2.toInt64) (1 : Int64) (15 : Int64) σ).bind fun r2 => (if r2 = (0 : Int32) then (some ((-1 : Int32), σ))
      else (zLd (zIn p0 6) (σ.1 96 p0.toNatClampNeg) fun v3 => (if v3 < (0 : Int32) then (s_X10_windows_C44 p0 p1 p2 σ)
        else (zLd (zIn p0 6) (σ.1 96 p0.toNatClampNeg) fun v4 => (if v4 = (51 : Int32) then (s_X10_windows_C44 p0 p1 p2 σ)
          else (some ((-12 : Int32), σ)))))))))
set_option maxHeartbeats 4000000 in
set_option maxRecDepth 100000 in
theorem z_X10_windows (g : ZG) (p0 : Int32) (p1 : Int32) (p2 : Int32) (σ : ZSt) : Zo g (mX10_windows g 3) (fun b : Int32 × ZSt => (some (.int b.1), zw b.2)) (s_X10_windows p0 p1 p2 σ) 0 0 0 [some (.ref 68), some (.int p0), some (.int p1), some (.int p2), none, none, none] [] (zw σ) := by
  unfold s_X10_windows
  refine Zo_iload1 dX10_windows_0 ?_
  refine Zo_cSI1 lk_X10_148 (e_X10_isShelf g _ _) (zFit_rm (by decide)) (zle rfl) dX10_windows_1 fun r1 => ?_
  refine Zo_ifeq 19 dX10_windows_4 (by decide) ?_ ?_
  · refine Zo_iconst (-1 : Int32) dX10_windows_19 ic_m1 ?_
    exact Zo_iret dX10_windows_20 rfl rfl (Nat.le_refl _) (Nat.le_refl _)
  · refine Zo_iload3 dX10_windows_7 ?_
    refine Zo_i2l dX10_windows_8 ?_
    refine Zo_lconst (1 : Int64) dX10_windows_9 lc_1 ?_
    refine Zo_ldc2 rfl cw_X10_152 dX10_windows_10 ?_
    refine Zo_cSI3 lk_X10_120 (e_X10_within g _ _ _ _) (zFit_rm (by decide)) (zle rfl) dX10_windows_13 fun r2 => ?_
    refine Zo_ifne 21 dX10_windows_16 (by decide) ?_ ?_
    · refine Zo_aload0 dX10_windows_21 ?_
      refine Zo_getr (j := 96) fl_X10_91 kd_68 rfl dX10_windows_22 ?_
      refine Zo_iload1 dX10_windows_25 ?_
      refine Zo_iald kd_96 dX10_windows_26 fun v3 => ?_
      refine Zo_iflt 44 dX10_windows_27 (by decide) ?_ ?_
      · exact z_X10_windows_C44 g _ _ _ _ _ _ _
      · refine Zo_aload0 dX10_windows_30 ?_
        refine Zo_getr (j := 96) fl_X10_91 kd_68 rfl dX10_windows_31 ?_
        refine Zo_iload1 dX10_windows_34 ?_
        refine Zo_iald kd_96 dX10_windows_35 fun v4 => ?_
        refine Zo_bipush (51 : Int32) dX10_windows_36 bp_51 ?_
        refine Zo_icmpeq 44 dX10_windows_38 (by decide) ?_ ?_
        · exact z_X10_windows_C44 g _ _ _ _ _ _ _
        · refine Zo_bipush (-12 : Int32) dX10_windows_41 bp_m12 ?_
          exact Zo_iret dX10_windows_43 rfl rfl (Nat.le_refl _) (Nat.le_refl _)
    · refine Zo_iconst (-1 : Int32) dX10_windows_19 ic_m1 ?_
      exact Zo_iret dX10_windows_20 rfl rfl (Nat.le_refl _) (Nat.le_refl _)
theorem e_X10_windows (g : ZG) (p0 : Int32) (p1 : Int32) (p2 : Int32) (σ : ZSt) : zEvS g 3 yX10_windows cX10_windows 7 (some .int) [.ref 68, .int p0, .int p1, .int p2] σ (s_X10_windows p0 p1 p2 σ) :=
  zEvS_of 3 rfl rfl (z_X10_windows g p0 p1 p2 σ)
abbrev mX10_player (g : ZG) (q : Nat) : ZM := (yX10_player, cX10_player, 4, (some .int), zRm q 0 0, zTg g 0 0)
def s_X10_player_C39 (l1 : Int32) (l2 : Int32) (l3 : Int32) (σ : ZSt) : Option (Int32 × ZSt) :=
  if (σ.1 68 13) = (8 : Int32) then (some ((-3 : Int32), σ))
    else (zSg (zIn (σ.1 68 13) 8) (zWD σ 78 (σ.1 68 13).toNatClampNeg (l1 / (100 : Int32))) fun σ1 => (zSg (zIn (σ1.1 68 13) 8) (zWD σ1 79 (σ1.1 68 13).toNatClampNeg (zRem l1 (100 : Int32))) fun σ2 => (zSg (zIn (σ2.1 68 13) 8) (zWD σ2 80 (σ2.1 68 13).toNatClampNeg l2) fun σ3 => (zSg (zIn (σ3.1 68 13) 8) (zWD σ3 81 (σ3.1 68 13).toNatClampNeg l3) fun σ4 => (zSt' (zWD σ4 68 13 ((σ4.1 68 13) + (1 : Int32))) fun σ5 => (some (((σ5.1 68 13) - (1 : Int32)), σ5)))))))
set_option maxHeartbeats 4000000 in
set_option maxRecDepth 100000 in
theorem z_X10_player_C39 (g : ZG) (l1 : Int32) (l2 : Int32) (l3 : Int32) (σ : ZSt) : Zo g (mX10_player g 2) (fun b : Int32 × ZSt => (some (.int b.1), zw b.2)) (s_X10_player_C39 l1 l2 l3 σ) 0 0 39 [some (.ref 68), some (.int l1), some (.int l2), some (.int l3)] [] (zw σ) := by
  unfold s_X10_player_C39
  refine Zo_aload0 dX10_player_39 ?_
  refine Zo_geti fl_X10_127 kd_68 dX10_player_40 ?_
  refine Zo_bipush (8 : Int32) dX10_player_43 bp_8 ?_
  refine Zo_icmpne 51 dX10_player_45 (by decide) ?_ ?_
  · refine Zo_aload0 dX10_player_51 ?_
    refine Zo_getr (j := 78) fl_X10_37 kd_68 rfl dX10_player_52 ?_
    refine Zo_aload0 dX10_player_55 ?_
    refine Zo_geti fl_X10_127 kd_68 dX10_player_56 ?_
    refine Zo_iload1 dX10_player_59 ?_
    refine Zo_bipush (100 : Int32) dX10_player_60 bp_100 ?_
    refine Zo_idiv dX10_player_62 (by decide) ?_
    show Zo g _ _ _ 0 0 63 _ _ _
    refine Zo_iast kd_78 dX10_player_63 fun σ1 => ?_
    refine Zo_aload0 dX10_player_64 ?_
    refine Zo_getr (j := 79) fl_X10_40 kd_68 rfl dX10_player_65 ?_
    refine Zo_aload0 dX10_player_68 ?_
    refine Zo_geti fl_X10_127 kd_68 dX10_player_69 ?_
    refine Zo_iload1 dX10_player_72 ?_
    refine Zo_bipush (100 : Int32) dX10_player_73 bp_100 ?_
    refine Zo_irem dX10_player_75 (by decide) ?_
    show Zo g _ _ _ 0 0 76 _ _ _
    refine Zo_iast kd_79 dX10_player_76 fun σ2 => ?_
    refine Zo_aload0 dX10_player_77 ?_
    refine Zo_getr (j := 80) fl_X10_43 kd_68 rfl dX10_player_78 ?_
    refine Zo_aload0 dX10_player_81 ?_
    refine Zo_geti fl_X10_127 kd_68 dX10_player_82 ?_
    refine Zo_iload2 dX10_player_85 ?_
    refine Zo_iast kd_80 dX10_player_86 fun σ3 => ?_
    refine Zo_aload0 dX10_player_87 ?_
    show Zo g _ _ _ 0 0 88 _ _ _
    refine Zo_getr (j := 81) fl_X10_46 kd_68 rfl dX10_player_88 ?_
    refine Zo_aload0 dX10_player_91 ?_
    refine Zo_geti fl_X10_127 kd_68 dX10_player_92 ?_
    refine Zo_iload3 dX10_player_95 ?_
    refine Zo_iast kd_81 dX10_player_96 fun σ4 => ?_
    refine Zo_aload0 dX10_player_97 ?_
    refine Zo_dup dX10_player_98 rfl ?_
    refine Zo_geti fl_X10_127 kd_68 dX10_player_99 ?_
    show Zo g _ _ _ 0 0 102 _ _ _
    refine Zo_iconst (1 : Int32) dX10_player_102 ic_1 ?_
    refine Zo_iadd dX10_player_103 ?_
    refine Zo_puti fl_X10_127 kd_68 dX10_player_104 fun σ5 => ?_
    refine Zo_aload0 dX10_player_107 ?_
    refine Zo_geti fl_X10_127 kd_68 dX10_player_108 ?_
    refine Zo_iconst (1 : Int32) dX10_player_111 ic_1 ?_
    refine Zo_isub dX10_player_112 ?_
    exact Zo_iret dX10_player_113 rfl rfl (Nat.le_refl _) (Nat.le_refl _)
  · refine Zo_bipush (-3 : Int32) dX10_player_48 bp_m3 ?_
    exact Zo_iret dX10_player_50 rfl rfl (Nat.le_refl _) (Nat.le_refl _)
def s_X10_player (p0 : Int32) (p1 : Int32) (p2 : Int32) (σ : ZSt) : Option (Int32 × ZSt) :=
  (s_X10_within (p0.toInt64) (0 : Int64) (1099 : Int64) σ).bind fun r1 => (if r1 = (0 : Int32) then (some ((-1 : Int32), σ))
    else ((s_X10_within (p1.toInt64) (0 : Int64) (100 : Int64) σ).bind fun r2 => (if r2 = (0 : Int32) then (some ((-1 : Int32), σ))
      else (if p2 = (-1 : Int32) then (s_X10_player_C39 p0 p1 p2 σ)
        else ((s_X10_isStreet p2 σ).bind fun r3 => (if r3 = (0 : Int32) then (some ((-1 : Int32), σ))
          else (s_X10_player_C39 p0 p1 p2 σ)))))))
set_option maxHeartbeats 4000000 in
set_option maxRecDepth 100000 in
theorem z_X10_player (g : ZG) (p0 : Int32) (p1 : Int32) (p2 : Int32) (σ : ZSt) : Zo g (mX10_player g 2) (fun b : Int32 × ZSt => (some (.int b.1), zw b.2)) (s_X10_player p0 p1 p2 σ) 0 0 0 [some (.ref 68), some (.int p0), some (.int p1), some (.int p2)] [] (zw σ) := by
  unfold s_X10_player
  refine Zo_iload1 dX10_player_0 ?_
  refine Zo_i2l dX10_player_1 ?_
  refine Zo_lconst (0 : Int64) dX10_player_2 lc_0 ?_
  refine Zo_ldc2 rfl cw_X10_154 dX10_player_3 ?_
  refine Zo_cSI3 lk_X10_120 (e_X10_within g _ _ _ _) (zFit_rm (by decide)) (zle rfl) dX10_player_6 fun r1 => ?_
  refine Zo_ifeq 37 dX10_player_9 (by decide) ?_ ?_
  · refine Zo_iconst (-1 : Int32) dX10_player_37 ic_m1 ?_
    exact Zo_iret dX10_player_38 rfl rfl (Nat.le_refl _) (Nat.le_refl _)
  · refine Zo_iload2 dX10_player_12 ?_
    refine Zo_i2l dX10_player_13 ?_
    refine Zo_lconst (0 : Int64) dX10_player_14 lc_0 ?_
    refine Zo_ldc2 rfl cw_X10_156 dX10_player_15 ?_
    refine Zo_cSI3 lk_X10_120 (e_X10_within g _ _ _ _) (zFit_rm (by decide)) (zle rfl) dX10_player_18 fun r2 => ?_
    refine Zo_ifeq 37 dX10_player_21 (by decide) ?_ ?_
    · refine Zo_iconst (-1 : Int32) dX10_player_37 ic_m1 ?_
      exact Zo_iret dX10_player_38 rfl rfl (Nat.le_refl _) (Nat.le_refl _)
    · refine Zo_iload3 dX10_player_24 ?_
      refine Zo_iconst (-1 : Int32) dX10_player_25 ic_m1 ?_
      refine Zo_icmpeq 39 dX10_player_26 (by decide) ?_ ?_
      · exact z_X10_player_C39 g _ _ _ _ 
      · refine Zo_aload0 dX10_player_29 ?_
        refine Zo_iload3 dX10_player_30 ?_
        refine Zo_cVI1 lk_X10_158 (e_X10_isStreet g _ _) kd_68 (zFit_rm (by decide)) (zle rfl) dX10_player_31 fun r3 => ?_
        refine Zo_ifne 39 dX10_player_34 (by decide) ?_ ?_
        · exact z_X10_player_C39 g _ _ _ _ 
        · refine Zo_iconst (-1 : Int32) dX10_player_37 ic_m1 ?_
          exact Zo_iret dX10_player_38 rfl rfl (Nat.le_refl _) (Nat.le_refl _)
theorem e_X10_player (g : ZG) (p0 : Int32) (p1 : Int32) (p2 : Int32) (σ : ZSt) : zEvS g 2 yX10_player cX10_player 4 (some .int) [.ref 68, .int p0, .int p1, .int p2] σ (s_X10_player p0 p1 p2 σ) :=
  zEvS_of 0 rfl rfl (z_X10_player g p0 p1 p2 σ)
abbrev mX10_mend (g : ZG) (q : Nat) : ZM := (yX10_mend, cX10_mend, 4, (some .int), zRm q 0 0, zTg g 0 0)
def s_X10_mend (p0 : Int32) (p1 : Int32) (p2 : Int32) (σ : ZSt) : Option (Int32 × ZSt) :=
  if p1 = (0 : Int32) then ((s_X10_isWindow p0 σ).bind fun r1 => (if r1 = (0 : Int32) then (some ((-2000000000 : Int32), σ))
      else ((s_X10_isTwo (p2.toInt64) σ).bind fun r2 => (if r2 = (0 : Int32) then (some ((-2000000000 : Int32), σ))
        else ((s_X10_becomes p0 p2 σ).bind fun r3 => (some (r3.1, r3.2)))))))
    else (if p1 = (1 : Int32) then ((s_X10_isWindow p0 σ).bind fun r4 => (if r4 = (0 : Int32) then (some ((-2000000000 : Int32), σ))
      else ((s_X10_within (p2.toInt64) (-99 : Int64) (99 : Int64) σ).bind fun r5 => (if r5 = (0 : Int32) then (some ((-2000000000 : Int32), σ))
        else ((s_X10_becomes ((30 : Int32) + p0) p2 σ).bind fun r6 => (some (r6.1, r6.2)))))))
    else (if p1 = (2 : Int32) then ((s_X10_isStreet p0 σ).bind fun r7 => (if r7 = (0 : Int32) then (some ((-2000000000 : Int32), σ))
      else ((s_X10_isTwo (p2.toInt64) σ).bind fun r8 => (if r8 = (0 : Int32) then (some ((-2000000000 : Int32), σ))
        else ((s_X10_becomes ((60 : Int32) + p0) p2 σ).bind fun r9 => (some (r9.1, r9.2)))))))
    else (some ((-2000000000 : Int32), σ))))
set_option maxHeartbeats 4000000 in
set_option maxRecDepth 100000 in
theorem z_X10_mend (g : ZG) (p0 : Int32) (p1 : Int32) (p2 : Int32) (σ : ZSt) : Zo g (mX10_mend g 2) (fun b : Int32 × ZSt => (some (.int b.1), zw b.2)) (s_X10_mend p0 p1 p2 σ) 0 0 0 [some (.ref 68), some (.int p0), some (.int p1), some (.int p2)] [] (zw σ) := by
  unfold s_X10_mend
  refine Zo_iload2 dX10_mend_0 ?_
  refine Zo_ite (fun hc0 => ?_) (fun hc0 => ?_)
  · refine Zo_tswC (off := 27) (0 : Int32) 28 hc0 dX10_mend_1 (by decide) (by decide) (by decide) (by decide) ?_
    refine Zo_aload0 dX10_mend_28 ?_
    refine Zo_iload1 dX10_mend_29 ?_
    refine Zo_cVI1 lk_X10_161 (e_X10_isWindow g _ _) kd_68 (zFit_rm (by decide)) (zle rfl) dX10_mend_30 fun r1 => ?_
    refine Zo_ifeq 53 dX10_mend_33 (by decide) ?_ ?_
    · refine Zo_ldc rfl cw_X10_168 dX10_mend_53 ?_
      exact Zo_iret dX10_mend_55 rfl rfl (Nat.le_refl _) (Nat.le_refl _)
    · refine Zo_iload3 dX10_mend_36 ?_
      refine Zo_i2l dX10_mend_37 ?_
      refine Zo_cSI1 lk_X10_132 (e_X10_isTwo g _ _) (zFit_rm (by decide)) (zle rfl) dX10_mend_38 fun r2 => ?_
      refine Zo_ifeq 53 dX10_mend_41 (by decide) ?_ ?_
      · refine Zo_ldc rfl cw_X10_168 dX10_mend_53 ?_
        exact Zo_iret dX10_mend_55 rfl rfl (Nat.le_refl _) (Nat.le_refl _)
      · refine Zo_aload0 dX10_mend_44 ?_
        refine Zo_iload1 dX10_mend_45 ?_
        refine Zo_iload3 dX10_mend_46 ?_
        refine Zo_cVS2 lk_X10_164 (e_X10_becomes g _ _ _) kd_68 (zFit_rm (by decide)) (zle rfl) dX10_mend_47 fun r3 => ?_
        refine Zo_goto 55 dX10_mend_50 (by decide) ?_
        exact Zo_iret dX10_mend_55 rfl rfl (Nat.le_refl _) (Nat.le_refl _)
  refine Zo_ite (fun hc1 => ?_) (fun hc1 => ?_)
  · refine Zo_tswC (off := 55) (1 : Int32) 56 hc1 dX10_mend_1 (by decide) (by decide) (by decide) (by decide) ?_
    refine Zo_aload0 dX10_mend_56 ?_
    refine Zo_iload1 dX10_mend_57 ?_
    refine Zo_cVI1 lk_X10_161 (e_X10_isWindow g _ _) kd_68 (zFit_rm (by decide)) (zle rfl) dX10_mend_58 fun r4 => ?_
    refine Zo_ifeq 90 dX10_mend_61 (by decide) ?_ ?_
    · refine Zo_ldc rfl cw_X10_168 dX10_mend_90 ?_
      exact Zo_iret dX10_mend_92 rfl rfl (Nat.le_refl _) (Nat.le_refl _)
    · refine Zo_iload3 dX10_mend_64 ?_
      refine Zo_i2l dX10_mend_65 ?_
      refine Zo_ldc2 rfl cw_X10_136 dX10_mend_66 ?_
      refine Zo_ldc2 rfl cw_X10_130 dX10_mend_69 ?_
      refine Zo_cSI3 lk_X10_120 (e_X10_within g _ _ _ _) (zFit_rm (by decide)) (zle rfl) dX10_mend_72 fun r5 => ?_
      refine Zo_ifeq 90 dX10_mend_75 (by decide) ?_ ?_
      · refine Zo_ldc rfl cw_X10_168 dX10_mend_90 ?_
        exact Zo_iret dX10_mend_92 rfl rfl (Nat.le_refl _) (Nat.le_refl _)
      · refine Zo_aload0 dX10_mend_78 ?_
        refine Zo_bipush (30 : Int32) dX10_mend_79 bp_30 ?_
        refine Zo_iload1 dX10_mend_81 ?_
        refine Zo_iadd dX10_mend_82 ?_
        refine Zo_iload3 dX10_mend_83 ?_
        refine Zo_cVS2 lk_X10_164 (e_X10_becomes g _ _ _) kd_68 (zFit_rm (by decide)) (zle rfl) dX10_mend_84 fun r6 => ?_
        refine Zo_goto 92 dX10_mend_87 (by decide) ?_
        show Zo g _ _ _ 0 0 92 _ _ _
        exact Zo_iret dX10_mend_92 rfl rfl (Nat.le_refl _) (Nat.le_refl _)
  refine Zo_ite (fun hc2 => ?_) (fun hc2 => ?_)
  · refine Zo_tswC (off := 92) (2 : Int32) 93 hc2 dX10_mend_1 (by decide) (by decide) (by decide) (by decide) ?_
    refine Zo_aload0 dX10_mend_93 ?_
    refine Zo_iload1 dX10_mend_94 ?_
    refine Zo_cVI1 lk_X10_158 (e_X10_isStreet g _ _) kd_68 (zFit_rm (by decide)) (zle rfl) dX10_mend_95 fun r7 => ?_
    refine Zo_ifeq 121 dX10_mend_98 (by decide) ?_ ?_
    · refine Zo_ldc rfl cw_X10_168 dX10_mend_121 ?_
      exact Zo_iret dX10_mend_123 rfl rfl (Nat.le_refl _) (Nat.le_refl _)
    · refine Zo_iload3 dX10_mend_101 ?_
      refine Zo_i2l dX10_mend_102 ?_
      refine Zo_cSI1 lk_X10_132 (e_X10_isTwo g _ _) (zFit_rm (by decide)) (zle rfl) dX10_mend_103 fun r8 => ?_
      refine Zo_ifeq 121 dX10_mend_106 (by decide) ?_ ?_
      · refine Zo_ldc rfl cw_X10_168 dX10_mend_121 ?_
        exact Zo_iret dX10_mend_123 rfl rfl (Nat.le_refl _) (Nat.le_refl _)
      · refine Zo_aload0 dX10_mend_109 ?_
        refine Zo_bipush (60 : Int32) dX10_mend_110 bp_60 ?_
        refine Zo_iload1 dX10_mend_112 ?_
        refine Zo_iadd dX10_mend_113 ?_
        refine Zo_iload3 dX10_mend_114 ?_
        refine Zo_cVS2 lk_X10_164 (e_X10_becomes g _ _ _) kd_68 (zFit_rm (by decide)) (zle rfl) dX10_mend_115 fun r9 => ?_
        refine Zo_goto 123 dX10_mend_118 (by decide) ?_
        show Zo g _ _ _ 0 0 123 _ _ _
        exact Zo_iret dX10_mend_123 rfl rfl (Nat.le_refl _) (Nat.le_refl _)
  refine Zo_tswOut 124 dX10_mend_1 (by have a0 := zne_0 hc0; have a1 := zne_1 hc1; have a2 := zne_2 hc2; omega) (by decide) ?_
  refine Zo_ldc rfl cw_X10_168 dX10_mend_124 ?_
  exact Zo_iret dX10_mend_126 rfl rfl (Nat.le_refl _) (Nat.le_refl _)
theorem e_X10_mend (g : ZG) (p0 : Int32) (p1 : Int32) (p2 : Int32) (σ : ZSt) : zEvS g 2 yX10_mend cX10_mend 4 (some .int) [.ref 68, .int p0, .int p1, .int p2] σ (s_X10_mend p0 p1 p2 σ) :=
  zEvS_of 0 rfl rfl (z_X10_mend g p0 p1 p2 σ)
abbrev mX10_pay (g : ZG) (q : Nat) : ZM := (yX10_pay, cX10_pay, 4, (some .int), zRm q 0 0, zTg g 0 0)
def s_X10_pay (p0 : Int32) (p1 : Int32) (σ : ZSt) : Option (Int32 × ZSt) :=
  (s_X10_isStreet p0 σ).bind fun r1 => (if r1 = (0 : Int32) then (some ((-1 : Int32), σ))
    else ((s_X10_within (p1.toInt64) (0 : Int64) (499 : Int64) σ).bind fun r2 => (if r2 = (0 : Int32) then (some ((-1 : Int32), σ))
      else (zLd (zIn p0 6) (σ.1 74 p0.toNatClampNeg) fun v3 => (zLd (zIn p0 6) (σ.1 75 p0.toNatClampNeg) fun v4 => (zSg (zIn p0 6) (zWD σ 74 p0.toNatClampNeg (p1 / (100 : Int32))) fun σ5 => (zSg (zIn p0 6) (zWD σ5 75 p0.toNatClampNeg (zRem p1 (100 : Int32))) fun σ6 => (some ((((100 : Int32) * v3) + v4), σ6)))))))))
set_option maxHeartbeats 4000000 in
set_option maxRecDepth 100000 in
theorem z_X10_pay (g : ZG) (p0 : Int32) (p1 : Int32) (σ : ZSt) : Zo g (mX10_pay g 2) (fun b : Int32 × ZSt => (some (.int b.1), zw b.2)) (s_X10_pay p0 p1 σ) 0 0 0 [some (.ref 68), some (.int p0), some (.int p1), none] [] (zw σ) := by
  unfold s_X10_pay
  refine Zo_aload0 dX10_pay_0 ?_
  refine Zo_iload1 dX10_pay_1 ?_
  refine Zo_cVI1 lk_X10_158 (e_X10_isStreet g _ _) kd_68 (zFit_rm (by decide)) (zle rfl) dX10_pay_2 fun r1 => ?_
  refine Zo_ifeq 20 dX10_pay_5 (by decide) ?_ ?_
  · refine Zo_iconst (-1 : Int32) dX10_pay_20 ic_m1 ?_
    exact Zo_iret dX10_pay_21 rfl rfl (Nat.le_refl _) (Nat.le_refl _)
  · refine Zo_iload2 dX10_pay_8 ?_
    refine Zo_i2l dX10_pay_9 ?_
    refine Zo_lconst (0 : Int64) dX10_pay_10 lc_0 ?_
    refine Zo_ldc2 rfl cw_X10_169 dX10_pay_11 ?_
    refine Zo_cSI3 lk_X10_120 (e_X10_within g _ _ _ _) (zFit_rm (by decide)) (zle rfl) dX10_pay_14 fun r2 => ?_
    refine Zo_ifne 22 dX10_pay_17 (by decide) ?_ ?_
    · refine Zo_bipush (100 : Int32) dX10_pay_22 bp_100 ?_
      refine Zo_aload0 dX10_pay_24 ?_
      refine Zo_getr (j := 74) fl_X10_25 kd_68 rfl dX10_pay_25 ?_
      refine Zo_iload1 dX10_pay_28 ?_
      refine Zo_iald kd_74 dX10_pay_29 fun v3 => ?_
      refine Zo_imul dX10_pay_30 ?_
      refine Zo_aload0 dX10_pay_31 ?_
      show Zo g _ _ _ 0 0 32 _ _ _
      refine Zo_getr (j := 75) fl_X10_28 kd_68 rfl dX10_pay_32 ?_
      refine Zo_iload1 dX10_pay_35 ?_
      refine Zo_iald kd_75 dX10_pay_36 fun v4 => ?_
      refine Zo_iadd dX10_pay_37 ?_
      refine Zo_istore3 rfl (zlt rfl) dX10_pay_38 ?_
      refine Zo_aload0 dX10_pay_39 ?_
      refine Zo_getr (j := 74) fl_X10_25 kd_68 rfl dX10_pay_40 ?_
      refine Zo_iload1 dX10_pay_43 ?_
      show Zo g _ _ _ 0 0 44 _ _ _
      refine Zo_iload2 dX10_pay_44 ?_
      refine Zo_bipush (100 : Int32) dX10_pay_45 bp_100 ?_
      refine Zo_idiv dX10_pay_47 (by decide) ?_
      refine Zo_iast kd_74 dX10_pay_48 fun σ5 => ?_
      refine Zo_aload0 dX10_pay_49 ?_
      refine Zo_getr (j := 75) fl_X10_28 kd_68 rfl dX10_pay_50 ?_
      refine Zo_iload1 dX10_pay_53 ?_
      refine Zo_iload2 dX10_pay_54 ?_
      show Zo g _ _ _ 0 0 55 _ _ _
      refine Zo_bipush (100 : Int32) dX10_pay_55 bp_100 ?_
      refine Zo_irem dX10_pay_57 (by decide) ?_
      refine Zo_iast kd_75 dX10_pay_58 fun σ6 => ?_
      refine Zo_iload3 dX10_pay_59 ?_
      exact Zo_iret dX10_pay_60 rfl rfl (Nat.le_refl _) (Nat.le_refl _)
    · refine Zo_iconst (-1 : Int32) dX10_pay_20 ic_m1 ?_
      exact Zo_iret dX10_pay_21 rfl rfl (Nat.le_refl _) (Nat.le_refl _)
theorem e_X10_pay (g : ZG) (p0 : Int32) (p1 : Int32) (σ : ZSt) : zEvS g 2 yX10_pay cX10_pay 4 (some .int) [.ref 68, .int p0, .int p1] σ (s_X10_pay p0 p1 σ) :=
  zEvS_of 1 rfl rfl (z_X10_pay g p0 p1 σ)
abbrev mX10_windowsOf (g : ZG) (q : Nat) : ZM := (yX10_windowsOf, cX10_windowsOf, 4, (some .int), zRm q 0 0, zTg g 0 0)
def s_X10_windowsOf_L4 (l1 : Int32) (σ : ZSt) : Nat → Int32 → Int32 → Option Int32
  | 0, _, _ => none
  | n + 1, l2, l3 =>
    if (σ.1 68 10) ≤ l3 then (some l2)
      else (zLd (zIn l3 30) (σ.1 76 l3.toNatClampNeg) fun v1 => (if v1 = l1 then (s_X10_windowsOf_L4 l1 σ n (l2 + (1 : Int32)) (l3 + (1 : Int32)))
        else (s_X10_windowsOf_L4 l1 σ n (l2 + (0 : Int32)) (l3 + (1 : Int32)))))
set_option maxHeartbeats 4000000 in
set_option maxRecDepth 100000 in
theorem z_X10_windowsOf_L4 (g : ZG) (l1 : Int32) (σ : ZSt) : ∀ (n : Nat) (l2 : Int32) (l3 : Int32), Zo g (mX10_windowsOf g 0) (fun b : Int32 => (some (.int b), zw σ)) (s_X10_windowsOf_L4 l1 σ n l2 l3) 0 0 4 [some (.ref 68), some (.int l1), some (.int l2), some (.int l3)] [] (zw σ) := by
  intro n
  induction n with
  | zero => intros; exact Zo_none
  | succ n ih =>
    intro l2 l3
    rw [s_X10_windowsOf_L4]
    refine Zo_iload3 dX10_windowsOf_4 ?_
    refine Zo_aload0 dX10_windowsOf_5 ?_
    refine Zo_geti fl_X10_124 kd_68 dX10_windowsOf_6 ?_
    refine Zo_icmpge 36 dX10_windowsOf_9 (by decide) ?_ ?_
    · refine Zo_iload2 dX10_windowsOf_36 ?_
      exact Zo_iret dX10_windowsOf_37 rfl rfl (Nat.le_refl _) (Nat.le_refl _)
    · refine Zo_iload2 dX10_windowsOf_12 ?_
      refine Zo_aload0 dX10_windowsOf_13 ?_
      refine Zo_getr (j := 76) fl_X10_31 kd_68 rfl dX10_windowsOf_14 ?_
      refine Zo_iload3 dX10_windowsOf_17 ?_
      refine Zo_iald kd_76 dX10_windowsOf_18 fun v1 => ?_
      refine Zo_iload1 dX10_windowsOf_19 ?_
      refine Zo_icmpne 27 dX10_windowsOf_20 (by decide) ?_ ?_
      · refine Zo_iconst (0 : Int32) dX10_windowsOf_27 ic_0 ?_
        refine Zo_iadd dX10_windowsOf_28 ?_
        refine Zo_istore2 rfl (zlt rfl) dX10_windowsOf_29 ?_
        refine Zo_iinc3 rfl (1 : Int32) ic_1 (zlt rfl) dX10_windowsOf_30 ?_
        refine Zo_goto 4 dX10_windowsOf_33 (by decide) ?_
        exact ih _ _
      · refine Zo_iconst (1 : Int32) dX10_windowsOf_23 ic_1 ?_
        refine Zo_goto 28 dX10_windowsOf_24 (by decide) ?_
        refine Zo_iadd dX10_windowsOf_28 ?_
        refine Zo_istore2 rfl (zlt rfl) dX10_windowsOf_29 ?_
        refine Zo_iinc3 rfl (1 : Int32) ic_1 (zlt rfl) dX10_windowsOf_30 ?_
        refine Zo_goto 4 dX10_windowsOf_33 (by decide) ?_
        exact ih _ _
def s_X10_windowsOf (p0 : Int32) (σ : ZSt) : Option Int32 :=
  s_X10_windowsOf_L4 p0 σ 200 (0 : Int32) (0 : Int32)
set_option maxHeartbeats 4000000 in
set_option maxRecDepth 100000 in
theorem z_X10_windowsOf (g : ZG) (p0 : Int32) (σ : ZSt) : Zo g (mX10_windowsOf g 0) (fun b : Int32 => (some (.int b), zw σ)) (s_X10_windowsOf p0 σ) 0 0 0 [some (.ref 68), some (.int p0), none, none] [] (zw σ) := by
  unfold s_X10_windowsOf
  refine Zo_iconst (0 : Int32) dX10_windowsOf_0 ic_0 ?_
  refine Zo_istore2 rfl (zlt rfl) dX10_windowsOf_1 ?_
  refine Zo_iconst (0 : Int32) dX10_windowsOf_2 ic_0 ?_
  refine Zo_istore3 rfl (zlt rfl) dX10_windowsOf_3 ?_
  exact z_X10_windowsOf_L4 g _ _ _ _ _
theorem e_X10_windowsOf (g : ZG) (p0 : Int32) (σ : ZSt) : zEvI g 0 yX10_windowsOf cX10_windowsOf 4 (some .int) [.ref 68, .int p0] σ (s_X10_windowsOf p0 σ) :=
  zEvI_of 2 rfl rfl (z_X10_windowsOf g p0 σ)
abbrev mX10_ofPlayer (g : ZG) (q : Nat) : ZM := (yX10_ofPlayer, cX10_ofPlayer, 3, (some .int), zRm q 0 0, zTg g 0 0)
def s_X10_ofPlayer (p0 : Int32) (p1 : Int32) (σ : ZSt) : Option Int32 :=
  if p1 = (0 : Int32) then (zLd (zIn p0 8) (σ.1 78 p0.toNatClampNeg) fun v4 => (some v4))
    else (if p1 = (1 : Int32) then (zLd (zIn p0 8) (σ.1 79 p0.toNatClampNeg) fun v3 => (some v3))
      else (if p1 = (2 : Int32) then (zLd (zIn p0 8) (σ.1 80 p0.toNatClampNeg) fun v2 => (some v2))
        else (zLd (zIn p0 8) (σ.1 81 p0.toNatClampNeg) fun v1 => (some v1))))
set_option maxHeartbeats 4000000 in
set_option maxRecDepth 100000 in
theorem z_X10_ofPlayer (g : ZG) (p0 : Int32) (p1 : Int32) (σ : ZSt) : Zo g (mX10_ofPlayer g 0) (fun b : Int32 => (some (.int b), zw σ)) (s_X10_ofPlayer p0 p1 σ) 0 0 0 [some (.ref 68), some (.int p0), some (.int p1)] [] (zw σ) := by
  unfold s_X10_ofPlayer
  refine Zo_iload2 dX10_ofPlayer_0 ?_
  refine Zo_ifne 13 dX10_ofPlayer_1 (by decide) ?_ ?_
  · refine Zo_iload2 dX10_ofPlayer_13 ?_
    refine Zo_iconst (1 : Int32) dX10_ofPlayer_14 ic_1 ?_
    refine Zo_icmpne 27 dX10_ofPlayer_15 (by decide) ?_ ?_
    · refine Zo_iload2 dX10_ofPlayer_27 ?_
      refine Zo_iconst (2 : Int32) dX10_ofPlayer_28 ic_2 ?_
      refine Zo_icmpne 41 dX10_ofPlayer_29 (by decide) ?_ ?_
      · refine Zo_aload0 dX10_ofPlayer_41 ?_
        refine Zo_getr (j := 81) fl_X10_46 kd_68 rfl dX10_ofPlayer_42 ?_
        refine Zo_iload1 dX10_ofPlayer_45 ?_
        refine Zo_iald kd_81 dX10_ofPlayer_46 fun v1 => ?_
        exact Zo_iret dX10_ofPlayer_47 rfl rfl (Nat.le_refl _) (Nat.le_refl _)
      · refine Zo_aload0 dX10_ofPlayer_32 ?_
        refine Zo_getr (j := 80) fl_X10_43 kd_68 rfl dX10_ofPlayer_33 ?_
        refine Zo_iload1 dX10_ofPlayer_36 ?_
        refine Zo_iald kd_80 dX10_ofPlayer_37 fun v2 => ?_
        refine Zo_goto 47 dX10_ofPlayer_38 (by decide) ?_
        exact Zo_iret dX10_ofPlayer_47 rfl rfl (Nat.le_refl _) (Nat.le_refl _)
    · refine Zo_aload0 dX10_ofPlayer_18 ?_
      refine Zo_getr (j := 79) fl_X10_40 kd_68 rfl dX10_ofPlayer_19 ?_
      refine Zo_iload1 dX10_ofPlayer_22 ?_
      refine Zo_iald kd_79 dX10_ofPlayer_23 fun v3 => ?_
      refine Zo_goto 47 dX10_ofPlayer_24 (by decide) ?_
      exact Zo_iret dX10_ofPlayer_47 rfl rfl (Nat.le_refl _) (Nat.le_refl _)
  · refine Zo_aload0 dX10_ofPlayer_4 ?_
    refine Zo_getr (j := 78) fl_X10_37 kd_68 rfl dX10_ofPlayer_5 ?_
    refine Zo_iload1 dX10_ofPlayer_8 ?_
    refine Zo_iald kd_78 dX10_ofPlayer_9 fun v4 => ?_
    refine Zo_goto 47 dX10_ofPlayer_10 (by decide) ?_
    exact Zo_iret dX10_ofPlayer_47 rfl rfl (Nat.le_refl _) (Nat.le_refl _)
theorem e_X10_ofPlayer (g : ZG) (p0 : Int32) (p1 : Int32) (σ : ZSt) : zEvI g 0 yX10_ofPlayer cX10_ofPlayer 3 (some .int) [.ref 68, .int p0, .int p1] σ (s_X10_ofPlayer p0 p1 σ) :=
  zEvI_of 0 rfl rfl (z_X10_ofPlayer g p0 p1 σ)
abbrev mX10_ofWindow (g : ZG) (q : Nat) : ZM := (yX10_ofWindow, cX10_ofWindow, 3, (some .int), zRm q 0 0, zTg g 0 0)
def s_X10_ofWindow (p0 : Int32) (p1 : Int32) (σ : ZSt) : Option Int32 :=
  if p1 = (10 : Int32) then (zLd (zIn p0 30) (σ.1 76 p0.toNatClampNeg) fun v4 => (some v4))
    else (if p1 = (11 : Int32) then (zLd (zIn p0 66) (σ.1 69 p0.toNatClampNeg) fun v3 => (some v3))
      else (if p1 = (12 : Int32) then (zLd (zIn ((30 : Int32) + p0) 66) (σ.1 69 ((30 : Int32) + p0).toNatClampNeg) fun v2 => (some v2))
        else (zLd (zIn p0 30) (σ.1 77 p0.toNatClampNeg) fun v1 => (some v1))))
set_option maxHeartbeats 4000000 in
set_option maxRecDepth 100000 in
theorem z_X10_ofWindow (g : ZG) (p0 : Int32) (p1 : Int32) (σ : ZSt) : Zo g (mX10_ofWindow g 0) (fun b : Int32 => (some (.int b), zw σ)) (s_X10_ofWindow p0 p1 σ) 0 0 0 [some (.ref 68), some (.int p0), some (.int p1)] [] (zw σ) := by
  unfold s_X10_ofWindow
  refine Zo_iload2 dX10_ofWindow_0 ?_
  refine Zo_bipush (10 : Int32) dX10_ofWindow_1 bp_10 ?_
  refine Zo_icmpne 15 dX10_ofWindow_3 (by decide) ?_ ?_
  · refine Zo_iload2 dX10_ofWindow_15 ?_
    refine Zo_bipush (11 : Int32) dX10_ofWindow_16 bp_11 ?_
    refine Zo_icmpne 30 dX10_ofWindow_18 (by decide) ?_ ?_
    · refine Zo_iload2 dX10_ofWindow_30 ?_
      refine Zo_bipush (12 : Int32) dX10_ofWindow_31 bp_12 ?_
      refine Zo_icmpne 48 dX10_ofWindow_33 (by decide) ?_ ?_
      · refine Zo_aload0 dX10_ofWindow_48 ?_
        refine Zo_getr (j := 77) fl_X10_34 kd_68 rfl dX10_ofWindow_49 ?_
        refine Zo_iload1 dX10_ofWindow_52 ?_
        refine Zo_iald kd_77 dX10_ofWindow_53 fun v1 => ?_
        exact Zo_iret dX10_ofWindow_54 rfl rfl (Nat.le_refl _) (Nat.le_refl _)
      · refine Zo_aload0 dX10_ofWindow_36 ?_
        refine Zo_getr (j := 69) fl_X10_9 kd_68 rfl dX10_ofWindow_37 ?_
        refine Zo_bipush (30 : Int32) dX10_ofWindow_40 bp_30 ?_
        refine Zo_iload1 dX10_ofWindow_42 ?_
        refine Zo_iadd dX10_ofWindow_43 ?_
        refine Zo_iald kd_69 dX10_ofWindow_44 fun v2 => ?_
        refine Zo_goto 54 dX10_ofWindow_45 (by decide) ?_
        show Zo g _ _ _ 0 0 54 _ _ _
        exact Zo_iret dX10_ofWindow_54 rfl rfl (Nat.le_refl _) (Nat.le_refl _)
    · refine Zo_aload0 dX10_ofWindow_21 ?_
      refine Zo_getr (j := 69) fl_X10_9 kd_68 rfl dX10_ofWindow_22 ?_
      refine Zo_iload1 dX10_ofWindow_25 ?_
      refine Zo_iald kd_69 dX10_ofWindow_26 fun v3 => ?_
      refine Zo_goto 54 dX10_ofWindow_27 (by decide) ?_
      exact Zo_iret dX10_ofWindow_54 rfl rfl (Nat.le_refl _) (Nat.le_refl _)
  · refine Zo_aload0 dX10_ofWindow_6 ?_
    refine Zo_getr (j := 76) fl_X10_31 kd_68 rfl dX10_ofWindow_7 ?_
    refine Zo_iload1 dX10_ofWindow_10 ?_
    refine Zo_iald kd_76 dX10_ofWindow_11 fun v4 => ?_
    refine Zo_goto 54 dX10_ofWindow_12 (by decide) ?_
    exact Zo_iret dX10_ofWindow_54 rfl rfl (Nat.le_refl _) (Nat.le_refl _)
theorem e_X10_ofWindow (g : ZG) (p0 : Int32) (p1 : Int32) (σ : ZSt) : zEvI g 0 yX10_ofWindow cX10_ofWindow 3 (some .int) [.ref 68, .int p0, .int p1] σ (s_X10_ofWindow p0 p1 σ) :=
  zEvI_of 0 rfl rfl (z_X10_ofWindow g p0 p1 σ)
abbrev mX10_ofStreet (g : ZG) (q : Nat) : ZM := (yX10_ofStreet, cX10_ofStreet, 3, (some .int), zRm q 0 0, zTg g 0 0)
def s_X10_ofStreet (p0 : Int32) (p1 : Int32) (σ : ZSt) : Option Int32 :=
  if p1 = (20 : Int32) then ((s_X10_take p0 σ).bind fun r5 => (some r5))
    else (if p1 = (21 : Int32) then (zLd (zIn p0 6) (σ.1 73 p0.toNatClampNeg) fun v4 => (some v4))
      else (if p1 = (22 : Int32) then (zLd (zIn p0 6) (σ.1 74 p0.toNatClampNeg) fun v2 => (zLd (zIn p0 6) (σ.1 75 p0.toNatClampNeg) fun v3 => (some (((100 : Int32) * v2) + v3))))
        else ((s_X10_windowsOf p0 σ).bind fun r1 => (some r1))))
set_option maxHeartbeats 4000000 in
set_option maxRecDepth 100000 in
theorem z_X10_ofStreet (g : ZG) (p0 : Int32) (p1 : Int32) (σ : ZSt) : Zo g (mX10_ofStreet g 1) (fun b : Int32 => (some (.int b), zw σ)) (s_X10_ofStreet p0 p1 σ) 0 0 0 [some (.ref 68), some (.int p0), some (.int p1)] [] (zw σ) := by
  unfold s_X10_ofStreet
  refine Zo_iload2 dX10_ofStreet_0 ?_
  refine Zo_bipush (20 : Int32) dX10_ofStreet_1 bp_20 ?_
  refine Zo_icmpne 14 dX10_ofStreet_3 (by decide) ?_ ?_
  · refine Zo_iload2 dX10_ofStreet_14 ?_
    refine Zo_bipush (21 : Int32) dX10_ofStreet_15 bp_21 ?_
    refine Zo_icmpne 29 dX10_ofStreet_17 (by decide) ?_ ?_
    · refine Zo_iload2 dX10_ofStreet_29 ?_
      refine Zo_bipush (22 : Int32) dX10_ofStreet_30 bp_22 ?_
      refine Zo_icmpne 54 dX10_ofStreet_32 (by decide) ?_ ?_
      · refine Zo_aload0 dX10_ofStreet_54 ?_
        refine Zo_iload1 dX10_ofStreet_55 ?_
        refine Zo_cVI1 lk_X10_175 (e_X10_windowsOf g _ _) kd_68 (zFit_rm (by decide)) (zle rfl) dX10_ofStreet_56 fun r1 => ?_
        exact Zo_iret dX10_ofStreet_59 rfl rfl (Nat.le_refl _) (Nat.le_refl _)
      · refine Zo_bipush (100 : Int32) dX10_ofStreet_35 bp_100 ?_
        refine Zo_aload0 dX10_ofStreet_37 ?_
        refine Zo_getr (j := 74) fl_X10_25 kd_68 rfl dX10_ofStreet_38 ?_
        refine Zo_iload1 dX10_ofStreet_41 ?_
        refine Zo_iald kd_74 dX10_ofStreet_42 fun v2 => ?_
        refine Zo_imul dX10_ofStreet_43 ?_
        refine Zo_aload0 dX10_ofStreet_44 ?_
        show Zo g _ _ _ 0 0 45 _ _ _
        refine Zo_getr (j := 75) fl_X10_28 kd_68 rfl dX10_ofStreet_45 ?_
        refine Zo_iload1 dX10_ofStreet_48 ?_
        refine Zo_iald kd_75 dX10_ofStreet_49 fun v3 => ?_
        refine Zo_iadd dX10_ofStreet_50 ?_
        refine Zo_goto 59 dX10_ofStreet_51 (by decide) ?_
        exact Zo_iret dX10_ofStreet_59 rfl rfl (Nat.le_refl _) (Nat.le_refl _)
    · refine Zo_aload0 dX10_ofStreet_20 ?_
      refine Zo_getr (j := 73) fl_X10_22 kd_68 rfl dX10_ofStreet_21 ?_
      refine Zo_iload1 dX10_ofStreet_24 ?_
      refine Zo_iald kd_73 dX10_ofStreet_25 fun v4 => ?_
      refine Zo_goto 59 dX10_ofStreet_26 (by decide) ?_
      exact Zo_iret dX10_ofStreet_59 rfl rfl (Nat.le_refl _) (Nat.le_refl _)
  · refine Zo_aload0 dX10_ofStreet_6 ?_
    refine Zo_iload1 dX10_ofStreet_7 ?_
    refine Zo_cVI1 lk_X10_171 (e_X10_take g _ _) kd_68 (zFit_rm (by decide)) (zle rfl) dX10_ofStreet_8 fun r5 => ?_
    refine Zo_goto 59 dX10_ofStreet_11 (by decide) ?_
    exact Zo_iret dX10_ofStreet_59 rfl rfl (Nat.le_refl _) (Nat.le_refl _)
theorem e_X10_ofStreet (g : ZG) (p0 : Int32) (p1 : Int32) (σ : ZSt) : zEvI g 1 yX10_ofStreet cX10_ofStreet 3 (some .int) [.ref 68, .int p0, .int p1] σ (s_X10_ofStreet p0 p1 σ) :=
  zEvI_of 0 rfl rfl (z_X10_ofStreet g p0 p1 σ)
abbrev mX10_of (g : ZG) (q : Nat) : ZM := (yX10_of, cX10_of, 3, (some .int), zRm q 0 0, zTg g 0 0)
def s_X10_of (p0 : Int32) (p1 : Int32) (σ : ZSt) : Option Int32 :=
  (s_X10_within (p1.toInt64) (0 : Int64) (3 : Int64) σ).bind fun r1 => (if r1 = (0 : Int32) then ((s_X10_within (p1.toInt64) (10 : Int64) (13 : Int64) σ).bind fun r2 => (if r2 = (0 : Int32) then ((s_X10_within (p1.toInt64) (20 : Int64) (23 : Int64) σ).bind fun r3 => (if r3 = (0 : Int32) then (some (-2000000000 : Int32))
        else ((s_X10_isStreet p0 σ).bind fun r4 => (if r4 = (0 : Int32) then (some (-2000000000 : Int32))
          else ((s_X10_ofStreet p0 p1 σ).bind fun r5 => (some r5))))))
      else ((s_X10_isWindow p0 σ).bind fun r6 => (if r6 = (0 : Int32) then (some (-2000000000 : Int32))
        else ((s_X10_ofWindow p0 p1 σ).bind fun r7 => (some r7))))))
    else ((s_X10_isPlayer p0 σ).bind fun r8 => (if r8 = (0 : Int32) then (some (-2000000000 : Int32))
      else ((s_X10_ofPlayer p0 p1 σ).bind fun r9 => (some r9)))))
set_option maxHeartbeats 4000000 in
set_option maxRecDepth 100000 in
theorem z_X10_of (g : ZG) (p0 : Int32) (p1 : Int32) (σ : ZSt) : Zo g (mX10_of g 2) (fun b : Int32 => (some (.int b), zw σ)) (s_X10_of p0 p1 σ) 0 0 0 [some (.ref 68), some (.int p0), some (.int p1)] [] (zw σ) := by
  unfold s_X10_of
  refine Zo_iload2 dX10_of_0 ?_
  refine Zo_i2l dX10_of_1 ?_
  refine Zo_lconst (0 : Int64) dX10_of_2 lc_0 ?_
  refine Zo_ldc2 rfl cw_X10_178 dX10_of_3 ?_
  refine Zo_cSI3 lk_X10_120 (e_X10_within g _ _ _ _) (zFit_rm (by decide)) (zle rfl) dX10_of_6 fun r1 => ?_
  refine Zo_ifeq 32 dX10_of_9 (by decide) ?_ ?_
  · refine Zo_iload2 dX10_of_32 ?_
    refine Zo_i2l dX10_of_33 ?_
    refine Zo_ldc2 rfl cw_X10_186 dX10_of_34 ?_
    refine Zo_ldc2 rfl cw_X10_188 dX10_of_37 ?_
    refine Zo_cSI3 lk_X10_120 (e_X10_within g _ _ _ _) (zFit_rm (by decide)) (zle rfl) dX10_of_40 fun r2 => ?_
    refine Zo_ifeq 66 dX10_of_43 (by decide) ?_ ?_
    · refine Zo_iload2 dX10_of_66 ?_
      refine Zo_i2l dX10_of_67 ?_
      refine Zo_ldc2 rfl cw_X10_193 dX10_of_68 ?_
      refine Zo_ldc2 rfl cw_X10_195 dX10_of_71 ?_
      refine Zo_cSI3 lk_X10_120 (e_X10_within g _ _ _ _) (zFit_rm (by decide)) (zle rfl) dX10_of_74 fun r3 => ?_
      refine Zo_ifeq 97 dX10_of_77 (by decide) ?_ ?_
      · refine Zo_ldc rfl cw_X10_168 dX10_of_97 ?_
        exact Zo_iret dX10_of_99 rfl rfl (Nat.le_refl _) (Nat.le_refl _)
      · refine Zo_aload0 dX10_of_80 ?_
        refine Zo_iload1 dX10_of_81 ?_
        refine Zo_cVI1 lk_X10_158 (e_X10_isStreet g _ _) kd_68 (zFit_rm (by decide)) (zle rfl) dX10_of_82 fun r4 => ?_
        refine Zo_ifeq 97 dX10_of_85 (by decide) ?_ ?_
        · refine Zo_ldc rfl cw_X10_168 dX10_of_97 ?_
          exact Zo_iret dX10_of_99 rfl rfl (Nat.le_refl _) (Nat.le_refl _)
        · refine Zo_aload0 dX10_of_88 ?_
          refine Zo_iload1 dX10_of_89 ?_
          refine Zo_iload2 dX10_of_90 ?_
          refine Zo_cVI2 lk_X10_197 (e_X10_ofStreet g _ _ _) kd_68 (zFit_rm (by decide)) (zle rfl) dX10_of_91 fun r5 => ?_
          refine Zo_goto 99 dX10_of_94 (by decide) ?_
          exact Zo_iret dX10_of_99 rfl rfl (Nat.le_refl _) (Nat.le_refl _)
    · refine Zo_aload0 dX10_of_46 ?_
      refine Zo_iload1 dX10_of_47 ?_
      refine Zo_cVI1 lk_X10_161 (e_X10_isWindow g _ _) kd_68 (zFit_rm (by decide)) (zle rfl) dX10_of_48 fun r6 => ?_
      refine Zo_ifeq 63 dX10_of_51 (by decide) ?_ ?_
      · refine Zo_ldc rfl cw_X10_168 dX10_of_63 ?_
        exact Zo_iret dX10_of_65 rfl rfl (Nat.le_refl _) (Nat.le_refl _)
      · refine Zo_aload0 dX10_of_54 ?_
        refine Zo_iload1 dX10_of_55 ?_
        refine Zo_iload2 dX10_of_56 ?_
        refine Zo_cVI2 lk_X10_190 (e_X10_ofWindow g _ _ _) kd_68 (zFit_rm (by decide)) (zle rfl) dX10_of_57 fun r7 => ?_
        refine Zo_goto 65 dX10_of_60 (by decide) ?_
        exact Zo_iret dX10_of_65 rfl rfl (Nat.le_refl _) (Nat.le_refl _)
  · refine Zo_aload0 dX10_of_12 ?_
    refine Zo_iload1 dX10_of_13 ?_
    refine Zo_cVI1 lk_X10_180 (e_X10_isPlayer g _ _) kd_68 (zFit_rm (by decide)) (zle rfl) dX10_of_14 fun r8 => ?_
    refine Zo_ifeq 29 dX10_of_17 (by decide) ?_ ?_
    · refine Zo_ldc rfl cw_X10_168 dX10_of_29 ?_
      exact Zo_iret dX10_of_31 rfl rfl (Nat.le_refl _) (Nat.le_refl _)
    · refine Zo_aload0 dX10_of_20 ?_
      refine Zo_iload1 dX10_of_21 ?_
      refine Zo_iload2 dX10_of_22 ?_
      refine Zo_cVI2 lk_X10_183 (e_X10_ofPlayer g _ _ _) kd_68 (zFit_rm (by decide)) (zle rfl) dX10_of_23 fun r9 => ?_
      refine Zo_goto 31 dX10_of_26 (by decide) ?_
      exact Zo_iret dX10_of_31 rfl rfl (Nat.le_refl _) (Nat.le_refl _)
theorem e_X10_of (g : ZG) (p0 : Int32) (p1 : Int32) (σ : ZSt) : zEvI g 2 yX10_of cX10_of 3 (some .int) [.ref 68, .int p0, .int p1] σ (s_X10_of p0 p1 σ) :=
  zEvI_of 0 rfl rfl (z_X10_of g p0 p1 σ)
abbrev mX10_harmBy (g : ZG) (q : Nat) : ZM := (yX10_harmBy, cX10_harmBy, 3, (some .int), zRm q 0 0, zTg g 0 0)
def s_X10_harmBy (p0 : Int32) (p1 : Int32) (σ : ZSt) : Option Int32 :=
  zLd (zIn p1 66) (σ.1 69 p1.toNatClampNeg) fun v1 => (zLd (zIn ((30 : Int32) + p1) 66) (σ.1 69 ((30 : Int32) + p1).toNatClampNeg) fun v2 => (some (v1 - ((v2 * p0) / (10 : Int32)))))
set_option maxHeartbeats 4000000 in
set_option maxRecDepth 100000 in
theorem z_X10_harmBy (g : ZG) (p0 : Int32) (p1 : Int32) (σ : ZSt) : Zo g (mX10_harmBy g 0) (fun b : Int32 => (some (.int b), zw σ)) (s_X10_harmBy p0 p1 σ) 0 0 0 [some (.ref 68), some (.int p0), some (.int p1)] [] (zw σ) := by
  unfold s_X10_harmBy
  refine Zo_aload0 dX10_harmBy_0 ?_
  refine Zo_getr (j := 69) fl_X10_9 kd_68 rfl dX10_harmBy_1 ?_
  refine Zo_iload2 dX10_harmBy_4 ?_
  refine Zo_iald kd_69 dX10_harmBy_5 fun v1 => ?_
  refine Zo_aload0 dX10_harmBy_6 ?_
  refine Zo_getr (j := 69) fl_X10_9 kd_68 rfl dX10_harmBy_7 ?_
  refine Zo_bipush (30 : Int32) dX10_harmBy_10 bp_30 ?_
  show Zo g _ _ _ 0 0 12 _ _ _
  refine Zo_iload2 dX10_harmBy_12 ?_
  refine Zo_iadd dX10_harmBy_13 ?_
  refine Zo_iald kd_69 dX10_harmBy_14 fun v2 => ?_
  refine Zo_iload1 dX10_harmBy_15 ?_
  refine Zo_imul dX10_harmBy_16 ?_
  refine Zo_bipush (10 : Int32) dX10_harmBy_17 bp_10 ?_
  refine Zo_idiv dX10_harmBy_19 (by decide) ?_
  refine Zo_isub dX10_harmBy_20 ?_
  show Zo g _ _ _ 0 0 21 _ _ _
  exact Zo_iret dX10_harmBy_21 rfl rfl (Nat.le_refl _) (Nat.le_refl _)
theorem e_X10_harmBy (g : ZG) (p0 : Int32) (p1 : Int32) (σ : ZSt) : zEvI g 0 yX10_harmBy cX10_harmBy 3 (some .int) [.ref 68, .int p0, .int p1] σ (s_X10_harmBy p0 p1 σ) :=
  zEvI_of 0 rfl rfl (z_X10_harmBy g p0 p1 σ)
abbrev mX10_harm (g : ZG) (q : Nat) : ZM := (yX10_harm, cX10_harm, 2, (some .int), zRm q 0 0, zTg g 0 0)
def s_X10_harm (p0 : Int32) (σ : ZSt) : Option Int32 :=
  if p0 < (0 : Int32) then (some (-2000000000 : Int32))
    else ((s_X10_isPlayer (p0 / (100 : Int32)) σ).bind fun r1 => (if r1 = (0 : Int32) then (some (-2000000000 : Int32))
      else ((s_X10_isWindow (zRem p0 (100 : Int32)) σ).bind fun r2 => (if r2 = (0 : Int32) then (some (-2000000000 : Int32))
        else (zLd (zIn (p0 / (100 : Int32)) 8) (σ.1 78 (p0 / (100 : Int32)).toNatClampNeg) fun v3 => ((s_X10_harmBy v3 (zRem p0 (100 : Int32)) σ).bind fun r4 => (some r4)))))))
set_option maxHeartbeats 4000000 in
set_option maxRecDepth 100000 in
theorem z_X10_harm (g : ZG) (p0 : Int32) (σ : ZSt) : Zo g (mX10_harm g 2) (fun b : Int32 => (some (.int b), zw σ)) (s_X10_harm p0 σ) 0 0 0 [some (.ref 68), some (.int p0)] [] (zw σ) := by
  unfold s_X10_harm
  refine Zo_iload1 dX10_harm_0 ?_
  refine Zo_iflt 46 dX10_harm_1 (by decide) ?_ ?_
  · refine Zo_ldc rfl cw_X10_168 dX10_harm_46 ?_
    exact Zo_iret dX10_harm_48 rfl rfl (Nat.le_refl _) (Nat.le_refl _)
  · refine Zo_aload0 dX10_harm_4 ?_
    refine Zo_iload1 dX10_harm_5 ?_
    refine Zo_bipush (100 : Int32) dX10_harm_6 bp_100 ?_
    refine Zo_idiv dX10_harm_8 (by decide) ?_
    refine Zo_cVI1 lk_X10_180 (e_X10_isPlayer g _ _) kd_68 (zFit_rm (by decide)) (zle rfl) dX10_harm_9 fun r1 => ?_
    refine Zo_ifeq 46 dX10_harm_12 (by decide) ?_ ?_
    · refine Zo_ldc rfl cw_X10_168 dX10_harm_46 ?_
      exact Zo_iret dX10_harm_48 rfl rfl (Nat.le_refl _) (Nat.le_refl _)
    · refine Zo_aload0 dX10_harm_15 ?_
      refine Zo_iload1 dX10_harm_16 ?_
      refine Zo_bipush (100 : Int32) dX10_harm_17 bp_100 ?_
      refine Zo_irem dX10_harm_19 (by decide) ?_
      refine Zo_cVI1 lk_X10_161 (e_X10_isWindow g _ _) kd_68 (zFit_rm (by decide)) (zle rfl) dX10_harm_20 fun r2 => ?_
      refine Zo_ifeq 46 dX10_harm_23 (by decide) ?_ ?_
      · refine Zo_ldc rfl cw_X10_168 dX10_harm_46 ?_
        exact Zo_iret dX10_harm_48 rfl rfl (Nat.le_refl _) (Nat.le_refl _)
      · refine Zo_aload0 dX10_harm_26 ?_
        refine Zo_aload0 dX10_harm_27 ?_
        refine Zo_getr (j := 78) fl_X10_37 kd_68 rfl dX10_harm_28 ?_
        refine Zo_iload1 dX10_harm_31 ?_
        refine Zo_bipush (100 : Int32) dX10_harm_32 bp_100 ?_
        refine Zo_idiv dX10_harm_34 (by decide) ?_
        refine Zo_iald kd_78 dX10_harm_35 fun v3 => ?_
        show Zo g _ _ _ 0 0 36 _ _ _
        refine Zo_iload1 dX10_harm_36 ?_
        refine Zo_bipush (100 : Int32) dX10_harm_37 bp_100 ?_
        refine Zo_irem dX10_harm_39 (by decide) ?_
        refine Zo_cVI2 lk_X10_200 (e_X10_harmBy g _ _ _) kd_68 (zFit_rm (by decide)) (zle rfl) dX10_harm_40 fun r4 => ?_
        refine Zo_goto 48 dX10_harm_43 (by decide) ?_
        exact Zo_iret dX10_harm_48 rfl rfl (Nat.le_refl _) (Nat.le_refl _)
theorem e_X10_harm (g : ZG) (p0 : Int32) (σ : ZSt) : zEvI g 2 yX10_harm cX10_harm 2 (some .int) [.ref 68, .int p0] σ (s_X10_harm p0 σ) :=
  zEvI_of 0 rfl rfl (z_X10_harm g p0 σ)
abbrev mX10_streetHarm (g : ZG) (q : Nat) : ZM := (yX10_streetHarm, cX10_streetHarm, 5, (some .int), zRm q 0 0, zTg g 0 0)
def s_X10_streetHarm_L5 (l1 : Int32) (l2 : Int32) (σ : ZSt) : Nat → Int32 → Int32 → Option Int32
  | 0, _, _ => none
  | n + 1, l3, l4 =>
    if (σ.1 68 10) ≤ l4 then (some l3)
      else (zLd (zIn l4 30) (σ.1 76 l4.toNatClampNeg) fun v1 => (if v1 = l2 then ((s_X10_harmBy l1 l4 σ).bind fun r2 => (s_X10_streetHarm_L5 l1 l2 σ n (l3 + r2) (l4 + (1 : Int32))))
        else (s_X10_streetHarm_L5 l1 l2 σ n (l3 + (0 : Int32)) (l4 + (1 : Int32)))))
set_option maxHeartbeats 4000000 in
set_option maxRecDepth 100000 in
theorem z_X10_streetHarm_L5 (g : ZG) (l1 : Int32) (l2 : Int32) (σ : ZSt) : ∀ (n : Nat) (l3 : Int32) (l4 : Int32), Zo g (mX10_streetHarm g 1) (fun b : Int32 => (some (.int b), zw σ)) (s_X10_streetHarm_L5 l1 l2 σ n l3 l4) 0 0 5 [some (.ref 68), some (.int l1), some (.int l2), some (.int l3), some (.int l4)] [] (zw σ) := by
  intro n
  induction n with
  | zero => intros; exact Zo_none
  | succ n ih =>
    intro l3 l4
    rw [s_X10_streetHarm_L5]
    refine Zo_iload4 dX10_streetHarm_5 ?_
    refine Zo_aload0 dX10_streetHarm_7 ?_
    refine Zo_geti fl_X10_124 kd_68 dX10_streetHarm_8 ?_
    refine Zo_icmpge 45 dX10_streetHarm_11 (by decide) ?_ ?_
    · refine Zo_iload3 dX10_streetHarm_45 ?_
      exact Zo_iret dX10_streetHarm_46 rfl rfl (Nat.le_refl _) (Nat.le_refl _)
    · refine Zo_iload3 dX10_streetHarm_14 ?_
      refine Zo_aload0 dX10_streetHarm_15 ?_
      refine Zo_getr (j := 76) fl_X10_31 kd_68 rfl dX10_streetHarm_16 ?_
      refine Zo_iload4 dX10_streetHarm_19 ?_
      refine Zo_iald kd_76 dX10_streetHarm_21 fun v1 => ?_
      refine Zo_iload2 dX10_streetHarm_22 ?_
      refine Zo_icmpne 36 dX10_streetHarm_23 (by decide) ?_ ?_
      · refine Zo_iconst (0 : Int32) dX10_streetHarm_36 ic_0 ?_
        refine Zo_iadd dX10_streetHarm_37 ?_
        refine Zo_istore3 rfl (zlt rfl) dX10_streetHarm_38 ?_
        refine Zo_iinc4 rfl (1 : Int32) ic_1 (zlt rfl) dX10_streetHarm_39 ?_
        refine Zo_goto 5 dX10_streetHarm_42 (by decide) ?_
        exact ih _ _
      · refine Zo_aload0 dX10_streetHarm_26 ?_
        refine Zo_iload1 dX10_streetHarm_27 ?_
        refine Zo_iload4 dX10_streetHarm_28 ?_
        refine Zo_cVI2 lk_X10_200 (e_X10_harmBy g _ _ _) kd_68 (zFit_rm (by decide)) (zle rfl) dX10_streetHarm_30 fun r2 => ?_
        refine Zo_goto 37 dX10_streetHarm_33 (by decide) ?_
        refine Zo_iadd dX10_streetHarm_37 ?_
        refine Zo_istore3 rfl (zlt rfl) dX10_streetHarm_38 ?_
        show Zo g _ _ _ 0 0 39 _ _ _
        refine Zo_iinc4 rfl (1 : Int32) ic_1 (zlt rfl) dX10_streetHarm_39 ?_
        refine Zo_goto 5 dX10_streetHarm_42 (by decide) ?_
        exact ih _ _
def s_X10_streetHarm (p0 : Int32) (p1 : Int32) (σ : ZSt) : Option Int32 :=
  s_X10_streetHarm_L5 p0 p1 σ 200 (0 : Int32) (0 : Int32)
set_option maxHeartbeats 4000000 in
set_option maxRecDepth 100000 in
theorem z_X10_streetHarm (g : ZG) (p0 : Int32) (p1 : Int32) (σ : ZSt) : Zo g (mX10_streetHarm g 1) (fun b : Int32 => (some (.int b), zw σ)) (s_X10_streetHarm p0 p1 σ) 0 0 0 [some (.ref 68), some (.int p0), some (.int p1), none, none] [] (zw σ) := by
  unfold s_X10_streetHarm
  refine Zo_iconst (0 : Int32) dX10_streetHarm_0 ic_0 ?_
  refine Zo_istore3 rfl (zlt rfl) dX10_streetHarm_1 ?_
  refine Zo_iconst (0 : Int32) dX10_streetHarm_2 ic_0 ?_
  refine Zo_istore4 rfl (zlt rfl) dX10_streetHarm_3 ?_
  exact z_X10_streetHarm_L5 g _ _ _ _ _ _
theorem e_X10_streetHarm (g : ZG) (p0 : Int32) (p1 : Int32) (σ : ZSt) : zEvI g 1 yX10_streetHarm cX10_streetHarm 5 (some .int) [.ref 68, .int p0, .int p1] σ (s_X10_streetHarm p0 p1 σ) :=
  zEvI_of 2 rfl rfl (z_X10_streetHarm g p0 p1 σ)
abbrev mX10_leastFor (g : ZG) (q : Nat) : ZM := (yX10_leastFor, cX10_leastFor, 4, (some .int), zRm q 0 0, zTg g 0 0)
def s_X10_leastFor (p0 : Int32) (p1 : Int32) (σ : ZSt) : Option Int32 :=
  (s_X10_take p1 σ).bind fun r1 => (zLd (zIn p0 8) (σ.1 79 p0.toNatClampNeg) fun v2 => (if (0 : Int32) ≤ (r1 - v2) then (some ((r1 - v2) + (1 : Int32)))
    else (some (1 : Int32))))
set_option maxHeartbeats 4000000 in
set_option maxRecDepth 100000 in
theorem z_X10_leastFor (g : ZG) (p0 : Int32) (p1 : Int32) (σ : ZSt) : Zo g (mX10_leastFor g 1) (fun b : Int32 => (some (.int b), zw σ)) (s_X10_leastFor p0 p1 σ) 0 0 0 [some (.ref 68), some (.int p0), some (.int p1), none] [] (zw σ) := by
  unfold s_X10_leastFor
  refine Zo_aload0 dX10_leastFor_0 ?_
  refine Zo_iload2 dX10_leastFor_1 ?_
  refine Zo_cVI1 lk_X10_171 (e_X10_take g _ _) kd_68 (zFit_rm (by decide)) (zle rfl) dX10_leastFor_2 fun r1 => ?_
  refine Zo_aload0 dX10_leastFor_5 ?_
  refine Zo_getr (j := 79) fl_X10_40 kd_68 rfl dX10_leastFor_6 ?_
  refine Zo_iload1 dX10_leastFor_9 ?_
  refine Zo_iald kd_79 dX10_leastFor_10 fun v2 => ?_
  show Zo g _ _ _ 0 0 11 _ _ _
  refine Zo_isub dX10_leastFor_11 ?_
  refine Zo_istore3 rfl (zlt rfl) dX10_leastFor_12 ?_
  refine Zo_iload3 dX10_leastFor_13 ?_
  refine Zo_ifge 21 dX10_leastFor_14 (by decide) ?_ ?_
  · refine Zo_iload3 dX10_leastFor_21 ?_
    refine Zo_iconst (1 : Int32) dX10_leastFor_22 ic_1 ?_
    refine Zo_iadd dX10_leastFor_23 ?_
    exact Zo_iret dX10_leastFor_24 rfl rfl (Nat.le_refl _) (Nat.le_refl _)
  · refine Zo_iconst (1 : Int32) dX10_leastFor_17 ic_1 ?_
    refine Zo_goto 24 dX10_leastFor_18 (by decide) ?_
    exact Zo_iret dX10_leastFor_24 rfl rfl (Nat.le_refl _) (Nat.le_refl _)
theorem e_X10_leastFor (g : ZG) (p0 : Int32) (p1 : Int32) (σ : ZSt) : zEvI g 1 yX10_leastFor cX10_leastFor 4 (some .int) [.ref 68, .int p0, .int p1] σ (s_X10_leastFor p0 p1 σ) :=
  zEvI_of 1 rfl rfl (z_X10_leastFor g p0 p1 σ)
abbrev mX10_mostBy (g : ZG) (q : Nat) : ZM := (yX10_mostBy, cX10_mostBy, 6, (some .int), zRm q 0 0, zTg g 0 0)
def s_X10_mostBy_L5 (l1 : Int32) (l2 : Int32) (σ : ZSt) : Nat → Int32 → Int32 → Option Int32
  | 0, _, _ => none
  | n + 1, l3, l4 =>
    if (σ.1 68 10) ≤ l4 then (some l3)
      else ((s_X10_harmBy l1 l4 σ).bind fun r1 => (zLd (zIn l4 30) (σ.1 76 l4.toNatClampNeg) fun v2 => (if v2 = l2 then (if r1 ≤ (0 : Int32) then (s_X10_mostBy_L5 l1 l2 σ n (l3 + (0 : Int32)) (l4 + (1 : Int32)))
          else (s_X10_mostBy_L5 l1 l2 σ n (l3 + r1) (l4 + (1 : Int32))))
        else (s_X10_mostBy_L5 l1 l2 σ n (l3 + (0 : Int32)) (l4 + (1 : Int32))))))
set_option maxHeartbeats 4000000 in
set_option maxRecDepth 100000 in
theorem z_X10_mostBy_L5 (g : ZG) (l1 : Int32) (l2 : Int32) (σ : ZSt) : ∀ (n : Nat) (l3 : Int32) (l4 : Int32) (o5 : Option Value), Zo g (mX10_mostBy g 1) (fun b : Int32 => (some (.int b), zw σ)) (s_X10_mostBy_L5 l1 l2 σ n l3 l4) 0 0 5 [some (.ref 68), some (.int l1), some (.int l2), some (.int l3), some (.int l4), o5] [] (zw σ) := by
  intro n
  induction n with
  | zero => intros; exact Zo_none
  | succ n ih =>
    intro l3 l4 o5
    rw [s_X10_mostBy_L5]
    refine Zo_iload4 dX10_mostBy_5 ?_
    refine Zo_aload0 dX10_mostBy_7 ?_
    refine Zo_geti fl_X10_124 kd_68 dX10_mostBy_8 ?_
    refine Zo_icmpge 54 dX10_mostBy_11 (by decide) ?_ ?_
    · refine Zo_iload3 dX10_mostBy_54 ?_
      exact Zo_iret dX10_mostBy_55 rfl rfl (Nat.le_refl _) (Nat.le_refl _)
    · refine Zo_aload0 dX10_mostBy_14 ?_
      refine Zo_iload1 dX10_mostBy_15 ?_
      refine Zo_iload4 dX10_mostBy_16 ?_
      refine Zo_cVI2 lk_X10_200 (e_X10_harmBy g _ _ _) kd_68 (zFit_rm (by decide)) (zle rfl) dX10_mostBy_18 fun r1 => ?_
      refine Zo_istore5 rfl (zlt rfl) dX10_mostBy_21 ?_
      refine Zo_iload3 dX10_mostBy_23 ?_
      refine Zo_aload0 dX10_mostBy_24 ?_
      show Zo g _ _ _ 0 0 25 _ _ _
      refine Zo_getr (j := 76) fl_X10_31 kd_68 rfl dX10_mostBy_25 ?_
      refine Zo_iload4 dX10_mostBy_28 ?_
      refine Zo_iald kd_76 dX10_mostBy_30 fun v2 => ?_
      refine Zo_iload2 dX10_mostBy_31 ?_
      refine Zo_icmpne 45 dX10_mostBy_32 (by decide) ?_ ?_
      · refine Zo_iconst (0 : Int32) dX10_mostBy_45 ic_0 ?_
        refine Zo_iadd dX10_mostBy_46 ?_
        refine Zo_istore3 rfl (zlt rfl) dX10_mostBy_47 ?_
        refine Zo_iinc4 rfl (1 : Int32) ic_1 (zlt rfl) dX10_mostBy_48 ?_
        refine Zo_goto 5 dX10_mostBy_51 (by decide) ?_
        exact ih _ _ _
      · refine Zo_iload5 dX10_mostBy_35 ?_
        refine Zo_ifle 45 dX10_mostBy_37 (by decide) ?_ ?_
        · refine Zo_iconst (0 : Int32) dX10_mostBy_45 ic_0 ?_
          refine Zo_iadd dX10_mostBy_46 ?_
          refine Zo_istore3 rfl (zlt rfl) dX10_mostBy_47 ?_
          refine Zo_iinc4 rfl (1 : Int32) ic_1 (zlt rfl) dX10_mostBy_48 ?_
          refine Zo_goto 5 dX10_mostBy_51 (by decide) ?_
          exact ih _ _ _
        · refine Zo_iload5 dX10_mostBy_40 ?_
          refine Zo_goto 46 dX10_mostBy_42 (by decide) ?_
          refine Zo_iadd dX10_mostBy_46 ?_
          refine Zo_istore3 rfl (zlt rfl) dX10_mostBy_47 ?_
          refine Zo_iinc4 rfl (1 : Int32) ic_1 (zlt rfl) dX10_mostBy_48 ?_
          refine Zo_goto 5 dX10_mostBy_51 (by decide) ?_
          exact ih _ _ _
def s_X10_mostBy (p0 : Int32) (p1 : Int32) (σ : ZSt) : Option Int32 :=
  s_X10_mostBy_L5 p0 p1 σ 200 (0 : Int32) (0 : Int32)
set_option maxHeartbeats 4000000 in
set_option maxRecDepth 100000 in
theorem z_X10_mostBy (g : ZG) (p0 : Int32) (p1 : Int32) (σ : ZSt) : Zo g (mX10_mostBy g 1) (fun b : Int32 => (some (.int b), zw σ)) (s_X10_mostBy p0 p1 σ) 0 0 0 [some (.ref 68), some (.int p0), some (.int p1), none, none, none] [] (zw σ) := by
  unfold s_X10_mostBy
  refine Zo_iconst (0 : Int32) dX10_mostBy_0 ic_0 ?_
  refine Zo_istore3 rfl (zlt rfl) dX10_mostBy_1 ?_
  refine Zo_iconst (0 : Int32) dX10_mostBy_2 ic_0 ?_
  refine Zo_istore4 rfl (zlt rfl) dX10_mostBy_3 ?_
  exact z_X10_mostBy_L5 g _ _ _ _ _ _ _
theorem e_X10_mostBy (g : ZG) (p0 : Int32) (p1 : Int32) (σ : ZSt) : zEvI g 1 yX10_mostBy cX10_mostBy 6 (some .int) [.ref 68, .int p0, .int p1] σ (s_X10_mostBy p0 p1 σ) :=
  zEvI_of 3 rfl rfl (z_X10_mostBy g p0 p1 σ)
abbrev mX10_bargainOf (g : ZG) (q : Nat) : ZM := (yX10_bargainOf, cX10_bargainOf, 6, (some .int), zRm q 0 0, zTg g 0 0)
def s_X10_bargainOf (p0 : Int32) (p1 : Int32) (p2 : Int32) (σ : ZSt) : Option Int32 :=
  (s_X10_leastFor p0 p2 σ).bind fun r1 => ((s_X10_mostBy p1 p2 σ).bind fun r2 => (if r2 < r1 then (some (-2 : Int32))
    else (some ((r1 + r2) / (2 : Int32)))))
set_option maxHeartbeats 4000000 in
set_option maxRecDepth 100000 in
theorem z_X10_bargainOf (g : ZG) (p0 : Int32) (p1 : Int32) (p2 : Int32) (σ : ZSt) : Zo g (mX10_bargainOf g 2) (fun b : Int32 => (some (.int b), zw σ)) (s_X10_bargainOf p0 p1 p2 σ) 0 0 0 [some (.ref 68), some (.int p0), some (.int p1), some (.int p2), none, none] [] (zw σ) := by
  unfold s_X10_bargainOf
  refine Zo_aload0 dX10_bargainOf_0 ?_
  refine Zo_iload1 dX10_bargainOf_1 ?_
  refine Zo_iload3 dX10_bargainOf_2 ?_
  refine Zo_cVI2 lk_X10_203 (e_X10_leastFor g _ _ _) kd_68 (zFit_rm (by decide)) (zle rfl) dX10_bargainOf_3 fun r1 => ?_
  refine Zo_istore4 rfl (zlt rfl) dX10_bargainOf_6 ?_
  refine Zo_aload0 dX10_bargainOf_8 ?_
  refine Zo_iload2 dX10_bargainOf_9 ?_
  show Zo g _ _ _ 0 0 10 _ _ _
  refine Zo_iload3 dX10_bargainOf_10 ?_
  refine Zo_cVI2 lk_X10_206 (e_X10_mostBy g _ _ _) kd_68 (zFit_rm (by decide)) (zle rfl) dX10_bargainOf_11 fun r2 => ?_
  refine Zo_istore5 rfl (zlt rfl) dX10_bargainOf_14 ?_
  refine Zo_iload5 dX10_bargainOf_16 ?_
  refine Zo_iload4 dX10_bargainOf_18 ?_
  refine Zo_icmplt 33 dX10_bargainOf_20 (by decide) ?_ ?_
  · refine Zo_bipush (-2 : Int32) dX10_bargainOf_33 bp_m2 ?_
    exact Zo_iret dX10_bargainOf_35 rfl rfl (Nat.le_refl _) (Nat.le_refl _)
  · refine Zo_iload4 dX10_bargainOf_23 ?_
    refine Zo_iload5 dX10_bargainOf_25 ?_
    refine Zo_iadd dX10_bargainOf_27 ?_
    refine Zo_iconst (2 : Int32) dX10_bargainOf_28 ic_2 ?_
    refine Zo_idiv dX10_bargainOf_29 (by decide) ?_
    refine Zo_goto 35 dX10_bargainOf_30 (by decide) ?_
    exact Zo_iret dX10_bargainOf_35 rfl rfl (Nat.le_refl _) (Nat.le_refl _)
theorem e_X10_bargainOf (g : ZG) (p0 : Int32) (p1 : Int32) (p2 : Int32) (σ : ZSt) : zEvI g 2 yX10_bargainOf cX10_bargainOf 6 (some .int) [.ref 68, .int p0, .int p1, .int p2] σ (s_X10_bargainOf p0 p1 p2 σ) :=
  zEvI_of 2 rfl rfl (z_X10_bargainOf g p0 p1 p2 σ)
abbrev mX10_isPs (g : ZG) (q : Nat) : ZM := (yX10_isPs, cX10_isPs, 2, (some .boolean), zRm q 0 0, zTg g 0 0)
def s_X10_isPs (p0 : Int32) (σ : ZSt) : Option Int32 :=
  if p0 < (0 : Int32) then (some (0 : Int32))
    else ((s_X10_isPlayer (p0 / (10 : Int32)) σ).bind fun r1 => (if r1 = (0 : Int32) then (some (0 : Int32))
      else ((s_X10_isStreet (zRem p0 (10 : Int32)) σ).bind fun r2 => (if r2 = (0 : Int32) then (some (0 : Int32))
        else (some (1 : Int32))))))
set_option maxHeartbeats 4000000 in
set_option maxRecDepth 100000 in
theorem z_X10_isPs (g : ZG) (p0 : Int32) (σ : ZSt) : Zo g (mX10_isPs g 2) (fun b : Int32 => (some (.int b), zw σ)) (s_X10_isPs p0 σ) 0 0 0 [some (.ref 68), some (.int p0)] [] (zw σ) := by
  unfold s_X10_isPs
  refine Zo_iload1 dX10_isPs_0 ?_
  refine Zo_iflt 30 dX10_isPs_1 (by decide) ?_ ?_
  · refine Zo_iconst (0 : Int32) dX10_isPs_30 ic_0 ?_
    exact Zo_zret dX10_isPs_31 rfl rfl (Or.inl rfl) (Nat.le_refl _) (Nat.le_refl _)
  · refine Zo_aload0 dX10_isPs_4 ?_
    refine Zo_iload1 dX10_isPs_5 ?_
    refine Zo_bipush (10 : Int32) dX10_isPs_6 bp_10 ?_
    refine Zo_idiv dX10_isPs_8 (by decide) ?_
    refine Zo_cVI1 lk_X10_180 (e_X10_isPlayer g _ _) kd_68 (zFit_rm (by decide)) (zle rfl) dX10_isPs_9 fun r1 => ?_
    refine Zo_ifeq 30 dX10_isPs_12 (by decide) ?_ ?_
    · refine Zo_iconst (0 : Int32) dX10_isPs_30 ic_0 ?_
      exact Zo_zret dX10_isPs_31 rfl rfl (Or.inl rfl) (Nat.le_refl _) (Nat.le_refl _)
    · refine Zo_aload0 dX10_isPs_15 ?_
      refine Zo_iload1 dX10_isPs_16 ?_
      refine Zo_bipush (10 : Int32) dX10_isPs_17 bp_10 ?_
      refine Zo_irem dX10_isPs_19 (by decide) ?_
      refine Zo_cVI1 lk_X10_158 (e_X10_isStreet g _ _) kd_68 (zFit_rm (by decide)) (zle rfl) dX10_isPs_20 fun r2 => ?_
      refine Zo_ifeq 30 dX10_isPs_23 (by decide) ?_ ?_
      · refine Zo_iconst (0 : Int32) dX10_isPs_30 ic_0 ?_
        exact Zo_zret dX10_isPs_31 rfl rfl (Or.inl rfl) (Nat.le_refl _) (Nat.le_refl _)
      · refine Zo_iconst (1 : Int32) dX10_isPs_26 ic_1 ?_
        refine Zo_goto 31 dX10_isPs_27 (by decide) ?_
        exact Zo_zret dX10_isPs_31 rfl rfl (Or.inr rfl) (Nat.le_refl _) (Nat.le_refl _)
theorem e_X10_isPs (g : ZG) (p0 : Int32) (σ : ZSt) : zEvI g 2 yX10_isPs cX10_isPs 2 (some .boolean) [.ref 68, .int p0] σ (s_X10_isPs p0 σ) :=
  zEvI_of 0 rfl rfl (z_X10_isPs g p0 σ)
abbrev mX10_once (g : ZG) (q : Nat) : ZM := (yX10_once, cX10_once, 5, (some .int), zRm q 0 0, zTg g 0 0)
def s_X10_once (p0 : Int32) (p1 : Int32) (σ : ZSt) : Option Int32 :=
  (s_X10_isPs p0 σ).bind fun r1 => (if r1 = (0 : Int32) then (some (-2000000000 : Int32))
    else (if p1 = (0 : Int32) then (zLd (zIn (p0 / (10 : Int32)) 8) (σ.1 78 (p0 / (10 : Int32)).toNatClampNeg) fun v2 => ((s_X10_streetHarm v2 (zRem p0 (10 : Int32)) σ).bind fun r3 => (some r3)))
      else (if p1 = (1 : Int32) then ((s_X10_leastFor (p0 / (10 : Int32)) (zRem p0 (10 : Int32)) σ).bind fun r4 => (some r4))
      else (if p1 = (2 : Int32) then (zLd (zIn (p0 / (10 : Int32)) 8) (σ.1 78 (p0 / (10 : Int32)).toNatClampNeg) fun v5 => ((s_X10_mostBy v5 (zRem p0 (10 : Int32)) σ).bind fun r6 => (some r6)))
      else (if p1 = (3 : Int32) then (zLd (zIn (p0 / (10 : Int32)) 8) (σ.1 78 (p0 / (10 : Int32)).toNatClampNeg) fun v7 => ((s_X10_bargainOf (p0 / (10 : Int32)) v7 (zRem p0 (10 : Int32)) σ).bind fun r8 => (some r8)))
      else (some (-2000000000 : Int32)))))))
set_option maxHeartbeats 4000000 in
set_option maxRecDepth 100000 in
theorem z_X10_once (g : ZG) (p0 : Int32) (p1 : Int32) (σ : ZSt) : Zo g (mX10_once g 3) (fun b : Int32 => (some (.int b), zw σ)) (s_X10_once p0 p1 σ) 0 0 0 [some (.ref 68), some (.int p0), some (.int p1), none, none] [] (zw σ) := by
  unfold s_X10_once
  refine Zo_aload0 dX10_once_0 ?_
  refine Zo_iload1 dX10_once_1 ?_
  refine Zo_cVI1 lk_X10_209 (e_X10_isPs g _ _) kd_68 (zFit_rm (by decide)) (zle rfl) dX10_once_2 fun r1 => ?_
  refine Zo_ifne 11 dX10_once_5 (by decide) ?_ ?_
  · refine Zo_iload1 dX10_once_11 ?_
    refine Zo_bipush (10 : Int32) dX10_once_12 bp_10 ?_
    refine Zo_idiv dX10_once_14 (by decide) ?_
    refine Zo_istore3 rfl (zlt rfl) dX10_once_15 ?_
    refine Zo_iload1 dX10_once_16 ?_
    refine Zo_bipush (10 : Int32) dX10_once_17 bp_10 ?_
    refine Zo_irem dX10_once_19 (by decide) ?_
    show Zo g _ _ _ 0 0 20 _ _ _
    refine Zo_istore4 rfl (zlt rfl) dX10_once_20 ?_
    refine Zo_iload2 dX10_once_22 ?_
    refine Zo_ite (fun hc0 => ?_) (fun hc0 => ?_)
    · refine Zo_tswC (off := 29) (0 : Int32) 52 hc0 dX10_once_23 (by decide) (by decide) (by decide) (by decide) ?_
      refine Zo_aload0 dX10_once_52 ?_
      refine Zo_aload0 dX10_once_53 ?_
      refine Zo_getr (j := 78) fl_X10_37 kd_68 rfl dX10_once_54 ?_
      refine Zo_iload3 dX10_once_57 ?_
      refine Zo_iald kd_78 dX10_once_58 fun v2 => ?_
      refine Zo_iload4 dX10_once_59 ?_
      refine Zo_cVI2 lk_X10_212 (e_X10_streetHarm g _ _ _) kd_68 (zFit_rm (by decide)) (zle rfl) dX10_once_61 fun r3 => ?_
      show Zo g _ _ _ 0 0 64 _ _ _
      exact Zo_iret dX10_once_64 rfl rfl (Nat.le_refl _) (Nat.le_refl _)
    refine Zo_ite (fun hc1 => ?_) (fun hc1 => ?_)
    · refine Zo_tswC (off := 42) (1 : Int32) 65 hc1 dX10_once_23 (by decide) (by decide) (by decide) (by decide) ?_
      refine Zo_aload0 dX10_once_65 ?_
      refine Zo_iload3 dX10_once_66 ?_
      refine Zo_iload4 dX10_once_67 ?_
      refine Zo_cVI2 lk_X10_203 (e_X10_leastFor g _ _ _) kd_68 (zFit_rm (by decide)) (zle rfl) dX10_once_69 fun r4 => ?_
      exact Zo_iret dX10_once_72 rfl rfl (Nat.le_refl _) (Nat.le_refl _)
    refine Zo_ite (fun hc2 => ?_) (fun hc2 => ?_)
    · refine Zo_tswC (off := 50) (2 : Int32) 73 hc2 dX10_once_23 (by decide) (by decide) (by decide) (by decide) ?_
      refine Zo_aload0 dX10_once_73 ?_
      refine Zo_aload0 dX10_once_74 ?_
      refine Zo_getr (j := 78) fl_X10_37 kd_68 rfl dX10_once_75 ?_
      refine Zo_iload3 dX10_once_78 ?_
      refine Zo_iald kd_78 dX10_once_79 fun v5 => ?_
      refine Zo_iload4 dX10_once_80 ?_
      refine Zo_cVI2 lk_X10_206 (e_X10_mostBy g _ _ _) kd_68 (zFit_rm (by decide)) (zle rfl) dX10_once_82 fun r6 => ?_
      show Zo g _ _ _ 0 0 85 _ _ _
      exact Zo_iret dX10_once_85 rfl rfl (Nat.le_refl _) (Nat.le_refl _)
    refine Zo_ite (fun hc3 => ?_) (fun hc3 => ?_)
    · refine Zo_tswC (off := 63) (3 : Int32) 86 hc3 dX10_once_23 (by decide) (by decide) (by decide) (by decide) ?_
      refine Zo_aload0 dX10_once_86 ?_
      refine Zo_iload3 dX10_once_87 ?_
      refine Zo_aload0 dX10_once_88 ?_
      refine Zo_getr (j := 78) fl_X10_37 kd_68 rfl dX10_once_89 ?_
      refine Zo_iload3 dX10_once_92 ?_
      refine Zo_iald kd_78 dX10_once_93 fun v7 => ?_
      refine Zo_iload4 dX10_once_94 ?_
      show Zo g _ _ _ 0 0 96 _ _ _
      refine Zo_cVI3 lk_X10_215 (e_X10_bargainOf g _ _ _ _) kd_68 (zFit_rm (by decide)) (zle rfl) dX10_once_96 fun r8 => ?_
      exact Zo_iret dX10_once_99 rfl rfl (Nat.le_refl _) (Nat.le_refl _)
    refine Zo_tswOut 100 dX10_once_23 (by have a0 := zne_0 hc0; have a1 := zne_1 hc1; have a2 := zne_2 hc2; have a3 := zne_3 hc3; omega) (by decide) ?_
    refine Zo_ldc rfl cw_X10_168 dX10_once_100 ?_
    exact Zo_iret dX10_once_102 rfl rfl (Nat.le_refl _) (Nat.le_refl _)
  · refine Zo_ldc rfl cw_X10_168 dX10_once_8 ?_
    exact Zo_iret dX10_once_10 rfl rfl (Nat.le_refl _) (Nat.le_refl _)
theorem e_X10_once (g : ZG) (p0 : Int32) (p1 : Int32) (σ : ZSt) : zEvI g 3 yX10_once cX10_once 5 (some .int) [.ref 68, .int p0, .int p1] σ (s_X10_once p0 p1 σ) :=
  zEvI_of 2 rfl rfl (z_X10_once g p0 p1 σ)
abbrev mX10_isHarmed (g : ZG) (q : Nat) : ZM := (yX10_isHarmed, cX10_isHarmed, 4, (some .boolean), zRm q 0 0, zTg g 0 0)
def s_X10_isHarmed (p0 : Int32) (p1 : Int32) (p2 : Int32) (σ : ZSt) : Option Int32 :=
  zLd (zIn p2 30) (σ.1 76 p2.toNatClampNeg) fun v1 => (if v1 = p1 then (zLd (zIn p0 8) (σ.1 78 p0.toNatClampNeg) fun v2 => ((s_X10_harmBy v2 p2 σ).bind fun r3 => (if r3 ≤ (0 : Int32) then (some (0 : Int32))
      else (some (1 : Int32)))))
    else (some (0 : Int32)))
set_option maxHeartbeats 4000000 in
set_option maxRecDepth 100000 in
theorem z_X10_isHarmed (g : ZG) (p0 : Int32) (p1 : Int32) (p2 : Int32) (σ : ZSt) : Zo g (mX10_isHarmed g 1) (fun b : Int32 => (some (.int b), zw σ)) (s_X10_isHarmed p0 p1 p2 σ) 0 0 0 [some (.ref 68), some (.int p0), some (.int p1), some (.int p2)] [] (zw σ) := by
  unfold s_X10_isHarmed
  refine Zo_aload0 dX10_isHarmed_0 ?_
  refine Zo_getr (j := 76) fl_X10_31 kd_68 rfl dX10_isHarmed_1 ?_
  refine Zo_iload3 dX10_isHarmed_4 ?_
  refine Zo_iald kd_76 dX10_isHarmed_5 fun v1 => ?_
  refine Zo_iload2 dX10_isHarmed_6 ?_
  refine Zo_icmpne 28 dX10_isHarmed_7 (by decide) ?_ ?_
  · refine Zo_iconst (0 : Int32) dX10_isHarmed_28 ic_0 ?_
    exact Zo_zret dX10_isHarmed_29 rfl rfl (Or.inl rfl) (Nat.le_refl _) (Nat.le_refl _)
  · refine Zo_aload0 dX10_isHarmed_10 ?_
    refine Zo_aload0 dX10_isHarmed_11 ?_
    refine Zo_getr (j := 78) fl_X10_37 kd_68 rfl dX10_isHarmed_12 ?_
    refine Zo_iload1 dX10_isHarmed_15 ?_
    refine Zo_iald kd_78 dX10_isHarmed_16 fun v2 => ?_
    refine Zo_iload3 dX10_isHarmed_17 ?_
    refine Zo_cVI2 lk_X10_200 (e_X10_harmBy g _ _ _) kd_68 (zFit_rm (by decide)) (zle rfl) dX10_isHarmed_18 fun r3 => ?_
    show Zo g _ _ _ 0 0 21 _ _ _
    refine Zo_ifle 28 dX10_isHarmed_21 (by decide) ?_ ?_
    · refine Zo_iconst (0 : Int32) dX10_isHarmed_28 ic_0 ?_
      exact Zo_zret dX10_isHarmed_29 rfl rfl (Or.inl rfl) (Nat.le_refl _) (Nat.le_refl _)
    · refine Zo_iconst (1 : Int32) dX10_isHarmed_24 ic_1 ?_
      refine Zo_goto 29 dX10_isHarmed_25 (by decide) ?_
      exact Zo_zret dX10_isHarmed_29 rfl rfl (Or.inr rfl) (Nat.le_refl _) (Nat.le_refl _)
theorem e_X10_isHarmed (g : ZG) (p0 : Int32) (p1 : Int32) (p2 : Int32) (σ : ZSt) : zEvI g 1 yX10_isHarmed cX10_isHarmed 4 (some .boolean) [.ref 68, .int p0, .int p1, .int p2] σ (s_X10_isHarmed p0 p1 p2 σ) :=
  zEvI_of 0 rfl rfl (z_X10_isHarmed g p0 p1 p2 σ)
abbrev mX10_harmedMany (g : ZG) (q : Nat) : ZM := (yX10_harmedMany, cX10_harmedMany, 5, (some .int), zRm q 0 0, zTg g 0 0)
def s_X10_harmedMany_L5 (l1 : Int32) (l2 : Int32) (σ : ZSt) : Nat → Int32 → Int32 → Option Int32
  | 0, _, _ => none
  | n + 1, l3, l4 =>
    if (σ.1 68 10) ≤ l4 then (some l3)
      else ((s_X10_isHarmed l1 l2 l4 σ).bind fun r1 => (if r1 = (0 : Int32) then (s_X10_harmedMany_L5 l1 l2 σ n (l3 + (0 : Int32)) (l4 + (1 : Int32)))
        else (s_X10_harmedMany_L5 l1 l2 σ n (l3 + (1 : Int32)) (l4 + (1 : Int32)))))
set_option maxHeartbeats 4000000 in
set_option maxRecDepth 100000 in
theorem z_X10_harmedMany_L5 (g : ZG) (l1 : Int32) (l2 : Int32) (σ : ZSt) : ∀ (n : Nat) (l3 : Int32) (l4 : Int32), Zo g (mX10_harmedMany g 2) (fun b : Int32 => (some (.int b), zw σ)) (s_X10_harmedMany_L5 l1 l2 σ n l3 l4) 0 0 5 [some (.ref 68), some (.int l1), some (.int l2), some (.int l3), some (.int l4)] [] (zw σ) := by
  intro n
  induction n with
  | zero => intros; exact Zo_none
  | succ n ih =>
    intro l3 l4
    rw [s_X10_harmedMany_L5]
    refine Zo_iload4 dX10_harmedMany_5 ?_
    refine Zo_aload0 dX10_harmedMany_7 ?_
    refine Zo_geti fl_X10_124 kd_68 dX10_harmedMany_8 ?_
    refine Zo_icmpge 39 dX10_harmedMany_11 (by decide) ?_ ?_
    · refine Zo_iload3 dX10_harmedMany_39 ?_
      exact Zo_iret dX10_harmedMany_40 rfl rfl (Nat.le_refl _) (Nat.le_refl _)
    · refine Zo_iload3 dX10_harmedMany_14 ?_
      refine Zo_aload0 dX10_harmedMany_15 ?_
      refine Zo_iload1 dX10_harmedMany_16 ?_
      refine Zo_iload2 dX10_harmedMany_17 ?_
      refine Zo_iload4 dX10_harmedMany_18 ?_
      refine Zo_cVI3 lk_X10_219 (e_X10_isHarmed g _ _ _ _) kd_68 (zFit_rm (by decide)) (zle rfl) dX10_harmedMany_20 fun r1 => ?_
      refine Zo_ifeq 30 dX10_harmedMany_23 (by decide) ?_ ?_
      · refine Zo_iconst (0 : Int32) dX10_harmedMany_30 ic_0 ?_
        refine Zo_iadd dX10_harmedMany_31 ?_
        refine Zo_istore3 rfl (zlt rfl) dX10_harmedMany_32 ?_
        refine Zo_iinc4 rfl (1 : Int32) ic_1 (zlt rfl) dX10_harmedMany_33 ?_
        refine Zo_goto 5 dX10_harmedMany_36 (by decide) ?_
        exact ih _ _
      · refine Zo_iconst (1 : Int32) dX10_harmedMany_26 ic_1 ?_
        refine Zo_goto 31 dX10_harmedMany_27 (by decide) ?_
        refine Zo_iadd dX10_harmedMany_31 ?_
        refine Zo_istore3 rfl (zlt rfl) dX10_harmedMany_32 ?_
        refine Zo_iinc4 rfl (1 : Int32) ic_1 (zlt rfl) dX10_harmedMany_33 ?_
        refine Zo_goto 5 dX10_harmedMany_36 (by decide) ?_
        exact ih _ _
def s_X10_harmedMany (p0 : Int32) (p1 : Int32) (σ : ZSt) : Option Int32 :=
  s_X10_harmedMany_L5 p0 p1 σ 200 (0 : Int32) (0 : Int32)
set_option maxHeartbeats 4000000 in
set_option maxRecDepth 100000 in
theorem z_X10_harmedMany (g : ZG) (p0 : Int32) (p1 : Int32) (σ : ZSt) : Zo g (mX10_harmedMany g 2) (fun b : Int32 => (some (.int b), zw σ)) (s_X10_harmedMany p0 p1 σ) 0 0 0 [some (.ref 68), some (.int p0), some (.int p1), none, none] [] (zw σ) := by
  unfold s_X10_harmedMany
  refine Zo_iconst (0 : Int32) dX10_harmedMany_0 ic_0 ?_
  refine Zo_istore3 rfl (zlt rfl) dX10_harmedMany_1 ?_
  refine Zo_iconst (0 : Int32) dX10_harmedMany_2 ic_0 ?_
  refine Zo_istore4 rfl (zlt rfl) dX10_harmedMany_3 ?_
  exact z_X10_harmedMany_L5 g _ _ _ _ _ _
theorem e_X10_harmedMany (g : ZG) (p0 : Int32) (p1 : Int32) (σ : ZSt) : zEvI g 2 yX10_harmedMany cX10_harmedMany 5 (some .int) [.ref 68, .int p0, .int p1] σ (s_X10_harmedMany p0 p1 σ) :=
  zEvI_of 2 rfl rfl (z_X10_harmedMany g p0 p1 σ)
abbrev mX10_haste (g : ZG) (q : Nat) : ZM := (yX10_haste, cX10_haste, 6, (some .int), zRm q 0 0, zTg g 0 0)
def s_X10_haste (p0 : Int32) (p1 : Int32) (p2 : Int32) (p3 : Int32) (σ : ZSt) : Option Int32 :=
  zLd (zIn p0 8) (σ.1 78 p0.toNatClampNeg) fun v1 => ((s_X10_harmBy v1 p1 σ).bind fun r2 => (if (r2 + (p2 * (p3 - (1 : Int32)))) = (0 : Int32) then none else (some (((1000 : Int32) * r2) / (r2 + (p2 * (p3 - (1 : Int32))))))))
set_option maxHeartbeats 4000000 in
set_option maxRecDepth 100000 in
theorem z_X10_haste (g : ZG) (p0 : Int32) (p1 : Int32) (p2 : Int32) (p3 : Int32) (σ : ZSt) : Zo g (mX10_haste g 1) (fun b : Int32 => (some (.int b), zw σ)) (s_X10_haste p0 p1 p2 p3 σ) 0 0 0 [some (.ref 68), some (.int p0), some (.int p1), some (.int p2), some (.int p3), none] [] (zw σ) := by
  unfold s_X10_haste
  refine Zo_aload0 dX10_haste_0 ?_
  refine Zo_aload0 dX10_haste_1 ?_
  refine Zo_getr (j := 78) fl_X10_37 kd_68 rfl dX10_haste_2 ?_
  refine Zo_iload1 dX10_haste_5 ?_
  refine Zo_iald kd_78 dX10_haste_6 fun v1 => ?_
  refine Zo_iload2 dX10_haste_7 ?_
  refine Zo_cVI2 lk_X10_200 (e_X10_harmBy g _ _ _) kd_68 (zFit_rm (by decide)) (zle rfl) dX10_haste_8 fun r2 => ?_
  show Zo g _ _ _ 0 0 11 _ _ _
  refine Zo_istore5 rfl (zlt rfl) dX10_haste_11 ?_
  refine Zo_sipush (1000 : Int32) dX10_haste_13 sp_1000 ?_
  refine Zo_iload5 dX10_haste_16 ?_
  refine Zo_imul dX10_haste_18 ?_
  refine Zo_iload5 dX10_haste_19 ?_
  refine Zo_iload3 dX10_haste_21 ?_
  refine Zo_iload4 dX10_haste_22 ?_
  refine Zo_iconst (1 : Int32) dX10_haste_24 ic_1 ?_
  show Zo g _ _ _ 0 0 25 _ _ _
  refine Zo_isub dX10_haste_25 ?_
  refine Zo_imul dX10_haste_26 ?_
  refine Zo_iadd dX10_haste_27 ?_
  refine Zo_gn fun hn3 => ?_
  refine Zo_idiv dX10_haste_28 hn3 ?_
  exact Zo_iret dX10_haste_29 rfl rfl (Nat.le_refl _) (Nat.le_refl _)
theorem e_X10_haste (g : ZG) (p0 : Int32) (p1 : Int32) (p2 : Int32) (p3 : Int32) (σ : ZSt) : zEvI g 1 yX10_haste cX10_haste 6 (some .int) [.ref 68, .int p0, .int p1, .int p2, .int p3] σ (s_X10_haste p0 p1 p2 p3 σ) :=
  zEvI_of 1 rfl rfl (z_X10_haste g p0 p1 p2 p3 σ)
abbrev mX10_waiting (g : ZG) (q : Nat) : ZM := (yX10_waiting, cX10_waiting, 14, (some .int), zRm q 0 0, zTg g 0 0)
def s_X10_waiting_C168 (k102 : Int32 → Int32 → Int32 → Int32 → Option Int32) (l2 : Int32) (l4 : Int32) (l5 : Int32) (l6 : Int32) (l7 : Int32) (l8 : Int32) (l9 : Int32) (l10 : Int32) (l11 : Int32) (l12 : Int32) (k_0 : Int32) (σ : ZSt) : Option Int32 :=
  if k_0 = (0 : Int32) then (if k_0 = (0 : Int32) then (k102 l8 l9 l10 (l12 + (1 : Int32)))
      else (k102 l8 l11 l10 (l12 + (1 : Int32))))
    else (if k_0 = (0 : Int32) then (k102 l8 l9 l12 (l12 + (1 : Int32)))
      else (k102 l8 l11 l12 (l12 + (1 : Int32))))
set_option maxHeartbeats 4000000 in
set_option maxRecDepth 100000 in
theorem z_X10_waiting_C168 (g : ZG) (k102 : Int32 → Int32 → Int32 → Int32 → Option Int32) (l2 : Int32) (l4 : Int32) (l5 : Int32) (l6 : Int32) (l7 : Int32) (l8 : Int32) (l9 : Int32) (l10 : Int32) (l11 : Int32) (l12 : Int32) (k_0 : Int32) (σ : ZSt) (hk102 : ∀ (x8 : Int32) (x9 : Int32) (x10 : Int32) (x12 : Int32) (d1 d3 d13 : Option Value), Zo g (mX10_waiting g 3) (fun b : Int32 => (some (.int b), zw σ)) (k102 x8 x9 x10 x12) 0 0 102 [some (.ref 68), d1, some (.int l2), d3, some (.int l4), some (.int l5), some (.int l6), some (.int l7), some (.int x8), some (.int x9), some (.int x10), some (.int l11), some (.int x12), d13] [] (zw σ)) (o1 : Option Value) (o3 : Option Value) (o13 : Option Value) : Zo g (mX10_waiting g 3) (fun b : Int32 => (some (.int b), zw σ)) (s_X10_waiting_C168 k102 l2 l4 l5 l6 l7 l8 l9 l10 l11 l12 k_0 σ) 0 0 168 [some (.ref 68), o1, some (.int l2), o3, some (.int l4), some (.int l5), some (.int l6), some (.int l7), some (.int l8), some (.int l9), some (.int l10), some (.int l11), some (.int l12), o13] [.int k_0] (zw σ) := by
  unfold s_X10_waiting_C168
  refine Zo_istore13 rfl (zlt rfl) dX10_waiting_168 ?_
  refine Zo_iload13 dX10_waiting_170 ?_
  refine Zo_ifeq 180 dX10_waiting_172 (by decide) ?_ ?_
  · refine Zo_iload10 dX10_waiting_180 ?_
    refine Zo_istore10 rfl (zlt rfl) dX10_waiting_182 ?_
    refine Zo_iload13 dX10_waiting_184 ?_
    refine Zo_ifeq 194 dX10_waiting_186 (by decide) ?_ ?_
    · refine Zo_iload9 dX10_waiting_194 ?_
      refine Zo_istore9 rfl (zlt rfl) dX10_waiting_196 ?_
      refine Zo_iinc12 rfl (1 : Int32) ic_1 (zlt rfl) dX10_waiting_198 ?_
      refine Zo_goto 102 dX10_waiting_201 (by decide) ?_
      exact hk102 _ _ _ _ _ _ _
    · refine Zo_iload11 dX10_waiting_189 ?_
      refine Zo_goto 196 dX10_waiting_191 (by decide) ?_
      refine Zo_istore9 rfl (zlt rfl) dX10_waiting_196 ?_
      refine Zo_iinc12 rfl (1 : Int32) ic_1 (zlt rfl) dX10_waiting_198 ?_
      refine Zo_goto 102 dX10_waiting_201 (by decide) ?_
      exact hk102 _ _ _ _ _ _ _
  · refine Zo_iload12 dX10_waiting_175 ?_
    refine Zo_goto 182 dX10_waiting_177 (by decide) ?_
    refine Zo_istore10 rfl (zlt rfl) dX10_waiting_182 ?_
    refine Zo_iload13 dX10_waiting_184 ?_
    refine Zo_ifeq 194 dX10_waiting_186 (by decide) ?_ ?_
    · refine Zo_iload9 dX10_waiting_194 ?_
      refine Zo_istore9 rfl (zlt rfl) dX10_waiting_196 ?_
      refine Zo_iinc12 rfl (1 : Int32) ic_1 (zlt rfl) dX10_waiting_198 ?_
      refine Zo_goto 102 dX10_waiting_201 (by decide) ?_
      exact hk102 _ _ _ _ _ _ _
    · refine Zo_iload11 dX10_waiting_189 ?_
      refine Zo_goto 196 dX10_waiting_191 (by decide) ?_
      refine Zo_istore9 rfl (zlt rfl) dX10_waiting_196 ?_
      refine Zo_iinc12 rfl (1 : Int32) ic_1 (zlt rfl) dX10_waiting_198 ?_
      refine Zo_goto 102 dX10_waiting_201 (by decide) ?_
      exact hk102 _ _ _ _ _ _ _
def s_X10_waiting_L102 (k84 : Int32 → Int32 → Int32 → Int32 → Option Int32) (l2 : Int32) (l4 : Int32) (l5 : Int32) (l6 : Int32) (l7 : Int32) (l11 : Int32) (σ : ZSt) : Nat → Int32 → Int32 → Int32 → Int32 → Option Int32
  | 0, _, _, _, _ => none
  | n + 1, l8, l9, l10, l12 =>
    if (σ.1 68 10) ≤ l12 then (k84 l8 l9 l10 (l11 + (1 : Int32)))
      else (if (0 : Int32) ≤ l10 then (k84 l8 l9 l10 (l11 + (1 : Int32)))
        else ((s_X10_isHarmed l5 l6 l12 σ).bind fun r1 => (if r1 = (0 : Int32) then (s_X10_waiting_L102 k84 l2 l4 l5 l6 l7 l11 σ n l8 l9 l10 (l12 + (1 : Int32)))
          else ((s_X10_haste l5 l12 l2 l7 σ).bind fun r2 => (if r2 ≤ (zRem ((((l8 * (1103515245 : Int32)) + (12345 : Int32)).toUInt32 >>> ((8 : Int32).toUInt32 &&& Int32.toUInt32 31)).toInt32) (1000 : Int32)) then (s_X10_waiting_C168 (s_X10_waiting_L102 k84 l2 l4 l5 l6 l7 l11 σ n) l2 l4 l5 l6 l7 ((l8 * (1103515245 : Int32)) + (12345 : Int32)) l9 l10 l11 l12 (0 : Int32) σ)
            else (s_X10_waiting_C168 (s_X10_waiting_L102 k84 l2 l4 l5 l6 l7 l11 σ n) l2 l4 l5 l6 l7 ((l8 * (1103515245 : Int32)) + (12345 : Int32)) l9 l10 l11 l12 (1 : Int32) σ))))))
set_option maxHeartbeats 4000000 in
set_option maxRecDepth 100000 in
theorem z_X10_waiting_L102 (g : ZG) (k84 : Int32 → Int32 → Int32 → Int32 → Option Int32) (l2 : Int32) (l4 : Int32) (l5 : Int32) (l6 : Int32) (l7 : Int32) (l11 : Int32) (σ : ZSt) (hk84 : ∀ (x8 : Int32) (x9 : Int32) (x10 : Int32) (x11 : Int32) (d1 d3 d12 d13 : Option Value), Zo g (mX10_waiting g 3) (fun b : Int32 => (some (.int b), zw σ)) (k84 x8 x9 x10 x11) 0 0 84 [some (.ref 68), d1, some (.int l2), d3, some (.int l4), some (.int l5), some (.int l6), some (.int l7), some (.int x8), some (.int x9), some (.int x10), some (.int x11), d12, d13] [] (zw σ)) : ∀ (n : Nat) (l8 : Int32) (l9 : Int32) (l10 : Int32) (l12 : Int32) (o1 o3 o13 : Option Value), Zo g (mX10_waiting g 3) (fun b : Int32 => (some (.int b), zw σ)) (s_X10_waiting_L102 k84 l2 l4 l5 l6 l7 l11 σ n l8 l9 l10 l12) 0 0 102 [some (.ref 68), o1, some (.int l2), o3, some (.int l4), some (.int l5), some (.int l6), some (.int l7), some (.int l8), some (.int l9), some (.int l10), some (.int l11), some (.int l12), o13] [] (zw σ) := by
  intro n
  induction n with
  | zero => intros; exact Zo_none
  | succ n ih =>
    intro l8 l9 l10 l12 o1 o3 o13
    rw [s_X10_waiting_L102]
    refine Zo_iload12 dX10_waiting_102 ?_
    refine Zo_aload0 dX10_waiting_104 ?_
    refine Zo_geti fl_X10_124 kd_68 dX10_waiting_105 ?_
    refine Zo_icmpge 204 dX10_waiting_108 (by decide) ?_ ?_
    · refine Zo_iinc11 rfl (1 : Int32) ic_1 (zlt rfl) dX10_waiting_204 ?_
      refine Zo_goto 84 dX10_waiting_207 (by decide) ?_
      exact hk84 _ _ _ _ _ _ _ _
    · refine Zo_iload10 dX10_waiting_111 ?_
      refine Zo_ifge 204 dX10_waiting_113 (by decide) ?_ ?_
      · refine Zo_iinc11 rfl (1 : Int32) ic_1 (zlt rfl) dX10_waiting_204 ?_
        refine Zo_goto 84 dX10_waiting_207 (by decide) ?_
        exact hk84 _ _ _ _ _ _ _ _
      · refine Zo_aload0 dX10_waiting_116 ?_
        refine Zo_iload5 dX10_waiting_117 ?_
        refine Zo_iload6 dX10_waiting_119 ?_
        refine Zo_iload12 dX10_waiting_121 ?_
        refine Zo_cVI3 lk_X10_219 (e_X10_isHarmed g _ _ _ _) kd_68 (zFit_rm (by decide)) (zle rfl) dX10_waiting_123 fun r1 => ?_
        refine Zo_ifeq 198 dX10_waiting_126 (by decide) ?_ ?_
        · refine Zo_iinc12 rfl (1 : Int32) ic_1 (zlt rfl) dX10_waiting_198 ?_
          refine Zo_goto 102 dX10_waiting_201 (by decide) ?_
          exact ih _ _ _ _ _ _ _
        · refine Zo_iload8 dX10_waiting_129 ?_
          refine Zo_ldc rfl cw_X10_228 dX10_waiting_131 ?_
          refine Zo_imul dX10_waiting_133 ?_
          refine Zo_sipush (12345 : Int32) dX10_waiting_134 sp_12345 ?_
          refine Zo_iadd dX10_waiting_137 ?_
          refine Zo_istore8 rfl (zlt rfl) dX10_waiting_138 ?_
          refine Zo_iload8 dX10_waiting_140 ?_
          show Zo g _ _ _ 0 0 142 _ _ _
          refine Zo_bipush (8 : Int32) dX10_waiting_142 bp_8 ?_
          refine Zo_iushr dX10_waiting_144 ?_
          refine Zo_sipush (1000 : Int32) dX10_waiting_145 sp_1000 ?_
          refine Zo_irem dX10_waiting_148 (by decide) ?_
          refine Zo_aload0 dX10_waiting_149 ?_
          refine Zo_iload5 dX10_waiting_150 ?_
          refine Zo_iload12 dX10_waiting_152 ?_
          refine Zo_iload2 dX10_waiting_154 ?_
          show Zo g _ _ _ 0 0 155 _ _ _
          refine Zo_iload7 dX10_waiting_155 ?_
          refine Zo_cVI4 lk_X10_229 (e_X10_haste g _ _ _ _ _) kd_68 (zFit_rm (by decide)) (zle rfl) dX10_waiting_157 fun r2 => ?_
          refine Zo_icmpge 167 dX10_waiting_160 (by decide) ?_ ?_
          · refine Zo_iconst (0 : Int32) dX10_waiting_167 ic_0 ?_
            exact z_X10_waiting_C168 g (s_X10_waiting_L102 k84 l2 l4 l5 l6 l7 l11 σ n) _ _ _ _ _ _ _ _ _ _ _ _ ih _ _ _
          · refine Zo_iconst (1 : Int32) dX10_waiting_163 ic_1 ?_
            refine Zo_goto 168 dX10_waiting_164 (by decide) ?_
            exact z_X10_waiting_C168 g (s_X10_waiting_L102 k84 l2 l4 l5 l6 l7 l11 σ n) _ _ _ _ _ _ _ _ _ _ _ _ ih _ _ _
def s_X10_waiting_C210 (l4 : Int32) (l5 : Int32) (l6 : Int32) (l9 : Int32) (l10 : Int32) (σ : ZSt) : Option Int32 :=
  if (zRem l4 (10 : Int32)) = (0 : Int32) then (some l9)
    else (if (zRem l4 (10 : Int32)) = (1 : Int32) then (some l10)
      else (zLd (zIn l5 8) (σ.1 78 l5.toNatClampNeg) fun v1 => ((s_X10_mostBy v1 l6 σ).bind fun r2 => (if (0 : Int32) ≤ l10 then (some (r2 * l9))
        else (some (r2 * (l4 / (10 : Int32))))))))
set_option maxHeartbeats 4000000 in
set_option maxRecDepth 100000 in
theorem z_X10_waiting_C210 (g : ZG) (l4 : Int32) (l5 : Int32) (l6 : Int32) (l9 : Int32) (l10 : Int32) (σ : ZSt) (o1 : Option Value) (o2 : Option Value) (o3 : Option Value) (o7 : Option Value) (o8 : Option Value) (o11 : Option Value) (o12 : Option Value) (o13 : Option Value) : Zo g (mX10_waiting g 3) (fun b : Int32 => (some (.int b), zw σ)) (s_X10_waiting_C210 l4 l5 l6 l9 l10 σ) 0 0 210 [some (.ref 68), o1, o2, o3, some (.int l4), some (.int l5), some (.int l6), o7, o8, some (.int l9), some (.int l10), o11, o12, o13] [] (zw σ) := by
  unfold s_X10_waiting_C210
  refine Zo_iload4 dX10_waiting_210 ?_
  refine Zo_bipush (10 : Int32) dX10_waiting_212 bp_10 ?_
  refine Zo_irem dX10_waiting_214 (by decide) ?_
  refine Zo_ifne 223 dX10_waiting_215 (by decide) ?_ ?_
  · refine Zo_iload4 dX10_waiting_223 ?_
    refine Zo_bipush (10 : Int32) dX10_waiting_225 bp_10 ?_
    refine Zo_irem dX10_waiting_227 (by decide) ?_
    refine Zo_iconst (1 : Int32) dX10_waiting_228 ic_1 ?_
    refine Zo_icmpne 237 dX10_waiting_229 (by decide) ?_ ?_
    · refine Zo_aload0 dX10_waiting_237 ?_
      refine Zo_aload0 dX10_waiting_238 ?_
      refine Zo_getr (j := 78) fl_X10_37 kd_68 rfl dX10_waiting_239 ?_
      refine Zo_iload5 dX10_waiting_242 ?_
      refine Zo_iald kd_78 dX10_waiting_244 fun v1 => ?_
      refine Zo_iload6 dX10_waiting_245 ?_
      refine Zo_cVI2 lk_X10_206 (e_X10_mostBy g _ _ _) kd_68 (zFit_rm (by decide)) (zle rfl) dX10_waiting_247 fun r2 => ?_
      show Zo g _ _ _ 0 0 250 _ _ _
      refine Zo_iload10 dX10_waiting_250 ?_
      refine Zo_ifge 263 dX10_waiting_252 (by decide) ?_ ?_
      · refine Zo_iload9 dX10_waiting_263 ?_
        refine Zo_imul dX10_waiting_265 ?_
        exact Zo_iret dX10_waiting_266 rfl rfl (Nat.le_refl _) (Nat.le_refl _)
      · refine Zo_iload4 dX10_waiting_255 ?_
        refine Zo_bipush (10 : Int32) dX10_waiting_257 bp_10 ?_
        refine Zo_idiv dX10_waiting_259 (by decide) ?_
        refine Zo_goto 265 dX10_waiting_260 (by decide) ?_
        refine Zo_imul dX10_waiting_265 ?_
        exact Zo_iret dX10_waiting_266 rfl rfl (Nat.le_refl _) (Nat.le_refl _)
    · refine Zo_iload10 dX10_waiting_232 ?_
      refine Zo_goto 266 dX10_waiting_234 (by decide) ?_
      exact Zo_iret dX10_waiting_266 rfl rfl (Nat.le_refl _) (Nat.le_refl _)
  · refine Zo_iload9 dX10_waiting_218 ?_
    refine Zo_goto 266 dX10_waiting_220 (by decide) ?_
    exact Zo_iret dX10_waiting_266 rfl rfl (Nat.le_refl _) (Nat.le_refl _)
def s_X10_waiting_L84 (l2 : Int32) (l4 : Int32) (l5 : Int32) (l6 : Int32) (l7 : Int32) (σ : ZSt) : Nat → Int32 → Int32 → Int32 → Int32 → Option Int32
  | 0, _, _, _, _ => none
  | n + 1, l8, l9, l10, l11 =>
    if (l4 / (10 : Int32)) ≤ l11 then (s_X10_waiting_C210 l4 l5 l6 l9 l10 σ)
      else (if (0 : Int32) ≤ l10 then (s_X10_waiting_C210 l4 l5 l6 l9 l10 σ)
        else (s_X10_waiting_L102 (s_X10_waiting_L84 l2 l4 l5 l6 l7 σ n) l2 l4 l5 l6 l7 l11 σ 200 l8 l9 l10 (0 : Int32)))
set_option maxHeartbeats 4000000 in
set_option maxRecDepth 100000 in
theorem z_X10_waiting_L84 (g : ZG) (l2 : Int32) (l4 : Int32) (l5 : Int32) (l6 : Int32) (l7 : Int32) (σ : ZSt) : ∀ (n : Nat) (l8 : Int32) (l9 : Int32) (l10 : Int32) (l11 : Int32) (o1 o3 o12 o13 : Option Value), Zo g (mX10_waiting g 3) (fun b : Int32 => (some (.int b), zw σ)) (s_X10_waiting_L84 l2 l4 l5 l6 l7 σ n l8 l9 l10 l11) 0 0 84 [some (.ref 68), o1, some (.int l2), o3, some (.int l4), some (.int l5), some (.int l6), some (.int l7), some (.int l8), some (.int l9), some (.int l10), some (.int l11), o12, o13] [] (zw σ) := by
  intro n
  induction n with
  | zero => intros; exact Zo_none
  | succ n ih =>
    intro l8 l9 l10 l11 o1 o3 o12 o13
    rw [s_X10_waiting_L84]
    refine Zo_iload11 dX10_waiting_84 ?_
    refine Zo_iload4 dX10_waiting_86 ?_
    refine Zo_bipush (10 : Int32) dX10_waiting_88 bp_10 ?_
    refine Zo_idiv dX10_waiting_90 (by decide) ?_
    refine Zo_icmpge 210 dX10_waiting_91 (by decide) ?_ ?_
    · exact z_X10_waiting_C210 g _ _ _ _ _ _ _ _ _ _ _ _ _ _
    · refine Zo_iload10 dX10_waiting_94 ?_
      refine Zo_ifge 210 dX10_waiting_96 (by decide) ?_ ?_
      · exact z_X10_waiting_C210 g _ _ _ _ _ _ _ _ _ _ _ _ _ _
      · refine Zo_iconst (0 : Int32) dX10_waiting_99 ic_0 ?_
        refine Zo_istore12 rfl (zlt rfl) dX10_waiting_100 ?_
        exact z_X10_waiting_L102 g (s_X10_waiting_L84 l2 l4 l5 l6 l7 σ n) _ _ _ _ _ _ _ ih _ _ _ _ _ _ _ _
def s_X10_waiting (p0 : Int32) (p1 : Int32) (p2 : Int32) (p3 : Int32) (σ : ZSt) : Option Int32 :=
  (s_X10_isPs p0 σ).bind fun r1 => (if r1 = (0 : Int32) then (some (-1 : Int32))
    else ((s_X10_isTwo (p1.toInt64) σ).bind fun r2 => (if r2 = (0 : Int32) then (some (-1 : Int32))
      else (if p3 < (0 : Int32) then (some (-1 : Int32))
        else ((s_X10_within ((p3 / (10 : Int32)).toInt64) (1 : Int64) (60 : Int64) σ).bind fun r3 => (if r3 = (0 : Int32) then (some (-1 : Int32))
          else (if (zRem p3 (10 : Int32)) ≤ (2 : Int32) then ((s_X10_harmedMany (p0 / (10 : Int32)) (zRem p0 (10 : Int32)) σ).bind fun r4 => (s_X10_waiting_L84 p1 p3 (p0 / (10 : Int32)) (zRem p0 (10 : Int32)) r4 σ 200 p2 (-2 : Int32) (-2 : Int32) (0 : Int32)))
            else (some (-1 : Int32)))))))))
set_option maxHeartbeats 4000000 in
set_option maxRecDepth 100000 in
theorem z_X10_waiting (g : ZG) (p0 : Int32) (p1 : Int32) (p2 : Int32) (p3 : Int32) (σ : ZSt) : Zo g (mX10_waiting g 3) (fun b : Int32 => (some (.int b), zw σ)) (s_X10_waiting p0 p1 p2 p3 σ) 0 0 0 [some (.ref 68), some (.int p0), some (.int p1), some (.int p2), some (.int p3), none, none, none, none, none, none, none, none, none] [] (zw σ) := by
  unfold s_X10_waiting
  refine Zo_aload0 dX10_waiting_0 ?_
  refine Zo_iload1 dX10_waiting_1 ?_
  refine Zo_cVI1 lk_X10_209 (e_X10_isPs g _ _) kd_68 (zFit_rm (by decide)) (zle rfl) dX10_waiting_2 fun r1 => ?_
  refine Zo_ifeq 46 dX10_waiting_5 (by decide) ?_ ?_
  · refine Zo_iconst (-1 : Int32) dX10_waiting_46 ic_m1 ?_
    exact Zo_iret dX10_waiting_47 rfl rfl (Nat.le_refl _) (Nat.le_refl _)
  · refine Zo_iload2 dX10_waiting_8 ?_
    refine Zo_i2l dX10_waiting_9 ?_
    refine Zo_cSI1 lk_X10_132 (e_X10_isTwo g _ _) (zFit_rm (by decide)) (zle rfl) dX10_waiting_10 fun r2 => ?_
    refine Zo_ifeq 46 dX10_waiting_13 (by decide) ?_ ?_
    · refine Zo_iconst (-1 : Int32) dX10_waiting_46 ic_m1 ?_
      exact Zo_iret dX10_waiting_47 rfl rfl (Nat.le_refl _) (Nat.le_refl _)
    · refine Zo_iload4 dX10_waiting_16 ?_
      refine Zo_iflt 46 dX10_waiting_18 (by decide) ?_ ?_
      · refine Zo_iconst (-1 : Int32) dX10_waiting_46 ic_m1 ?_
        exact Zo_iret dX10_waiting_47 rfl rfl (Nat.le_refl _) (Nat.le_refl _)
      · refine Zo_iload4 dX10_waiting_21 ?_
        refine Zo_bipush (10 : Int32) dX10_waiting_23 bp_10 ?_
        refine Zo_idiv dX10_waiting_25 (by decide) ?_
        refine Zo_i2l dX10_waiting_26 ?_
        refine Zo_lconst (1 : Int64) dX10_waiting_27 lc_1 ?_
        refine Zo_ldc2 rfl cw_X10_223 dX10_waiting_28 ?_
        refine Zo_cSI3 lk_X10_120 (e_X10_within g _ _ _ _) (zFit_rm (by decide)) (zle rfl) dX10_waiting_31 fun r3 => ?_
        show Zo g _ _ _ 0 0 34 _ _ _
        refine Zo_ifeq 46 dX10_waiting_34 (by decide) ?_ ?_
        · refine Zo_iconst (-1 : Int32) dX10_waiting_46 ic_m1 ?_
          exact Zo_iret dX10_waiting_47 rfl rfl (Nat.le_refl _) (Nat.le_refl _)
        · refine Zo_iload4 dX10_waiting_37 ?_
          refine Zo_bipush (10 : Int32) dX10_waiting_39 bp_10 ?_
          refine Zo_irem dX10_waiting_41 (by decide) ?_
          refine Zo_iconst (2 : Int32) dX10_waiting_42 ic_2 ?_
          refine Zo_icmple 48 dX10_waiting_43 (by decide) ?_ ?_
          · refine Zo_iload1 dX10_waiting_48 ?_
            refine Zo_bipush (10 : Int32) dX10_waiting_49 bp_10 ?_
            refine Zo_idiv dX10_waiting_51 (by decide) ?_
            refine Zo_istore5 rfl (zlt rfl) dX10_waiting_52 ?_
            refine Zo_iload1 dX10_waiting_54 ?_
            refine Zo_bipush (10 : Int32) dX10_waiting_55 bp_10 ?_
            refine Zo_irem dX10_waiting_57 (by decide) ?_
            show Zo g _ _ _ 0 0 58 _ _ _
            refine Zo_istore6 rfl (zlt rfl) dX10_waiting_58 ?_
            refine Zo_aload0 dX10_waiting_60 ?_
            refine Zo_iload5 dX10_waiting_61 ?_
            refine Zo_iload6 dX10_waiting_63 ?_
            refine Zo_cVI2 lk_X10_225 (e_X10_harmedMany g _ _ _) kd_68 (zFit_rm (by decide)) (zle rfl) dX10_waiting_65 fun r4 => ?_
            refine Zo_istore7 rfl (zlt rfl) dX10_waiting_68 ?_
            refine Zo_iload3 dX10_waiting_70 ?_
            refine Zo_istore8 rfl (zlt rfl) dX10_waiting_71 ?_
            show Zo g _ _ _ 0 0 73 _ _ _
            refine Zo_bipush (-2 : Int32) dX10_waiting_73 bp_m2 ?_
            refine Zo_istore9 rfl (zlt rfl) dX10_waiting_75 ?_
            refine Zo_bipush (-2 : Int32) dX10_waiting_77 bp_m2 ?_
            refine Zo_istore10 rfl (zlt rfl) dX10_waiting_79 ?_
            refine Zo_iconst (0 : Int32) dX10_waiting_81 ic_0 ?_
            refine Zo_istore11 rfl (zlt rfl) dX10_waiting_82 ?_
            exact z_X10_waiting_L84 g _ _ _ _ _ _ _ _ _ _ _ _ _ _ _
          · refine Zo_iconst (-1 : Int32) dX10_waiting_46 ic_m1 ?_
            exact Zo_iret dX10_waiting_47 rfl rfl (Nat.le_refl _) (Nat.le_refl _)
theorem e_X10_waiting (g : ZG) (p0 : Int32) (p1 : Int32) (p2 : Int32) (p3 : Int32) (σ : ZSt) : zEvI g 3 yX10_waiting cX10_waiting 14 (some .int) [.ref 68, .int p0, .int p1, .int p2, .int p3] σ (s_X10_waiting p0 p1 p2 p3 σ) :=
  zEvI_of 9 rfl rfl (z_X10_waiting g p0 p1 p2 p3 σ)
abbrev mX10_exactly (g : ZG) (q : Nat) : ZM := (yX10_exactly, cX10_exactly, 9, (some .int), zRm q 0 0, zTg g 0 0)
def s_X10_exactly_L64 (k55 : Int32 → Int32 → Option Int32) (l1 : Int32) (l2 : Int32) (l3 : Int32) (l4 : Int32) (l5 : Int32) (l7 : Int32) (σ : ZSt) : Nat → Int32 → Int32 → Option Int32
  | 0, _, _ => none
  | n + 1, l6, l8 =>
    if (σ.1 68 10) ≤ l8 then (k55 l6 (l7 + (1 : Int32)))
      else ((s_X10_isHarmed l4 (zRem l1 (10 : Int32)) l8 σ).bind fun r1 => (if r1 = (0 : Int32) then (s_X10_exactly_L64 k55 l1 l2 l3 l4 l5 l7 σ n l6 (l8 + (1 : Int32)))
        else ((s_X10_haste l4 l8 l2 l5 σ).bind fun r2 => ((s_X10_haste l4 l8 l2 l5 σ).bind fun r3 => (s_X10_exactly_L64 k55 l1 l2 l3 l4 l5 l7 σ n (((l6 / (1000 : Int32)) * ((1000 : Int32) - r2)) + (((zRem l6 (1000 : Int32)) * ((1000 : Int32) - r3)) / (1000 : Int32))) (l8 + (1 : Int32)))))))
set_option maxHeartbeats 4000000 in
set_option maxRecDepth 100000 in
theorem z_X10_exactly_L64 (g : ZG) (k55 : Int32 → Int32 → Option Int32) (l1 : Int32) (l2 : Int32) (l3 : Int32) (l4 : Int32) (l5 : Int32) (l7 : Int32) (σ : ZSt) (hk55 : ∀ (x6 : Int32) (x7 : Int32) (d8 : Option Value), Zo g (mX10_exactly g 3) (fun b : Int32 => (some (.int b), zw σ)) (k55 x6 x7) 0 0 55 [some (.ref 68), some (.int l1), some (.int l2), some (.int l3), some (.int l4), some (.int l5), some (.int x6), some (.int x7), d8] [] (zw σ)) : ∀ (n : Nat) (l6 : Int32) (l8 : Int32), Zo g (mX10_exactly g 3) (fun b : Int32 => (some (.int b), zw σ)) (s_X10_exactly_L64 k55 l1 l2 l3 l4 l5 l7 σ n l6 l8) 0 0 64 [some (.ref 68), some (.int l1), some (.int l2), some (.int l3), some (.int l4), some (.int l5), some (.int l6), some (.int l7), some (.int l8)] [] (zw σ) := by
  intro n
  induction n with
  | zero => intros; exact Zo_none
  | succ n ih =>
    intro l6 l8
    rw [s_X10_exactly_L64]
    refine Zo_iload8 dX10_exactly_64 ?_
    refine Zo_aload0 dX10_exactly_66 ?_
    refine Zo_geti fl_X10_124 kd_68 dX10_exactly_67 ?_
    refine Zo_icmpge 145 dX10_exactly_70 (by decide) ?_ ?_
    · refine Zo_iinc7 rfl (1 : Int32) ic_1 (zlt rfl) dX10_exactly_145 ?_
      refine Zo_goto 55 dX10_exactly_148 (by decide) ?_
      exact hk55 _ _ _
    · refine Zo_aload0 dX10_exactly_73 ?_
      refine Zo_iload4 dX10_exactly_74 ?_
      refine Zo_iload1 dX10_exactly_76 ?_
      refine Zo_bipush (10 : Int32) dX10_exactly_77 bp_10 ?_
      refine Zo_irem dX10_exactly_79 (by decide) ?_
      refine Zo_iload8 dX10_exactly_80 ?_
      refine Zo_cVI3 lk_X10_219 (e_X10_isHarmed g _ _ _ _) kd_68 (zFit_rm (by decide)) (zle rfl) dX10_exactly_82 fun r1 => ?_
      show Zo g _ _ _ 0 0 85 _ _ _
      refine Zo_ifeq 139 dX10_exactly_85 (by decide) ?_ ?_
      · refine Zo_iinc8 rfl (1 : Int32) ic_1 (zlt rfl) dX10_exactly_139 ?_
        refine Zo_goto 64 dX10_exactly_142 (by decide) ?_
        exact ih _ _
      · refine Zo_iload6 dX10_exactly_88 ?_
        refine Zo_sipush (1000 : Int32) dX10_exactly_90 sp_1000 ?_
        refine Zo_idiv dX10_exactly_93 (by decide) ?_
        refine Zo_sipush (1000 : Int32) dX10_exactly_94 sp_1000 ?_
        refine Zo_aload0 dX10_exactly_97 ?_
        refine Zo_iload4 dX10_exactly_98 ?_
        refine Zo_iload8 dX10_exactly_100 ?_
        show Zo g _ _ _ 0 0 102 _ _ _
        refine Zo_iload2 dX10_exactly_102 ?_
        refine Zo_iload5 dX10_exactly_103 ?_
        refine Zo_cVI4 lk_X10_229 (e_X10_haste g _ _ _ _ _) kd_68 (zFit_rm (by decide)) (zle rfl) dX10_exactly_105 fun r2 => ?_
        refine Zo_isub dX10_exactly_108 ?_
        refine Zo_imul dX10_exactly_109 ?_
        refine Zo_iload6 dX10_exactly_110 ?_
        refine Zo_sipush (1000 : Int32) dX10_exactly_112 sp_1000 ?_
        refine Zo_irem dX10_exactly_115 (by decide) ?_
        show Zo g _ _ _ 0 0 116 _ _ _
        refine Zo_sipush (1000 : Int32) dX10_exactly_116 sp_1000 ?_
        refine Zo_aload0 dX10_exactly_119 ?_
        refine Zo_iload4 dX10_exactly_120 ?_
        refine Zo_iload8 dX10_exactly_122 ?_
        refine Zo_iload2 dX10_exactly_124 ?_
        refine Zo_iload5 dX10_exactly_125 ?_
        refine Zo_cVI4 lk_X10_229 (e_X10_haste g _ _ _ _ _) kd_68 (zFit_rm (by decide)) (zle rfl) dX10_exactly_127 fun r3 => ?_
        refine Zo_isub dX10_exactly_130 ?_
        show Zo g _ _ _ 0 0 131 _ _ _
        refine Zo_imul dX10_exactly_131 ?_
        refine Zo_sipush (1000 : Int32) dX10_exactly_132 sp_1000 ?_
        refine Zo_idiv dX10_exactly_135 (by decide) ?_
        refine Zo_iadd dX10_exactly_136 ?_
        refine Zo_istore6 rfl (zlt rfl) dX10_exactly_137 ?_
        refine Zo_iinc8 rfl (1 : Int32) ic_1 (zlt rfl) dX10_exactly_139 ?_
        refine Zo_goto 64 dX10_exactly_142 (by decide) ?_
        exact ih _ _
def s_X10_exactly_L55 (l1 : Int32) (l2 : Int32) (l3 : Int32) (l4 : Int32) (l5 : Int32) (σ : ZSt) : Nat → Int32 → Int32 → Option Int32
  | 0, _, _ => none
  | n + 1, l6, l7 =>
    if l3 ≤ l7 then (some (l6 / (1000 : Int32)))
      else (s_X10_exactly_L64 (s_X10_exactly_L55 l1 l2 l3 l4 l5 σ n) l1 l2 l3 l4 l5 l7 σ 200 l6 (0 : Int32))
set_option maxHeartbeats 4000000 in
set_option maxRecDepth 100000 in
theorem z_X10_exactly_L55 (g : ZG) (l1 : Int32) (l2 : Int32) (l3 : Int32) (l4 : Int32) (l5 : Int32) (σ : ZSt) : ∀ (n : Nat) (l6 : Int32) (l7 : Int32) (o8 : Option Value), Zo g (mX10_exactly g 3) (fun b : Int32 => (some (.int b), zw σ)) (s_X10_exactly_L55 l1 l2 l3 l4 l5 σ n l6 l7) 0 0 55 [some (.ref 68), some (.int l1), some (.int l2), some (.int l3), some (.int l4), some (.int l5), some (.int l6), some (.int l7), o8] [] (zw σ) := by
  intro n
  induction n with
  | zero => intros; exact Zo_none
  | succ n ih =>
    intro l6 l7 o8
    rw [s_X10_exactly_L55]
    refine Zo_iload7 dX10_exactly_55 ?_
    refine Zo_iload3 dX10_exactly_57 ?_
    refine Zo_icmpge 151 dX10_exactly_58 (by decide) ?_ ?_
    · refine Zo_iload6 dX10_exactly_151 ?_
      refine Zo_sipush (1000 : Int32) dX10_exactly_153 sp_1000 ?_
      refine Zo_idiv dX10_exactly_156 (by decide) ?_
      exact Zo_iret dX10_exactly_157 rfl rfl (Nat.le_refl _) (Nat.le_refl _)
    · refine Zo_iconst (0 : Int32) dX10_exactly_61 ic_0 ?_
      refine Zo_istore8 rfl (zlt rfl) dX10_exactly_62 ?_
      exact z_X10_exactly_L64 g (s_X10_exactly_L55 l1 l2 l3 l4 l5 σ n) _ _ _ _ _ _ _ ih _ _ _
def s_X10_exactly (p0 : Int32) (p1 : Int32) (p2 : Int32) (σ : ZSt) : Option Int32 :=
  (s_X10_isPs p0 σ).bind fun r1 => (if r1 = (0 : Int32) then (some (-1 : Int32))
    else ((s_X10_isTwo (p1.toInt64) σ).bind fun r2 => (if r2 = (0 : Int32) then (some (-1 : Int32))
      else ((s_X10_within (p2.toInt64) (0 : Int64) (60 : Int64) σ).bind fun r3 => (if r3 = (0 : Int32) then (some (-1 : Int32))
        else ((s_X10_harmedMany (p0 / (10 : Int32)) (zRem p0 (10 : Int32)) σ).bind fun r4 => (s_X10_exactly_L55 p0 p1 p2 (p0 / (10 : Int32)) r4 σ 200 (1000000 : Int32) (0 : Int32))))))))
set_option maxHeartbeats 4000000 in
set_option maxRecDepth 100000 in
theorem z_X10_exactly (g : ZG) (p0 : Int32) (p1 : Int32) (p2 : Int32) (σ : ZSt) : Zo g (mX10_exactly g 3) (fun b : Int32 => (some (.int b), zw σ)) (s_X10_exactly p0 p1 p2 σ) 0 0 0 [some (.ref 68), some (.int p0), some (.int p1), some (.int p2), none, none, none, none, none] [] (zw σ) := by
  unfold s_X10_exactly
  refine Zo_aload0 dX10_exactly_0 ?_
  refine Zo_iload1 dX10_exactly_1 ?_
  refine Zo_cVI1 lk_X10_209 (e_X10_isPs g _ _) kd_68 (zFit_rm (by decide)) (zle rfl) dX10_exactly_2 fun r1 => ?_
  refine Zo_ifeq 28 dX10_exactly_5 (by decide) ?_ ?_
  · refine Zo_iconst (-1 : Int32) dX10_exactly_28 ic_m1 ?_
    exact Zo_iret dX10_exactly_29 rfl rfl (Nat.le_refl _) (Nat.le_refl _)
  · refine Zo_iload2 dX10_exactly_8 ?_
    refine Zo_i2l dX10_exactly_9 ?_
    refine Zo_cSI1 lk_X10_132 (e_X10_isTwo g _ _) (zFit_rm (by decide)) (zle rfl) dX10_exactly_10 fun r2 => ?_
    refine Zo_ifeq 28 dX10_exactly_13 (by decide) ?_ ?_
    · refine Zo_iconst (-1 : Int32) dX10_exactly_28 ic_m1 ?_
      exact Zo_iret dX10_exactly_29 rfl rfl (Nat.le_refl _) (Nat.le_refl _)
    · refine Zo_iload3 dX10_exactly_16 ?_
      refine Zo_i2l dX10_exactly_17 ?_
      refine Zo_lconst (0 : Int64) dX10_exactly_18 lc_0 ?_
      refine Zo_ldc2 rfl cw_X10_223 dX10_exactly_19 ?_
      refine Zo_cSI3 lk_X10_120 (e_X10_within g _ _ _ _) (zFit_rm (by decide)) (zle rfl) dX10_exactly_22 fun r3 => ?_
      refine Zo_ifne 30 dX10_exactly_25 (by decide) ?_ ?_
      · refine Zo_iload1 dX10_exactly_30 ?_
        refine Zo_bipush (10 : Int32) dX10_exactly_31 bp_10 ?_
        refine Zo_idiv dX10_exactly_33 (by decide) ?_
        refine Zo_istore4 rfl (zlt rfl) dX10_exactly_34 ?_
        refine Zo_aload0 dX10_exactly_36 ?_
        refine Zo_iload4 dX10_exactly_37 ?_
        refine Zo_iload1 dX10_exactly_39 ?_
        show Zo g _ _ _ 0 0 40 _ _ _
        refine Zo_bipush (10 : Int32) dX10_exactly_40 bp_10 ?_
        refine Zo_irem dX10_exactly_42 (by decide) ?_
        refine Zo_cVI2 lk_X10_225 (e_X10_harmedMany g _ _ _) kd_68 (zFit_rm (by decide)) (zle rfl) dX10_exactly_43 fun r4 => ?_
        refine Zo_istore5 rfl (zlt rfl) dX10_exactly_46 ?_
        refine Zo_ldc rfl cw_X10_233 dX10_exactly_48 ?_
        refine Zo_istore6 rfl (zlt rfl) dX10_exactly_50 ?_
        refine Zo_iconst (0 : Int32) dX10_exactly_52 ic_0 ?_
        refine Zo_istore7 rfl (zlt rfl) dX10_exactly_53 ?_
        exact z_X10_exactly_L55 g _ _ _ _ _ _ _ _ _ _
      · refine Zo_iconst (-1 : Int32) dX10_exactly_28 ic_m1 ?_
        exact Zo_iret dX10_exactly_29 rfl rfl (Nat.le_refl _) (Nat.le_refl _)
theorem e_X10_exactly (g : ZG) (p0 : Int32) (p1 : Int32) (p2 : Int32) (σ : ZSt) : zEvI g 3 yX10_exactly cX10_exactly 9 (some .int) [.ref 68, .int p0, .int p1, .int p2] σ (s_X10_exactly p0 p1 p2 σ) :=
  zEvI_of 5 rfl rfl (z_X10_exactly g p0 p1 p2 σ)
abbrev mX10_feed (g : ZG) (q : Nat) : ZM := (yX10_feed, cX10_feed, 4, (some .int), zRm q 0 0, zTg g 0 0)
def s_X10_feed_L30 (l1 : Int32) (l2 : Int32) : Nat → Int32 → ZSt → Option (Int32 × ZSt)
  | 0, _, _ => none
  | n + 1, l3, σ =>
    if l1 ≤ l3 then (some ((σ.1 68 19), σ))
      else (zSg (zIn (σ.1 68 19) 120) (zWD σ 82 (σ.1 68 19).toNatClampNeg ((l2 >>> (((8 : Int32) * l3) &&& 31)) &&& (255 : Int32))) fun σ1 => (zSt' (zWD σ1 68 19 ((σ1.1 68 19) + (1 : Int32))) fun σ2 => (s_X10_feed_L30 l1 l2 n (l3 + (1 : Int32)) σ2)))
set_option maxHeartbeats 4000000 in
set_option maxRecDepth 100000 in
theorem z_X10_feed_L30 (g : ZG) (l1 : Int32) (l2 : Int32) : ∀ (n : Nat) (l3 : Int32) (σ : ZSt), Zo g (mX10_feed g 1) (fun b : Int32 × ZSt => (some (.int b.1), zw b.2)) (s_X10_feed_L30 l1 l2 n l3 σ) 0 0 30 [some (.ref 68), some (.int l1), some (.int l2), some (.int l3)] [] (zw σ) := by
  intro n
  induction n with
  | zero => intros; exact Zo_none
  | succ n ih =>
    intro l3 σ
    rw [s_X10_feed_L30]
    refine Zo_iload3 dX10_feed_30 ?_
    refine Zo_iload1 dX10_feed_31 ?_
    refine Zo_icmpge 70 dX10_feed_32 (by decide) ?_ ?_
    · refine Zo_aload0 dX10_feed_70 ?_
      refine Zo_geti fl_X10_236 kd_68 dX10_feed_71 ?_
      exact Zo_iret dX10_feed_74 rfl rfl (Nat.le_refl _) (Nat.le_refl _)
    · refine Zo_aload0 dX10_feed_35 ?_
      refine Zo_getr (j := 82) fl_X10_49 kd_68 rfl dX10_feed_36 ?_
      refine Zo_aload0 dX10_feed_39 ?_
      refine Zo_geti fl_X10_236 kd_68 dX10_feed_40 ?_
      refine Zo_iload2 dX10_feed_43 ?_
      refine Zo_bipush (8 : Int32) dX10_feed_44 bp_8 ?_
      refine Zo_iload3 dX10_feed_46 ?_
      show Zo g _ _ _ 0 0 47 _ _ _
      refine Zo_imul dX10_feed_47 ?_
      refine Zo_ishr dX10_feed_48 ?_
      refine Zo_sipush (255 : Int32) dX10_feed_49 sp_255 ?_
      refine Zo_iand dX10_feed_52 ?_
      refine Zo_iast kd_82 dX10_feed_53 fun σ1 => ?_
      refine Zo_aload0 dX10_feed_54 ?_
      refine Zo_dup dX10_feed_55 rfl ?_
      refine Zo_geti fl_X10_236 kd_68 dX10_feed_56 ?_
      show Zo g _ _ _ 0 0 59 _ _ _
      refine Zo_iconst (1 : Int32) dX10_feed_59 ic_1 ?_
      refine Zo_iadd dX10_feed_60 ?_
      refine Zo_puti fl_X10_236 kd_68 dX10_feed_61 fun σ2 => ?_
      refine Zo_iinc3 rfl (1 : Int32) ic_1 (zlt rfl) dX10_feed_64 ?_
      refine Zo_goto 30 dX10_feed_67 (by decide) ?_
      exact ih _ _
def s_X10_feed (p0 : Int32) (p1 : Int32) (σ : ZSt) : Option (Int32 × ZSt) :=
  (s_X10_within (p0.toInt64) (1 : Int64) (4 : Int64) σ).bind fun r1 => (if r1 = (0 : Int32) then (some ((-1 : Int32), σ))
    else (if ((σ.1 68 19) + p0) ≤ (120 : Int32) then (s_X10_feed_L30 p0 p1 200 (0 : Int32) σ)
      else (some ((-3 : Int32), σ))))
set_option maxHeartbeats 4000000 in
set_option maxRecDepth 100000 in
theorem z_X10_feed (g : ZG) (p0 : Int32) (p1 : Int32) (σ : ZSt) : Zo g (mX10_feed g 1) (fun b : Int32 × ZSt => (some (.int b.1), zw b.2)) (s_X10_feed p0 p1 σ) 0 0 0 [some (.ref 68), some (.int p0), some (.int p1), none] [] (zw σ) := by
  unfold s_X10_feed
  refine Zo_iload1 dX10_feed_0 ?_
  refine Zo_i2l dX10_feed_1 ?_
  refine Zo_lconst (1 : Int64) dX10_feed_2 lc_1 ?_
  refine Zo_ldc2 rfl cw_X10_234 dX10_feed_3 ?_
  refine Zo_cSI3 lk_X10_120 (e_X10_within g _ _ _ _) (zFit_rm (by decide)) (zle rfl) dX10_feed_6 fun r1 => ?_
  refine Zo_ifne 14 dX10_feed_9 (by decide) ?_ ?_
  · refine Zo_aload0 dX10_feed_14 ?_
    refine Zo_geti fl_X10_236 kd_68 dX10_feed_15 ?_
    refine Zo_iload1 dX10_feed_18 ?_
    refine Zo_iadd dX10_feed_19 ?_
    refine Zo_bipush (120 : Int32) dX10_feed_20 bp_120 ?_
    refine Zo_icmple 28 dX10_feed_22 (by decide) ?_ ?_
    · refine Zo_iconst (0 : Int32) dX10_feed_28 ic_0 ?_
      refine Zo_istore3 rfl (zlt rfl) dX10_feed_29 ?_
      exact z_X10_feed_L30 g _ _ _ _ _
    · refine Zo_bipush (-3 : Int32) dX10_feed_25 bp_m3 ?_
      exact Zo_iret dX10_feed_27 rfl rfl (Nat.le_refl _) (Nat.le_refl _)
  · refine Zo_iconst (-1 : Int32) dX10_feed_12 ic_m1 ?_
    exact Zo_iret dX10_feed_13 rfl rfl (Nat.le_refl _) (Nat.le_refl _)
theorem e_X10_feed (g : ZG) (p0 : Int32) (p1 : Int32) (σ : ZSt) : zEvS g 1 yX10_feed cX10_feed 4 (some .int) [.ref 68, .int p0, .int p1] σ (s_X10_feed p0 p1 σ) :=
  zEvS_of 1 rfl rfl (z_X10_feed g p0 p1 σ)
abbrev mX10_byteAt (g : ZG) (q : Nat) : ZM := (yX10_byteAt, cX10_byteAt, 1, (some .int), zRm q 0 0, zTg g 0 0)
def s_X10_byteAt (σ : ZSt) : Option Int32 :=
  if (σ.1 68 24) ≤ (σ.1 68 23) then (some (0 : Int32))
    else (if (0 : Int32) ≤ (σ.1 68 22) then (zLd (zIn ((σ.1 68 22) + (σ.1 68 23)) 120) (σ.1 83 ((σ.1 68 22) + (σ.1 68 23)).toNatClampNeg) fun v1 => (some v1))
      else (zLd (zIn (σ.1 68 23) 120) (σ.1 82 (σ.1 68 23).toNatClampNeg) fun v2 => (some v2)))
set_option maxHeartbeats 4000000 in
set_option maxRecDepth 100000 in
theorem z_X10_byteAt (g : ZG) (σ : ZSt) : Zo g (mX10_byteAt g 0) (fun b : Int32 => (some (.int b), zw σ)) (s_X10_byteAt σ) 0 0 0 [some (.ref 68)] [] (zw σ) := by
  unfold s_X10_byteAt
  refine Zo_aload0 dX10_byteAt_0 ?_
  refine Zo_geti fl_X10_239 kd_68 dX10_byteAt_1 ?_
  refine Zo_aload0 dX10_byteAt_4 ?_
  refine Zo_geti fl_X10_242 kd_68 dX10_byteAt_5 ?_
  refine Zo_icmpge 47 dX10_byteAt_8 (by decide) ?_ ?_
  · refine Zo_iconst (0 : Int32) dX10_byteAt_47 ic_0 ?_
    exact Zo_iret dX10_byteAt_48 rfl rfl (Nat.le_refl _) (Nat.le_refl _)
  · refine Zo_aload0 dX10_byteAt_11 ?_
    refine Zo_geti fl_X10_245 kd_68 dX10_byteAt_12 ?_
    refine Zo_ifge 30 dX10_byteAt_15 (by decide) ?_ ?_
    · refine Zo_aload0 dX10_byteAt_30 ?_
      refine Zo_getr (j := 83) fl_X10_52 kd_68 rfl dX10_byteAt_31 ?_
      refine Zo_aload0 dX10_byteAt_34 ?_
      refine Zo_geti fl_X10_245 kd_68 dX10_byteAt_35 ?_
      refine Zo_aload0 dX10_byteAt_38 ?_
      refine Zo_geti fl_X10_239 kd_68 dX10_byteAt_39 ?_
      refine Zo_iadd dX10_byteAt_42 ?_
      show Zo g _ _ _ 0 0 43 _ _ _
      refine Zo_iald kd_83 dX10_byteAt_43 fun v1 => ?_
      refine Zo_goto 48 dX10_byteAt_44 (by decide) ?_
      exact Zo_iret dX10_byteAt_48 rfl rfl (Nat.le_refl _) (Nat.le_refl _)
    · refine Zo_aload0 dX10_byteAt_18 ?_
      refine Zo_getr (j := 82) fl_X10_49 kd_68 rfl dX10_byteAt_19 ?_
      refine Zo_aload0 dX10_byteAt_22 ?_
      refine Zo_geti fl_X10_239 kd_68 dX10_byteAt_23 ?_
      refine Zo_iald kd_82 dX10_byteAt_26 fun v2 => ?_
      refine Zo_goto 48 dX10_byteAt_27 (by decide) ?_
      exact Zo_iret dX10_byteAt_48 rfl rfl (Nat.le_refl _) (Nat.le_refl _)
theorem e_X10_byteAt (g : ZG) (σ : ZSt) : zEvI g 0 yX10_byteAt cX10_byteAt 1 (some .int) [.ref 68] σ (s_X10_byteAt σ) :=
  zEvI_of 0 rfl rfl (z_X10_byteAt g σ)
abbrev mX10_wrong (g : ZG) (q : Nat) : ZM := (yX10_wrong, cX10_wrong, 1, (some .int), zRm q 0 0, zTg g 0 0)
def s_X10_wrong (σ : ZSt) : Option (Int32 × ZSt) :=
  if (0 : Int32) ≤ (σ.1 68 25) then (zSt' (zWD σ 68 25 (σ.1 68 25)) fun σ1 => (some ((0 : Int32), σ1)))
    else (zSt' (zWD σ 68 25 (σ.1 68 23)) fun σ2 => (some ((0 : Int32), σ2)))
set_option maxHeartbeats 4000000 in
set_option maxRecDepth 100000 in
theorem z_X10_wrong (g : ZG) (σ : ZSt) : Zo g (mX10_wrong g 0) (fun b : Int32 × ZSt => (some (.int b.1), zw b.2)) (s_X10_wrong σ) 0 0 0 [some (.ref 68)] [] (zw σ) := by
  unfold s_X10_wrong
  refine Zo_aload0 dX10_wrong_0 ?_
  refine Zo_aload0 dX10_wrong_1 ?_
  refine Zo_geti fl_X10_248 kd_68 dX10_wrong_2 ?_
  refine Zo_ifge 15 dX10_wrong_5 (by decide) ?_ ?_
  · refine Zo_aload0 dX10_wrong_15 ?_
    refine Zo_geti fl_X10_248 kd_68 dX10_wrong_16 ?_
    refine Zo_puti fl_X10_248 kd_68 dX10_wrong_19 fun σ1 => ?_
    refine Zo_iconst (0 : Int32) dX10_wrong_22 ic_0 ?_
    exact Zo_iret dX10_wrong_23 rfl rfl (Nat.le_refl _) (Nat.le_refl _)
  · refine Zo_aload0 dX10_wrong_8 ?_
    refine Zo_geti fl_X10_239 kd_68 dX10_wrong_9 ?_
    refine Zo_goto 19 dX10_wrong_12 (by decide) ?_
    refine Zo_puti fl_X10_248 kd_68 dX10_wrong_19 fun σ2 => ?_
    refine Zo_iconst (0 : Int32) dX10_wrong_22 ic_0 ?_
    exact Zo_iret dX10_wrong_23 rfl rfl (Nat.le_refl _) (Nat.le_refl _)
theorem e_X10_wrong (g : ZG) (σ : ZSt) : zEvS g 0 yX10_wrong cX10_wrong 1 (some .int) [.ref 68] σ (s_X10_wrong σ) :=
  zEvS_of 0 rfl rfl (z_X10_wrong g σ)
abbrev mX10_takes (g : ZG) (q : Nat) : ZM := (yX10_takes, cX10_takes, 2, (some .boolean), zRm q 0 0, zTg g 0 0)
def s_X10_takes (p0 : Int32) (σ : ZSt) : Option (Int32 × ZSt) :=
  if (0 : Int32) ≤ (σ.1 68 25) then (some ((0 : Int32), σ))
    else ((s_X10_byteAt σ).bind fun r1 => (if r1 = p0 then (zSt' (zWD σ 68 23 ((σ.1 68 23) + (1 : Int32))) fun σ2 => (some ((1 : Int32), σ2)))
      else (some ((0 : Int32), σ))))
set_option maxHeartbeats 4000000 in
set_option maxRecDepth 100000 in
theorem z_X10_takes (g : ZG) (p0 : Int32) (σ : ZSt) : Zo g (mX10_takes g 1) (fun b : Int32 × ZSt => (some (.int b.1), zw b.2)) (s_X10_takes p0 σ) 0 0 0 [some (.ref 68), some (.int p0)] [] (zw σ) := by
  unfold s_X10_takes
  refine Zo_aload0 dX10_takes_0 ?_
  refine Zo_geti fl_X10_248 kd_68 dX10_takes_1 ?_
  refine Zo_ifge 15 dX10_takes_4 (by decide) ?_ ?_
  · refine Zo_iconst (0 : Int32) dX10_takes_15 ic_0 ?_
    exact Zo_zret dX10_takes_16 rfl rfl (Or.inl rfl) (Nat.le_refl _) (Nat.le_refl _)
  · refine Zo_aload0 dX10_takes_7 ?_
    refine Zo_cVI0 lk_X10_251 (e_X10_byteAt g _) kd_68 (zFit_rm (by decide)) (zle rfl) dX10_takes_8 fun r1 => ?_
    refine Zo_iload1 dX10_takes_11 ?_
    refine Zo_icmpeq 17 dX10_takes_12 (by decide) ?_ ?_
    · refine Zo_aload0 dX10_takes_17 ?_
      refine Zo_dup dX10_takes_18 rfl ?_
      refine Zo_geti fl_X10_239 kd_68 dX10_takes_19 ?_
      refine Zo_iconst (1 : Int32) dX10_takes_22 ic_1 ?_
      refine Zo_iadd dX10_takes_23 ?_
      refine Zo_puti fl_X10_239 kd_68 dX10_takes_24 fun σ2 => ?_
      refine Zo_iconst (1 : Int32) dX10_takes_27 ic_1 ?_
      show Zo g _ _ _ 0 0 28 _ _ _
      exact Zo_zret dX10_takes_28 rfl rfl (Or.inr rfl) (Nat.le_refl _) (Nat.le_refl _)
    · refine Zo_iconst (0 : Int32) dX10_takes_15 ic_0 ?_
      exact Zo_zret dX10_takes_16 rfl rfl (Or.inl rfl) (Nat.le_refl _) (Nat.le_refl _)
theorem e_X10_takes (g : ZG) (p0 : Int32) (σ : ZSt) : zEvS g 1 yX10_takes cX10_takes 2 (some .boolean) [.ref 68, .int p0] σ (s_X10_takes p0 σ) :=
  zEvS_of 0 rfl rfl (z_X10_takes g p0 σ)
abbrev mX10_nameOf (g : ZG) (q : Nat) : ZM := (yX10_nameOf, cX10_nameOf, 1, (some .int), zRm q 0 0, zTg g 0 0)
def s_X10_nameOf (p0 : Int32) (σ : ZSt) : Option Int32 :=
  if p0 = (99 : Int32) then (some (1 : Int32))
    else (if p0 = (100 : Int32) then (some (-1 : Int32))
    else (if p0 = (101 : Int32) then (some (-1 : Int32))
    else (if p0 = (102 : Int32) then (some (-1 : Int32))
    else (if p0 = (103 : Int32) then (some (5 : Int32))
    else (if p0 = (104 : Int32) then (some (3 : Int32))
    else (if p0 = (105 : Int32) then (some (-1 : Int32))
    else (if p0 = (106 : Int32) then (some (-1 : Int32))
    else (if p0 = (107 : Int32) then (some (6 : Int32))
    else (if p0 = (108 : Int32) then (some (-1 : Int32))
    else (if p0 = (109 : Int32) then (some (-1 : Int32))
    else (if p0 = (110 : Int32) then (some (4 : Int32))
    else (if p0 = (111 : Int32) then (some (-1 : Int32))
    else (if p0 = (112 : Int32) then (some (2 : Int32))
    else (if p0 = (113 : Int32) then (some (-1 : Int32))
    else (if p0 = (114 : Int32) then (some (-1 : Int32))
    else (if p0 = (115 : Int32) then (some (7 : Int32))
    else (if p0 = (116 : Int32) then (some (0 : Int32))
    else (some (-1 : Int32)))))))))))))))))))
set_option maxHeartbeats 4000000 in
set_option maxRecDepth 100000 in
theorem z_X10_nameOf (g : ZG) (p0 : Int32) (σ : ZSt) : Zo g (mX10_nameOf g 0) (fun b : Int32 => (some (.int b), zw σ)) (s_X10_nameOf p0 σ) 0 0 0 [some (.int p0)] [] (zw σ) := by
  unfold s_X10_nameOf
  refine Zo_iload0 dX10_nameOf_0 ?_
  refine Zo_ite (fun hc99 => ?_) (fun hc99 => ?_)
  · refine Zo_tswC (off := 89) (99 : Int32) 90 hc99 dX10_nameOf_1 (by decide) (by decide) (by decide) (by decide) ?_
    refine Zo_iconst (1 : Int32) dX10_nameOf_90 ic_1 ?_
    exact Zo_iret dX10_nameOf_91 rfl rfl (Nat.le_refl _) (Nat.le_refl _)
  refine Zo_ite (fun hc100 => ?_) (fun hc100 => ?_)
  · refine Zo_tswC (off := 105) (100 : Int32) 106 hc100 dX10_nameOf_1 (by decide) (by decide) (by decide) (by decide) ?_
    refine Zo_iconst (-1 : Int32) dX10_nameOf_106 ic_m1 ?_
    exact Zo_iret dX10_nameOf_107 rfl rfl (Nat.le_refl _) (Nat.le_refl _)
  refine Zo_ite (fun hc101 => ?_) (fun hc101 => ?_)
  · refine Zo_tswC (off := 105) (101 : Int32) 106 hc101 dX10_nameOf_1 (by decide) (by decide) (by decide) (by decide) ?_
    refine Zo_iconst (-1 : Int32) dX10_nameOf_106 ic_m1 ?_
    exact Zo_iret dX10_nameOf_107 rfl rfl (Nat.le_refl _) (Nat.le_refl _)
  refine Zo_ite (fun hc102 => ?_) (fun hc102 => ?_)
  · refine Zo_tswC (off := 105) (102 : Int32) 106 hc102 dX10_nameOf_1 (by decide) (by decide) (by decide) (by decide) ?_
    refine Zo_iconst (-1 : Int32) dX10_nameOf_106 ic_m1 ?_
    exact Zo_iret dX10_nameOf_107 rfl rfl (Nat.le_refl _) (Nat.le_refl _)
  refine Zo_ite (fun hc103 => ?_) (fun hc103 => ?_)
  · refine Zo_tswC (off := 97) (103 : Int32) 98 hc103 dX10_nameOf_1 (by decide) (by decide) (by decide) (by decide) ?_
    refine Zo_iconst (5 : Int32) dX10_nameOf_98 ic_5 ?_
    exact Zo_iret dX10_nameOf_99 rfl rfl (Nat.le_refl _) (Nat.le_refl _)
  refine Zo_ite (fun hc104 => ?_) (fun hc104 => ?_)
  · refine Zo_tswC (off := 93) (104 : Int32) 94 hc104 dX10_nameOf_1 (by decide) (by decide) (by decide) (by decide) ?_
    refine Zo_iconst (3 : Int32) dX10_nameOf_94 ic_3 ?_
    exact Zo_iret dX10_nameOf_95 rfl rfl (Nat.le_refl _) (Nat.le_refl _)
  refine Zo_ite (fun hc105 => ?_) (fun hc105 => ?_)
  · refine Zo_tswC (off := 105) (105 : Int32) 106 hc105 dX10_nameOf_1 (by decide) (by decide) (by decide) (by decide) ?_
    refine Zo_iconst (-1 : Int32) dX10_nameOf_106 ic_m1 ?_
    exact Zo_iret dX10_nameOf_107 rfl rfl (Nat.le_refl _) (Nat.le_refl _)
  refine Zo_ite (fun hc106 => ?_) (fun hc106 => ?_)
  · refine Zo_tswC (off := 105) (106 : Int32) 106 hc106 dX10_nameOf_1 (by decide) (by decide) (by decide) (by decide) ?_
    refine Zo_iconst (-1 : Int32) dX10_nameOf_106 ic_m1 ?_
    exact Zo_iret dX10_nameOf_107 rfl rfl (Nat.le_refl _) (Nat.le_refl _)
  refine Zo_ite (fun hc107 => ?_) (fun hc107 => ?_)
  · refine Zo_tswC (off := 99) (107 : Int32) 100 hc107 dX10_nameOf_1 (by decide) (by decide) (by decide) (by decide) ?_
    refine Zo_bipush (6 : Int32) dX10_nameOf_100 bp_6 ?_
    exact Zo_iret dX10_nameOf_102 rfl rfl (Nat.le_refl _) (Nat.le_refl _)
  refine Zo_ite (fun hc108 => ?_) (fun hc108 => ?_)
  · refine Zo_tswC (off := 105) (108 : Int32) 106 hc108 dX10_nameOf_1 (by decide) (by decide) (by decide) (by decide) ?_
    refine Zo_iconst (-1 : Int32) dX10_nameOf_106 ic_m1 ?_
    exact Zo_iret dX10_nameOf_107 rfl rfl (Nat.le_refl _) (Nat.le_refl _)
  refine Zo_ite (fun hc109 => ?_) (fun hc109 => ?_)
  · refine Zo_tswC (off := 105) (109 : Int32) 106 hc109 dX10_nameOf_1 (by decide) (by decide) (by decide) (by decide) ?_
    refine Zo_iconst (-1 : Int32) dX10_nameOf_106 ic_m1 ?_
    exact Zo_iret dX10_nameOf_107 rfl rfl (Nat.le_refl _) (Nat.le_refl _)
  refine Zo_ite (fun hc110 => ?_) (fun hc110 => ?_)
  · refine Zo_tswC (off := 95) (110 : Int32) 96 hc110 dX10_nameOf_1 (by decide) (by decide) (by decide) (by decide) ?_
    refine Zo_iconst (4 : Int32) dX10_nameOf_96 ic_4 ?_
    exact Zo_iret dX10_nameOf_97 rfl rfl (Nat.le_refl _) (Nat.le_refl _)
  refine Zo_ite (fun hc111 => ?_) (fun hc111 => ?_)
  · refine Zo_tswC (off := 105) (111 : Int32) 106 hc111 dX10_nameOf_1 (by decide) (by decide) (by decide) (by decide) ?_
    refine Zo_iconst (-1 : Int32) dX10_nameOf_106 ic_m1 ?_
    exact Zo_iret dX10_nameOf_107 rfl rfl (Nat.le_refl _) (Nat.le_refl _)
  refine Zo_ite (fun hc112 => ?_) (fun hc112 => ?_)
  · refine Zo_tswC (off := 91) (112 : Int32) 92 hc112 dX10_nameOf_1 (by decide) (by decide) (by decide) (by decide) ?_
    refine Zo_iconst (2 : Int32) dX10_nameOf_92 ic_2 ?_
    exact Zo_iret dX10_nameOf_93 rfl rfl (Nat.le_refl _) (Nat.le_refl _)
  refine Zo_ite (fun hc113 => ?_) (fun hc113 => ?_)
  · refine Zo_tswC (off := 105) (113 : Int32) 106 hc113 dX10_nameOf_1 (by decide) (by decide) (by decide) (by decide) ?_
    refine Zo_iconst (-1 : Int32) dX10_nameOf_106 ic_m1 ?_
    exact Zo_iret dX10_nameOf_107 rfl rfl (Nat.le_refl _) (Nat.le_refl _)
  refine Zo_ite (fun hc114 => ?_) (fun hc114 => ?_)
  · refine Zo_tswC (off := 105) (114 : Int32) 106 hc114 dX10_nameOf_1 (by decide) (by decide) (by decide) (by decide) ?_
    refine Zo_iconst (-1 : Int32) dX10_nameOf_106 ic_m1 ?_
    exact Zo_iret dX10_nameOf_107 rfl rfl (Nat.le_refl _) (Nat.le_refl _)
  refine Zo_ite (fun hc115 => ?_) (fun hc115 => ?_)
  · refine Zo_tswC (off := 102) (115 : Int32) 103 hc115 dX10_nameOf_1 (by decide) (by decide) (by decide) (by decide) ?_
    refine Zo_bipush (7 : Int32) dX10_nameOf_103 bp_7 ?_
    exact Zo_iret dX10_nameOf_105 rfl rfl (Nat.le_refl _) (Nat.le_refl _)
  refine Zo_ite (fun hc116 => ?_) (fun hc116 => ?_)
  · refine Zo_tswC (off := 87) (116 : Int32) 88 hc116 dX10_nameOf_1 (by decide) (by decide) (by decide) (by decide) ?_
    refine Zo_iconst (0 : Int32) dX10_nameOf_88 ic_0 ?_
    exact Zo_iret dX10_nameOf_89 rfl rfl (Nat.le_refl _) (Nat.le_refl _)
  refine Zo_tswOut 106 dX10_nameOf_1 (by have a0 := zne_99 hc99; have a1 := zne_100 hc100; have a2 := zne_101 hc101; have a3 := zne_102 hc102; have a4 := zne_103 hc103; have a5 := zne_104 hc104; have a6 := zne_105 hc105; have a7 := zne_106 hc106; have a8 := zne_107 hc107; have a9 := zne_108 hc108; have a10 := zne_109 hc109; have a11 := zne_110 hc110; have a12 := zne_111 hc111; have a13 := zne_112 hc112; have a14 := zne_113 hc113; have a15 := zne_114 hc114; have a16 := zne_115 hc115; have a17 := zne_116 hc116; omega) (by decide) ?_
  refine Zo_iconst (-1 : Int32) dX10_nameOf_106 ic_m1 ?_
  exact Zo_iret dX10_nameOf_107 rfl rfl (Nat.le_refl _) (Nat.le_refl _)
theorem e_X10_nameOf (g : ZG) (p0 : Int32) (σ : ZSt) : zEvI g 0 yX10_nameOf cX10_nameOf 1 (some .int) [.int p0] σ (s_X10_nameOf p0 σ) :=
  zEvI_of 0 rfl rfl (z_X10_nameOf g p0 σ)
abbrev mX10_one (g : ZG) (q : Nat) : ZM := (yX10_one, cX10_one, 5, (some .int), zRm q 0 0, zTg g 0 0)
def s_X10_one_C104 (f_X10_either : ZSt → Option (Int32 × ZSt)) (f_X10_one : ZSt → Option (Int32 × ZSt)) (l1 : Int32) (l2 : Int32) (σ : ZSt) : Option (Int32 × ZSt) :=
  zSt' (zWD σ 68 26 ((σ.1 68 26) - (1 : Int32))) fun σ1 => (if l1 = (40 : Int32) then (some (l2, σ1))
    else (if l1 = (45 : Int32) then (some ((-l2), σ1))
      else (if l2 = (0 : Int32) then (some ((1 : Int32), σ1))
        else (some ((0 : Int32), σ1)))))
set_option maxHeartbeats 4000000 in
set_option maxRecDepth 100000 in
theorem z_X10_one_C104 (g : ZG) (q : Nat) (hq : 2 < q) (q2 : Nat) (hq2 : q2 < q) (f_X10_either : ZSt → Option (Int32 × ZSt)) (hf_X10_either : ∀ (σ : ZSt), zEvS g q2 yX10_either cX10_either 3 (some .int) [.ref 68] σ (f_X10_either σ)) (f_X10_one : ZSt → Option (Int32 × ZSt)) (hf_X10_one : ∀ (σ : ZSt), zEvS g q2 yX10_one cX10_one 5 (some .int) [.ref 68] σ (f_X10_one σ)) (l1 : Int32) (l2 : Int32) (σ : ZSt) (o3 : Option Value) (o4 : Option Value) : Zo g (mX10_one g q) (fun b : Int32 × ZSt => (some (.int b.1), zw b.2)) (s_X10_one_C104 f_X10_either f_X10_one l1 l2 σ) 0 0 104 [some (.ref 68), some (.int l1), some (.int l2), o3, o4] [] (zw σ) := by
  unfold s_X10_one_C104
  refine Zo_aload0 dX10_one_104 ?_
  refine Zo_dup dX10_one_105 rfl ?_
  refine Zo_geti fl_X10_273 kd_68 dX10_one_106 ?_
  refine Zo_iconst (1 : Int32) dX10_one_109 ic_1 ?_
  refine Zo_isub dX10_one_110 ?_
  refine Zo_puti fl_X10_273 kd_68 dX10_one_111 fun σ1 => ?_
  refine Zo_iload1 dX10_one_114 ?_
  show Zo g _ _ _ 0 0 115 _ _ _
  refine Zo_bipush (40 : Int32) dX10_one_115 bp_40 ?_
  refine Zo_icmpne 124 dX10_one_117 (by decide) ?_ ?_
  · refine Zo_iload1 dX10_one_124 ?_
    refine Zo_bipush (45 : Int32) dX10_one_125 bp_45 ?_
    refine Zo_icmpne 135 dX10_one_127 (by decide) ?_ ?_
    · refine Zo_iload2 dX10_one_135 ?_
      refine Zo_ifne 143 dX10_one_136 (by decide) ?_ ?_
      · refine Zo_iconst (0 : Int32) dX10_one_143 ic_0 ?_
        exact Zo_iret dX10_one_144 rfl rfl (Nat.le_refl _) (Nat.le_refl _)
      · refine Zo_iconst (1 : Int32) dX10_one_139 ic_1 ?_
        refine Zo_goto 144 dX10_one_140 (by decide) ?_
        exact Zo_iret dX10_one_144 rfl rfl (Nat.le_refl _) (Nat.le_refl _)
    · refine Zo_iload2 dX10_one_130 ?_
      refine Zo_ineg dX10_one_131 ?_
      refine Zo_goto 144 dX10_one_132 (by decide) ?_
      exact Zo_iret dX10_one_144 rfl rfl (Nat.le_refl _) (Nat.le_refl _)
  · refine Zo_iload2 dX10_one_120 ?_
    refine Zo_goto 144 dX10_one_121 (by decide) ?_
    exact Zo_iret dX10_one_144 rfl rfl (Nat.le_refl _) (Nat.le_refl _)
def s_X10_one_C32 (f_X10_either : ZSt → Option (Int32 × ZSt)) (f_X10_one : ZSt → Option (Int32 × ZSt)) (l1 : Int32) (σ : ZSt) : Option (Int32 × ZSt) :=
  if (σ.1 68 26) = (6 : Int32) then ((s_X10_wrong σ).bind fun r9 => (some (r9.1, r9.2)))
    else (zSt' (zWD σ 68 26 ((σ.1 68 26) + (1 : Int32))) fun σ1 => (zSt' (zWD σ1 68 23 ((σ1.1 68 23) + (1 : Int32))) fun σ2 => (if l1 = (40 : Int32) then ((f_X10_either σ2).bind fun r6 => (if l1 = (40 : Int32) then ((s_X10_takes (41 : Int32) r6.2).bind fun r7 => (if r7.1 = (0 : Int32) then ((s_X10_wrong r7.2).bind fun r8 => (some (r8.1, r8.2)))
          else (s_X10_one_C104 f_X10_either f_X10_one l1 r6.1 r7.2)))
        else (s_X10_one_C104 f_X10_either f_X10_one l1 r6.1 r6.2)))
      else ((f_X10_one σ2).bind fun r3 => (if l1 = (40 : Int32) then ((s_X10_takes (41 : Int32) r3.2).bind fun r4 => (if r4.1 = (0 : Int32) then ((s_X10_wrong r4.2).bind fun r5 => (some (r5.1, r5.2)))
          else (s_X10_one_C104 f_X10_either f_X10_one l1 r3.1 r4.2)))
        else (s_X10_one_C104 f_X10_either f_X10_one l1 r3.1 r3.2))))))
set_option maxHeartbeats 4000000 in
set_option maxRecDepth 100000 in
theorem z_X10_one_C32 (g : ZG) (q : Nat) (hq : 2 < q) (q2 : Nat) (hq2 : q2 < q) (f_X10_either : ZSt → Option (Int32 × ZSt)) (hf_X10_either : ∀ (σ : ZSt), zEvS g q2 yX10_either cX10_either 3 (some .int) [.ref 68] σ (f_X10_either σ)) (f_X10_one : ZSt → Option (Int32 × ZSt)) (hf_X10_one : ∀ (σ : ZSt), zEvS g q2 yX10_one cX10_one 5 (some .int) [.ref 68] σ (f_X10_one σ)) (l1 : Int32) (σ : ZSt) (o2 : Option Value) (o3 : Option Value) (o4 : Option Value) : Zo g (mX10_one g q) (fun b : Int32 × ZSt => (some (.int b.1), zw b.2)) (s_X10_one_C32 f_X10_either f_X10_one l1 σ) 0 0 32 [some (.ref 68), some (.int l1), o2, o3, o4] [] (zw σ) := by
  unfold s_X10_one_C32
  refine Zo_aload0 dX10_one_32 ?_
  refine Zo_geti fl_X10_273 kd_68 dX10_one_33 ?_
  refine Zo_bipush (6 : Int32) dX10_one_36 bp_6 ?_
  refine Zo_icmpne 46 dX10_one_38 (by decide) ?_ ?_
  · refine Zo_aload0 dX10_one_46 ?_
    refine Zo_dup dX10_one_47 rfl ?_
    refine Zo_geti fl_X10_273 kd_68 dX10_one_48 ?_
    refine Zo_iconst (1 : Int32) dX10_one_51 ic_1 ?_
    refine Zo_iadd dX10_one_52 ?_
    refine Zo_puti fl_X10_273 kd_68 dX10_one_53 fun σ1 => ?_
    refine Zo_aload0 dX10_one_56 ?_
    show Zo g _ _ _ 0 0 57 _ _ _
    refine Zo_dup dX10_one_57 rfl ?_
    refine Zo_geti fl_X10_239 kd_68 dX10_one_58 ?_
    refine Zo_iconst (1 : Int32) dX10_one_61 ic_1 ?_
    refine Zo_iadd dX10_one_62 ?_
    refine Zo_puti fl_X10_239 kd_68 dX10_one_63 fun σ2 => ?_
    refine Zo_iload1 dX10_one_66 ?_
    refine Zo_bipush (40 : Int32) dX10_one_67 bp_40 ?_
    refine Zo_icmpne 79 dX10_one_69 (by decide) ?_ ?_
    · refine Zo_aload0 dX10_one_79 ?_
      refine Zo_cVS0 lk_X10_270 (hf_X10_one _) kd_68 (zFit_rm hq2) (zle rfl) dX10_one_80 fun r3 => ?_
      refine Zo_istore2 rfl (zlt rfl) dX10_one_83 ?_
      refine Zo_iload1 dX10_one_84 ?_
      refine Zo_bipush (40 : Int32) dX10_one_85 bp_40 ?_
      refine Zo_icmpne 104 dX10_one_87 (by decide) ?_ ?_
      · exact z_X10_one_C104 g q hq q2 hq2 f_X10_either hf_X10_either f_X10_one hf_X10_one _ _ _ _ _
      · refine Zo_aload0 dX10_one_90 ?_
        refine Zo_bipush (41 : Int32) dX10_one_91 bp_41 ?_
        refine Zo_cVS1 lk_X10_258 (e_X10_takes g _ _) kd_68 (zFit_rm (by omega)) (zle rfl) dX10_one_93 fun r4 => ?_
        refine Zo_ifne 104 dX10_one_96 (by decide) ?_ ?_
        · exact z_X10_one_C104 g q hq q2 hq2 f_X10_either hf_X10_either f_X10_one hf_X10_one _ _ _ _ _
        · refine Zo_aload0 dX10_one_99 ?_
          refine Zo_cVS0 lk_X10_276 (e_X10_wrong g _) kd_68 (zFit_rm (by omega)) (zle rfl) dX10_one_100 fun r5 => ?_
          exact Zo_iret dX10_one_103 rfl rfl (Nat.le_refl _) (Nat.le_refl _)
    · refine Zo_aload0 dX10_one_72 ?_
      refine Zo_cVS0 lk_X10_279 (hf_X10_either _) kd_68 (zFit_rm hq2) (zle rfl) dX10_one_73 fun r6 => ?_
      refine Zo_goto 83 dX10_one_76 (by decide) ?_
      refine Zo_istore2 rfl (zlt rfl) dX10_one_83 ?_
      refine Zo_iload1 dX10_one_84 ?_
      refine Zo_bipush (40 : Int32) dX10_one_85 bp_40 ?_
      refine Zo_icmpne 104 dX10_one_87 (by decide) ?_ ?_
      · exact z_X10_one_C104 g q hq q2 hq2 f_X10_either hf_X10_either f_X10_one hf_X10_one _ _ _ _ _
      · refine Zo_aload0 dX10_one_90 ?_
        refine Zo_bipush (41 : Int32) dX10_one_91 bp_41 ?_
        refine Zo_cVS1 lk_X10_258 (e_X10_takes g _ _) kd_68 (zFit_rm (by omega)) (zle rfl) dX10_one_93 fun r7 => ?_
        refine Zo_ifne 104 dX10_one_96 (by decide) ?_ ?_
        · exact z_X10_one_C104 g q hq q2 hq2 f_X10_either hf_X10_either f_X10_one hf_X10_one _ _ _ _ _
        · refine Zo_aload0 dX10_one_99 ?_
          refine Zo_cVS0 lk_X10_276 (e_X10_wrong g _) kd_68 (zFit_rm (by omega)) (zle rfl) dX10_one_100 fun r8 => ?_
          exact Zo_iret dX10_one_103 rfl rfl (Nat.le_refl _) (Nat.le_refl _)
  · refine Zo_aload0 dX10_one_41 ?_
    refine Zo_cVS0 lk_X10_276 (e_X10_wrong g _) kd_68 (zFit_rm (by omega)) (zle rfl) dX10_one_42 fun r9 => ?_
    exact Zo_iret dX10_one_45 rfl rfl (Nat.le_refl _) (Nat.le_refl _)
def s_X10_one_C229 (f_X10_either : ZSt → Option (Int32 × ZSt)) (f_X10_one : ZSt → Option (Int32 × ZSt)) (l3 : Int32) (l4 : Int32) (σ : ZSt) : Option (Int32 × ZSt) :=
  if l4 = (0 : Int32) then ((s_X10_wrong σ).bind fun r1 => (some (r1.1, r1.2)))
    else (some (l3, σ))
set_option maxHeartbeats 4000000 in
set_option maxRecDepth 100000 in
theorem z_X10_one_C229 (g : ZG) (q : Nat) (hq : 2 < q) (q2 : Nat) (hq2 : q2 < q) (f_X10_either : ZSt → Option (Int32 × ZSt)) (hf_X10_either : ∀ (σ : ZSt), zEvS g q2 yX10_either cX10_either 3 (some .int) [.ref 68] σ (f_X10_either σ)) (f_X10_one : ZSt → Option (Int32 × ZSt)) (hf_X10_one : ∀ (σ : ZSt), zEvS g q2 yX10_one cX10_one 5 (some .int) [.ref 68] σ (f_X10_one σ)) (l3 : Int32) (l4 : Int32) (σ : ZSt) (o1 : Option Value) (o2 : Option Value) : Zo g (mX10_one g q) (fun b : Int32 × ZSt => (some (.int b.1), zw b.2)) (s_X10_one_C229 f_X10_either f_X10_one l3 l4 σ) 0 0 229 [some (.ref 68), o1, o2, some (.int l3), some (.int l4)] [] (zw σ) := by
  unfold s_X10_one_C229
  refine Zo_iload4 dX10_one_229 ?_
  refine Zo_ifne 241 dX10_one_231 (by decide) ?_ ?_
  · refine Zo_iload3 dX10_one_241 ?_
    exact Zo_iret dX10_one_242 rfl rfl (Nat.le_refl _) (Nat.le_refl _)
  · refine Zo_aload0 dX10_one_234 ?_
    refine Zo_cVS0 lk_X10_276 (e_X10_wrong g _) kd_68 (zFit_rm (by omega)) (zle rfl) dX10_one_235 fun r1 => ?_
    refine Zo_goto 242 dX10_one_238 (by decide) ?_
    exact Zo_iret dX10_one_242 rfl rfl (Nat.le_refl _) (Nat.le_refl _)
def s_X10_one_L176 (f_X10_either : ZSt → Option (Int32 × ZSt)) (f_X10_one : ZSt → Option (Int32 × ZSt)) : Nat → Int32 → Int32 → ZSt → Option (Int32 × ZSt)
  | 0, _, _, _ => none
  | n + 1, l3, l4, σ =>
    if (4 : Int32) ≤ l4 then (s_X10_one_C229 f_X10_either f_X10_one l3 l4 σ)
      else ((s_X10_byteAt σ).bind fun r1 => (if r1 < (48 : Int32) then (s_X10_one_C229 f_X10_either f_X10_one l3 l4 σ)
        else ((s_X10_byteAt σ).bind fun r2 => (if (57 : Int32) < r2 then (s_X10_one_C229 f_X10_either f_X10_one l3 l4 σ)
          else ((s_X10_byteAt σ).bind fun r3 => (zSt' (zWD σ 68 23 ((σ.1 68 23) + (1 : Int32))) fun σ4 => (s_X10_one_L176 f_X10_either f_X10_one n ((((10 : Int32) * l3) + r3) - (48 : Int32)) (l4 + (1 : Int32)) σ4)))))))
set_option maxHeartbeats 4000000 in
set_option maxRecDepth 100000 in
theorem z_X10_one_L176 (g : ZG) (q : Nat) (hq : 2 < q) (q2 : Nat) (hq2 : q2 < q) (f_X10_either : ZSt → Option (Int32 × ZSt)) (hf_X10_either : ∀ (σ : ZSt), zEvS g q2 yX10_either cX10_either 3 (some .int) [.ref 68] σ (f_X10_either σ)) (f_X10_one : ZSt → Option (Int32 × ZSt)) (hf_X10_one : ∀ (σ : ZSt), zEvS g q2 yX10_one cX10_one 5 (some .int) [.ref 68] σ (f_X10_one σ)) : ∀ (n : Nat) (l3 : Int32) (l4 : Int32) (σ : ZSt) (o1 o2 : Option Value), Zo g (mX10_one g q) (fun b : Int32 × ZSt => (some (.int b.1), zw b.2)) (s_X10_one_L176 f_X10_either f_X10_one n l3 l4 σ) 0 0 176 [some (.ref 68), o1, o2, some (.int l3), some (.int l4)] [] (zw σ) := by
  intro n
  induction n with
  | zero => intros; exact Zo_none
  | succ n ih =>
    intro l3 l4 σ o1 o2
    rw [s_X10_one_L176]
    refine Zo_iload4 dX10_one_176 ?_
    refine Zo_iconst (4 : Int32) dX10_one_178 ic_4 ?_
    refine Zo_icmpge 229 dX10_one_179 (by decide) ?_ ?_
    · exact z_X10_one_C229 g q hq q2 hq2 f_X10_either hf_X10_either f_X10_one hf_X10_one _ _ _ _ _
    · refine Zo_aload0 dX10_one_182 ?_
      refine Zo_cVI0 lk_X10_251 (e_X10_byteAt g _) kd_68 (zFit_rm (by omega)) (zle rfl) dX10_one_183 fun r1 => ?_
      refine Zo_bipush (48 : Int32) dX10_one_186 bp_48 ?_
      refine Zo_icmplt 229 dX10_one_188 (by decide) ?_ ?_
      · exact z_X10_one_C229 g q hq q2 hq2 f_X10_either hf_X10_either f_X10_one hf_X10_one _ _ _ _ _
      · refine Zo_aload0 dX10_one_191 ?_
        refine Zo_cVI0 lk_X10_251 (e_X10_byteAt g _) kd_68 (zFit_rm (by omega)) (zle rfl) dX10_one_192 fun r2 => ?_
        refine Zo_bipush (57 : Int32) dX10_one_195 bp_57 ?_
        refine Zo_icmpgt 229 dX10_one_197 (by decide) ?_ ?_
        · exact z_X10_one_C229 g q hq q2 hq2 f_X10_either hf_X10_either f_X10_one hf_X10_one _ _ _ _ _
        · refine Zo_bipush (10 : Int32) dX10_one_200 bp_10 ?_
          refine Zo_iload3 dX10_one_202 ?_
          refine Zo_imul dX10_one_203 ?_
          refine Zo_aload0 dX10_one_204 ?_
          refine Zo_cVI0 lk_X10_251 (e_X10_byteAt g _) kd_68 (zFit_rm (by omega)) (zle rfl) dX10_one_205 fun r3 => ?_
          refine Zo_iadd dX10_one_208 ?_
          refine Zo_bipush (48 : Int32) dX10_one_209 bp_48 ?_
          show Zo g _ _ _ 0 0 211 _ _ _
          refine Zo_isub dX10_one_211 ?_
          refine Zo_drop2 ?_
          refine Zo_istore3 rfl (zlt rfl) dX10_one_212 ?_
          refine Zo_iinc4 rfl (1 : Int32) ic_1 (zlt rfl) dX10_one_213 ?_
          refine Zo_aload0 dX10_one_216 ?_
          refine Zo_dup dX10_one_217 rfl ?_
          refine Zo_geti fl_X10_239 kd_68 dX10_one_218 ?_
          refine Zo_iconst (1 : Int32) dX10_one_221 ic_1 ?_
          refine Zo_iadd dX10_one_222 ?_
          show Zo g _ _ _ 0 0 223 _ _ _
          refine Zo_puti fl_X10_239 kd_68 dX10_one_223 fun σ4 => ?_
          refine Zo_goto 176 dX10_one_226 (by decide) ?_
          exact ih _ _ _ _ _
def s_X10_one (f_X10_either : ZSt → Option (Int32 × ZSt)) (f_X10_one : ZSt → Option (Int32 × ZSt)) (σ : ZSt) : Option (Int32 × ZSt) :=
  if (σ.1 68 25) < (0 : Int32) then ((s_X10_byteAt σ).bind fun r1 => (if r1 = (33 : Int32) then (s_X10_one_C32 f_X10_either f_X10_one r1 σ)
      else (if r1 = (45 : Int32) then (s_X10_one_C32 f_X10_either f_X10_one r1 σ)
        else (if r1 = (40 : Int32) then (s_X10_one_C32 f_X10_either f_X10_one r1 σ)
          else ((s_X10_nameOf r1 σ).bind fun r2 => (if r2 < (0 : Int32) then (s_X10_one_L176 f_X10_either f_X10_one 200 (0 : Int32) (0 : Int32) σ)
            else (zSt' (zWD σ 68 23 ((σ.1 68 23) + (1 : Int32))) fun σ3 => (zLd (zIn r2 8) (σ3.1 84 r2.toNatClampNeg) fun v4 => (some (v4, σ3))))))))))
    else (some ((0 : Int32), σ))
set_option maxHeartbeats 4000000 in
set_option maxRecDepth 100000 in
theorem z_X10_one (g : ZG) (q : Nat) (hq : 2 < q) (q2 : Nat) (hq2 : q2 < q) (f_X10_either : ZSt → Option (Int32 × ZSt)) (hf_X10_either : ∀ (σ : ZSt), zEvS g q2 yX10_either cX10_either 3 (some .int) [.ref 68] σ (f_X10_either σ)) (f_X10_one : ZSt → Option (Int32 × ZSt)) (hf_X10_one : ∀ (σ : ZSt), zEvS g q2 yX10_one cX10_one 5 (some .int) [.ref 68] σ (f_X10_one σ)) (σ : ZSt) : Zo g (mX10_one g q) (fun b : Int32 × ZSt => (some (.int b.1), zw b.2)) (s_X10_one f_X10_either f_X10_one σ) 0 0 0 [some (.ref 68), none, none, none, none] [] (zw σ) := by
  unfold s_X10_one
  refine Zo_aload0 dX10_one_0 ?_
  refine Zo_geti fl_X10_248 kd_68 dX10_one_1 ?_
  refine Zo_iflt 9 dX10_one_4 (by decide) ?_ ?_
  · refine Zo_aload0 dX10_one_9 ?_
    refine Zo_cVI0 lk_X10_251 (e_X10_byteAt g _) kd_68 (zFit_rm (by omega)) (zle rfl) dX10_one_10 fun r1 => ?_
    refine Zo_istore1 rfl (zlt rfl) dX10_one_13 ?_
    refine Zo_iload1 dX10_one_14 ?_
    refine Zo_bipush (33 : Int32) dX10_one_15 bp_33 ?_
    refine Zo_icmpeq 32 dX10_one_17 (by decide) ?_ ?_
    · exact z_X10_one_C32 g q hq q2 hq2 f_X10_either hf_X10_either f_X10_one hf_X10_one _ _ _ _ _
    · refine Zo_iload1 dX10_one_20 ?_
      refine Zo_bipush (45 : Int32) dX10_one_21 bp_45 ?_
      refine Zo_icmpeq 32 dX10_one_23 (by decide) ?_ ?_
      · exact z_X10_one_C32 g q hq q2 hq2 f_X10_either hf_X10_either f_X10_one hf_X10_one _ _ _ _ _
      · refine Zo_iload1 dX10_one_26 ?_
        refine Zo_bipush (40 : Int32) dX10_one_27 bp_40 ?_
        refine Zo_icmpne 145 dX10_one_29 (by decide) ?_ ?_
        · refine Zo_iload1 dX10_one_145 ?_
          refine Zo_cSI1 lk_X10_282 (e_X10_nameOf g _ _) (zFit_rm (by omega)) (zle rfl) dX10_one_146 fun r2 => ?_
          refine Zo_istore2 rfl (zlt rfl) dX10_one_149 ?_
          refine Zo_iload2 dX10_one_150 ?_
          refine Zo_iflt 171 dX10_one_151 (by decide) ?_ ?_
          · refine Zo_iconst (0 : Int32) dX10_one_171 ic_0 ?_
            refine Zo_istore3 rfl (zlt rfl) dX10_one_172 ?_
            refine Zo_iconst (0 : Int32) dX10_one_173 ic_0 ?_
            refine Zo_istore4 rfl (zlt rfl) dX10_one_174 ?_
            exact z_X10_one_L176 g q hq q2 hq2 f_X10_either hf_X10_either f_X10_one hf_X10_one _ _ _ _ _ _
          · refine Zo_aload0 dX10_one_154 ?_
            refine Zo_dup dX10_one_155 rfl ?_
            refine Zo_geti fl_X10_239 kd_68 dX10_one_156 ?_
            refine Zo_iconst (1 : Int32) dX10_one_159 ic_1 ?_
            refine Zo_iadd dX10_one_160 ?_
            refine Zo_puti fl_X10_239 kd_68 dX10_one_161 fun σ3 => ?_
            refine Zo_aload0 dX10_one_164 ?_
            show Zo g _ _ _ 0 0 165 _ _ _
            refine Zo_getr (j := 84) fl_X10_55 kd_68 rfl dX10_one_165 ?_
            refine Zo_iload2 dX10_one_168 ?_
            refine Zo_iald kd_84 dX10_one_169 fun v4 => ?_
            exact Zo_iret dX10_one_170 rfl rfl (Nat.le_refl _) (Nat.le_refl _)
        · exact z_X10_one_C32 g q hq q2 hq2 f_X10_either hf_X10_either f_X10_one hf_X10_one _ _ _ _ _
  · refine Zo_iconst (0 : Int32) dX10_one_7 ic_0 ?_
    exact Zo_iret dX10_one_8 rfl rfl (Nat.le_refl _) (Nat.le_refl _)
theorem e_X10_one (g : ZG) (q : Nat) (hq : 2 < q) (q2 : Nat) (hq2 : q2 < q) (f_X10_either : ZSt → Option (Int32 × ZSt)) (hf_X10_either : ∀ (σ : ZSt), zEvS g q2 yX10_either cX10_either 3 (some .int) [.ref 68] σ (f_X10_either σ)) (f_X10_one : ZSt → Option (Int32 × ZSt)) (hf_X10_one : ∀ (σ : ZSt), zEvS g q2 yX10_one cX10_one 5 (some .int) [.ref 68] σ (f_X10_one σ)) (σ : ZSt) : zEvS g q yX10_one cX10_one 5 (some .int) [.ref 68] σ (s_X10_one f_X10_either f_X10_one σ) :=
  zEvS_of 4 rfl rfl (z_X10_one g q hq q2 hq2 f_X10_either hf_X10_either f_X10_one hf_X10_one σ)
abbrev mX10_product (g : ZG) (q : Nat) : ZM := (yX10_product, cX10_product, 4, (some .int), zRm q 0 0, zTg g 0 0)
def s_X10_product_C35 (f_X10_one : ZSt → Option (Int32 × ZSt)) (k10 : Int32 → Int32 → ZSt → Option (Int32 × ZSt)) (l1 : Int32) (l2 : Int32) (σ : ZSt) : Option (Int32 × ZSt) :=
  zSt' (zWD σ 68 23 ((σ.1 68 23) + (1 : Int32))) fun σ1 => ((f_X10_one σ1).bind fun r2 => (if l2 = (42 : Int32) then ((s_X10_byteAt r2.2).bind fun r8 => (k10 (l1 * r2.1) r8 r2.2))
    else (if r2.1 = (0 : Int32) then ((s_X10_byteAt r2.2).bind fun r7 => (k10 (0 : Int32) r7 r2.2))
      else (if l2 = (47 : Int32) then (if r2.1 = (0 : Int32) then none else ((s_X10_byteAt r2.2).bind fun r6 => (k10 (l1 / r2.1) r6 r2.2)))
        else (if r2.1 = (0 : Int32) then none else ((s_X10_byteAt r2.2).bind fun r4 => (k10 (zRem l1 r2.1) r4 r2.2)))))))
set_option maxHeartbeats 4000000 in
set_option maxRecDepth 100000 in
theorem z_X10_product_C35 (g : ZG) (q : Nat) (hq : 2 < q) (q2 : Nat) (hq2 : q2 < q) (f_X10_one : ZSt → Option (Int32 × ZSt)) (hf_X10_one : ∀ (σ : ZSt), zEvS g q2 yX10_one cX10_one 5 (some .int) [.ref 68] σ (f_X10_one σ)) (k10 : Int32 → Int32 → ZSt → Option (Int32 × ZSt)) (l1 : Int32) (l2 : Int32) (σ : ZSt) (hk10 : ∀ (x1 : Int32) (x2 : Int32) (σx : ZSt) (d3 : Option Value), Zo g (mX10_product g q) (fun b : Int32 × ZSt => (some (.int b.1), zw b.2)) (k10 x1 x2 σx) 0 0 10 [some (.ref 68), some (.int x1), some (.int x2), d3] [] (zw σx)) (o3 : Option Value) : Zo g (mX10_product g q) (fun b : Int32 × ZSt => (some (.int b.1), zw b.2)) (s_X10_product_C35 f_X10_one k10 l1 l2 σ) 0 0 35 [some (.ref 68), some (.int l1), some (.int l2), o3] [] (zw σ) := by
  unfold s_X10_product_C35
  refine Zo_aload0 dX10_product_35 ?_
  refine Zo_dup dX10_product_36 rfl ?_
  refine Zo_geti fl_X10_239 kd_68 dX10_product_37 ?_
  refine Zo_iconst (1 : Int32) dX10_product_40 ic_1 ?_
  refine Zo_iadd dX10_product_41 ?_
  refine Zo_puti fl_X10_239 kd_68 dX10_product_42 fun σ1 => ?_
  refine Zo_aload0 dX10_product_45 ?_
  show Zo g _ _ _ 0 0 46 _ _ _
  refine Zo_cVS0 lk_X10_270 (hf_X10_one _) kd_68 (zFit_rm hq2) (zle rfl) dX10_product_46 fun r2 => ?_
  refine Zo_istore3 rfl (zlt rfl) dX10_product_49 ?_
  refine Zo_iload2 dX10_product_50 ?_
  refine Zo_bipush (42 : Int32) dX10_product_51 bp_42 ?_
  refine Zo_icmpne 62 dX10_product_53 (by decide) ?_ ?_
  · refine Zo_iload3 dX10_product_62 ?_
    refine Zo_ifne 70 dX10_product_63 (by decide) ?_ ?_
    · refine Zo_iload2 dX10_product_70 ?_
      refine Zo_bipush (47 : Int32) dX10_product_71 bp_47 ?_
      refine Zo_icmpne 82 dX10_product_73 (by decide) ?_ ?_
      · refine Zo_iload1 dX10_product_82 ?_
        refine Zo_iload3 dX10_product_83 ?_
        refine Zo_gn fun hn3 => ?_
        refine Zo_irem dX10_product_84 hn3 ?_
        refine Zo_istore1 rfl (zlt rfl) dX10_product_85 ?_
        refine Zo_aload0 dX10_product_86 ?_
        refine Zo_cVI0 lk_X10_251 (e_X10_byteAt g _) kd_68 (zFit_rm (by omega)) (zle rfl) dX10_product_87 fun r4 => ?_
        refine Zo_istore2 rfl (zlt rfl) dX10_product_90 ?_
        show Zo g _ _ _ 0 0 91 _ _ _
        refine Zo_goto 10 dX10_product_91 (by decide) ?_
        exact hk10 _ _ _ _
      · refine Zo_iload1 dX10_product_76 ?_
        refine Zo_iload3 dX10_product_77 ?_
        refine Zo_gn fun hn5 => ?_
        refine Zo_idiv dX10_product_78 hn5 ?_
        refine Zo_goto 85 dX10_product_79 (by decide) ?_
        refine Zo_istore1 rfl (zlt rfl) dX10_product_85 ?_
        refine Zo_aload0 dX10_product_86 ?_
        refine Zo_cVI0 lk_X10_251 (e_X10_byteAt g _) kd_68 (zFit_rm (by omega)) (zle rfl) dX10_product_87 fun r6 => ?_
        show Zo g _ _ _ 0 0 90 _ _ _
        refine Zo_istore2 rfl (zlt rfl) dX10_product_90 ?_
        refine Zo_goto 10 dX10_product_91 (by decide) ?_
        exact hk10 _ _ _ _
    · refine Zo_iconst (0 : Int32) dX10_product_66 ic_0 ?_
      refine Zo_goto 85 dX10_product_67 (by decide) ?_
      refine Zo_istore1 rfl (zlt rfl) dX10_product_85 ?_
      refine Zo_aload0 dX10_product_86 ?_
      refine Zo_cVI0 lk_X10_251 (e_X10_byteAt g _) kd_68 (zFit_rm (by omega)) (zle rfl) dX10_product_87 fun r7 => ?_
      refine Zo_istore2 rfl (zlt rfl) dX10_product_90 ?_
      refine Zo_goto 10 dX10_product_91 (by decide) ?_
      exact hk10 _ _ _ _
  · refine Zo_iload1 dX10_product_56 ?_
    refine Zo_iload3 dX10_product_57 ?_
    refine Zo_imul dX10_product_58 ?_
    refine Zo_goto 85 dX10_product_59 (by decide) ?_
    refine Zo_istore1 rfl (zlt rfl) dX10_product_85 ?_
    refine Zo_aload0 dX10_product_86 ?_
    refine Zo_cVI0 lk_X10_251 (e_X10_byteAt g _) kd_68 (zFit_rm (by omega)) (zle rfl) dX10_product_87 fun r8 => ?_
    show Zo g _ _ _ 0 0 90 _ _ _
    refine Zo_istore2 rfl (zlt rfl) dX10_product_90 ?_
    refine Zo_goto 10 dX10_product_91 (by decide) ?_
    exact hk10 _ _ _ _
def s_X10_product_L10 (f_X10_one : ZSt → Option (Int32 × ZSt)) : Nat → Int32 → Int32 → ZSt → Option (Int32 × ZSt)
  | 0, _, _, _ => none
  | n + 1, l1, l2, σ =>
    if (0 : Int32) ≤ (σ.1 68 25) then (some (l1, σ))
      else (if l2 = (42 : Int32) then (s_X10_product_C35 f_X10_one (s_X10_product_L10 f_X10_one n) l1 l2 σ)
        else (if l2 = (47 : Int32) then (s_X10_product_C35 f_X10_one (s_X10_product_L10 f_X10_one n) l1 l2 σ)
          else (if l2 = (37 : Int32) then (s_X10_product_C35 f_X10_one (s_X10_product_L10 f_X10_one n) l1 l2 σ)
            else (some (l1, σ)))))
set_option maxHeartbeats 4000000 in
set_option maxRecDepth 100000 in
theorem z_X10_product_L10 (g : ZG) (q : Nat) (hq : 2 < q) (q2 : Nat) (hq2 : q2 < q) (f_X10_one : ZSt → Option (Int32 × ZSt)) (hf_X10_one : ∀ (σ : ZSt), zEvS g q2 yX10_one cX10_one 5 (some .int) [.ref 68] σ (f_X10_one σ)) : ∀ (n : Nat) (l1 : Int32) (l2 : Int32) (σ : ZSt) (o3 : Option Value), Zo g (mX10_product g q) (fun b : Int32 × ZSt => (some (.int b.1), zw b.2)) (s_X10_product_L10 f_X10_one n l1 l2 σ) 0 0 10 [some (.ref 68), some (.int l1), some (.int l2), o3] [] (zw σ) := by
  intro n
  induction n with
  | zero => intros; exact Zo_none
  | succ n ih =>
    intro l1 l2 σ o3
    rw [s_X10_product_L10]
    refine Zo_aload0 dX10_product_10 ?_
    refine Zo_geti fl_X10_248 kd_68 dX10_product_11 ?_
    refine Zo_ifge 94 dX10_product_14 (by decide) ?_ ?_
    · refine Zo_iload1 dX10_product_94 ?_
      exact Zo_iret dX10_product_95 rfl rfl (Nat.le_refl _) (Nat.le_refl _)
    · refine Zo_iload2 dX10_product_17 ?_
      refine Zo_bipush (42 : Int32) dX10_product_18 bp_42 ?_
      refine Zo_icmpeq 35 dX10_product_20 (by decide) ?_ ?_
      · exact z_X10_product_C35 g q hq q2 hq2 f_X10_one hf_X10_one (s_X10_product_L10 f_X10_one n) _ _ _ ih _
      · refine Zo_iload2 dX10_product_23 ?_
        refine Zo_bipush (47 : Int32) dX10_product_24 bp_47 ?_
        refine Zo_icmpeq 35 dX10_product_26 (by decide) ?_ ?_
        · exact z_X10_product_C35 g q hq q2 hq2 f_X10_one hf_X10_one (s_X10_product_L10 f_X10_one n) _ _ _ ih _
        · refine Zo_iload2 dX10_product_29 ?_
          refine Zo_bipush (37 : Int32) dX10_product_30 bp_37 ?_
          refine Zo_icmpne 94 dX10_product_32 (by decide) ?_ ?_
          · refine Zo_iload1 dX10_product_94 ?_
            exact Zo_iret dX10_product_95 rfl rfl (Nat.le_refl _) (Nat.le_refl _)
          · exact z_X10_product_C35 g q hq q2 hq2 f_X10_one hf_X10_one (s_X10_product_L10 f_X10_one n) _ _ _ ih _
def s_X10_product (f_X10_one : ZSt → Option (Int32 × ZSt)) (σ : ZSt) : Option (Int32 × ZSt) :=
  (f_X10_one σ).bind fun r1 => ((s_X10_byteAt r1.2).bind fun r2 => (s_X10_product_L10 f_X10_one 200 r1.1 r2 r1.2))
set_option maxHeartbeats 4000000 in
set_option maxRecDepth 100000 in
theorem z_X10_product (g : ZG) (q : Nat) (hq : 2 < q) (q2 : Nat) (hq2 : q2 < q) (f_X10_one : ZSt → Option (Int32 × ZSt)) (hf_X10_one : ∀ (σ : ZSt), zEvS g q2 yX10_one cX10_one 5 (some .int) [.ref 68] σ (f_X10_one σ)) (σ : ZSt) : Zo g (mX10_product g q) (fun b : Int32 × ZSt => (some (.int b.1), zw b.2)) (s_X10_product f_X10_one σ) 0 0 0 [some (.ref 68), none, none, none] [] (zw σ) := by
  unfold s_X10_product
  refine Zo_aload0 dX10_product_0 ?_
  refine Zo_cVS0 lk_X10_270 (hf_X10_one _) kd_68 (zFit_rm hq2) (zle rfl) dX10_product_1 fun r1 => ?_
  refine Zo_istore1 rfl (zlt rfl) dX10_product_4 ?_
  refine Zo_aload0 dX10_product_5 ?_
  refine Zo_cVI0 lk_X10_251 (e_X10_byteAt g _) kd_68 (zFit_rm (by omega)) (zle rfl) dX10_product_6 fun r2 => ?_
  refine Zo_istore2 rfl (zlt rfl) dX10_product_9 ?_
  exact z_X10_product_L10 g q hq q2 hq2 f_X10_one hf_X10_one _ _ _ _ _
theorem e_X10_product (g : ZG) (q : Nat) (hq : 2 < q) (q2 : Nat) (hq2 : q2 < q) (f_X10_one : ZSt → Option (Int32 × ZSt)) (hf_X10_one : ∀ (σ : ZSt), zEvS g q2 yX10_one cX10_one 5 (some .int) [.ref 68] σ (f_X10_one σ)) (σ : ZSt) : zEvS g q yX10_product cX10_product 4 (some .int) [.ref 68] σ (s_X10_product f_X10_one σ) :=
  zEvS_of 3 rfl rfl (z_X10_product g q hq q2 hq2 f_X10_one hf_X10_one σ)
abbrev mX10_sums (g : ZG) (q : Nat) : ZM := (yX10_sums, cX10_sums, 4, (some .int), zRm q 0 0, zTg g 0 0)
def s_X10_sums_C44 (f_X10_product : ZSt → Option (Int32 × ZSt)) (k5 : Int32 → ZSt → Option (Int32 × ZSt)) (l1 : Int32) (k_0 : Int32) (σ : ZSt) : Option (Int32 × ZSt) :=
  zSt' (zWD σ 68 23 ((σ.1 68 23) + (1 : Int32))) fun σ1 => ((f_X10_product σ1).bind fun r2 => (if k_0 = (0 : Int32) then (k5 (l1 - r2.1) r2.2)
    else (k5 (l1 + r2.1) r2.2)))
set_option maxHeartbeats 4000000 in
set_option maxRecDepth 100000 in
theorem z_X10_sums_C44 (g : ZG) (q : Nat) (hq : 2 < q) (q2 : Nat) (hq2 : q2 < q) (f_X10_product : ZSt → Option (Int32 × ZSt)) (hf_X10_product : ∀ (σ : ZSt), zEvS g q2 yX10_product cX10_product 4 (some .int) [.ref 68] σ (f_X10_product σ)) (k5 : Int32 → ZSt → Option (Int32 × ZSt)) (l1 : Int32) (k_0 : Int32) (σ : ZSt) (hk5 : ∀ (x1 : Int32) (σx : ZSt) (d2 d3 : Option Value), Zo g (mX10_sums g q) (fun b : Int32 × ZSt => (some (.int b.1), zw b.2)) (k5 x1 σx) 0 0 5 [some (.ref 68), some (.int x1), d2, d3] [] (zw σx)) (o2 : Option Value) (o3 : Option Value) : Zo g (mX10_sums g q) (fun b : Int32 × ZSt => (some (.int b.1), zw b.2)) (s_X10_sums_C44 f_X10_product k5 l1 k_0 σ) 0 0 44 [some (.ref 68), some (.int l1), o2, o3] [.int k_0] (zw σ) := by
  unfold s_X10_sums_C44
  refine Zo_istore2 rfl (zlt rfl) dX10_sums_44 ?_
  refine Zo_aload0 dX10_sums_45 ?_
  refine Zo_dup dX10_sums_46 rfl ?_
  refine Zo_geti fl_X10_239 kd_68 dX10_sums_47 ?_
  refine Zo_iconst (1 : Int32) dX10_sums_50 ic_1 ?_
  refine Zo_iadd dX10_sums_51 ?_
  refine Zo_puti fl_X10_239 kd_68 dX10_sums_52 fun σ1 => ?_
  show Zo g _ _ _ 0 0 55 _ _ _
  refine Zo_aload0 dX10_sums_55 ?_
  refine Zo_cVS0 lk_X10_267 (hf_X10_product _) kd_68 (zFit_rm hq2) (zle rfl) dX10_sums_56 fun r2 => ?_
  refine Zo_istore3 rfl (zlt rfl) dX10_sums_59 ?_
  refine Zo_iload2 dX10_sums_60 ?_
  refine Zo_ifeq 70 dX10_sums_61 (by decide) ?_ ?_
  · refine Zo_iload1 dX10_sums_70 ?_
    refine Zo_iload3 dX10_sums_71 ?_
    refine Zo_isub dX10_sums_72 ?_
    refine Zo_istore1 rfl (zlt rfl) dX10_sums_73 ?_
    refine Zo_goto 5 dX10_sums_74 (by decide) ?_
    exact hk5 _ _ _ _
  · refine Zo_iload1 dX10_sums_64 ?_
    refine Zo_iload3 dX10_sums_65 ?_
    refine Zo_iadd dX10_sums_66 ?_
    refine Zo_goto 73 dX10_sums_67 (by decide) ?_
    refine Zo_istore1 rfl (zlt rfl) dX10_sums_73 ?_
    refine Zo_goto 5 dX10_sums_74 (by decide) ?_
    exact hk5 _ _ _ _
def s_X10_sums_L5 (f_X10_product : ZSt → Option (Int32 × ZSt)) : Nat → Int32 → ZSt → Option (Int32 × ZSt)
  | 0, _, _ => none
  | n + 1, l1, σ =>
    if (0 : Int32) ≤ (σ.1 68 25) then (some (l1, σ))
      else ((s_X10_byteAt σ).bind fun r1 => (if r1 = (43 : Int32) then ((s_X10_byteAt σ).bind fun r2 => (if r2 = (43 : Int32) then (s_X10_sums_C44 f_X10_product (s_X10_sums_L5 f_X10_product n) l1 (1 : Int32) σ)
          else (s_X10_sums_C44 f_X10_product (s_X10_sums_L5 f_X10_product n) l1 (0 : Int32) σ)))
        else ((s_X10_byteAt σ).bind fun r3 => (if r3 = (45 : Int32) then ((s_X10_byteAt σ).bind fun r4 => (if r4 = (43 : Int32) then (s_X10_sums_C44 f_X10_product (s_X10_sums_L5 f_X10_product n) l1 (1 : Int32) σ)
            else (s_X10_sums_C44 f_X10_product (s_X10_sums_L5 f_X10_product n) l1 (0 : Int32) σ)))
          else (some (l1, σ))))))
set_option maxHeartbeats 4000000 in
set_option maxRecDepth 100000 in
theorem z_X10_sums_L5 (g : ZG) (q : Nat) (hq : 2 < q) (q2 : Nat) (hq2 : q2 < q) (f_X10_product : ZSt → Option (Int32 × ZSt)) (hf_X10_product : ∀ (σ : ZSt), zEvS g q2 yX10_product cX10_product 4 (some .int) [.ref 68] σ (f_X10_product σ)) : ∀ (n : Nat) (l1 : Int32) (σ : ZSt) (o2 o3 : Option Value), Zo g (mX10_sums g q) (fun b : Int32 × ZSt => (some (.int b.1), zw b.2)) (s_X10_sums_L5 f_X10_product n l1 σ) 0 0 5 [some (.ref 68), some (.int l1), o2, o3] [] (zw σ) := by
  intro n
  induction n with
  | zero => intros; exact Zo_none
  | succ n ih =>
    intro l1 σ o2 o3
    rw [s_X10_sums_L5]
    refine Zo_aload0 dX10_sums_5 ?_
    refine Zo_geti fl_X10_248 kd_68 dX10_sums_6 ?_
    refine Zo_ifge 77 dX10_sums_9 (by decide) ?_ ?_
    · refine Zo_iload1 dX10_sums_77 ?_
      exact Zo_iret dX10_sums_78 rfl rfl (Nat.le_refl _) (Nat.le_refl _)
    · refine Zo_aload0 dX10_sums_12 ?_
      refine Zo_cVI0 lk_X10_251 (e_X10_byteAt g _) kd_68 (zFit_rm (by omega)) (zle rfl) dX10_sums_13 fun r1 => ?_
      refine Zo_bipush (43 : Int32) dX10_sums_16 bp_43 ?_
      refine Zo_icmpeq 30 dX10_sums_18 (by decide) ?_ ?_
      · refine Zo_aload0 dX10_sums_30 ?_
        refine Zo_cVI0 lk_X10_251 (e_X10_byteAt g _) kd_68 (zFit_rm (by omega)) (zle rfl) dX10_sums_31 fun r2 => ?_
        refine Zo_bipush (43 : Int32) dX10_sums_34 bp_43 ?_
        refine Zo_icmpne 43 dX10_sums_36 (by decide) ?_ ?_
        · refine Zo_iconst (0 : Int32) dX10_sums_43 ic_0 ?_
          exact z_X10_sums_C44 g q hq q2 hq2 f_X10_product hf_X10_product (s_X10_sums_L5 f_X10_product n) _ _ _ ih _ _
        · refine Zo_iconst (1 : Int32) dX10_sums_39 ic_1 ?_
          refine Zo_goto 44 dX10_sums_40 (by decide) ?_
          exact z_X10_sums_C44 g q hq q2 hq2 f_X10_product hf_X10_product (s_X10_sums_L5 f_X10_product n) _ _ _ ih _ _
      · refine Zo_aload0 dX10_sums_21 ?_
        refine Zo_cVI0 lk_X10_251 (e_X10_byteAt g _) kd_68 (zFit_rm (by omega)) (zle rfl) dX10_sums_22 fun r3 => ?_
        refine Zo_bipush (45 : Int32) dX10_sums_25 bp_45 ?_
        refine Zo_icmpne 77 dX10_sums_27 (by decide) ?_ ?_
        · refine Zo_iload1 dX10_sums_77 ?_
          exact Zo_iret dX10_sums_78 rfl rfl (Nat.le_refl _) (Nat.le_refl _)
        · refine Zo_aload0 dX10_sums_30 ?_
          refine Zo_cVI0 lk_X10_251 (e_X10_byteAt g _) kd_68 (zFit_rm (by omega)) (zle rfl) dX10_sums_31 fun r4 => ?_
          refine Zo_bipush (43 : Int32) dX10_sums_34 bp_43 ?_
          refine Zo_icmpne 43 dX10_sums_36 (by decide) ?_ ?_
          · refine Zo_iconst (0 : Int32) dX10_sums_43 ic_0 ?_
            exact z_X10_sums_C44 g q hq q2 hq2 f_X10_product hf_X10_product (s_X10_sums_L5 f_X10_product n) _ _ _ ih _ _
          · refine Zo_iconst (1 : Int32) dX10_sums_39 ic_1 ?_
            refine Zo_goto 44 dX10_sums_40 (by decide) ?_
            exact z_X10_sums_C44 g q hq q2 hq2 f_X10_product hf_X10_product (s_X10_sums_L5 f_X10_product n) _ _ _ ih _ _
def s_X10_sums (f_X10_product : ZSt → Option (Int32 × ZSt)) (σ : ZSt) : Option (Int32 × ZSt) :=
  (f_X10_product σ).bind fun r1 => (s_X10_sums_L5 f_X10_product 200 r1.1 r1.2)
set_option maxHeartbeats 4000000 in
set_option maxRecDepth 100000 in
theorem z_X10_sums (g : ZG) (q : Nat) (hq : 2 < q) (q2 : Nat) (hq2 : q2 < q) (f_X10_product : ZSt → Option (Int32 × ZSt)) (hf_X10_product : ∀ (σ : ZSt), zEvS g q2 yX10_product cX10_product 4 (some .int) [.ref 68] σ (f_X10_product σ)) (σ : ZSt) : Zo g (mX10_sums g q) (fun b : Int32 × ZSt => (some (.int b.1), zw b.2)) (s_X10_sums f_X10_product σ) 0 0 0 [some (.ref 68), none, none, none] [] (zw σ) := by
  unfold s_X10_sums
  refine Zo_aload0 dX10_sums_0 ?_
  refine Zo_cVS0 lk_X10_267 (hf_X10_product _) kd_68 (zFit_rm hq2) (zle rfl) dX10_sums_1 fun r1 => ?_
  refine Zo_istore1 rfl (zlt rfl) dX10_sums_4 ?_
  exact z_X10_sums_L5 g q hq q2 hq2 f_X10_product hf_X10_product _ _ _ _ _
theorem e_X10_sums (g : ZG) (q : Nat) (hq : 2 < q) (q2 : Nat) (hq2 : q2 < q) (f_X10_product : ZSt → Option (Int32 × ZSt)) (hf_X10_product : ∀ (σ : ZSt), zEvS g q2 yX10_product cX10_product 4 (some .int) [.ref 68] σ (f_X10_product σ)) (σ : ZSt) : zEvS g q yX10_sums cX10_sums 4 (some .int) [.ref 68] σ (s_X10_sums f_X10_product σ) :=
  zEvS_of 3 rfl rfl (z_X10_sums g q hq q2 hq2 f_X10_product hf_X10_product σ)
abbrev mX10_compared (g : ZG) (q : Nat) : ZM := (yX10_compared, cX10_compared, 4, (some .int), zRm q 0 0, zTg g 0 0)
def s_X10_compared_C37 (f_X10_sums : ZSt → Option (Int32 × ZSt)) (l1 : Int32) (l2 : Int32) (σ : ZSt) : Option (Int32 × ZSt) :=
  zSt' (zWD σ 68 23 ((σ.1 68 23) + (1 : Int32))) fun σ1 => ((f_X10_sums σ1).bind fun r2 => (if l2 = (60 : Int32) then (if r2.1 ≤ l1 then (some ((0 : Int32), r2.2))
      else (some ((1 : Int32), r2.2)))
    else (if l2 = (61 : Int32) then (if l1 = r2.1 then (some ((1 : Int32), r2.2))
        else (some ((0 : Int32), r2.2)))
      else (if l1 ≤ r2.1 then (some ((0 : Int32), r2.2))
        else (some ((1 : Int32), r2.2))))))
set_option maxHeartbeats 4000000 in
set_option maxRecDepth 100000 in
theorem z_X10_compared_C37 (g : ZG) (q : Nat) (hq : 2 < q) (q2 : Nat) (hq2 : q2 < q) (f_X10_sums : ZSt → Option (Int32 × ZSt)) (hf_X10_sums : ∀ (σ : ZSt), zEvS g q2 yX10_sums cX10_sums 4 (some .int) [.ref 68] σ (f_X10_sums σ)) (l1 : Int32) (l2 : Int32) (σ : ZSt) (o3 : Option Value) : Zo g (mX10_compared g q) (fun b : Int32 × ZSt => (some (.int b.1), zw b.2)) (s_X10_compared_C37 f_X10_sums l1 l2 σ) 0 0 37 [some (.ref 68), some (.int l1), some (.int l2), o3] [] (zw σ) := by
  unfold s_X10_compared_C37
  refine Zo_aload0 dX10_compared_37 ?_
  refine Zo_dup dX10_compared_38 rfl ?_
  refine Zo_geti fl_X10_239 kd_68 dX10_compared_39 ?_
  refine Zo_iconst (1 : Int32) dX10_compared_42 ic_1 ?_
  refine Zo_iadd dX10_compared_43 ?_
  refine Zo_puti fl_X10_239 kd_68 dX10_compared_44 fun σ1 => ?_
  refine Zo_aload0 dX10_compared_47 ?_
  show Zo g _ _ _ 0 0 48 _ _ _
  refine Zo_cVS0 lk_X10_264 (hf_X10_sums _) kd_68 (zFit_rm hq2) (zle rfl) dX10_compared_48 fun r2 => ?_
  refine Zo_istore3 rfl (zlt rfl) dX10_compared_51 ?_
  refine Zo_iload2 dX10_compared_52 ?_
  refine Zo_bipush (60 : Int32) dX10_compared_53 bp_60 ?_
  refine Zo_icmpne 66 dX10_compared_55 (by decide) ?_ ?_
  · refine Zo_iload2 dX10_compared_66 ?_
    refine Zo_bipush (61 : Int32) dX10_compared_67 bp_61 ?_
    refine Zo_icmpne 80 dX10_compared_69 (by decide) ?_ ?_
    · refine Zo_iload1 dX10_compared_80 ?_
      refine Zo_iload3 dX10_compared_81 ?_
      refine Zo_icmple 89 dX10_compared_82 (by decide) ?_ ?_
      · refine Zo_iconst (0 : Int32) dX10_compared_89 ic_0 ?_
        exact Zo_iret dX10_compared_90 rfl rfl (Nat.le_refl _) (Nat.le_refl _)
      · refine Zo_iconst (1 : Int32) dX10_compared_85 ic_1 ?_
        refine Zo_goto 90 dX10_compared_86 (by decide) ?_
        exact Zo_iret dX10_compared_90 rfl rfl (Nat.le_refl _) (Nat.le_refl _)
    · refine Zo_iload1 dX10_compared_72 ?_
      refine Zo_iload3 dX10_compared_73 ?_
      refine Zo_icmpne 89 dX10_compared_74 (by decide) ?_ ?_
      · refine Zo_iconst (0 : Int32) dX10_compared_89 ic_0 ?_
        exact Zo_iret dX10_compared_90 rfl rfl (Nat.le_refl _) (Nat.le_refl _)
      · refine Zo_goto 85 dX10_compared_77 (by decide) ?_
        refine Zo_iconst (1 : Int32) dX10_compared_85 ic_1 ?_
        refine Zo_goto 90 dX10_compared_86 (by decide) ?_
        exact Zo_iret dX10_compared_90 rfl rfl (Nat.le_refl _) (Nat.le_refl _)
  · refine Zo_iload1 dX10_compared_58 ?_
    refine Zo_iload3 dX10_compared_59 ?_
    refine Zo_icmpge 89 dX10_compared_60 (by decide) ?_ ?_
    · refine Zo_iconst (0 : Int32) dX10_compared_89 ic_0 ?_
      exact Zo_iret dX10_compared_90 rfl rfl (Nat.le_refl _) (Nat.le_refl _)
    · refine Zo_goto 85 dX10_compared_63 (by decide) ?_
      refine Zo_iconst (1 : Int32) dX10_compared_85 ic_1 ?_
      refine Zo_goto 90 dX10_compared_86 (by decide) ?_
      exact Zo_iret dX10_compared_90 rfl rfl (Nat.le_refl _) (Nat.le_refl _)
def s_X10_compared (f_X10_sums : ZSt → Option (Int32 × ZSt)) (σ : ZSt) : Option (Int32 × ZSt) :=
  (f_X10_sums σ).bind fun r1 => ((s_X10_byteAt r1.2).bind fun r2 => (if (0 : Int32) ≤ (r1.2.1 68 25) then (some (r1.1, r1.2))
    else (if r2 = (60 : Int32) then (s_X10_compared_C37 f_X10_sums r1.1 r2 r1.2)
      else (if r2 = (61 : Int32) then (s_X10_compared_C37 f_X10_sums r1.1 r2 r1.2)
        else (if r2 = (62 : Int32) then (s_X10_compared_C37 f_X10_sums r1.1 r2 r1.2)
          else (some (r1.1, r1.2)))))))
set_option maxHeartbeats 4000000 in
set_option maxRecDepth 100000 in
theorem z_X10_compared (g : ZG) (q : Nat) (hq : 2 < q) (q2 : Nat) (hq2 : q2 < q) (f_X10_sums : ZSt → Option (Int32 × ZSt)) (hf_X10_sums : ∀ (σ : ZSt), zEvS g q2 yX10_sums cX10_sums 4 (some .int) [.ref 68] σ (f_X10_sums σ)) (σ : ZSt) : Zo g (mX10_compared g q) (fun b : Int32 × ZSt => (some (.int b.1), zw b.2)) (s_X10_compared f_X10_sums σ) 0 0 0 [some (.ref 68), none, none, none] [] (zw σ) := by
  unfold s_X10_compared
  refine Zo_aload0 dX10_compared_0 ?_
  refine Zo_cVS0 lk_X10_264 (hf_X10_sums _) kd_68 (zFit_rm hq2) (zle rfl) dX10_compared_1 fun r1 => ?_
  refine Zo_istore1 rfl (zlt rfl) dX10_compared_4 ?_
  refine Zo_aload0 dX10_compared_5 ?_
  refine Zo_cVI0 lk_X10_251 (e_X10_byteAt g _) kd_68 (zFit_rm (by omega)) (zle rfl) dX10_compared_6 fun r2 => ?_
  refine Zo_istore2 rfl (zlt rfl) dX10_compared_9 ?_
  refine Zo_aload0 dX10_compared_10 ?_
  show Zo g _ _ _ 0 0 11 _ _ _
  refine Zo_geti fl_X10_248 kd_68 dX10_compared_11 ?_
  refine Zo_ifge 35 dX10_compared_14 (by decide) ?_ ?_
  · refine Zo_iload1 dX10_compared_35 ?_
    exact Zo_iret dX10_compared_36 rfl rfl (Nat.le_refl _) (Nat.le_refl _)
  · refine Zo_iload2 dX10_compared_17 ?_
    refine Zo_bipush (60 : Int32) dX10_compared_18 bp_60 ?_
    refine Zo_icmpeq 37 dX10_compared_20 (by decide) ?_ ?_
    · exact z_X10_compared_C37 g q hq q2 hq2 f_X10_sums hf_X10_sums _ _ _ _
    · refine Zo_iload2 dX10_compared_23 ?_
      refine Zo_bipush (61 : Int32) dX10_compared_24 bp_61 ?_
      refine Zo_icmpeq 37 dX10_compared_26 (by decide) ?_ ?_
      · exact z_X10_compared_C37 g q hq q2 hq2 f_X10_sums hf_X10_sums _ _ _ _
      · refine Zo_iload2 dX10_compared_29 ?_
        refine Zo_bipush (62 : Int32) dX10_compared_30 bp_62 ?_
        refine Zo_icmpeq 37 dX10_compared_32 (by decide) ?_ ?_
        · exact z_X10_compared_C37 g q hq q2 hq2 f_X10_sums hf_X10_sums _ _ _ _
        · refine Zo_iload1 dX10_compared_35 ?_
          exact Zo_iret dX10_compared_36 rfl rfl (Nat.le_refl _) (Nat.le_refl _)
theorem e_X10_compared (g : ZG) (q : Nat) (hq : 2 < q) (q2 : Nat) (hq2 : q2 < q) (f_X10_sums : ZSt → Option (Int32 × ZSt)) (hf_X10_sums : ∀ (σ : ZSt), zEvS g q2 yX10_sums cX10_sums 4 (some .int) [.ref 68] σ (f_X10_sums σ)) (σ : ZSt) : zEvS g q yX10_compared cX10_compared 4 (some .int) [.ref 68] σ (s_X10_compared f_X10_sums σ) :=
  zEvS_of 3 rfl rfl (z_X10_compared g q hq q2 hq2 f_X10_sums hf_X10_sums σ)
abbrev mX10_both (g : ZG) (q : Nat) : ZM := (yX10_both, cX10_both, 3, (some .int), zRm q 0 0, zTg g 0 0)
def s_X10_both_L5 (f_X10_compared : ZSt → Option (Int32 × ZSt)) : Nat → Int32 → ZSt → Option (Int32 × ZSt)
  | 0, _, _ => none
  | n + 1, l1, σ =>
    (s_X10_takes (38 : Int32) σ).bind fun r1 => (if r1.1 = (0 : Int32) then (some (l1, r1.2))
      else ((f_X10_compared r1.2).bind fun r2 => (if l1 = (0 : Int32) then (s_X10_both_L5 f_X10_compared n (0 : Int32) r2.2)
        else (if r2.1 = (0 : Int32) then (s_X10_both_L5 f_X10_compared n (0 : Int32) r2.2)
          else (s_X10_both_L5 f_X10_compared n (1 : Int32) r2.2)))))
set_option maxHeartbeats 4000000 in
set_option maxRecDepth 100000 in
theorem z_X10_both_L5 (g : ZG) (q : Nat) (hq : 2 < q) (q2 : Nat) (hq2 : q2 < q) (f_X10_compared : ZSt → Option (Int32 × ZSt)) (hf_X10_compared : ∀ (σ : ZSt), zEvS g q2 yX10_compared cX10_compared 4 (some .int) [.ref 68] σ (f_X10_compared σ)) : ∀ (n : Nat) (l1 : Int32) (σ : ZSt) (o2 : Option Value), Zo g (mX10_both g q) (fun b : Int32 × ZSt => (some (.int b.1), zw b.2)) (s_X10_both_L5 f_X10_compared n l1 σ) 0 0 5 [some (.ref 68), some (.int l1), o2] [] (zw σ) := by
  intro n
  induction n with
  | zero => intros; exact Zo_none
  | succ n ih =>
    intro l1 σ o2
    rw [s_X10_both_L5]
    refine Zo_aload0 dX10_both_5 ?_
    refine Zo_bipush (38 : Int32) dX10_both_6 bp_38 ?_
    refine Zo_cVS1 lk_X10_258 (e_X10_takes g _ _) kd_68 (zFit_rm (by omega)) (zle rfl) dX10_both_8 fun r1 => ?_
    refine Zo_ifeq 36 dX10_both_11 (by decide) ?_ ?_
    · refine Zo_iload1 dX10_both_36 ?_
      exact Zo_iret dX10_both_37 rfl rfl (Nat.le_refl _) (Nat.le_refl _)
    · refine Zo_aload0 dX10_both_14 ?_
      refine Zo_cVS0 lk_X10_261 (hf_X10_compared _) kd_68 (zFit_rm hq2) (zle rfl) dX10_both_15 fun r2 => ?_
      refine Zo_istore2 rfl (zlt rfl) dX10_both_18 ?_
      refine Zo_iload1 dX10_both_19 ?_
      refine Zo_ifeq 31 dX10_both_20 (by decide) ?_ ?_
      · refine Zo_iconst (0 : Int32) dX10_both_31 ic_0 ?_
        refine Zo_istore1 rfl (zlt rfl) dX10_both_32 ?_
        refine Zo_goto 5 dX10_both_33 (by decide) ?_
        exact ih _ _ _
      · refine Zo_iload2 dX10_both_23 ?_
        refine Zo_ifeq 31 dX10_both_24 (by decide) ?_ ?_
        · refine Zo_iconst (0 : Int32) dX10_both_31 ic_0 ?_
          refine Zo_istore1 rfl (zlt rfl) dX10_both_32 ?_
          refine Zo_goto 5 dX10_both_33 (by decide) ?_
          exact ih _ _ _
        · refine Zo_iconst (1 : Int32) dX10_both_27 ic_1 ?_
          refine Zo_goto 32 dX10_both_28 (by decide) ?_
          refine Zo_istore1 rfl (zlt rfl) dX10_both_32 ?_
          refine Zo_goto 5 dX10_both_33 (by decide) ?_
          exact ih _ _ _
def s_X10_both (f_X10_compared : ZSt → Option (Int32 × ZSt)) (σ : ZSt) : Option (Int32 × ZSt) :=
  (f_X10_compared σ).bind fun r1 => (s_X10_both_L5 f_X10_compared 200 r1.1 r1.2)
set_option maxHeartbeats 4000000 in
set_option maxRecDepth 100000 in
theorem z_X10_both (g : ZG) (q : Nat) (hq : 2 < q) (q2 : Nat) (hq2 : q2 < q) (f_X10_compared : ZSt → Option (Int32 × ZSt)) (hf_X10_compared : ∀ (σ : ZSt), zEvS g q2 yX10_compared cX10_compared 4 (some .int) [.ref 68] σ (f_X10_compared σ)) (σ : ZSt) : Zo g (mX10_both g q) (fun b : Int32 × ZSt => (some (.int b.1), zw b.2)) (s_X10_both f_X10_compared σ) 0 0 0 [some (.ref 68), none, none] [] (zw σ) := by
  unfold s_X10_both
  refine Zo_aload0 dX10_both_0 ?_
  refine Zo_cVS0 lk_X10_261 (hf_X10_compared _) kd_68 (zFit_rm hq2) (zle rfl) dX10_both_1 fun r1 => ?_
  refine Zo_istore1 rfl (zlt rfl) dX10_both_4 ?_
  exact z_X10_both_L5 g q hq q2 hq2 f_X10_compared hf_X10_compared _ _ _ _
theorem e_X10_both (g : ZG) (q : Nat) (hq : 2 < q) (q2 : Nat) (hq2 : q2 < q) (f_X10_compared : ZSt → Option (Int32 × ZSt)) (hf_X10_compared : ∀ (σ : ZSt), zEvS g q2 yX10_compared cX10_compared 4 (some .int) [.ref 68] σ (f_X10_compared σ)) (σ : ZSt) : zEvS g q yX10_both cX10_both 3 (some .int) [.ref 68] σ (s_X10_both f_X10_compared σ) :=
  zEvS_of 2 rfl rfl (z_X10_both g q hq q2 hq2 f_X10_compared hf_X10_compared σ)
abbrev mX10_either (g : ZG) (q : Nat) : ZM := (yX10_either, cX10_either, 3, (some .int), zRm q 0 0, zTg g 0 0)
def s_X10_either_L5 (f_X10_both : ZSt → Option (Int32 × ZSt)) : Nat → Int32 → ZSt → Option (Int32 × ZSt)
  | 0, _, _ => none
  | n + 1, l1, σ =>
    (s_X10_takes (124 : Int32) σ).bind fun r1 => (if r1.1 = (0 : Int32) then (some (l1, r1.2))
      else ((f_X10_both r1.2).bind fun r2 => (if l1 = (0 : Int32) then (if r2.1 = (0 : Int32) then (s_X10_either_L5 f_X10_both n (0 : Int32) r2.2)
          else (s_X10_either_L5 f_X10_both n (1 : Int32) r2.2))
        else (s_X10_either_L5 f_X10_both n (1 : Int32) r2.2))))
set_option maxHeartbeats 4000000 in
set_option maxRecDepth 100000 in
theorem z_X10_either_L5 (g : ZG) (q : Nat) (hq : 2 < q) (q2 : Nat) (hq2 : q2 < q) (f_X10_both : ZSt → Option (Int32 × ZSt)) (hf_X10_both : ∀ (σ : ZSt), zEvS g q2 yX10_both cX10_both 3 (some .int) [.ref 68] σ (f_X10_both σ)) : ∀ (n : Nat) (l1 : Int32) (σ : ZSt) (o2 : Option Value), Zo g (mX10_either g q) (fun b : Int32 × ZSt => (some (.int b.1), zw b.2)) (s_X10_either_L5 f_X10_both n l1 σ) 0 0 5 [some (.ref 68), some (.int l1), o2] [] (zw σ) := by
  intro n
  induction n with
  | zero => intros; exact Zo_none
  | succ n ih =>
    intro l1 σ o2
    rw [s_X10_either_L5]
    refine Zo_aload0 dX10_either_5 ?_
    refine Zo_bipush (124 : Int32) dX10_either_6 bp_124 ?_
    refine Zo_cVS1 lk_X10_258 (e_X10_takes g _ _) kd_68 (zFit_rm (by omega)) (zle rfl) dX10_either_8 fun r1 => ?_
    refine Zo_ifeq 36 dX10_either_11 (by decide) ?_ ?_
    · refine Zo_iload1 dX10_either_36 ?_
      exact Zo_iret dX10_either_37 rfl rfl (Nat.le_refl _) (Nat.le_refl _)
    · refine Zo_aload0 dX10_either_14 ?_
      refine Zo_cVS0 lk_X10_255 (hf_X10_both _) kd_68 (zFit_rm hq2) (zle rfl) dX10_either_15 fun r2 => ?_
      refine Zo_istore2 rfl (zlt rfl) dX10_either_18 ?_
      refine Zo_iload1 dX10_either_19 ?_
      refine Zo_ifne 27 dX10_either_20 (by decide) ?_ ?_
      · refine Zo_iconst (1 : Int32) dX10_either_27 ic_1 ?_
        refine Zo_goto 32 dX10_either_28 (by decide) ?_
        refine Zo_istore1 rfl (zlt rfl) dX10_either_32 ?_
        refine Zo_goto 5 dX10_either_33 (by decide) ?_
        exact ih _ _ _
      · refine Zo_iload2 dX10_either_23 ?_
        refine Zo_ifeq 31 dX10_either_24 (by decide) ?_ ?_
        · refine Zo_iconst (0 : Int32) dX10_either_31 ic_0 ?_
          refine Zo_istore1 rfl (zlt rfl) dX10_either_32 ?_
          refine Zo_goto 5 dX10_either_33 (by decide) ?_
          exact ih _ _ _
        · refine Zo_iconst (1 : Int32) dX10_either_27 ic_1 ?_
          refine Zo_goto 32 dX10_either_28 (by decide) ?_
          refine Zo_istore1 rfl (zlt rfl) dX10_either_32 ?_
          refine Zo_goto 5 dX10_either_33 (by decide) ?_
          exact ih _ _ _
def s_X10_either (f_X10_both : ZSt → Option (Int32 × ZSt)) (σ : ZSt) : Option (Int32 × ZSt) :=
  (f_X10_both σ).bind fun r1 => (s_X10_either_L5 f_X10_both 200 r1.1 r1.2)
set_option maxHeartbeats 4000000 in
set_option maxRecDepth 100000 in
theorem z_X10_either (g : ZG) (q : Nat) (hq : 2 < q) (q2 : Nat) (hq2 : q2 < q) (f_X10_both : ZSt → Option (Int32 × ZSt)) (hf_X10_both : ∀ (σ : ZSt), zEvS g q2 yX10_both cX10_both 3 (some .int) [.ref 68] σ (f_X10_both σ)) (σ : ZSt) : Zo g (mX10_either g q) (fun b : Int32 × ZSt => (some (.int b.1), zw b.2)) (s_X10_either f_X10_both σ) 0 0 0 [some (.ref 68), none, none] [] (zw σ) := by
  unfold s_X10_either
  refine Zo_aload0 dX10_either_0 ?_
  refine Zo_cVS0 lk_X10_255 (hf_X10_both _) kd_68 (zFit_rm hq2) (zle rfl) dX10_either_1 fun r1 => ?_
  refine Zo_istore1 rfl (zlt rfl) dX10_either_4 ?_
  exact z_X10_either_L5 g q hq q2 hq2 f_X10_both hf_X10_both _ _ _ _
theorem e_X10_either (g : ZG) (q : Nat) (hq : 2 < q) (q2 : Nat) (hq2 : q2 < q) (f_X10_both : ZSt → Option (Int32 × ZSt)) (hf_X10_both : ∀ (σ : ZSt), zEvS g q2 yX10_both cX10_both 3 (some .int) [.ref 68] σ (f_X10_both σ)) (σ : ZSt) : zEvS g q yX10_either cX10_either 3 (some .int) [.ref 68] σ (s_X10_either f_X10_both σ) :=
  zEvS_of 2 rfl rfl (z_X10_either g q hq q2 hq2 f_X10_both hf_X10_both σ)
def R_X10_both_compared_either_one_product_sums : Nat → (ZSt → Option (Int32 × ZSt)) × (ZSt → Option (Int32 × ZSt)) × (ZSt → Option (Int32 × ZSt)) × (ZSt → Option (Int32 × ZSt)) × (ZSt → Option (Int32 × ZSt)) × (ZSt → Option (Int32 × ZSt))
  | 0 => (fun _ => none, fun _ => none, fun _ => none, fun _ => none, fun _ => none, fun _ => none)
  | d + 1 => (s_X10_both ((R_X10_both_compared_either_one_product_sums d).2.1), s_X10_compared ((R_X10_both_compared_either_one_product_sums d).2.2.2.2.2), s_X10_either ((R_X10_both_compared_either_one_product_sums d).1), s_X10_one ((R_X10_both_compared_either_one_product_sums d).2.2.1) ((R_X10_both_compared_either_one_product_sums d).2.2.2.1), s_X10_product ((R_X10_both_compared_either_one_product_sums d).2.2.2.1), s_X10_sums ((R_X10_both_compared_either_one_product_sums d).2.2.2.2.1))
def rd_X10_both (d : Nat) : ZSt → Option (Int32 × ZSt) := (R_X10_both_compared_either_one_product_sums d).1
abbrev r_X10_both : ZSt → Option (Int32 × ZSt) := rd_X10_both 64
def rd_X10_compared (d : Nat) : ZSt → Option (Int32 × ZSt) := (R_X10_both_compared_either_one_product_sums d).2.1
abbrev r_X10_compared : ZSt → Option (Int32 × ZSt) := rd_X10_compared 64
def rd_X10_either (d : Nat) : ZSt → Option (Int32 × ZSt) := (R_X10_both_compared_either_one_product_sums d).2.2.1
abbrev r_X10_either : ZSt → Option (Int32 × ZSt) := rd_X10_either 64
def rd_X10_one (d : Nat) : ZSt → Option (Int32 × ZSt) := (R_X10_both_compared_either_one_product_sums d).2.2.2.1
abbrev r_X10_one : ZSt → Option (Int32 × ZSt) := rd_X10_one 64
def rd_X10_product (d : Nat) : ZSt → Option (Int32 × ZSt) := (R_X10_both_compared_either_one_product_sums d).2.2.2.2.1
abbrev r_X10_product : ZSt → Option (Int32 × ZSt) := rd_X10_product 64
def rd_X10_sums (d : Nat) : ZSt → Option (Int32 × ZSt) := (R_X10_both_compared_either_one_product_sums d).2.2.2.2.2
abbrev r_X10_sums : ZSt → Option (Int32 × ZSt) := rd_X10_sums 64
theorem et_X10_both_compared_either_one_product_sums (g : ZG) : ∀ d : Nat, (∀ (σ : ZSt), zEvS g (3 + d) yX10_both cX10_both 3 (some .int) [.ref 68] σ (rd_X10_both d σ)) ∧ (∀ (σ : ZSt), zEvS g (3 + d) yX10_compared cX10_compared 4 (some .int) [.ref 68] σ (rd_X10_compared d σ)) ∧ (∀ (σ : ZSt), zEvS g (3 + d) yX10_either cX10_either 3 (some .int) [.ref 68] σ (rd_X10_either d σ)) ∧ (∀ (σ : ZSt), zEvS g (3 + d) yX10_one cX10_one 5 (some .int) [.ref 68] σ (rd_X10_one d σ)) ∧ (∀ (σ : ZSt), zEvS g (3 + d) yX10_product cX10_product 4 (some .int) [.ref 68] σ (rd_X10_product d σ)) ∧ (∀ (σ : ZSt), zEvS g (3 + d) yX10_sums cX10_sums 4 (some .int) [.ref 68] σ (rd_X10_sums d σ)) := by
  intro d
  induction d with
  | zero => exact ⟨(by intros; intro b hb; exact absurd hb (fun h => by cases h)), (by intros; intro b hb; exact absurd hb (fun h => by cases h)), (by intros; intro b hb; exact absurd hb (fun h => by cases h)), (by intros; intro b hb; exact absurd hb (fun h => by cases h)), (by intros; intro b hb; exact absurd hb (fun h => by cases h)), (by intros; intro b hb; exact absurd hb (fun h => by cases h))⟩
  | succ d ih =>
    obtain ⟨h0, h1, h2, h3, h4, h5⟩ := ih
    exact ⟨fun σ => e_X10_both g _ (by omega) (3 + d) (by omega) _ h1 σ, fun σ => e_X10_compared g _ (by omega) (3 + d) (by omega) _ h5 σ, fun σ => e_X10_either g _ (by omega) (3 + d) (by omega) _ h0 σ, fun σ => e_X10_one g _ (by omega) (3 + d) (by omega) _ h2 _ h3 σ, fun σ => e_X10_product g _ (by omega) (3 + d) (by omega) _ h3 σ, fun σ => e_X10_sums g _ (by omega) (3 + d) (by omega) _ h4 σ⟩
theorem er_X10_both (g : ZG) (σ : ZSt) : zEvS g 67 yX10_both cX10_both 3 (some .int) [.ref 68] σ (r_X10_both σ) := (et_X10_both_compared_either_one_product_sums g 64).1 σ
theorem er_X10_compared (g : ZG) (σ : ZSt) : zEvS g 67 yX10_compared cX10_compared 4 (some .int) [.ref 68] σ (r_X10_compared σ) := (et_X10_both_compared_either_one_product_sums g 64).2.1 σ
theorem er_X10_either (g : ZG) (σ : ZSt) : zEvS g 67 yX10_either cX10_either 3 (some .int) [.ref 68] σ (r_X10_either σ) := (et_X10_both_compared_either_one_product_sums g 64).2.2.1 σ
theorem er_X10_one (g : ZG) (σ : ZSt) : zEvS g 67 yX10_one cX10_one 5 (some .int) [.ref 68] σ (r_X10_one σ) := (et_X10_both_compared_either_one_product_sums g 64).2.2.2.1 σ
theorem er_X10_product (g : ZG) (σ : ZSt) : zEvS g 67 yX10_product cX10_product 4 (some .int) [.ref 68] σ (r_X10_product σ) := (et_X10_both_compared_either_one_product_sums g 64).2.2.2.2.1 σ
theorem er_X10_sums (g : ZG) (σ : ZSt) : zEvS g 67 yX10_sums cX10_sums 4 (some .int) [.ref 68] σ (r_X10_sums σ) := (et_X10_both_compared_either_one_product_sums g 64).2.2.2.2.2 σ
abbrev mX10_workOut (g : ZG) (q : Nat) : ZM := (yX10_workOut, cX10_workOut, 8, (some .int), zRm q 0 0, zTg g 0 0)
def s_X10_workOut_C74 (k33 : Int32 → Int32 → Int32 → ZSt → Option (Int32 × ZSt)) (l3 : Int32) (l4 : Int32) (l6 : Int32) (l7 : Int32) (σ : ZSt) : Option (Int32 × ZSt) :=
  if (0 : Int32) ≤ (σ.1 68 25) then ((s_X10_takes (59 : Int32) σ).bind fun r1 => (k33 l3 l4 r1.1 r1.2))
    else (if l7 = (0 : Int32) then ((s_X10_takes (59 : Int32) σ).bind fun r2 => (k33 l3 l4 r2.1 r2.2))
      else (if l3 = (0 : Int32) then ((s_X10_takes (59 : Int32) σ).bind fun r4 => (k33 (1 : Int32) l6 r4.1 r4.2))
        else ((s_X10_takes (59 : Int32) σ).bind fun r3 => (k33 l3 l4 r3.1 r3.2))))
set_option maxHeartbeats 4000000 in
set_option maxRecDepth 100000 in
theorem z_X10_workOut_C74 (g : ZG) (k33 : Int32 → Int32 → Int32 → ZSt → Option (Int32 × ZSt)) (l3 : Int32) (l4 : Int32) (l6 : Int32) (l7 : Int32) (σ : ZSt) (hk33 : ∀ (x3 : Int32) (x4 : Int32) (x5 : Int32) (σx : ZSt) (d1 d2 d6 d7 : Option Value), Zo g (mX10_workOut g 68) (fun b : Int32 × ZSt => (some (.int b.1), zw b.2)) (k33 x3 x4 x5 σx) 0 0 33 [some (.ref 68), d1, d2, some (.int x3), some (.int x4), some (.int x5), d6, d7] [] (zw σx)) (o1 : Option Value) (o2 : Option Value) (o5 : Option Value) : Zo g (mX10_workOut g 68) (fun b : Int32 × ZSt => (some (.int b.1), zw b.2)) (s_X10_workOut_C74 k33 l3 l4 l6 l7 σ) 0 0 74 [some (.ref 68), o1, o2, some (.int l3), some (.int l4), o5, some (.int l6), some (.int l7)] [] (zw σ) := by
  unfold s_X10_workOut_C74
  refine Zo_aload0 dX10_workOut_74 ?_
  refine Zo_geti fl_X10_248 kd_68 dX10_workOut_75 ?_
  refine Zo_ifge 96 dX10_workOut_78 (by decide) ?_ ?_
  · refine Zo_aload0 dX10_workOut_96 ?_
    refine Zo_bipush (59 : Int32) dX10_workOut_97 bp_59 ?_
    refine Zo_cVS1 lk_X10_258 (e_X10_takes g _ _) kd_68 (zFit_rm (by decide)) (zle rfl) dX10_workOut_99 fun r1 => ?_
    refine Zo_istore5 rfl (zlt rfl) dX10_workOut_102 ?_
    refine Zo_goto 33 dX10_workOut_104 (by decide) ?_
    exact hk33 _ _ _ _ _ _ _ _
  · refine Zo_iload7 dX10_workOut_81 ?_
    refine Zo_ifeq 96 dX10_workOut_83 (by decide) ?_ ?_
    · refine Zo_aload0 dX10_workOut_96 ?_
      refine Zo_bipush (59 : Int32) dX10_workOut_97 bp_59 ?_
      refine Zo_cVS1 lk_X10_258 (e_X10_takes g _ _) kd_68 (zFit_rm (by decide)) (zle rfl) dX10_workOut_99 fun r2 => ?_
      refine Zo_istore5 rfl (zlt rfl) dX10_workOut_102 ?_
      refine Zo_goto 33 dX10_workOut_104 (by decide) ?_
      exact hk33 _ _ _ _ _ _ _ _
    · refine Zo_iload3 dX10_workOut_86 ?_
      refine Zo_ifne 96 dX10_workOut_87 (by decide) ?_ ?_
      · refine Zo_aload0 dX10_workOut_96 ?_
        refine Zo_bipush (59 : Int32) dX10_workOut_97 bp_59 ?_
        refine Zo_cVS1 lk_X10_258 (e_X10_takes g _ _) kd_68 (zFit_rm (by decide)) (zle rfl) dX10_workOut_99 fun r3 => ?_
        refine Zo_istore5 rfl (zlt rfl) dX10_workOut_102 ?_
        refine Zo_goto 33 dX10_workOut_104 (by decide) ?_
        exact hk33 _ _ _ _ _ _ _ _
      · refine Zo_iconst (1 : Int32) dX10_workOut_90 ic_1 ?_
        refine Zo_drop2 ?_
        refine Zo_istore3 rfl (zlt rfl) dX10_workOut_91 ?_
        refine Zo_iload6 dX10_workOut_92 ?_
        refine Zo_istore4 rfl (zlt rfl) dX10_workOut_94 ?_
        refine Zo_aload0 dX10_workOut_96 ?_
        refine Zo_bipush (59 : Int32) dX10_workOut_97 bp_59 ?_
        refine Zo_cVS1 lk_X10_258 (e_X10_takes g _ _) kd_68 (zFit_rm (by decide)) (zle rfl) dX10_workOut_99 fun r4 => ?_
        show Zo g _ _ _ 0 0 102 _ _ _
        refine Zo_istore5 rfl (zlt rfl) dX10_workOut_102 ?_
        refine Zo_goto 33 dX10_workOut_104 (by decide) ?_
        exact hk33 _ _ _ _ _ _ _ _
def s_X10_workOut_C107 (l4 : Int32) (σ : ZSt) : Option (Int32 × ZSt) :=
  if (0 : Int32) ≤ (σ.1 68 25) then (some (l4, σ))
    else (if (σ.1 68 24) ≤ (σ.1 68 23) then (some (l4, σ))
      else ((s_X10_wrong σ).bind fun r1 => (some (r1.1, r1.2))))
set_option maxHeartbeats 4000000 in
set_option maxRecDepth 100000 in
theorem z_X10_workOut_C107 (g : ZG) (l4 : Int32) (σ : ZSt) (o1 : Option Value) (o2 : Option Value) (o3 : Option Value) (o5 : Option Value) (o6 : Option Value) (o7 : Option Value) : Zo g (mX10_workOut g 68) (fun b : Int32 × ZSt => (some (.int b.1), zw b.2)) (s_X10_workOut_C107 l4 σ) 0 0 107 [some (.ref 68), o1, o2, o3, some (.int l4), o5, o6, o7] [] (zw σ) := by
  unfold s_X10_workOut_C107
  refine Zo_aload0 dX10_workOut_107 ?_
  refine Zo_geti fl_X10_248 kd_68 dX10_workOut_108 ?_
  refine Zo_ifge 130 dX10_workOut_111 (by decide) ?_ ?_
  · refine Zo_iload4 dX10_workOut_130 ?_
    exact Zo_iret dX10_workOut_132 rfl rfl (Nat.le_refl _) (Nat.le_refl _)
  · refine Zo_aload0 dX10_workOut_114 ?_
    refine Zo_geti fl_X10_239 kd_68 dX10_workOut_115 ?_
    refine Zo_aload0 dX10_workOut_118 ?_
    refine Zo_geti fl_X10_242 kd_68 dX10_workOut_119 ?_
    refine Zo_icmpge 130 dX10_workOut_122 (by decide) ?_ ?_
    · refine Zo_iload4 dX10_workOut_130 ?_
      exact Zo_iret dX10_workOut_132 rfl rfl (Nat.le_refl _) (Nat.le_refl _)
    · refine Zo_aload0 dX10_workOut_125 ?_
      refine Zo_cVS0 lk_X10_276 (e_X10_wrong g _) kd_68 (zFit_rm (by decide)) (zle rfl) dX10_workOut_126 fun r1 => ?_
      exact Zo_iret dX10_workOut_129 rfl rfl (Nat.le_refl _) (Nat.le_refl _)
def s_X10_workOut_L33 : Nat → Int32 → Int32 → Int32 → ZSt → Option (Int32 × ZSt)
  | 0, _, _, _, _ => none
  | n + 1, l3, l4, l5, σ =>
    if l5 = (0 : Int32) then (s_X10_workOut_C107 l4 σ)
      else ((r_X10_either σ).bind fun r1 => ((s_X10_takes (63 : Int32) r1.2).bind fun r2 => (if r2.1 = (0 : Int32) then (s_X10_workOut_C74 (s_X10_workOut_L33 n) l3 l4 r1.1 (1 : Int32) r2.2)
        else (if r1.1 = (0 : Int32) then ((r_X10_either r2.2).bind fun r3 => (s_X10_workOut_C74 (s_X10_workOut_L33 n) l3 l4 r3.1 (0 : Int32) r3.2))
          else ((r_X10_either r2.2).bind fun r4 => (s_X10_workOut_C74 (s_X10_workOut_L33 n) l3 l4 r4.1 (1 : Int32) r4.2))))))
set_option maxHeartbeats 4000000 in
set_option maxRecDepth 100000 in
theorem z_X10_workOut_L33 (g : ZG) : ∀ (n : Nat) (l3 : Int32) (l4 : Int32) (l5 : Int32) (σ : ZSt) (o1 o2 o6 o7 : Option Value), Zo g (mX10_workOut g 68) (fun b : Int32 × ZSt => (some (.int b.1), zw b.2)) (s_X10_workOut_L33 n l3 l4 l5 σ) 0 0 33 [some (.ref 68), o1, o2, some (.int l3), some (.int l4), some (.int l5), o6, o7] [] (zw σ) := by
  intro n
  induction n with
  | zero => intros; exact Zo_none
  | succ n ih =>
    intro l3 l4 l5 σ o1 o2 o6 o7
    rw [s_X10_workOut_L33]
    refine Zo_iload5 dX10_workOut_33 ?_
    refine Zo_ifeq 107 dX10_workOut_35 (by decide) ?_ ?_
    · exact z_X10_workOut_C107 g _ _ _ _ _ _ _ _
    · refine Zo_aload0 dX10_workOut_38 ?_
      refine Zo_cVS0 lk_X10_279 (er_X10_either g _) kd_68 (zFit_rm (by decide)) (zle rfl) dX10_workOut_39 fun r1 => ?_
      refine Zo_istore6 rfl (zlt rfl) dX10_workOut_42 ?_
      refine Zo_iconst (1 : Int32) dX10_workOut_44 ic_1 ?_
      refine Zo_istore7 rfl (zlt rfl) dX10_workOut_45 ?_
      refine Zo_aload0 dX10_workOut_47 ?_
      refine Zo_bipush (63 : Int32) dX10_workOut_48 bp_63 ?_
      show Zo g _ _ _ 0 0 50 _ _ _
      refine Zo_cVS1 lk_X10_258 (e_X10_takes g _ _) kd_68 (zFit_rm (by decide)) (zle rfl) dX10_workOut_50 fun r2 => ?_
      refine Zo_ifeq 74 dX10_workOut_53 (by decide) ?_ ?_
      · exact z_X10_workOut_C74 g (s_X10_workOut_L33 n) _ _ _ _ _ ih _ _ _
      · refine Zo_iload6 dX10_workOut_56 ?_
        refine Zo_ifeq 65 dX10_workOut_58 (by decide) ?_ ?_
        · refine Zo_iconst (0 : Int32) dX10_workOut_65 ic_0 ?_
          refine Zo_istore7 rfl (zlt rfl) dX10_workOut_66 ?_
          refine Zo_aload0 dX10_workOut_68 ?_
          refine Zo_cVS0 lk_X10_279 (er_X10_either g _) kd_68 (zFit_rm (by decide)) (zle rfl) dX10_workOut_69 fun r3 => ?_
          refine Zo_istore6 rfl (zlt rfl) dX10_workOut_72 ?_
          exact z_X10_workOut_C74 g (s_X10_workOut_L33 n) _ _ _ _ _ ih _ _ _
        · refine Zo_iconst (1 : Int32) dX10_workOut_61 ic_1 ?_
          refine Zo_goto 66 dX10_workOut_62 (by decide) ?_
          refine Zo_istore7 rfl (zlt rfl) dX10_workOut_66 ?_
          refine Zo_aload0 dX10_workOut_68 ?_
          refine Zo_cVS0 lk_X10_279 (er_X10_either g _) kd_68 (zFit_rm (by decide)) (zle rfl) dX10_workOut_69 fun r4 => ?_
          refine Zo_istore6 rfl (zlt rfl) dX10_workOut_72 ?_
          exact z_X10_workOut_C74 g (s_X10_workOut_L33 n) _ _ _ _ _ ih _ _ _
def s_X10_workOut (p0 : Int32) (p1 : Int32) (σ : ZSt) : Option (Int32 × ZSt) :=
  zSt' (zWD σ 68 22 p0) fun σ1 => (zSt' (zWD σ1 68 23 (0 : Int32)) fun σ2 => (zSt' (zWD σ2 68 24 p1) fun σ3 => (zSt' (zWD σ3 68 25 (-1 : Int32)) fun σ4 => (zSt' (zWD σ4 68 26 (0 : Int32)) fun σ5 => (s_X10_workOut_L33 200 (0 : Int32) (0 : Int32) (1 : Int32) σ5)))))
set_option maxHeartbeats 4000000 in
set_option maxRecDepth 100000 in
theorem z_X10_workOut (g : ZG) (p0 : Int32) (p1 : Int32) (σ : ZSt) : Zo g (mX10_workOut g 68) (fun b : Int32 × ZSt => (some (.int b.1), zw b.2)) (s_X10_workOut p0 p1 σ) 0 0 0 [some (.ref 68), some (.int p0), some (.int p1), none, none, none, none, none] [] (zw σ) := by
  unfold s_X10_workOut
  refine Zo_aload0 dX10_workOut_0 ?_
  refine Zo_iload1 dX10_workOut_1 ?_
  refine Zo_puti fl_X10_245 kd_68 dX10_workOut_2 fun σ1 => ?_
  refine Zo_aload0 dX10_workOut_5 ?_
  refine Zo_iconst (0 : Int32) dX10_workOut_6 ic_0 ?_
  refine Zo_puti fl_X10_239 kd_68 dX10_workOut_7 fun σ2 => ?_
  refine Zo_aload0 dX10_workOut_10 ?_
  show Zo g _ _ _ 0 0 11 _ _ _
  refine Zo_iload2 dX10_workOut_11 ?_
  refine Zo_puti fl_X10_242 kd_68 dX10_workOut_12 fun σ3 => ?_
  refine Zo_aload0 dX10_workOut_15 ?_
  refine Zo_iconst (-1 : Int32) dX10_workOut_16 ic_m1 ?_
  refine Zo_puti fl_X10_248 kd_68 dX10_workOut_17 fun σ4 => ?_
  refine Zo_aload0 dX10_workOut_20 ?_
  refine Zo_iconst (0 : Int32) dX10_workOut_21 ic_0 ?_
  refine Zo_puti fl_X10_273 kd_68 dX10_workOut_22 fun σ5 => ?_
  show Zo g _ _ _ 0 0 25 _ _ _
  refine Zo_iconst (0 : Int32) dX10_workOut_25 ic_0 ?_
  refine Zo_istore3 rfl (zlt rfl) dX10_workOut_26 ?_
  refine Zo_iconst (0 : Int32) dX10_workOut_27 ic_0 ?_
  refine Zo_istore4 rfl (zlt rfl) dX10_workOut_28 ?_
  refine Zo_iconst (1 : Int32) dX10_workOut_30 ic_1 ?_
  refine Zo_istore5 rfl (zlt rfl) dX10_workOut_31 ?_
  exact z_X10_workOut_L33 g _ _ _ _ _ _ _ _ _
theorem e_X10_workOut (g : ZG) (p0 : Int32) (p1 : Int32) (σ : ZSt) : zEvS g 68 yX10_workOut cX10_workOut 8 (some .int) [.ref 68, .int p0, .int p1] σ (s_X10_workOut p0 p1 σ) :=
  zEvS_of 5 rfl rfl (z_X10_workOut g p0 p1 σ)
abbrev mX10_law (g : ZG) (q : Nat) : ZM := (yX10_law, cX10_law, 4, (some .int), zRm q 0 0, zTg g 0 0)
def s_X10_law_C60 (l2 : Int32) (σ : ZSt) : Option (Int32 × ZSt) :=
  zSt' (zWD σ 68 21 l2) fun σ1 => (some ((1 : Int32), σ1))
set_option maxHeartbeats 4000000 in
set_option maxRecDepth 100000 in
theorem z_X10_law_C60 (g : ZG) (l2 : Int32) (σ : ZSt) (o1 : Option Value) (o3 : Option Value) : Zo g (mX10_law g 69) (fun b : Int32 × ZSt => (some (.int b.1), zw b.2)) (s_X10_law_C60 l2 σ) 0 0 60 [some (.ref 68), o1, some (.int l2), o3] [] (zw σ) := by
  unfold s_X10_law_C60
  refine Zo_aload0 dX10_law_60 ?_
  refine Zo_iload2 dX10_law_61 ?_
  refine Zo_puti fl_X10_104 kd_68 dX10_law_62 fun σ1 => ?_
  refine Zo_iconst (1 : Int32) dX10_law_65 ic_1 ?_
  exact Zo_iret dX10_law_66 rfl rfl (Nat.le_refl _) (Nat.le_refl _)
def s_X10_law_L37 (l2 : Int32) : Nat → Int32 → ZSt → Option (Int32 × ZSt)
  | 0, _, _ => none
  | n + 1, l3, σ =>
    if l2 ≤ l3 then (s_X10_law_C60 l2 σ)
      else (zLd (zIn l3 120) (σ.1 82 l3.toNatClampNeg) fun v1 => (zSg (zIn l3 120) (zWD σ 83 l3.toNatClampNeg v1) fun σ2 => (s_X10_law_L37 l2 n (l3 + (1 : Int32)) σ2)))
set_option maxHeartbeats 4000000 in
set_option maxRecDepth 100000 in
theorem z_X10_law_L37 (g : ZG) (l2 : Int32) : ∀ (n : Nat) (l3 : Int32) (σ : ZSt) (o1 : Option Value), Zo g (mX10_law g 69) (fun b : Int32 × ZSt => (some (.int b.1), zw b.2)) (s_X10_law_L37 l2 n l3 σ) 0 0 37 [some (.ref 68), o1, some (.int l2), some (.int l3)] [] (zw σ) := by
  intro n
  induction n with
  | zero => intros; exact Zo_none
  | succ n ih =>
    intro l3 σ o1
    rw [s_X10_law_L37]
    refine Zo_iload3 dX10_law_37 ?_
    refine Zo_iload2 dX10_law_38 ?_
    refine Zo_icmpge 60 dX10_law_39 (by decide) ?_ ?_
    · exact z_X10_law_C60 g _ _ _ _
    · refine Zo_aload0 dX10_law_42 ?_
      refine Zo_getr (j := 83) fl_X10_52 kd_68 rfl dX10_law_43 ?_
      refine Zo_iload3 dX10_law_46 ?_
      refine Zo_aload0 dX10_law_47 ?_
      refine Zo_getr (j := 82) fl_X10_49 kd_68 rfl dX10_law_48 ?_
      refine Zo_iload3 dX10_law_51 ?_
      refine Zo_iald kd_82 dX10_law_52 fun v1 => ?_
      show Zo g _ _ _ 0 0 53 _ _ _
      refine Zo_iast kd_83 dX10_law_53 fun σ2 => ?_
      refine Zo_iinc3 rfl (1 : Int32) ic_1 (zlt rfl) dX10_law_54 ?_
      refine Zo_goto 37 dX10_law_57 (by decide) ?_
      exact ih _ _ _
def s_X10_law (σ : ZSt) : Option (Int32 × ZSt) :=
  (s_X10_workOut (-1 : Int32) (σ.1 68 19) σ).bind fun r1 => (zSt' (zWD r1.2 68 19 (0 : Int32)) fun σ2 => (if (σ2.1 68 25) < (0 : Int32) then (s_X10_law_L37 (r1.2.1 68 19) 200 (0 : Int32) σ2)
    else (some (((-100 : Int32) - (σ2.1 68 25)), σ2))))
set_option maxHeartbeats 4000000 in
set_option maxRecDepth 100000 in
theorem z_X10_law (g : ZG) (σ : ZSt) : Zo g (mX10_law g 69) (fun b : Int32 × ZSt => (some (.int b.1), zw b.2)) (s_X10_law σ) 0 0 0 [some (.ref 68), none, none, none] [] (zw σ) := by
  unfold s_X10_law
  refine Zo_aload0 dX10_law_0 ?_
  refine Zo_iconst (-1 : Int32) dX10_law_1 ic_m1 ?_
  refine Zo_aload0 dX10_law_2 ?_
  refine Zo_geti fl_X10_236 kd_68 dX10_law_3 ?_
  refine Zo_cVS2 lk_X10_285 (e_X10_workOut g _ _ _) kd_68 (zFit_rm (by decide)) (zle rfl) dX10_law_6 fun r1 => ?_
  refine Zo_istore1 rfl (zlt rfl) dX10_law_9 ?_
  refine Zo_aload0 dX10_law_10 ?_
  show Zo g _ _ _ 0 0 11 _ _ _
  refine Zo_geti fl_X10_236 kd_68 dX10_law_11 ?_
  refine Zo_istore2 rfl (zlt rfl) dX10_law_14 ?_
  refine Zo_aload0 dX10_law_15 ?_
  refine Zo_iconst (0 : Int32) dX10_law_16 ic_0 ?_
  refine Zo_puti fl_X10_236 kd_68 dX10_law_17 fun σ2 => ?_
  refine Zo_aload0 dX10_law_20 ?_
  refine Zo_geti fl_X10_248 kd_68 dX10_law_21 ?_
  refine Zo_iflt 35 dX10_law_24 (by decide) ?_ ?_
  · refine Zo_iconst (0 : Int32) dX10_law_35 ic_0 ?_
    refine Zo_istore3 rfl (zlt rfl) dX10_law_36 ?_
    exact z_X10_law_L37 g _ _ _ _ _
  · refine Zo_bipush (-100 : Int32) dX10_law_27 bp_m100 ?_
    refine Zo_aload0 dX10_law_29 ?_
    refine Zo_geti fl_X10_248 kd_68 dX10_law_30 ?_
    refine Zo_isub dX10_law_33 ?_
    exact Zo_iret dX10_law_34 rfl rfl (Nat.le_refl _) (Nat.le_refl _)
theorem e_X10_law (g : ZG) (σ : ZSt) : zEvS g 69 yX10_law cX10_law 4 (some .int) [.ref 68] σ (s_X10_law σ) :=
  zEvS_of 3 rfl rfl (z_X10_law g σ)
abbrev mX10_worthOf (g : ZG) (q : Nat) : ZM := (yX10_worthOf, cX10_worthOf, 3, (some .int), zRm q 0 0, zTg g 0 0)
def s_X10_worthOf (p0 : Int32) (p1 : Int32) (σ : ZSt) : Option (Int32 × ZSt) :=
  if (0 : Int32) ≤ (σ.1 68 21) then ((s_X10_take p1 σ).bind fun r1 => (zSg (zIn (0 : Int32) 8) (zWD σ 84 (0 : Int32).toNatClampNeg r1) fun σ2 => (zLd (zIn p0 8) (σ2.1 79 p0.toNatClampNeg) fun v3 => (zSg (zIn (1 : Int32) 8) (zWD σ2 84 (1 : Int32).toNatClampNeg v3) fun σ4 => (zLd (zIn p1 6) (σ4.1 88 p1.toNatClampNeg) fun v5 => (zSg (zIn (2 : Int32) 8) (zWD σ4 84 (2 : Int32).toNatClampNeg v5) fun σ6 => (zLd (zIn p0 8) (σ6.1 80 p0.toNatClampNeg) fun v7 => (zSg (zIn (3 : Int32) 8) (zWD σ6 84 (3 : Int32).toNatClampNeg v7) fun σ8 => (zLd (zIn p1 6) (σ8.1 87 p1.toNatClampNeg) fun v9 => (zSg (zIn (4 : Int32) 8) (zWD σ8 84 (4 : Int32).toNatClampNeg v9) fun σ10 => (zLd (zIn p0 8) (σ10.1 78 p0.toNatClampNeg) fun v11 => (zSg (zIn (5 : Int32) 8) (zWD σ10 84 (5 : Int32).toNatClampNeg v11) fun σ12 => (zSg (zIn (6 : Int32) 8) (zWD σ12 84 (6 : Int32).toNatClampNeg p1) fun σ13 => (zLd (zIn p0 8) (σ13.1 86 p0.toNatClampNeg) fun v14 => (if v14 = p1 then (zSg (zIn (7 : Int32) 8) (zWD σ13 84 (7 : Int32).toNatClampNeg (1 : Int32)) fun σ17 => ((s_X10_workOut (0 : Int32) (σ17.1 68 21) σ17).bind fun r18 => (some (r18.1, r18.2))))
      else (zSg (zIn (7 : Int32) 8) (zWD σ13 84 (7 : Int32).toNatClampNeg (0 : Int32)) fun σ15 => ((s_X10_workOut (0 : Int32) (σ15.1 68 21) σ15).bind fun r16 => (some (r16.1, r16.2)))))))))))))))))))
    else ((s_X10_take p1 σ).bind fun r19 => (zLd (zIn p0 8) (σ.1 79 p0.toNatClampNeg) fun v20 => (zLd (zIn p1 6) (σ.1 87 p1.toNatClampNeg) fun v21 => (some (((r19 - v20) - ((10 : Int32) * v21)), σ)))))
set_option maxHeartbeats 4000000 in
set_option maxRecDepth 100000 in
theorem z_X10_worthOf (g : ZG) (p0 : Int32) (p1 : Int32) (σ : ZSt) : Zo g (mX10_worthOf g 69) (fun b : Int32 × ZSt => (some (.int b.1), zw b.2)) (s_X10_worthOf p0 p1 σ) 0 0 0 [some (.ref 68), some (.int p0), some (.int p1)] [] (zw σ) := by
  unfold s_X10_worthOf
  refine Zo_aload0 dX10_worthOf_0 ?_
  refine Zo_geti fl_X10_104 kd_68 dX10_worthOf_1 ?_
  refine Zo_ifge 30 dX10_worthOf_4 (by decide) ?_ ?_
  · refine Zo_aload0 dX10_worthOf_30 ?_
    refine Zo_getr (j := 84) fl_X10_55 kd_68 rfl dX10_worthOf_31 ?_
    refine Zo_iconst (0 : Int32) dX10_worthOf_34 ic_0 ?_
    refine Zo_aload0 dX10_worthOf_35 ?_
    refine Zo_iload2 dX10_worthOf_36 ?_
    refine Zo_cVI1 lk_X10_171 (e_X10_take g _ _) kd_68 (zFit_rm (by decide)) (zle rfl) dX10_worthOf_37 fun r1 => ?_
    refine Zo_iast kd_84 dX10_worthOf_40 fun σ2 => ?_
    show Zo g _ _ _ 0 0 41 _ _ _
    refine Zo_aload0 dX10_worthOf_41 ?_
    refine Zo_getr (j := 84) fl_X10_55 kd_68 rfl dX10_worthOf_42 ?_
    refine Zo_iconst (1 : Int32) dX10_worthOf_45 ic_1 ?_
    refine Zo_aload0 dX10_worthOf_46 ?_
    refine Zo_getr (j := 79) fl_X10_40 kd_68 rfl dX10_worthOf_47 ?_
    refine Zo_iload1 dX10_worthOf_50 ?_
    refine Zo_iald kd_79 dX10_worthOf_51 fun v3 => ?_
    refine Zo_iast kd_84 dX10_worthOf_52 fun σ4 => ?_
    show Zo g _ _ _ 0 0 53 _ _ _
    refine Zo_aload0 dX10_worthOf_53 ?_
    refine Zo_getr (j := 84) fl_X10_55 kd_68 rfl dX10_worthOf_54 ?_
    refine Zo_iconst (2 : Int32) dX10_worthOf_57 ic_2 ?_
    refine Zo_aload0 dX10_worthOf_58 ?_
    refine Zo_getr (j := 88) fl_X10_67 kd_68 rfl dX10_worthOf_59 ?_
    refine Zo_iload2 dX10_worthOf_62 ?_
    refine Zo_iald kd_88 dX10_worthOf_63 fun v5 => ?_
    refine Zo_iast kd_84 dX10_worthOf_64 fun σ6 => ?_
    show Zo g _ _ _ 0 0 65 _ _ _
    refine Zo_aload0 dX10_worthOf_65 ?_
    refine Zo_getr (j := 84) fl_X10_55 kd_68 rfl dX10_worthOf_66 ?_
    refine Zo_iconst (3 : Int32) dX10_worthOf_69 ic_3 ?_
    refine Zo_aload0 dX10_worthOf_70 ?_
    refine Zo_getr (j := 80) fl_X10_43 kd_68 rfl dX10_worthOf_71 ?_
    refine Zo_iload1 dX10_worthOf_74 ?_
    refine Zo_iald kd_80 dX10_worthOf_75 fun v7 => ?_
    refine Zo_iast kd_84 dX10_worthOf_76 fun σ8 => ?_
    show Zo g _ _ _ 0 0 77 _ _ _
    refine Zo_aload0 dX10_worthOf_77 ?_
    refine Zo_getr (j := 84) fl_X10_55 kd_68 rfl dX10_worthOf_78 ?_
    refine Zo_iconst (4 : Int32) dX10_worthOf_81 ic_4 ?_
    refine Zo_aload0 dX10_worthOf_82 ?_
    refine Zo_getr (j := 87) fl_X10_64 kd_68 rfl dX10_worthOf_83 ?_
    refine Zo_iload2 dX10_worthOf_86 ?_
    refine Zo_iald kd_87 dX10_worthOf_87 fun v9 => ?_
    refine Zo_iast kd_84 dX10_worthOf_88 fun σ10 => ?_
    show Zo g _ _ _ 0 0 89 _ _ _
    refine Zo_aload0 dX10_worthOf_89 ?_
    refine Zo_getr (j := 84) fl_X10_55 kd_68 rfl dX10_worthOf_90 ?_
    refine Zo_iconst (5 : Int32) dX10_worthOf_93 ic_5 ?_
    refine Zo_aload0 dX10_worthOf_94 ?_
    refine Zo_getr (j := 78) fl_X10_37 kd_68 rfl dX10_worthOf_95 ?_
    refine Zo_iload1 dX10_worthOf_98 ?_
    refine Zo_iald kd_78 dX10_worthOf_99 fun v11 => ?_
    refine Zo_iast kd_84 dX10_worthOf_100 fun σ12 => ?_
    show Zo g _ _ _ 0 0 101 _ _ _
    refine Zo_aload0 dX10_worthOf_101 ?_
    refine Zo_getr (j := 84) fl_X10_55 kd_68 rfl dX10_worthOf_102 ?_
    refine Zo_bipush (6 : Int32) dX10_worthOf_105 bp_6 ?_
    refine Zo_iload2 dX10_worthOf_107 ?_
    refine Zo_iast kd_84 dX10_worthOf_108 fun σ13 => ?_
    refine Zo_aload0 dX10_worthOf_109 ?_
    refine Zo_getr (j := 84) fl_X10_55 kd_68 rfl dX10_worthOf_110 ?_
    refine Zo_bipush (7 : Int32) dX10_worthOf_113 bp_7 ?_
    show Zo g _ _ _ 0 0 115 _ _ _
    refine Zo_aload0 dX10_worthOf_115 ?_
    refine Zo_getr (j := 86) fl_X10_61 kd_68 rfl dX10_worthOf_116 ?_
    refine Zo_iload1 dX10_worthOf_119 ?_
    refine Zo_iald kd_86 dX10_worthOf_120 fun v14 => ?_
    refine Zo_iload2 dX10_worthOf_121 ?_
    refine Zo_icmpne 129 dX10_worthOf_122 (by decide) ?_ ?_
    · refine Zo_iconst (0 : Int32) dX10_worthOf_129 ic_0 ?_
      refine Zo_iast kd_84 dX10_worthOf_130 fun σ15 => ?_
      refine Zo_aload0 dX10_worthOf_131 ?_
      refine Zo_iconst (0 : Int32) dX10_worthOf_132 ic_0 ?_
      refine Zo_aload0 dX10_worthOf_133 ?_
      refine Zo_geti fl_X10_104 kd_68 dX10_worthOf_134 ?_
      refine Zo_cVS2 lk_X10_285 (e_X10_workOut g _ _ _) kd_68 (zFit_rm (by decide)) (zle rfl) dX10_worthOf_137 fun r16 => ?_
      show Zo g _ _ _ 0 0 140 _ _ _
      exact Zo_iret dX10_worthOf_140 rfl rfl (Nat.le_refl _) (Nat.le_refl _)
    · refine Zo_iconst (1 : Int32) dX10_worthOf_125 ic_1 ?_
      refine Zo_goto 130 dX10_worthOf_126 (by decide) ?_
      refine Zo_iast kd_84 dX10_worthOf_130 fun σ17 => ?_
      refine Zo_aload0 dX10_worthOf_131 ?_
      refine Zo_iconst (0 : Int32) dX10_worthOf_132 ic_0 ?_
      refine Zo_aload0 dX10_worthOf_133 ?_
      refine Zo_geti fl_X10_104 kd_68 dX10_worthOf_134 ?_
      show Zo g _ _ _ 0 0 137 _ _ _
      refine Zo_cVS2 lk_X10_285 (e_X10_workOut g _ _ _) kd_68 (zFit_rm (by decide)) (zle rfl) dX10_worthOf_137 fun r18 => ?_
      exact Zo_iret dX10_worthOf_140 rfl rfl (Nat.le_refl _) (Nat.le_refl _)
  · refine Zo_aload0 dX10_worthOf_7 ?_
    refine Zo_iload2 dX10_worthOf_8 ?_
    refine Zo_cVI1 lk_X10_171 (e_X10_take g _ _) kd_68 (zFit_rm (by decide)) (zle rfl) dX10_worthOf_9 fun r19 => ?_
    refine Zo_aload0 dX10_worthOf_12 ?_
    refine Zo_getr (j := 79) fl_X10_40 kd_68 rfl dX10_worthOf_13 ?_
    refine Zo_iload1 dX10_worthOf_16 ?_
    refine Zo_iald kd_79 dX10_worthOf_17 fun v20 => ?_
    show Zo g _ _ _ 0 0 18 _ _ _
    refine Zo_isub dX10_worthOf_18 ?_
    refine Zo_bipush (10 : Int32) dX10_worthOf_19 bp_10 ?_
    refine Zo_aload0 dX10_worthOf_21 ?_
    refine Zo_getr (j := 87) fl_X10_64 kd_68 rfl dX10_worthOf_22 ?_
    refine Zo_iload2 dX10_worthOf_25 ?_
    refine Zo_iald kd_87 dX10_worthOf_26 fun v21 => ?_
    refine Zo_imul dX10_worthOf_27 ?_
    refine Zo_isub dX10_worthOf_28 ?_
    show Zo g _ _ _ 0 0 29 _ _ _
    exact Zo_iret dX10_worthOf_29 rfl rfl (Nat.le_refl _) (Nat.le_refl _)
theorem e_X10_worthOf (g : ZG) (p0 : Int32) (p1 : Int32) (σ : ZSt) : zEvS g 69 yX10_worthOf cX10_worthOf 3 (some .int) [.ref 68, .int p0, .int p1] σ (s_X10_worthOf p0 p1 σ) :=
  zEvS_of 0 rfl rfl (z_X10_worthOf g p0 p1 σ)
abbrev mX10_countsThere (g : ZG) (q : Nat) : ZM := (yX10_countsThere, cX10_countsThere, 2, none, zRm q 0 0, zTg g 0 0)
def s_X10_countsThere_L25 : Nat → Int32 → ZSt → Option ZSt
  | 0, _, _ => none
  | n + 1, l1, σ =>
    if (σ.1 68 13) ≤ l1 then (some σ)
      else (zLd (zIn l1 8) (σ.1 85 l1.toNatClampNeg) fun v1 => (if v1 < (0 : Int32) then (s_X10_countsThere_L25 n (l1 + (1 : Int32)) σ)
        else (zLd (zIn l1 8) (σ.1 85 l1.toNatClampNeg) fun v2 => (zLd (zIn v2 6) (σ.1 87 v2.toNatClampNeg) fun v3 => (zSg (zIn v2 6) (zWD σ 87 v2.toNatClampNeg (v3 + (1 : Int32))) fun σ4 => (s_X10_countsThere_L25 n (l1 + (1 : Int32)) σ4))))))
set_option maxHeartbeats 4000000 in
set_option maxRecDepth 100000 in
theorem z_X10_countsThere_L25 (g : ZG) : ∀ (n : Nat) (l1 : Int32) (σ : ZSt), Zo g (mX10_countsThere g 0) (fun b : ZSt => (none, zw b)) (s_X10_countsThere_L25 n l1 σ) 0 0 25 [some (.ref 68), some (.int l1)] [] (zw σ) := by
  intro n
  induction n with
  | zero => intros; exact Zo_none
  | succ n ih =>
    intro l1 σ
    rw [s_X10_countsThere_L25]
    refine Zo_iload1 dX10_countsThere_25 ?_
    refine Zo_aload0 dX10_countsThere_26 ?_
    refine Zo_geti fl_X10_127 kd_68 dX10_countsThere_27 ?_
    refine Zo_icmpge 63 dX10_countsThere_30 (by decide) ?_ ?_
    · exact Zo_vret dX10_countsThere_63 rfl rfl (Nat.le_refl _) (Nat.le_refl _)
    · refine Zo_aload0 dX10_countsThere_33 ?_
      refine Zo_getr (j := 85) fl_X10_58 kd_68 rfl dX10_countsThere_34 ?_
      refine Zo_iload1 dX10_countsThere_37 ?_
      refine Zo_iald kd_85 dX10_countsThere_38 fun v1 => ?_
      refine Zo_iflt 57 dX10_countsThere_39 (by decide) ?_ ?_
      · refine Zo_iinc1 rfl (1 : Int32) ic_1 (zlt rfl) dX10_countsThere_57 ?_
        refine Zo_goto 25 dX10_countsThere_60 (by decide) ?_
        exact ih _ _
      · refine Zo_aload0 dX10_countsThere_42 ?_
        refine Zo_getr (j := 87) fl_X10_64 kd_68 rfl dX10_countsThere_43 ?_
        refine Zo_aload0 dX10_countsThere_46 ?_
        refine Zo_getr (j := 85) fl_X10_58 kd_68 rfl dX10_countsThere_47 ?_
        refine Zo_iload1 dX10_countsThere_50 ?_
        refine Zo_iald kd_85 dX10_countsThere_51 fun v2 => ?_
        refine Zo_dup2 dX10_countsThere_52 rfl rfl ?_
        show Zo g _ _ _ 0 0 53 _ _ _
        refine Zo_iald kd_87 dX10_countsThere_53 fun v3 => ?_
        refine Zo_iconst (1 : Int32) dX10_countsThere_54 ic_1 ?_
        refine Zo_iadd dX10_countsThere_55 ?_
        refine Zo_iast kd_87 dX10_countsThere_56 fun σ4 => ?_
        refine Zo_iinc1 rfl (1 : Int32) ic_1 (zlt rfl) dX10_countsThere_57 ?_
        refine Zo_goto 25 dX10_countsThere_60 (by decide) ?_
        exact ih _ _
def s_X10_countsThere_L2 : Nat → Int32 → ZSt → Option ZSt
  | 0, _, _ => none
  | n + 1, l1, σ =>
    if (σ.1 68 6) ≤ l1 then (s_X10_countsThere_L25 200 (0 : Int32) σ)
      else (zSg (zIn l1 6) (zWD σ 87 l1.toNatClampNeg (0 : Int32)) fun σ1 => (s_X10_countsThere_L2 n (l1 + (1 : Int32)) σ1))
set_option maxHeartbeats 4000000 in
set_option maxRecDepth 100000 in
theorem z_X10_countsThere_L2 (g : ZG) : ∀ (n : Nat) (l1 : Int32) (σ : ZSt), Zo g (mX10_countsThere g 0) (fun b : ZSt => (none, zw b)) (s_X10_countsThere_L2 n l1 σ) 0 0 2 [some (.ref 68), some (.int l1)] [] (zw σ) := by
  intro n
  induction n with
  | zero => intros; exact Zo_none
  | succ n ih =>
    intro l1 σ
    rw [s_X10_countsThere_L2]
    refine Zo_iload1 dX10_countsThere_2 ?_
    refine Zo_aload0 dX10_countsThere_3 ?_
    refine Zo_geti fl_X10_117 kd_68 dX10_countsThere_4 ?_
    refine Zo_icmpge 23 dX10_countsThere_7 (by decide) ?_ ?_
    · refine Zo_iconst (0 : Int32) dX10_countsThere_23 ic_0 ?_
      refine Zo_istore1 rfl (zlt rfl) dX10_countsThere_24 ?_
      exact z_X10_countsThere_L25 g _ _ _
    · refine Zo_aload0 dX10_countsThere_10 ?_
      refine Zo_getr (j := 87) fl_X10_64 kd_68 rfl dX10_countsThere_11 ?_
      refine Zo_iload1 dX10_countsThere_14 ?_
      refine Zo_iconst (0 : Int32) dX10_countsThere_15 ic_0 ?_
      refine Zo_iast kd_87 dX10_countsThere_16 fun σ1 => ?_
      refine Zo_iinc1 rfl (1 : Int32) ic_1 (zlt rfl) dX10_countsThere_17 ?_
      refine Zo_goto 2 dX10_countsThere_20 (by decide) ?_
      exact ih _ _
def s_X10_countsThere (σ : ZSt) : Option ZSt :=
  s_X10_countsThere_L2 200 (0 : Int32) σ
set_option maxHeartbeats 4000000 in
set_option maxRecDepth 100000 in
theorem z_X10_countsThere (g : ZG) (σ : ZSt) : Zo g (mX10_countsThere g 0) (fun b : ZSt => (none, zw b)) (s_X10_countsThere σ) 0 0 0 [some (.ref 68), none] [] (zw σ) := by
  unfold s_X10_countsThere
  refine Zo_iconst (0 : Int32) dX10_countsThere_0 ic_0 ?_
  refine Zo_istore1 rfl (zlt rfl) dX10_countsThere_1 ?_
  exact z_X10_countsThere_L2 g _ _ _
theorem e_X10_countsThere (g : ZG) (σ : ZSt) : zEvV g 0 yX10_countsThere cX10_countsThere 2 none [.ref 68] σ (s_X10_countsThere σ) :=
  zEvV_of 1 rfl rfl (z_X10_countsThere g σ)
abbrev mX10_allGo (g : ZG) (q : Nat) : ZM := (yX10_allGo, cX10_allGo, 6, none, zRm q 0 0, zTg g 0 0)
def s_X10_allGo_C81 (k30 : Int32 → ZSt → Option ZSt) (l1 : Int32) (l2 : Int32) (σ : ZSt) : Option ZSt :=
  zSg (zIn l1 8) (zWD σ 85 l1.toNatClampNeg l2) fun σ1 => (k30 (l1 + (1 : Int32)) σ1)
set_option maxHeartbeats 4000000 in
set_option maxRecDepth 100000 in
theorem z_X10_allGo_C81 (g : ZG) (k30 : Int32 → ZSt → Option ZSt) (l1 : Int32) (l2 : Int32) (σ : ZSt) (hk30 : ∀ (x1 : Int32) (σx : ZSt) (d2 d3 d4 d5 : Option Value), Zo g (mX10_allGo g 70) (fun b : ZSt => (none, zw b)) (k30 x1 σx) 0 0 30 [some (.ref 68), some (.int x1), d2, d3, d4, d5] [] (zw σx)) (o3 : Option Value) (o4 : Option Value) (o5 : Option Value) : Zo g (mX10_allGo g 70) (fun b : ZSt => (none, zw b)) (s_X10_allGo_C81 k30 l1 l2 σ) 0 0 81 [some (.ref 68), some (.int l1), some (.int l2), o3, o4, o5] [] (zw σ) := by
  unfold s_X10_allGo_C81
  refine Zo_aload0 dX10_allGo_81 ?_
  refine Zo_getr (j := 85) fl_X10_58 kd_68 rfl dX10_allGo_82 ?_
  refine Zo_iload1 dX10_allGo_85 ?_
  refine Zo_iload2 dX10_allGo_86 ?_
  refine Zo_iast kd_85 dX10_allGo_87 fun σ1 => ?_
  refine Zo_iinc1 rfl (1 : Int32) ic_1 (zlt rfl) dX10_allGo_88 ?_
  refine Zo_goto 30 dX10_allGo_91 (by decide) ?_
  exact hk30 _ _ _ _ _ _
def s_X10_allGo_L45 (k30 : Int32 → ZSt → Option ZSt) (l1 : Int32) : Nat → Int32 → Int32 → Int32 → ZSt → Option ZSt
  | 0, _, _, _, _ => none
  | n + 1, l2, l3, l4, σ =>
    if (σ.1 68 6) ≤ l4 then (s_X10_allGo_C81 k30 l1 l2 σ)
      else ((s_X10_worthOf l1 l4 σ).bind fun r1 => (if r1.1 ≤ l3 then (s_X10_allGo_L45 k30 l1 n l2 l3 (l4 + (1 : Int32)) r1.2)
        else (s_X10_allGo_L45 k30 l1 n l4 r1.1 (l4 + (1 : Int32)) r1.2)))
set_option maxHeartbeats 4000000 in
set_option maxRecDepth 100000 in
theorem z_X10_allGo_L45 (g : ZG) (k30 : Int32 → ZSt → Option ZSt) (l1 : Int32) (hk30 : ∀ (x1 : Int32) (σx : ZSt) (d2 d3 d4 d5 : Option Value), Zo g (mX10_allGo g 70) (fun b : ZSt => (none, zw b)) (k30 x1 σx) 0 0 30 [some (.ref 68), some (.int x1), d2, d3, d4, d5] [] (zw σx)) : ∀ (n : Nat) (l2 : Int32) (l3 : Int32) (l4 : Int32) (σ : ZSt) (o5 : Option Value), Zo g (mX10_allGo g 70) (fun b : ZSt => (none, zw b)) (s_X10_allGo_L45 k30 l1 n l2 l3 l4 σ) 0 0 45 [some (.ref 68), some (.int l1), some (.int l2), some (.int l3), some (.int l4), o5] [] (zw σ) := by
  intro n
  induction n with
  | zero => intros; exact Zo_none
  | succ n ih =>
    intro l2 l3 l4 σ o5
    rw [s_X10_allGo_L45]
    refine Zo_iload4 dX10_allGo_45 ?_
    refine Zo_aload0 dX10_allGo_47 ?_
    refine Zo_geti fl_X10_117 kd_68 dX10_allGo_48 ?_
    refine Zo_icmpge 81 dX10_allGo_51 (by decide) ?_ ?_
    · exact z_X10_allGo_C81 g k30 _ _ _ hk30 _ _ _
    · refine Zo_aload0 dX10_allGo_54 ?_
      refine Zo_iload1 dX10_allGo_55 ?_
      refine Zo_iload4 dX10_allGo_56 ?_
      refine Zo_cVS2 lk_X10_288 (e_X10_worthOf g _ _ _) kd_68 (zFit_rm (by decide)) (zle rfl) dX10_allGo_58 fun r1 => ?_
      refine Zo_istore5 rfl (zlt rfl) dX10_allGo_61 ?_
      refine Zo_iload5 dX10_allGo_63 ?_
      refine Zo_iload3 dX10_allGo_65 ?_
      show Zo g _ _ _ 0 0 66 _ _ _
      refine Zo_icmple 75 dX10_allGo_66 (by decide) ?_ ?_
      · refine Zo_iinc4 rfl (1 : Int32) ic_1 (zlt rfl) dX10_allGo_75 ?_
        refine Zo_goto 45 dX10_allGo_78 (by decide) ?_
        exact ih _ _ _ _ _
      · refine Zo_iload4 dX10_allGo_69 ?_
        refine Zo_istore2 rfl (zlt rfl) dX10_allGo_71 ?_
        refine Zo_iload5 dX10_allGo_72 ?_
        refine Zo_istore3 rfl (zlt rfl) dX10_allGo_74 ?_
        refine Zo_iinc4 rfl (1 : Int32) ic_1 (zlt rfl) dX10_allGo_75 ?_
        refine Zo_goto 45 dX10_allGo_78 (by decide) ?_
        exact ih _ _ _ _ _
def s_X10_allGo_L30 : Nat → Int32 → ZSt → Option ZSt
  | 0, _, _ => none
  | n + 1, l1, σ =>
    if (σ.1 68 13) ≤ l1 then (some σ)
      else (s_X10_allGo_L45 (s_X10_allGo_L30 n) l1 200 (-1 : Int32) (0 : Int32) (0 : Int32) σ)
set_option maxHeartbeats 4000000 in
set_option maxRecDepth 100000 in
theorem z_X10_allGo_L30 (g : ZG) : ∀ (n : Nat) (l1 : Int32) (σ : ZSt) (o2 o3 o4 o5 : Option Value), Zo g (mX10_allGo g 70) (fun b : ZSt => (none, zw b)) (s_X10_allGo_L30 n l1 σ) 0 0 30 [some (.ref 68), some (.int l1), o2, o3, o4, o5] [] (zw σ) := by
  intro n
  induction n with
  | zero => intros; exact Zo_none
  | succ n ih =>
    intro l1 σ o2 o3 o4 o5
    rw [s_X10_allGo_L30]
    refine Zo_iload1 dX10_allGo_30 ?_
    refine Zo_aload0 dX10_allGo_31 ?_
    refine Zo_geti fl_X10_127 kd_68 dX10_allGo_32 ?_
    refine Zo_icmpge 94 dX10_allGo_35 (by decide) ?_ ?_
    · exact Zo_vret dX10_allGo_94 rfl rfl (Nat.le_refl _) (Nat.le_refl _)
    · refine Zo_iconst (-1 : Int32) dX10_allGo_38 ic_m1 ?_
      refine Zo_istore2 rfl (zlt rfl) dX10_allGo_39 ?_
      refine Zo_iconst (0 : Int32) dX10_allGo_40 ic_0 ?_
      refine Zo_istore3 rfl (zlt rfl) dX10_allGo_41 ?_
      refine Zo_iconst (0 : Int32) dX10_allGo_42 ic_0 ?_
      refine Zo_istore4 rfl (zlt rfl) dX10_allGo_43 ?_
      exact z_X10_allGo_L45 g (s_X10_allGo_L30 n) _ ih _ _ _ _ _ _
def s_X10_allGo_L2 : Nat → Int32 → ZSt → Option ZSt
  | 0, _, _ => none
  | n + 1, l1, σ =>
    if (σ.1 68 13) ≤ l1 then (s_X10_allGo_L30 200 (0 : Int32) σ)
      else (zLd (zIn l1 8) (σ.1 85 l1.toNatClampNeg) fun v1 => (zSg (zIn l1 8) (zWD σ 86 l1.toNatClampNeg v1) fun σ2 => (s_X10_allGo_L2 n (l1 + (1 : Int32)) σ2)))
set_option maxHeartbeats 4000000 in
set_option maxRecDepth 100000 in
theorem z_X10_allGo_L2 (g : ZG) : ∀ (n : Nat) (l1 : Int32) (σ : ZSt) (o2 o3 o4 o5 : Option Value), Zo g (mX10_allGo g 70) (fun b : ZSt => (none, zw b)) (s_X10_allGo_L2 n l1 σ) 0 0 2 [some (.ref 68), some (.int l1), o2, o3, o4, o5] [] (zw σ) := by
  intro n
  induction n with
  | zero => intros; exact Zo_none
  | succ n ih =>
    intro l1 σ o2 o3 o4 o5
    rw [s_X10_allGo_L2]
    refine Zo_iload1 dX10_allGo_2 ?_
    refine Zo_aload0 dX10_allGo_3 ?_
    refine Zo_geti fl_X10_127 kd_68 dX10_allGo_4 ?_
    refine Zo_icmpge 28 dX10_allGo_7 (by decide) ?_ ?_
    · refine Zo_iconst (0 : Int32) dX10_allGo_28 ic_0 ?_
      refine Zo_istore1 rfl (zlt rfl) dX10_allGo_29 ?_
      exact z_X10_allGo_L30 g _ _ _ _ _ _ _
    · refine Zo_aload0 dX10_allGo_10 ?_
      refine Zo_getr (j := 86) fl_X10_61 kd_68 rfl dX10_allGo_11 ?_
      refine Zo_iload1 dX10_allGo_14 ?_
      refine Zo_aload0 dX10_allGo_15 ?_
      refine Zo_getr (j := 85) fl_X10_58 kd_68 rfl dX10_allGo_16 ?_
      refine Zo_iload1 dX10_allGo_19 ?_
      refine Zo_iald kd_85 dX10_allGo_20 fun v1 => ?_
      show Zo g _ _ _ 0 0 21 _ _ _
      refine Zo_iast kd_86 dX10_allGo_21 fun σ2 => ?_
      refine Zo_iinc1 rfl (1 : Int32) ic_1 (zlt rfl) dX10_allGo_22 ?_
      refine Zo_goto 2 dX10_allGo_25 (by decide) ?_
      exact ih _ _ _ _ _ _
def s_X10_allGo (σ : ZSt) : Option ZSt :=
  s_X10_allGo_L2 200 (0 : Int32) σ
set_option maxHeartbeats 4000000 in
set_option maxRecDepth 100000 in
theorem z_X10_allGo (g : ZG) (σ : ZSt) : Zo g (mX10_allGo g 70) (fun b : ZSt => (none, zw b)) (s_X10_allGo σ) 0 0 0 [some (.ref 68), none, none, none, none, none] [] (zw σ) := by
  unfold s_X10_allGo
  refine Zo_iconst (0 : Int32) dX10_allGo_0 ic_0 ?_
  refine Zo_istore1 rfl (zlt rfl) dX10_allGo_1 ?_
  exact z_X10_allGo_L2 g _ _ _ _ _ _ _
theorem e_X10_allGo (g : ZG) (σ : ZSt) : zEvV g 70 yX10_allGo cX10_allGo 6 none [.ref 68] σ (s_X10_allGo σ) :=
  zEvV_of 5 rfl rfl (z_X10_allGo g σ)
abbrev mX10_theOne (g : ZG) (q : Nat) : ZM := (yX10_theOne, cX10_theOne, 4, (some .int), zRm q 0 0, zTg g 0 0)
def s_X10_theOne_L4 (l1 : Int32) (σ : ZSt) : Nat → Int32 → Int32 → Option Int32
  | 0, _, _ => none
  | n + 1, l2, l3 =>
    if (σ.1 68 13) ≤ l3 then (some l2)
      else (zLd (zIn l3 8) (σ.1 85 l3.toNatClampNeg) fun v1 => (if v1 = l1 then (if l2 < (0 : Int32) then (s_X10_theOne_L4 l1 σ n l3 (l3 + (1 : Int32)))
          else (zLd (zIn l1 6) (σ.1 74 l1.toNatClampNeg) fun v2 => (if v2 = (4 : Int32) then (zLd (zIn l3 8) (σ.1 78 l3.toNatClampNeg) fun v3 => (zLd (zIn l2 8) (σ.1 78 l2.toNatClampNeg) fun v4 => (if v3 ≤ v4 then (s_X10_theOne_L4 l1 σ n l2 (l3 + (1 : Int32)))
              else (s_X10_theOne_L4 l1 σ n l3 (l3 + (1 : Int32))))))
            else (s_X10_theOne_L4 l1 σ n l2 (l3 + (1 : Int32))))))
        else (s_X10_theOne_L4 l1 σ n l2 (l3 + (1 : Int32)))))
set_option maxHeartbeats 4000000 in
set_option maxRecDepth 100000 in
theorem z_X10_theOne_L4 (g : ZG) (l1 : Int32) (σ : ZSt) : ∀ (n : Nat) (l2 : Int32) (l3 : Int32), Zo g (mX10_theOne g 0) (fun b : Int32 => (some (.int b), zw σ)) (s_X10_theOne_L4 l1 σ n l2 l3) 0 0 4 [some (.ref 68), some (.int l1), some (.int l2), some (.int l3)] [] (zw σ) := by
  intro n
  induction n with
  | zero => intros; exact Zo_none
  | succ n ih =>
    intro l2 l3
    rw [s_X10_theOne_L4]
    refine Zo_iload3 dX10_theOne_4 ?_
    refine Zo_aload0 dX10_theOne_5 ?_
    refine Zo_geti fl_X10_127 kd_68 dX10_theOne_6 ?_
    refine Zo_icmpge 59 dX10_theOne_9 (by decide) ?_ ?_
    · refine Zo_iload2 dX10_theOne_59 ?_
      exact Zo_iret dX10_theOne_60 rfl rfl (Nat.le_refl _) (Nat.le_refl _)
    · refine Zo_aload0 dX10_theOne_12 ?_
      refine Zo_getr (j := 85) fl_X10_58 kd_68 rfl dX10_theOne_13 ?_
      refine Zo_iload3 dX10_theOne_16 ?_
      refine Zo_iald kd_85 dX10_theOne_17 fun v1 => ?_
      refine Zo_iload1 dX10_theOne_18 ?_
      refine Zo_icmpne 53 dX10_theOne_19 (by decide) ?_ ?_
      · refine Zo_iinc3 rfl (1 : Int32) ic_1 (zlt rfl) dX10_theOne_53 ?_
        refine Zo_goto 4 dX10_theOne_56 (by decide) ?_
        exact ih _ _
      · refine Zo_iload2 dX10_theOne_22 ?_
        refine Zo_iflt 51 dX10_theOne_23 (by decide) ?_ ?_
        · refine Zo_iload3 dX10_theOne_51 ?_
          refine Zo_istore2 rfl (zlt rfl) dX10_theOne_52 ?_
          refine Zo_iinc3 rfl (1 : Int32) ic_1 (zlt rfl) dX10_theOne_53 ?_
          refine Zo_goto 4 dX10_theOne_56 (by decide) ?_
          exact ih _ _
        · refine Zo_aload0 dX10_theOne_26 ?_
          refine Zo_getr (j := 74) fl_X10_25 kd_68 rfl dX10_theOne_27 ?_
          refine Zo_iload1 dX10_theOne_30 ?_
          refine Zo_iald kd_74 dX10_theOne_31 fun v2 => ?_
          refine Zo_iconst (4 : Int32) dX10_theOne_32 ic_4 ?_
          refine Zo_icmpne 53 dX10_theOne_33 (by decide) ?_ ?_
          · refine Zo_iinc3 rfl (1 : Int32) ic_1 (zlt rfl) dX10_theOne_53 ?_
            refine Zo_goto 4 dX10_theOne_56 (by decide) ?_
            exact ih _ _
          · refine Zo_aload0 dX10_theOne_36 ?_
            refine Zo_getr (j := 78) fl_X10_37 kd_68 rfl dX10_theOne_37 ?_
            refine Zo_iload3 dX10_theOne_40 ?_
            refine Zo_iald kd_78 dX10_theOne_41 fun v3 => ?_
            refine Zo_aload0 dX10_theOne_42 ?_
            refine Zo_getr (j := 78) fl_X10_37 kd_68 rfl dX10_theOne_43 ?_
            refine Zo_iload2 dX10_theOne_46 ?_
            show Zo g _ _ _ 0 0 47 _ _ _
            refine Zo_iald kd_78 dX10_theOne_47 fun v4 => ?_
            refine Zo_icmple 53 dX10_theOne_48 (by decide) ?_ ?_
            · refine Zo_iinc3 rfl (1 : Int32) ic_1 (zlt rfl) dX10_theOne_53 ?_
              refine Zo_goto 4 dX10_theOne_56 (by decide) ?_
              exact ih _ _
            · refine Zo_iload3 dX10_theOne_51 ?_
              refine Zo_istore2 rfl (zlt rfl) dX10_theOne_52 ?_
              refine Zo_iinc3 rfl (1 : Int32) ic_1 (zlt rfl) dX10_theOne_53 ?_
              refine Zo_goto 4 dX10_theOne_56 (by decide) ?_
              exact ih _ _
def s_X10_theOne (p0 : Int32) (σ : ZSt) : Option Int32 :=
  s_X10_theOne_L4 p0 σ 200 (-1 : Int32) (0 : Int32)
set_option maxHeartbeats 4000000 in
set_option maxRecDepth 100000 in
theorem z_X10_theOne (g : ZG) (p0 : Int32) (σ : ZSt) : Zo g (mX10_theOne g 0) (fun b : Int32 => (some (.int b), zw σ)) (s_X10_theOne p0 σ) 0 0 0 [some (.ref 68), some (.int p0), none, none] [] (zw σ) := by
  unfold s_X10_theOne
  refine Zo_iconst (-1 : Int32) dX10_theOne_0 ic_m1 ?_
  refine Zo_istore2 rfl (zlt rfl) dX10_theOne_1 ?_
  refine Zo_iconst (0 : Int32) dX10_theOne_2 ic_0 ?_
  refine Zo_istore3 rfl (zlt rfl) dX10_theOne_3 ?_
  exact z_X10_theOne_L4 g _ _ _ _ _
theorem e_X10_theOne (g : ZG) (p0 : Int32) (σ : ZSt) : zEvI g 0 yX10_theOne cX10_theOne 4 (some .int) [.ref 68, .int p0] σ (s_X10_theOne p0 σ) :=
  zEvI_of 2 rfl rfl (z_X10_theOne g p0 σ)
abbrev mX10_streetWeek (g : ZG) (q : Nat) : ZM := (yX10_streetWeek, cX10_streetWeek, 7, none, zRm q 0 0, zTg g 0 0)
def s_X10_streetWeek_C176 (k42 : Int32 → Int32 → ZSt → Option ZSt) (l1 : Int32) (l2 : Int32) (l3 : Int32) (l4 : Int32) (l5 : Int32) (l6 : Int32) (k_1 : Int32) (k_2 : Int32) (k_3 : Int32) (σ : ZSt) : Option ZSt :=
  zSg (zIn k_1 6) (zWD σ 89 k_1.toNatClampNeg (k_2 + k_3)) fun σ1 => (zLd (zIn l4 8) (σ1.1 90 l4.toNatClampNeg) fun v2 => (if l5 = (0 : Int32) then (zLd (zIn l4 8) (σ1.1 79 l4.toNatClampNeg) fun v3 => (zSg (zIn l4 8) (zWD σ1 90 l4.toNatClampNeg (v2 + (((0 : Int32) + l6) - v3))) fun σ4 => (k42 l3 (l4 + (1 : Int32)) σ4)))
    else ((s_X10_take l1 σ1).bind fun r5 => (zLd (zIn l4 8) (σ1.1 79 l4.toNatClampNeg) fun v6 => (zSg (zIn l4 8) (zWD σ1 90 l4.toNatClampNeg (v2 + ((r5 + l6) - v6))) fun σ7 => (k42 l3 (l4 + (1 : Int32)) σ7))))))
set_option maxHeartbeats 4000000 in
set_option maxRecDepth 100000 in
theorem z_X10_streetWeek_C176 (g : ZG) (k42 : Int32 → Int32 → ZSt → Option ZSt) (l1 : Int32) (l2 : Int32) (l3 : Int32) (l4 : Int32) (l5 : Int32) (l6 : Int32) (k_1 : Int32) (k_2 : Int32) (k_3 : Int32) (σ : ZSt) (hk42 : ∀ (x3 : Int32) (x4 : Int32) (σx : ZSt) (d5 d6 : Option Value), Zo g (mX10_streetWeek g 2) (fun b : ZSt => (none, zw b)) (k42 x3 x4 σx) 0 0 42 [some (.ref 68), some (.int l1), some (.int l2), some (.int x3), some (.int x4), d5, d6] [] (zw σx)) : Zo g (mX10_streetWeek g 2) (fun b : ZSt => (none, zw b)) (s_X10_streetWeek_C176 k42 l1 l2 l3 l4 l5 l6 k_1 k_2 k_3 σ) 0 0 176 [some (.ref 68), some (.int l1), some (.int l2), some (.int l3), some (.int l4), some (.int l5), some (.int l6)] [.int k_3, .int k_2, .int k_1, .ref 89] (zw σ) := by
  unfold s_X10_streetWeek_C176
  refine Zo_iadd dX10_streetWeek_176 ?_
  refine Zo_iast kd_89 dX10_streetWeek_177 fun σ1 => ?_
  refine Zo_aload0 dX10_streetWeek_178 ?_
  refine Zo_getr (j := 90) fl_X10_73 kd_68 rfl dX10_streetWeek_179 ?_
  refine Zo_iload4 dX10_streetWeek_182 ?_
  refine Zo_dup2 dX10_streetWeek_184 rfl rfl ?_
  refine Zo_iald kd_90 dX10_streetWeek_185 fun v2 => ?_
  show Zo g _ _ _ 0 0 186 _ _ _
  refine Zo_iload5 dX10_streetWeek_186 ?_
  refine Zo_ifeq 199 dX10_streetWeek_188 (by decide) ?_ ?_
  · refine Zo_iconst (0 : Int32) dX10_streetWeek_199 ic_0 ?_
    refine Zo_iload6 dX10_streetWeek_200 ?_
    refine Zo_iadd dX10_streetWeek_202 ?_
    refine Zo_aload0 dX10_streetWeek_203 ?_
    refine Zo_getr (j := 79) fl_X10_40 kd_68 rfl dX10_streetWeek_204 ?_
    refine Zo_iload4 dX10_streetWeek_207 ?_
    refine Zo_iald kd_79 dX10_streetWeek_209 fun v3 => ?_
    show Zo g _ _ _ 0 0 210 _ _ _
    refine Zo_isub dX10_streetWeek_210 ?_
    refine Zo_iadd dX10_streetWeek_211 ?_
    refine Zo_iast kd_90 dX10_streetWeek_212 fun σ4 => ?_
    refine Zo_iinc4 rfl (1 : Int32) ic_1 (zlt rfl) dX10_streetWeek_213 ?_
    refine Zo_goto 42 dX10_streetWeek_216 (by decide) ?_
    exact hk42 _ _ _ _ _
  · refine Zo_aload0 dX10_streetWeek_191 ?_
    refine Zo_iload1 dX10_streetWeek_192 ?_
    refine Zo_cVI1 lk_X10_171 (e_X10_take g _ _) kd_68 (zFit_rm (by decide)) (zle rfl) dX10_streetWeek_193 fun r5 => ?_
    refine Zo_goto 200 dX10_streetWeek_196 (by decide) ?_
    refine Zo_iload6 dX10_streetWeek_200 ?_
    refine Zo_iadd dX10_streetWeek_202 ?_
    refine Zo_aload0 dX10_streetWeek_203 ?_
    show Zo g _ _ _ 0 0 204 _ _ _
    refine Zo_getr (j := 79) fl_X10_40 kd_68 rfl dX10_streetWeek_204 ?_
    refine Zo_iload4 dX10_streetWeek_207 ?_
    refine Zo_iald kd_79 dX10_streetWeek_209 fun v6 => ?_
    refine Zo_isub dX10_streetWeek_210 ?_
    refine Zo_iadd dX10_streetWeek_211 ?_
    refine Zo_iast kd_90 dX10_streetWeek_212 fun σ7 => ?_
    refine Zo_iinc4 rfl (1 : Int32) ic_1 (zlt rfl) dX10_streetWeek_213 ?_
    refine Zo_goto 42 dX10_streetWeek_216 (by decide) ?_
    exact hk42 _ _ _ _ _
def s_X10_streetWeek_C135 (k42 : Int32 → Int32 → ZSt → Option ZSt) (l1 : Int32) (l2 : Int32) (l3 : Int32) (l4 : Int32) (l5 : Int32) (k_0 : Int32) (σ : ZSt) : Option ZSt :=
  zLd (zIn l1 6) (σ.1 88 l1.toNatClampNeg) fun v1 => (zSg (zIn l1 6) (zWD σ 88 l1.toNatClampNeg (v1 + k_0)) fun σ2 => (zLd (zIn l1 6) (σ2.1 89 l1.toNatClampNeg) fun v3 => (if l5 = (0 : Int32) then (s_X10_streetWeek_C176 k42 l1 l2 l3 l4 l5 k_0 l1 v3 (0 : Int32) σ2)
    else (zLd (zIn l4 8) (σ2.1 78 l4.toNatClampNeg) fun v4 => ((s_X10_streetHarm v4 l1 σ2).bind fun r5 => (s_X10_streetWeek_C176 k42 l1 l2 l3 l4 l5 k_0 l1 v3 r5 σ2))))))
set_option maxHeartbeats 4000000 in
set_option maxRecDepth 100000 in
theorem z_X10_streetWeek_C135 (g : ZG) (k42 : Int32 → Int32 → ZSt → Option ZSt) (l1 : Int32) (l2 : Int32) (l3 : Int32) (l4 : Int32) (l5 : Int32) (k_0 : Int32) (σ : ZSt) (hk42 : ∀ (x3 : Int32) (x4 : Int32) (σx : ZSt) (d5 d6 : Option Value), Zo g (mX10_streetWeek g 2) (fun b : ZSt => (none, zw b)) (k42 x3 x4 σx) 0 0 42 [some (.ref 68), some (.int l1), some (.int l2), some (.int x3), some (.int x4), d5, d6] [] (zw σx)) (o6 : Option Value) : Zo g (mX10_streetWeek g 2) (fun b : ZSt => (none, zw b)) (s_X10_streetWeek_C135 k42 l1 l2 l3 l4 l5 k_0 σ) 0 0 135 [some (.ref 68), some (.int l1), some (.int l2), some (.int l3), some (.int l4), some (.int l5), o6] [.int k_0] (zw σ) := by
  unfold s_X10_streetWeek_C135
  refine Zo_istore6 rfl (zlt rfl) dX10_streetWeek_135 ?_
  refine Zo_aload0 dX10_streetWeek_137 ?_
  refine Zo_getr (j := 88) fl_X10_67 kd_68 rfl dX10_streetWeek_138 ?_
  refine Zo_iload1 dX10_streetWeek_141 ?_
  refine Zo_dup2 dX10_streetWeek_142 rfl rfl ?_
  refine Zo_iald kd_88 dX10_streetWeek_143 fun v1 => ?_
  refine Zo_iload6 dX10_streetWeek_144 ?_
  show Zo g _ _ _ 0 0 146 _ _ _
  refine Zo_iadd dX10_streetWeek_146 ?_
  refine Zo_iast kd_88 dX10_streetWeek_147 fun σ2 => ?_
  refine Zo_aload0 dX10_streetWeek_148 ?_
  refine Zo_getr (j := 89) fl_X10_70 kd_68 rfl dX10_streetWeek_149 ?_
  refine Zo_iload1 dX10_streetWeek_152 ?_
  refine Zo_dup2 dX10_streetWeek_153 rfl rfl ?_
  refine Zo_iald kd_89 dX10_streetWeek_154 fun v3 => ?_
  refine Zo_iload5 dX10_streetWeek_155 ?_
  show Zo g _ _ _ 0 0 157 _ _ _
  refine Zo_ifeq 175 dX10_streetWeek_157 (by decide) ?_ ?_
  · refine Zo_iconst (0 : Int32) dX10_streetWeek_175 ic_0 ?_
    exact z_X10_streetWeek_C176 g k42 _ _ _ _ _ _ _ _ _ _ hk42 
  · refine Zo_aload0 dX10_streetWeek_160 ?_
    refine Zo_aload0 dX10_streetWeek_161 ?_
    refine Zo_getr (j := 78) fl_X10_37 kd_68 rfl dX10_streetWeek_162 ?_
    refine Zo_iload4 dX10_streetWeek_165 ?_
    refine Zo_iald kd_78 dX10_streetWeek_167 fun v4 => ?_
    refine Zo_iload1 dX10_streetWeek_168 ?_
    refine Zo_cVI2 lk_X10_212 (e_X10_streetHarm g _ _ _) kd_68 (zFit_rm (by decide)) (zle rfl) dX10_streetWeek_169 fun r5 => ?_
    show Zo g _ _ _ 0 0 172 _ _ _
    refine Zo_goto 176 dX10_streetWeek_172 (by decide) ?_
    exact z_X10_streetWeek_C176 g k42 _ _ _ _ _ _ _ _ _ _ hk42 
def s_X10_streetWeek_C107 (k42 : Int32 → Int32 → ZSt → Option ZSt) (l1 : Int32) (l2 : Int32) (l3 : Int32) (l4 : Int32) (k_0 : Int32) (σ : ZSt) : Option ZSt :=
  zLd (zIn l1 6) (σ.1 74 l1.toNatClampNeg) fun v1 => (if v1 = (1 : Int32) then (zLd (zIn l1 6) (σ.1 75 l1.toNatClampNeg) fun v2 => (s_X10_streetWeek_C135 k42 l1 l2 l3 l4 k_0 v2 σ))
    else (if l4 = l2 then (zLd (zIn l1 6) (σ.1 75 l1.toNatClampNeg) fun v3 => (s_X10_streetWeek_C135 k42 l1 l2 l3 l4 k_0 v3 σ))
      else (s_X10_streetWeek_C135 k42 l1 l2 l3 l4 k_0 (0 : Int32) σ)))
set_option maxHeartbeats 4000000 in
set_option maxRecDepth 100000 in
theorem z_X10_streetWeek_C107 (g : ZG) (k42 : Int32 → Int32 → ZSt → Option ZSt) (l1 : Int32) (l2 : Int32) (l3 : Int32) (l4 : Int32) (k_0 : Int32) (σ : ZSt) (hk42 : ∀ (x3 : Int32) (x4 : Int32) (σx : ZSt) (d5 d6 : Option Value), Zo g (mX10_streetWeek g 2) (fun b : ZSt => (none, zw b)) (k42 x3 x4 σx) 0 0 42 [some (.ref 68), some (.int l1), some (.int l2), some (.int x3), some (.int x4), d5, d6] [] (zw σx)) (o5 : Option Value) (o6 : Option Value) : Zo g (mX10_streetWeek g 2) (fun b : ZSt => (none, zw b)) (s_X10_streetWeek_C107 k42 l1 l2 l3 l4 k_0 σ) 0 0 107 [some (.ref 68), some (.int l1), some (.int l2), some (.int l3), some (.int l4), o5, o6] [.int k_0] (zw σ) := by
  unfold s_X10_streetWeek_C107
  refine Zo_istore5 rfl (zlt rfl) dX10_streetWeek_107 ?_
  refine Zo_aload0 dX10_streetWeek_109 ?_
  refine Zo_getr (j := 74) fl_X10_25 kd_68 rfl dX10_streetWeek_110 ?_
  refine Zo_iload1 dX10_streetWeek_113 ?_
  refine Zo_iald kd_74 dX10_streetWeek_114 fun v1 => ?_
  refine Zo_iconst (1 : Int32) dX10_streetWeek_115 ic_1 ?_
  refine Zo_icmpeq 125 dX10_streetWeek_116 (by decide) ?_ ?_
  · refine Zo_aload0 dX10_streetWeek_125 ?_
    refine Zo_getr (j := 75) fl_X10_28 kd_68 rfl dX10_streetWeek_126 ?_
    refine Zo_iload1 dX10_streetWeek_129 ?_
    refine Zo_iald kd_75 dX10_streetWeek_130 fun v2 => ?_
    refine Zo_goto 135 dX10_streetWeek_131 (by decide) ?_
    exact z_X10_streetWeek_C135 g k42 _ _ _ _ _ _ _ hk42 _
  · refine Zo_iload4 dX10_streetWeek_119 ?_
    refine Zo_iload2 dX10_streetWeek_121 ?_
    refine Zo_icmpne 134 dX10_streetWeek_122 (by decide) ?_ ?_
    · refine Zo_iconst (0 : Int32) dX10_streetWeek_134 ic_0 ?_
      exact z_X10_streetWeek_C135 g k42 _ _ _ _ _ _ _ hk42 _
    · refine Zo_aload0 dX10_streetWeek_125 ?_
      refine Zo_getr (j := 75) fl_X10_28 kd_68 rfl dX10_streetWeek_126 ?_
      refine Zo_iload1 dX10_streetWeek_129 ?_
      refine Zo_iald kd_75 dX10_streetWeek_130 fun v3 => ?_
      refine Zo_goto 135 dX10_streetWeek_131 (by decide) ?_
      exact z_X10_streetWeek_C135 g k42 _ _ _ _ _ _ _ hk42 _
def s_X10_streetWeek_C219 (l1 : Int32) (l3 : Int32) (σ : ZSt) : Option ZSt :=
  zLd (zIn l1 6) (σ.1 89 l1.toNatClampNeg) fun v1 => (zLd (zIn l1 6) (σ.1 88 l1.toNatClampNeg) fun v2 => (zLd (zIn l1 6) (σ.1 74 l1.toNatClampNeg) fun v3 => (if v3 = (3 : Int32) then (zLd (zIn l1 6) (σ.1 73 l1.toNatClampNeg) fun v5 => (zSg (zIn l1 6) (zWD σ 89 l1.toNatClampNeg (v1 + (v2 + (v5 * l3)))) fun σ6 => (some σ6)))
    else (zSg (zIn l1 6) (zWD σ 89 l1.toNatClampNeg (v1 + (v2 + (0 : Int32)))) fun σ4 => (some σ4)))))
set_option maxHeartbeats 4000000 in
set_option maxRecDepth 100000 in
theorem z_X10_streetWeek_C219 (g : ZG) (l1 : Int32) (l3 : Int32) (σ : ZSt) (o2 : Option Value) (o4 : Option Value) (o5 : Option Value) (o6 : Option Value) : Zo g (mX10_streetWeek g 2) (fun b : ZSt => (none, zw b)) (s_X10_streetWeek_C219 l1 l3 σ) 0 0 219 [some (.ref 68), some (.int l1), o2, some (.int l3), o4, o5, o6] [] (zw σ) := by
  unfold s_X10_streetWeek_C219
  refine Zo_aload0 dX10_streetWeek_219 ?_
  refine Zo_getr (j := 89) fl_X10_70 kd_68 rfl dX10_streetWeek_220 ?_
  refine Zo_iload1 dX10_streetWeek_223 ?_
  refine Zo_dup2 dX10_streetWeek_224 rfl rfl ?_
  refine Zo_iald kd_89 dX10_streetWeek_225 fun v1 => ?_
  refine Zo_aload0 dX10_streetWeek_226 ?_
  refine Zo_getr (j := 88) fl_X10_67 kd_68 rfl dX10_streetWeek_227 ?_
  show Zo g _ _ _ 0 0 230 _ _ _
  refine Zo_iload1 dX10_streetWeek_230 ?_
  refine Zo_iald kd_88 dX10_streetWeek_231 fun v2 => ?_
  refine Zo_aload0 dX10_streetWeek_232 ?_
  refine Zo_getr (j := 74) fl_X10_25 kd_68 rfl dX10_streetWeek_233 ?_
  refine Zo_iload1 dX10_streetWeek_236 ?_
  refine Zo_iald kd_74 dX10_streetWeek_237 fun v3 => ?_
  refine Zo_iconst (3 : Int32) dX10_streetWeek_238 ic_3 ?_
  refine Zo_icmpne 253 dX10_streetWeek_239 (by decide) ?_ ?_
  · refine Zo_iconst (0 : Int32) dX10_streetWeek_253 ic_0 ?_
    refine Zo_iadd dX10_streetWeek_254 ?_
    refine Zo_iadd dX10_streetWeek_255 ?_
    refine Zo_iast kd_89 dX10_streetWeek_256 fun σ4 => ?_
    exact Zo_vret dX10_streetWeek_257 rfl rfl (Nat.le_refl _) (Nat.le_refl _)
  · refine Zo_aload0 dX10_streetWeek_242 ?_
    refine Zo_getr (j := 73) fl_X10_22 kd_68 rfl dX10_streetWeek_243 ?_
    refine Zo_iload1 dX10_streetWeek_246 ?_
    refine Zo_iald kd_73 dX10_streetWeek_247 fun v5 => ?_
    refine Zo_iload3 dX10_streetWeek_248 ?_
    refine Zo_imul dX10_streetWeek_249 ?_
    refine Zo_goto 254 dX10_streetWeek_250 (by decide) ?_
    show Zo g _ _ _ 0 0 254 _ _ _
    refine Zo_iadd dX10_streetWeek_254 ?_
    refine Zo_iadd dX10_streetWeek_255 ?_
    refine Zo_iast kd_89 dX10_streetWeek_256 fun σ6 => ?_
    exact Zo_vret dX10_streetWeek_257 rfl rfl (Nat.le_refl _) (Nat.le_refl _)
def s_X10_streetWeek_L42 (l1 : Int32) (l2 : Int32) : Nat → Int32 → Int32 → ZSt → Option ZSt
  | 0, _, _, _ => none
  | n + 1, l3, l4, σ =>
    if (σ.1 68 13) ≤ l4 then (s_X10_streetWeek_C219 l1 l3 σ)
      else (zLd (zIn l4 8) (σ.1 85 l4.toNatClampNeg) fun v1 => (if v1 = l1 then (zLd (zIn l1 6) (σ.1 74 l1.toNatClampNeg) fun v2 => (if v2 = (0 : Int32) then (s_X10_streetWeek_C107 (s_X10_streetWeek_L42 l1 l2 n) l1 l2 (l3 + (1 : Int32)) l4 (1 : Int32) σ)
          else (zLd (zIn l1 6) (σ.1 74 l1.toNatClampNeg) fun v3 => (if v3 = (3 : Int32) then (zLd (zIn l1 6) (σ.1 73 l1.toNatClampNeg) fun v4 => (if v4 = (0 : Int32) then (s_X10_streetWeek_C107 (s_X10_streetWeek_L42 l1 l2 n) l1 l2 (l3 + (1 : Int32)) l4 (1 : Int32) σ)
              else (if l4 = l2 then (s_X10_streetWeek_C107 (s_X10_streetWeek_L42 l1 l2 n) l1 l2 (l3 + (1 : Int32)) l4 (1 : Int32) σ)
                else (s_X10_streetWeek_C107 (s_X10_streetWeek_L42 l1 l2 n) l1 l2 (l3 + (1 : Int32)) l4 (0 : Int32) σ))))
            else (if l4 = l2 then (s_X10_streetWeek_C107 (s_X10_streetWeek_L42 l1 l2 n) l1 l2 (l3 + (1 : Int32)) l4 (1 : Int32) σ)
              else (s_X10_streetWeek_C107 (s_X10_streetWeek_L42 l1 l2 n) l1 l2 (l3 + (1 : Int32)) l4 (0 : Int32) σ))))))
        else (s_X10_streetWeek_L42 l1 l2 n l3 (l4 + (1 : Int32)) σ)))
set_option maxHeartbeats 4000000 in
set_option maxRecDepth 100000 in
theorem z_X10_streetWeek_L42 (g : ZG) (l1 : Int32) (l2 : Int32) : ∀ (n : Nat) (l3 : Int32) (l4 : Int32) (σ : ZSt) (o5 o6 : Option Value), Zo g (mX10_streetWeek g 2) (fun b : ZSt => (none, zw b)) (s_X10_streetWeek_L42 l1 l2 n l3 l4 σ) 0 0 42 [some (.ref 68), some (.int l1), some (.int l2), some (.int l3), some (.int l4), o5, o6] [] (zw σ) := by
  intro n
  induction n with
  | zero => intros; exact Zo_none
  | succ n ih =>
    intro l3 l4 σ o5 o6
    rw [s_X10_streetWeek_L42]
    refine Zo_iload4 dX10_streetWeek_42 ?_
    refine Zo_aload0 dX10_streetWeek_44 ?_
    refine Zo_geti fl_X10_127 kd_68 dX10_streetWeek_45 ?_
    refine Zo_icmpge 219 dX10_streetWeek_48 (by decide) ?_ ?_
    · exact z_X10_streetWeek_C219 g _ _ _ _ _ _ _
    · refine Zo_aload0 dX10_streetWeek_51 ?_
      refine Zo_getr (j := 85) fl_X10_58 kd_68 rfl dX10_streetWeek_52 ?_
      refine Zo_iload4 dX10_streetWeek_55 ?_
      refine Zo_iald kd_85 dX10_streetWeek_57 fun v1 => ?_
      refine Zo_iload1 dX10_streetWeek_58 ?_
      refine Zo_icmpeq 65 dX10_streetWeek_59 (by decide) ?_ ?_
      · refine Zo_iinc3 rfl (1 : Int32) ic_1 (zlt rfl) dX10_streetWeek_65 ?_
        refine Zo_aload0 dX10_streetWeek_68 ?_
        refine Zo_getr (j := 74) fl_X10_25 kd_68 rfl dX10_streetWeek_69 ?_
        refine Zo_iload1 dX10_streetWeek_72 ?_
        refine Zo_iald kd_74 dX10_streetWeek_73 fun v2 => ?_
        refine Zo_ifeq 102 dX10_streetWeek_74 (by decide) ?_ ?_
        · refine Zo_iconst (1 : Int32) dX10_streetWeek_102 ic_1 ?_
          refine Zo_goto 107 dX10_streetWeek_103 (by decide) ?_
          exact z_X10_streetWeek_C107 g (s_X10_streetWeek_L42 l1 l2 n) _ _ _ _ _ _ ih _ _
        · refine Zo_aload0 dX10_streetWeek_77 ?_
          refine Zo_getr (j := 74) fl_X10_25 kd_68 rfl dX10_streetWeek_78 ?_
          refine Zo_iload1 dX10_streetWeek_81 ?_
          refine Zo_iald kd_74 dX10_streetWeek_82 fun v3 => ?_
          refine Zo_iconst (3 : Int32) dX10_streetWeek_83 ic_3 ?_
          refine Zo_icmpne 96 dX10_streetWeek_84 (by decide) ?_ ?_
          · refine Zo_iload4 dX10_streetWeek_96 ?_
            refine Zo_iload2 dX10_streetWeek_98 ?_
            refine Zo_icmpne 106 dX10_streetWeek_99 (by decide) ?_ ?_
            · refine Zo_iconst (0 : Int32) dX10_streetWeek_106 ic_0 ?_
              exact z_X10_streetWeek_C107 g (s_X10_streetWeek_L42 l1 l2 n) _ _ _ _ _ _ ih _ _
            · refine Zo_iconst (1 : Int32) dX10_streetWeek_102 ic_1 ?_
              refine Zo_goto 107 dX10_streetWeek_103 (by decide) ?_
              exact z_X10_streetWeek_C107 g (s_X10_streetWeek_L42 l1 l2 n) _ _ _ _ _ _ ih _ _
          · refine Zo_aload0 dX10_streetWeek_87 ?_
            refine Zo_getr (j := 73) fl_X10_22 kd_68 rfl dX10_streetWeek_88 ?_
            refine Zo_iload1 dX10_streetWeek_91 ?_
            refine Zo_iald kd_73 dX10_streetWeek_92 fun v4 => ?_
            refine Zo_ifeq 102 dX10_streetWeek_93 (by decide) ?_ ?_
            · refine Zo_iconst (1 : Int32) dX10_streetWeek_102 ic_1 ?_
              refine Zo_goto 107 dX10_streetWeek_103 (by decide) ?_
              exact z_X10_streetWeek_C107 g (s_X10_streetWeek_L42 l1 l2 n) _ _ _ _ _ _ ih _ _
            · refine Zo_iload4 dX10_streetWeek_96 ?_
              refine Zo_iload2 dX10_streetWeek_98 ?_
              refine Zo_icmpne 106 dX10_streetWeek_99 (by decide) ?_ ?_
              · refine Zo_iconst (0 : Int32) dX10_streetWeek_106 ic_0 ?_
                exact z_X10_streetWeek_C107 g (s_X10_streetWeek_L42 l1 l2 n) _ _ _ _ _ _ ih _ _
              · refine Zo_iconst (1 : Int32) dX10_streetWeek_102 ic_1 ?_
                refine Zo_goto 107 dX10_streetWeek_103 (by decide) ?_
                exact z_X10_streetWeek_C107 g (s_X10_streetWeek_L42 l1 l2 n) _ _ _ _ _ _ ih _ _
      · refine Zo_goto 213 dX10_streetWeek_62 (by decide) ?_
        refine Zo_iinc4 rfl (1 : Int32) ic_1 (zlt rfl) dX10_streetWeek_213 ?_
        refine Zo_goto 42 dX10_streetWeek_216 (by decide) ?_
        exact ih _ _ _ _ _
def s_X10_streetWeek (p0 : Int32) (σ : ZSt) : Option ZSt :=
  zLd (zIn p0 6) (σ.1 74 p0.toNatClampNeg) fun v1 => (if v1 = (2 : Int32) then ((s_X10_theOne p0 σ).bind fun r2 => (zSg (zIn p0 6) (zWD σ 88 p0.toNatClampNeg (0 : Int32)) fun σ3 => (s_X10_streetWeek_L42 p0 r2 200 (0 : Int32) (0 : Int32) σ3)))
    else (zLd (zIn p0 6) (σ.1 74 p0.toNatClampNeg) fun v4 => (if v4 = (4 : Int32) then ((s_X10_theOne p0 σ).bind fun r6 => (zSg (zIn p0 6) (zWD σ 88 p0.toNatClampNeg (0 : Int32)) fun σ7 => (s_X10_streetWeek_L42 p0 r6 200 (0 : Int32) (0 : Int32) σ7)))
      else (zSg (zIn p0 6) (zWD σ 88 p0.toNatClampNeg (0 : Int32)) fun σ5 => (s_X10_streetWeek_L42 p0 (-1 : Int32) 200 (0 : Int32) (0 : Int32) σ5)))))
set_option maxHeartbeats 4000000 in
set_option maxRecDepth 100000 in
theorem z_X10_streetWeek (g : ZG) (p0 : Int32) (σ : ZSt) : Zo g (mX10_streetWeek g 2) (fun b : ZSt => (none, zw b)) (s_X10_streetWeek p0 σ) 0 0 0 [some (.ref 68), some (.int p0), none, none, none, none, none] [] (zw σ) := by
  unfold s_X10_streetWeek
  refine Zo_aload0 dX10_streetWeek_0 ?_
  refine Zo_getr (j := 74) fl_X10_25 kd_68 rfl dX10_streetWeek_1 ?_
  refine Zo_iload1 dX10_streetWeek_4 ?_
  refine Zo_iald kd_74 dX10_streetWeek_5 fun v1 => ?_
  refine Zo_iconst (2 : Int32) dX10_streetWeek_6 ic_2 ?_
  refine Zo_icmpeq 20 dX10_streetWeek_7 (by decide) ?_ ?_
  · refine Zo_aload0 dX10_streetWeek_20 ?_
    refine Zo_iload1 dX10_streetWeek_21 ?_
    refine Zo_cVI1 lk_X10_291 (e_X10_theOne g _ _) kd_68 (zFit_rm (by decide)) (zle rfl) dX10_streetWeek_22 fun r2 => ?_
    refine Zo_goto 29 dX10_streetWeek_25 (by decide) ?_
    refine Zo_istore2 rfl (zlt rfl) dX10_streetWeek_29 ?_
    refine Zo_iconst (0 : Int32) dX10_streetWeek_30 ic_0 ?_
    refine Zo_istore3 rfl (zlt rfl) dX10_streetWeek_31 ?_
    show Zo g _ _ _ 0 0 32 _ _ _
    refine Zo_aload0 dX10_streetWeek_32 ?_
    refine Zo_getr (j := 88) fl_X10_67 kd_68 rfl dX10_streetWeek_33 ?_
    refine Zo_iload1 dX10_streetWeek_36 ?_
    refine Zo_iconst (0 : Int32) dX10_streetWeek_37 ic_0 ?_
    refine Zo_iast kd_88 dX10_streetWeek_38 fun σ3 => ?_
    refine Zo_iconst (0 : Int32) dX10_streetWeek_39 ic_0 ?_
    refine Zo_istore4 rfl (zlt rfl) dX10_streetWeek_40 ?_
    exact z_X10_streetWeek_L42 g _ _ _ _ _ _ _ _
  · refine Zo_aload0 dX10_streetWeek_10 ?_
    refine Zo_getr (j := 74) fl_X10_25 kd_68 rfl dX10_streetWeek_11 ?_
    refine Zo_iload1 dX10_streetWeek_14 ?_
    refine Zo_iald kd_74 dX10_streetWeek_15 fun v4 => ?_
    refine Zo_iconst (4 : Int32) dX10_streetWeek_16 ic_4 ?_
    refine Zo_icmpne 28 dX10_streetWeek_17 (by decide) ?_ ?_
    · refine Zo_iconst (-1 : Int32) dX10_streetWeek_28 ic_m1 ?_
      refine Zo_istore2 rfl (zlt rfl) dX10_streetWeek_29 ?_
      refine Zo_iconst (0 : Int32) dX10_streetWeek_30 ic_0 ?_
      refine Zo_istore3 rfl (zlt rfl) dX10_streetWeek_31 ?_
      refine Zo_aload0 dX10_streetWeek_32 ?_
      refine Zo_getr (j := 88) fl_X10_67 kd_68 rfl dX10_streetWeek_33 ?_
      refine Zo_iload1 dX10_streetWeek_36 ?_
      show Zo g _ _ _ 0 0 37 _ _ _
      refine Zo_iconst (0 : Int32) dX10_streetWeek_37 ic_0 ?_
      refine Zo_iast kd_88 dX10_streetWeek_38 fun σ5 => ?_
      refine Zo_iconst (0 : Int32) dX10_streetWeek_39 ic_0 ?_
      refine Zo_istore4 rfl (zlt rfl) dX10_streetWeek_40 ?_
      exact z_X10_streetWeek_L42 g _ _ _ _ _ _ _ _
    · refine Zo_aload0 dX10_streetWeek_20 ?_
      refine Zo_iload1 dX10_streetWeek_21 ?_
      refine Zo_cVI1 lk_X10_291 (e_X10_theOne g _ _) kd_68 (zFit_rm (by decide)) (zle rfl) dX10_streetWeek_22 fun r6 => ?_
      refine Zo_goto 29 dX10_streetWeek_25 (by decide) ?_
      refine Zo_istore2 rfl (zlt rfl) dX10_streetWeek_29 ?_
      refine Zo_iconst (0 : Int32) dX10_streetWeek_30 ic_0 ?_
      refine Zo_istore3 rfl (zlt rfl) dX10_streetWeek_31 ?_
      show Zo g _ _ _ 0 0 32 _ _ _
      refine Zo_aload0 dX10_streetWeek_32 ?_
      refine Zo_getr (j := 88) fl_X10_67 kd_68 rfl dX10_streetWeek_33 ?_
      refine Zo_iload1 dX10_streetWeek_36 ?_
      refine Zo_iconst (0 : Int32) dX10_streetWeek_37 ic_0 ?_
      refine Zo_iast kd_88 dX10_streetWeek_38 fun σ7 => ?_
      refine Zo_iconst (0 : Int32) dX10_streetWeek_39 ic_0 ?_
      refine Zo_istore4 rfl (zlt rfl) dX10_streetWeek_40 ?_
      exact z_X10_streetWeek_L42 g _ _ _ _ _ _ _ _
theorem e_X10_streetWeek (g : ZG) (p0 : Int32) (σ : ZSt) : zEvV g 2 yX10_streetWeek cX10_streetWeek 7 none [.ref 68, .int p0] σ (s_X10_streetWeek p0 σ) :=
  zEvV_of 5 rfl rfl (z_X10_streetWeek g p0 σ)
abbrev mX10_goesWeeks (g : ZG) (q : Nat) : ZM := (yX10_goesWeeks, cX10_goesWeeks, 4, none, zRm q 0 0, zTg g 0 0)
def s_X10_goesWeeks_L82 (k71 : Int32 → ZSt → Option ZSt) (l1 : Int32) (l2 : Int32) : Nat → Int32 → ZSt → Option ZSt
  | 0, _, _ => none
  | n + 1, l3, σ =>
    if (σ.1 68 6) ≤ l3 then ((s_X10_countsThere σ).bind fun σ1 => (k71 (l2 + (1 : Int32)) σ1))
      else ((s_X10_streetWeek l3 σ).bind fun σ2 => (s_X10_goesWeeks_L82 k71 l1 l2 n (l3 + (1 : Int32)) σ2))
set_option maxHeartbeats 4000000 in
set_option maxRecDepth 100000 in
theorem z_X10_goesWeeks_L82 (g : ZG) (k71 : Int32 → ZSt → Option ZSt) (l1 : Int32) (l2 : Int32) (hk71 : ∀ (x2 : Int32) (σx : ZSt) (d3 : Option Value), Zo g (mX10_goesWeeks g 71) (fun b : ZSt => (none, zw b)) (k71 x2 σx) 0 0 71 [some (.ref 68), some (.int l1), some (.int x2), d3] [] (zw σx)) : ∀ (n : Nat) (l3 : Int32) (σ : ZSt), Zo g (mX10_goesWeeks g 71) (fun b : ZSt => (none, zw b)) (s_X10_goesWeeks_L82 k71 l1 l2 n l3 σ) 0 0 82 [some (.ref 68), some (.int l1), some (.int l2), some (.int l3)] [] (zw σ) := by
  intro n
  induction n with
  | zero => intros; exact Zo_none
  | succ n ih =>
    intro l3 σ
    rw [s_X10_goesWeeks_L82]
    refine Zo_iload3 dX10_goesWeeks_82 ?_
    refine Zo_aload0 dX10_goesWeeks_83 ?_
    refine Zo_geti fl_X10_117 kd_68 dX10_goesWeeks_84 ?_
    refine Zo_icmpge 101 dX10_goesWeeks_87 (by decide) ?_ ?_
    · refine Zo_aload0 dX10_goesWeeks_101 ?_
      refine Zo_cVV0 lk_X10_294 (e_X10_countsThere g _) kd_68 (zFit_rm (by decide)) (zle rfl) dX10_goesWeeks_102 fun σ1 => ?_
      refine Zo_iinc2 rfl (1 : Int32) ic_1 (zlt rfl) dX10_goesWeeks_105 ?_
      refine Zo_goto 71 dX10_goesWeeks_108 (by decide) ?_
      exact hk71 _ _ _
    · refine Zo_aload0 dX10_goesWeeks_90 ?_
      refine Zo_iload3 dX10_goesWeeks_91 ?_
      refine Zo_cVV1 lk_X10_300 (e_X10_streetWeek g _ _) kd_68 (zFit_rm (by decide)) (zle rfl) dX10_goesWeeks_92 fun σ2 => ?_
      refine Zo_iinc3 rfl (1 : Int32) ic_1 (zlt rfl) dX10_goesWeeks_95 ?_
      refine Zo_goto 82 dX10_goesWeeks_98 (by decide) ?_
      exact ih _ _
def s_X10_goesWeeks_L71 (l1 : Int32) : Nat → Int32 → ZSt → Option ZSt
  | 0, _, _ => none
  | n + 1, l2, σ =>
    if l1 ≤ l2 then (some σ)
      else ((s_X10_allGo σ).bind fun σ1 => (s_X10_goesWeeks_L82 (s_X10_goesWeeks_L71 l1 n) l1 l2 200 (0 : Int32) σ1))
set_option maxHeartbeats 4000000 in
set_option maxRecDepth 100000 in
theorem z_X10_goesWeeks_L71 (g : ZG) (l1 : Int32) : ∀ (n : Nat) (l2 : Int32) (σ : ZSt) (o3 : Option Value), Zo g (mX10_goesWeeks g 71) (fun b : ZSt => (none, zw b)) (s_X10_goesWeeks_L71 l1 n l2 σ) 0 0 71 [some (.ref 68), some (.int l1), some (.int l2), o3] [] (zw σ) := by
  intro n
  induction n with
  | zero => intros; exact Zo_none
  | succ n ih =>
    intro l2 σ o3
    rw [s_X10_goesWeeks_L71]
    refine Zo_iload2 dX10_goesWeeks_71 ?_
    refine Zo_iload1 dX10_goesWeeks_72 ?_
    refine Zo_icmpge 111 dX10_goesWeeks_73 (by decide) ?_ ?_
    · exact Zo_vret dX10_goesWeeks_111 rfl rfl (Nat.le_refl _) (Nat.le_refl _)
    · refine Zo_aload0 dX10_goesWeeks_76 ?_
      refine Zo_cVV0 lk_X10_297 (e_X10_allGo g _) kd_68 (zFit_rm (by decide)) (zle rfl) dX10_goesWeeks_77 fun σ1 => ?_
      refine Zo_iconst (0 : Int32) dX10_goesWeeks_80 ic_0 ?_
      refine Zo_istore3 rfl (zlt rfl) dX10_goesWeeks_81 ?_
      exact z_X10_goesWeeks_L82 g (s_X10_goesWeeks_L71 l1 n) _ _ ih _ _ _
def s_X10_goesWeeks_L37 (l1 : Int32) : Nat → Int32 → ZSt → Option ZSt
  | 0, _, _ => none
  | n + 1, l2, σ =>
    if (σ.1 68 6) ≤ l2 then ((s_X10_countsThere σ).bind fun σ1 => (s_X10_goesWeeks_L71 l1 200 (0 : Int32) σ1))
      else (zSg (zIn l2 6) (zWD σ 88 l2.toNatClampNeg (0 : Int32)) fun σ2 => (zSg (zIn l2 6) (zWD σ2 89 l2.toNatClampNeg (0 : Int32)) fun σ3 => (s_X10_goesWeeks_L37 l1 n (l2 + (1 : Int32)) σ3)))
set_option maxHeartbeats 4000000 in
set_option maxRecDepth 100000 in
theorem z_X10_goesWeeks_L37 (g : ZG) (l1 : Int32) : ∀ (n : Nat) (l2 : Int32) (σ : ZSt) (o3 : Option Value), Zo g (mX10_goesWeeks g 71) (fun b : ZSt => (none, zw b)) (s_X10_goesWeeks_L37 l1 n l2 σ) 0 0 37 [some (.ref 68), some (.int l1), some (.int l2), o3] [] (zw σ) := by
  intro n
  induction n with
  | zero => intros; exact Zo_none
  | succ n ih =>
    intro l2 σ o3
    rw [s_X10_goesWeeks_L37]
    refine Zo_iload2 dX10_goesWeeks_37 ?_
    refine Zo_aload0 dX10_goesWeeks_38 ?_
    refine Zo_geti fl_X10_117 kd_68 dX10_goesWeeks_39 ?_
    refine Zo_icmpge 65 dX10_goesWeeks_42 (by decide) ?_ ?_
    · refine Zo_aload0 dX10_goesWeeks_65 ?_
      refine Zo_cVV0 lk_X10_294 (e_X10_countsThere g _) kd_68 (zFit_rm (by decide)) (zle rfl) dX10_goesWeeks_66 fun σ1 => ?_
      refine Zo_iconst (0 : Int32) dX10_goesWeeks_69 ic_0 ?_
      refine Zo_istore2 rfl (zlt rfl) dX10_goesWeeks_70 ?_
      exact z_X10_goesWeeks_L71 g _ _ _ _ _
    · refine Zo_aload0 dX10_goesWeeks_45 ?_
      refine Zo_getr (j := 88) fl_X10_67 kd_68 rfl dX10_goesWeeks_46 ?_
      refine Zo_iload2 dX10_goesWeeks_49 ?_
      refine Zo_iconst (0 : Int32) dX10_goesWeeks_50 ic_0 ?_
      refine Zo_iast kd_88 dX10_goesWeeks_51 fun σ2 => ?_
      refine Zo_aload0 dX10_goesWeeks_52 ?_
      refine Zo_getr (j := 89) fl_X10_70 kd_68 rfl dX10_goesWeeks_53 ?_
      show Zo g _ _ _ 0 0 56 _ _ _
      refine Zo_iload2 dX10_goesWeeks_56 ?_
      refine Zo_iconst (0 : Int32) dX10_goesWeeks_57 ic_0 ?_
      refine Zo_iast kd_89 dX10_goesWeeks_58 fun σ3 => ?_
      refine Zo_iinc2 rfl (1 : Int32) ic_1 (zlt rfl) dX10_goesWeeks_59 ?_
      refine Zo_goto 37 dX10_goesWeeks_62 (by decide) ?_
      exact ih _ _ _
def s_X10_goesWeeks_L2 (l1 : Int32) : Nat → Int32 → ZSt → Option ZSt
  | 0, _, _ => none
  | n + 1, l2, σ =>
    if (σ.1 68 13) ≤ l2 then (s_X10_goesWeeks_L37 l1 200 (0 : Int32) σ)
      else (zLd (zIn l2 8) (σ.1 81 l2.toNatClampNeg) fun v1 => (zSg (zIn l2 8) (zWD σ 85 l2.toNatClampNeg v1) fun σ2 => (zSg (zIn l2 8) (zWD σ2 90 l2.toNatClampNeg (0 : Int32)) fun σ3 => (s_X10_goesWeeks_L2 l1 n (l2 + (1 : Int32)) σ3))))
set_option maxHeartbeats 4000000 in
set_option maxRecDepth 100000 in
theorem z_X10_goesWeeks_L2 (g : ZG) (l1 : Int32) : ∀ (n : Nat) (l2 : Int32) (σ : ZSt) (o3 : Option Value), Zo g (mX10_goesWeeks g 71) (fun b : ZSt => (none, zw b)) (s_X10_goesWeeks_L2 l1 n l2 σ) 0 0 2 [some (.ref 68), some (.int l1), some (.int l2), o3] [] (zw σ) := by
  intro n
  induction n with
  | zero => intros; exact Zo_none
  | succ n ih =>
    intro l2 σ o3
    rw [s_X10_goesWeeks_L2]
    refine Zo_iload2 dX10_goesWeeks_2 ?_
    refine Zo_aload0 dX10_goesWeeks_3 ?_
    refine Zo_geti fl_X10_127 kd_68 dX10_goesWeeks_4 ?_
    refine Zo_icmpge 35 dX10_goesWeeks_7 (by decide) ?_ ?_
    · refine Zo_iconst (0 : Int32) dX10_goesWeeks_35 ic_0 ?_
      refine Zo_istore2 rfl (zlt rfl) dX10_goesWeeks_36 ?_
      exact z_X10_goesWeeks_L37 g _ _ _ _ _
    · refine Zo_aload0 dX10_goesWeeks_10 ?_
      refine Zo_getr (j := 85) fl_X10_58 kd_68 rfl dX10_goesWeeks_11 ?_
      refine Zo_iload2 dX10_goesWeeks_14 ?_
      refine Zo_aload0 dX10_goesWeeks_15 ?_
      refine Zo_getr (j := 81) fl_X10_46 kd_68 rfl dX10_goesWeeks_16 ?_
      refine Zo_iload2 dX10_goesWeeks_19 ?_
      refine Zo_iald kd_81 dX10_goesWeeks_20 fun v1 => ?_
      show Zo g _ _ _ 0 0 21 _ _ _
      refine Zo_iast kd_85 dX10_goesWeeks_21 fun σ2 => ?_
      refine Zo_aload0 dX10_goesWeeks_22 ?_
      refine Zo_getr (j := 90) fl_X10_73 kd_68 rfl dX10_goesWeeks_23 ?_
      refine Zo_iload2 dX10_goesWeeks_26 ?_
      refine Zo_iconst (0 : Int32) dX10_goesWeeks_27 ic_0 ?_
      refine Zo_iast kd_90 dX10_goesWeeks_28 fun σ3 => ?_
      refine Zo_iinc2 rfl (1 : Int32) ic_1 (zlt rfl) dX10_goesWeeks_29 ?_
      refine Zo_goto 2 dX10_goesWeeks_32 (by decide) ?_
      exact ih _ _ _
def s_X10_goesWeeks (p0 : Int32) (σ : ZSt) : Option ZSt :=
  s_X10_goesWeeks_L2 p0 200 (0 : Int32) σ
set_option maxHeartbeats 4000000 in
set_option maxRecDepth 100000 in
theorem z_X10_goesWeeks (g : ZG) (p0 : Int32) (σ : ZSt) : Zo g (mX10_goesWeeks g 71) (fun b : ZSt => (none, zw b)) (s_X10_goesWeeks p0 σ) 0 0 0 [some (.ref 68), some (.int p0), none, none] [] (zw σ) := by
  unfold s_X10_goesWeeks
  refine Zo_iconst (0 : Int32) dX10_goesWeeks_0 ic_0 ?_
  refine Zo_istore2 rfl (zlt rfl) dX10_goesWeeks_1 ?_
  exact z_X10_goesWeeks_L2 g _ _ _ _ _
theorem e_X10_goesWeeks (g : ZG) (p0 : Int32) (σ : ZSt) : zEvV g 71 yX10_goesWeeks cX10_goesWeeks 4 none [.ref 68, .int p0] σ (s_X10_goesWeeks p0 σ) :=
  zEvV_of 2 rfl rfl (z_X10_goesWeeks g p0 σ)
abbrev mX10_areWeeks (g : ZG) (q : Nat) : ZM := (yX10_areWeeks, cX10_areWeeks, 1, (some .boolean), zRm q 0 0, zTg g 0 0)
def s_X10_areWeeks (p0 : Int32) (σ : ZSt) : Option Int32 :=
  (s_X10_within (p0.toInt64) (1 : Int64) (60 : Int64) σ).bind fun r1 => (if r1 = (0 : Int32) ∨ r1 = (1 : Int32) then some r1 else none)
set_option maxHeartbeats 4000000 in
set_option maxRecDepth 100000 in
theorem z_X10_areWeeks (g : ZG) (p0 : Int32) (σ : ZSt) : Zo g (mX10_areWeeks g 1) (fun b : Int32 => (some (.int b), zw σ)) (s_X10_areWeeks p0 σ) 0 0 0 [some (.int p0)] [] (zw σ) := by
  unfold s_X10_areWeeks
  refine Zo_iload0 dX10_areWeeks_0 ?_
  refine Zo_i2l dX10_areWeeks_1 ?_
  refine Zo_lconst (1 : Int64) dX10_areWeeks_2 lc_1 ?_
  refine Zo_ldc2 rfl cw_X10_223 dX10_areWeeks_3 ?_
  refine Zo_cSI3 lk_X10_120 (e_X10_within g _ _ _ _) (zFit_rm (by decide)) (zle rfl) dX10_areWeeks_6 fun r1 => ?_
  refine Zo_guard fun hb => ?_
  exact Zo_zret dX10_areWeeks_9 rfl rfl hb (Nat.le_refl _) (Nat.le_refl _)
theorem e_X10_areWeeks (g : ZG) (p0 : Int32) (σ : ZSt) : zEvI g 1 yX10_areWeeks cX10_areWeeks 1 (some .boolean) [.int p0] σ (s_X10_areWeeks p0 σ) :=
  zEvI_of 0 rfl rfl (z_X10_areWeeks g p0 σ)
abbrev mX10_weeks (g : ZG) (q : Nat) : ZM := (yX10_weeks, cX10_weeks, 5, (some .int), zRm q 0 0, zTg g 0 0)
def s_X10_weeks_C110 (k45 : Int32 → Int32 → ZSt → Option (Int32 × ZSt)) (l2 : Int32) (l3 : Int32) (l4 : Int32) (k_1 : Int32) (k_2 : Int32) (σ : ZSt) : Option (Int32 × ZSt) :=
  zSg (zIn k_1 8) (zWD σ 81 k_1.toNatClampNeg k_2) fun σ1 => (zLd (zIn l4 8) (σ1.1 85 l4.toNatClampNeg) fun v2 => (if v2 < (0 : Int32) then (k45 (l3 + (0 : Int32)) (l4 + (1 : Int32)) σ1)
    else (k45 (l3 + (1 : Int32)) (l4 + (1 : Int32)) σ1)))
set_option maxHeartbeats 4000000 in
set_option maxRecDepth 100000 in
theorem z_X10_weeks_C110 (g : ZG) (k45 : Int32 → Int32 → ZSt → Option (Int32 × ZSt)) (l2 : Int32) (l3 : Int32) (l4 : Int32) (k_1 : Int32) (k_2 : Int32) (σ : ZSt) (hk45 : ∀ (x3 : Int32) (x4 : Int32) (σx : ZSt) (d1 : Option Value), Zo g (mX10_weeks g 72) (fun b : Int32 × ZSt => (some (.int b.1), zw b.2)) (k45 x3 x4 σx) 0 0 45 [some (.ref 68), d1, some (.int l2), some (.int x3), some (.int x4)] [] (zw σx)) (o1 : Option Value) : Zo g (mX10_weeks g 72) (fun b : Int32 × ZSt => (some (.int b.1), zw b.2)) (s_X10_weeks_C110 k45 l2 l3 l4 k_1 k_2 σ) 0 0 110 [some (.ref 68), o1, some (.int l2), some (.int l3), some (.int l4)] [.int k_2, .int k_1, .ref 81] (zw σ) := by
  unfold s_X10_weeks_C110
  refine Zo_iast kd_81 dX10_weeks_110 fun σ1 => ?_
  refine Zo_iload3 dX10_weeks_111 ?_
  refine Zo_aload0 dX10_weeks_112 ?_
  refine Zo_getr (j := 85) fl_X10_58 kd_68 rfl dX10_weeks_113 ?_
  refine Zo_iload4 dX10_weeks_116 ?_
  refine Zo_iald kd_85 dX10_weeks_118 fun v2 => ?_
  refine Zo_iflt 126 dX10_weeks_119 (by decide) ?_ ?_
  · refine Zo_iconst (0 : Int32) dX10_weeks_126 ic_0 ?_
    refine Zo_iadd dX10_weeks_127 ?_
    refine Zo_istore3 rfl (zlt rfl) dX10_weeks_128 ?_
    refine Zo_iinc4 rfl (1 : Int32) ic_1 (zlt rfl) dX10_weeks_129 ?_
    refine Zo_goto 45 dX10_weeks_132 (by decide) ?_
    exact hk45 _ _ _ _
  · refine Zo_iconst (1 : Int32) dX10_weeks_122 ic_1 ?_
    refine Zo_goto 127 dX10_weeks_123 (by decide) ?_
    refine Zo_iadd dX10_weeks_127 ?_
    refine Zo_istore3 rfl (zlt rfl) dX10_weeks_128 ?_
    refine Zo_iinc4 rfl (1 : Int32) ic_1 (zlt rfl) dX10_weeks_129 ?_
    refine Zo_goto 45 dX10_weeks_132 (by decide) ?_
    exact hk45 _ _ _ _
def s_X10_weeks_L138 (l3 : Int32) : Nat → Int32 → ZSt → Option (Int32 × ZSt)
  | 0, _, _ => none
  | n + 1, l4, σ =>
    if (σ.1 68 6) ≤ l4 then (some (l3, σ))
      else (zLd (zIn l4 6) (σ.1 89 l4.toNatClampNeg) fun v1 => (zSg (zIn l4 6) (zWD σ 93 l4.toNatClampNeg v1) fun σ2 => (s_X10_weeks_L138 l3 n (l4 + (1 : Int32)) σ2)))
set_option maxHeartbeats 4000000 in
set_option maxRecDepth 100000 in
theorem z_X10_weeks_L138 (g : ZG) (l3 : Int32) : ∀ (n : Nat) (l4 : Int32) (σ : ZSt) (o1 o2 : Option Value), Zo g (mX10_weeks g 72) (fun b : Int32 × ZSt => (some (.int b.1), zw b.2)) (s_X10_weeks_L138 l3 n l4 σ) 0 0 138 [some (.ref 68), o1, o2, some (.int l3), some (.int l4)] [] (zw σ) := by
  intro n
  induction n with
  | zero => intros; exact Zo_none
  | succ n ih =>
    intro l4 σ o1 o2
    rw [s_X10_weeks_L138]
    refine Zo_iload4 dX10_weeks_138 ?_
    refine Zo_aload0 dX10_weeks_140 ?_
    refine Zo_geti fl_X10_117 kd_68 dX10_weeks_141 ?_
    refine Zo_icmpge 167 dX10_weeks_144 (by decide) ?_ ?_
    · refine Zo_iload3 dX10_weeks_167 ?_
      exact Zo_iret dX10_weeks_168 rfl rfl (Nat.le_refl _) (Nat.le_refl _)
    · refine Zo_aload0 dX10_weeks_147 ?_
      refine Zo_getr (j := 93) fl_X10_82 kd_68 rfl dX10_weeks_148 ?_
      refine Zo_iload4 dX10_weeks_151 ?_
      refine Zo_aload0 dX10_weeks_153 ?_
      refine Zo_getr (j := 89) fl_X10_70 kd_68 rfl dX10_weeks_154 ?_
      refine Zo_iload4 dX10_weeks_157 ?_
      refine Zo_iald kd_89 dX10_weeks_159 fun v1 => ?_
      show Zo g _ _ _ 0 0 160 _ _ _
      refine Zo_iast kd_93 dX10_weeks_160 fun σ2 => ?_
      refine Zo_iinc4 rfl (1 : Int32) ic_1 (zlt rfl) dX10_weeks_161 ?_
      refine Zo_goto 138 dX10_weeks_164 (by decide) ?_
      exact ih _ _ _ _
def s_X10_weeks_L45 (l2 : Int32) : Nat → Int32 → Int32 → ZSt → Option (Int32 × ZSt)
  | 0, _, _, _ => none
  | n + 1, l3, l4, σ =>
    if (σ.1 68 13) ≤ l4 then (s_X10_weeks_L138 l3 200 (0 : Int32) σ)
      else (zLd (zIn l4 8) (σ.1 85 l4.toNatClampNeg) fun v1 => (zSg (zIn l4 8) (zWD σ 91 l4.toNatClampNeg v1) fun σ2 => (zLd (zIn l4 8) (σ2.1 90 l4.toNatClampNeg) fun v3 => (zSg (zIn l4 8) (zWD σ2 92 l4.toNatClampNeg v3) fun σ4 => (if l2 = (1 : Int32) then (zLd (zIn l4 8) (σ4.1 85 l4.toNatClampNeg) fun v6 => (s_X10_weeks_C110 (s_X10_weeks_L45 l2 n) l2 l3 l4 l4 v6 σ4))
        else (zLd (zIn l4 8) (σ4.1 81 l4.toNatClampNeg) fun v5 => (s_X10_weeks_C110 (s_X10_weeks_L45 l2 n) l2 l3 l4 l4 v5 σ4)))))))
set_option maxHeartbeats 4000000 in
set_option maxRecDepth 100000 in
theorem z_X10_weeks_L45 (g : ZG) (l2 : Int32) : ∀ (n : Nat) (l3 : Int32) (l4 : Int32) (σ : ZSt) (o1 : Option Value), Zo g (mX10_weeks g 72) (fun b : Int32 × ZSt => (some (.int b.1), zw b.2)) (s_X10_weeks_L45 l2 n l3 l4 σ) 0 0 45 [some (.ref 68), o1, some (.int l2), some (.int l3), some (.int l4)] [] (zw σ) := by
  intro n
  induction n with
  | zero => intros; exact Zo_none
  | succ n ih =>
    intro l3 l4 σ o1
    rw [s_X10_weeks_L45]
    refine Zo_iload4 dX10_weeks_45 ?_
    refine Zo_aload0 dX10_weeks_47 ?_
    refine Zo_geti fl_X10_127 kd_68 dX10_weeks_48 ?_
    refine Zo_icmpge 135 dX10_weeks_51 (by decide) ?_ ?_
    · refine Zo_iconst (0 : Int32) dX10_weeks_135 ic_0 ?_
      refine Zo_istore4 rfl (zlt rfl) dX10_weeks_136 ?_
      exact z_X10_weeks_L138 g _ _ _ _ _ _
    · refine Zo_aload0 dX10_weeks_54 ?_
      refine Zo_getr (j := 91) fl_X10_76 kd_68 rfl dX10_weeks_55 ?_
      refine Zo_iload4 dX10_weeks_58 ?_
      refine Zo_aload0 dX10_weeks_60 ?_
      refine Zo_getr (j := 85) fl_X10_58 kd_68 rfl dX10_weeks_61 ?_
      refine Zo_iload4 dX10_weeks_64 ?_
      refine Zo_iald kd_85 dX10_weeks_66 fun v1 => ?_
      show Zo g _ _ _ 0 0 67 _ _ _
      refine Zo_iast kd_91 dX10_weeks_67 fun σ2 => ?_
      refine Zo_aload0 dX10_weeks_68 ?_
      refine Zo_getr (j := 92) fl_X10_79 kd_68 rfl dX10_weeks_69 ?_
      refine Zo_iload4 dX10_weeks_72 ?_
      refine Zo_aload0 dX10_weeks_74 ?_
      refine Zo_getr (j := 90) fl_X10_73 kd_68 rfl dX10_weeks_75 ?_
      refine Zo_iload4 dX10_weeks_78 ?_
      refine Zo_iald kd_90 dX10_weeks_80 fun v3 => ?_
      show Zo g _ _ _ 0 0 81 _ _ _
      refine Zo_iast kd_92 dX10_weeks_81 fun σ4 => ?_
      refine Zo_aload0 dX10_weeks_82 ?_
      refine Zo_getr (j := 81) fl_X10_46 kd_68 rfl dX10_weeks_83 ?_
      refine Zo_iload4 dX10_weeks_86 ?_
      refine Zo_iload2 dX10_weeks_88 ?_
      refine Zo_iconst (1 : Int32) dX10_weeks_89 ic_1 ?_
      refine Zo_icmpne 103 dX10_weeks_90 (by decide) ?_ ?_
      · refine Zo_aload0 dX10_weeks_103 ?_
        refine Zo_getr (j := 81) fl_X10_46 kd_68 rfl dX10_weeks_104 ?_
        refine Zo_iload4 dX10_weeks_107 ?_
        refine Zo_iald kd_81 dX10_weeks_109 fun v5 => ?_
        exact z_X10_weeks_C110 g (s_X10_weeks_L45 l2 n) _ _ _ _ _ _ ih _
      · refine Zo_aload0 dX10_weeks_93 ?_
        refine Zo_getr (j := 85) fl_X10_58 kd_68 rfl dX10_weeks_94 ?_
        refine Zo_iload4 dX10_weeks_97 ?_
        refine Zo_iald kd_85 dX10_weeks_99 fun v6 => ?_
        refine Zo_goto 110 dX10_weeks_100 (by decide) ?_
        exact z_X10_weeks_C110 g (s_X10_weeks_L45 l2 n) _ _ _ _ _ _ ih _
def s_X10_weeks (p0 : Int32) (p1 : Int32) (σ : ZSt) : Option (Int32 × ZSt) :=
  (s_X10_areWeeks p0 σ).bind fun r1 => (if r1 = (0 : Int32) then (some ((-1 : Int32), σ))
    else ((s_X10_within (p1.toInt64) (0 : Int64) (1 : Int64) σ).bind fun r2 => (if r2 = (0 : Int32) then (some ((-1 : Int32), σ))
      else ((s_X10_goesWeeks p0 σ).bind fun σ3 => (zSt' (zWD σ3 68 34 (σ3.1 68 6)) fun σ4 => (zSt' (zWD σ4 68 35 (σ4.1 68 13)) fun σ5 => (s_X10_weeks_L45 p1 200 (0 : Int32) (0 : Int32) σ5)))))))
set_option maxHeartbeats 4000000 in
set_option maxRecDepth 100000 in
theorem z_X10_weeks (g : ZG) (p0 : Int32) (p1 : Int32) (σ : ZSt) : Zo g (mX10_weeks g 72) (fun b : Int32 × ZSt => (some (.int b.1), zw b.2)) (s_X10_weeks p0 p1 σ) 0 0 0 [some (.ref 68), some (.int p0), some (.int p1), none, none] [] (zw σ) := by
  unfold s_X10_weeks
  refine Zo_iload1 dX10_weeks_0 ?_
  refine Zo_cSI1 lk_X10_304 (e_X10_areWeeks g _ _) (zFit_rm (by decide)) (zle rfl) dX10_weeks_1 fun r1 => ?_
  refine Zo_ifeq 17 dX10_weeks_4 (by decide) ?_ ?_
  · refine Zo_iconst (-1 : Int32) dX10_weeks_17 ic_m1 ?_
    exact Zo_iret dX10_weeks_18 rfl rfl (Nat.le_refl _) (Nat.le_refl _)
  · refine Zo_iload2 dX10_weeks_7 ?_
    refine Zo_i2l dX10_weeks_8 ?_
    refine Zo_lconst (0 : Int64) dX10_weeks_9 lc_0 ?_
    refine Zo_lconst (1 : Int64) dX10_weeks_10 lc_1 ?_
    refine Zo_cSI3 lk_X10_120 (e_X10_within g _ _ _ _) (zFit_rm (by decide)) (zle rfl) dX10_weeks_11 fun r2 => ?_
    refine Zo_ifne 19 dX10_weeks_14 (by decide) ?_ ?_
    · refine Zo_aload0 dX10_weeks_19 ?_
      refine Zo_iload1 dX10_weeks_20 ?_
      refine Zo_cVV1 lk_X10_307 (e_X10_goesWeeks g _ _) kd_68 (zFit_rm (by decide)) (zle rfl) dX10_weeks_21 fun σ3 => ?_
      refine Zo_aload0 dX10_weeks_24 ?_
      refine Zo_aload0 dX10_weeks_25 ?_
      refine Zo_geti fl_X10_117 kd_68 dX10_weeks_26 ?_
      refine Zo_puti fl_X10_108 kd_68 dX10_weeks_29 fun σ4 => ?_
      show Zo g _ _ _ 0 0 32 _ _ _
      refine Zo_aload0 dX10_weeks_32 ?_
      refine Zo_aload0 dX10_weeks_33 ?_
      refine Zo_geti fl_X10_127 kd_68 dX10_weeks_34 ?_
      refine Zo_puti fl_X10_310 kd_68 dX10_weeks_37 fun σ5 => ?_
      refine Zo_iconst (0 : Int32) dX10_weeks_40 ic_0 ?_
      refine Zo_istore3 rfl (zlt rfl) dX10_weeks_41 ?_
      refine Zo_iconst (0 : Int32) dX10_weeks_42 ic_0 ?_
      refine Zo_istore4 rfl (zlt rfl) dX10_weeks_43 ?_
      exact z_X10_weeks_L45 g _ _ _ _ _ _
    · refine Zo_iconst (-1 : Int32) dX10_weeks_17 ic_m1 ?_
      exact Zo_iret dX10_weeks_18 rfl rfl (Nat.le_refl _) (Nat.le_refl _)
theorem e_X10_weeks (g : ZG) (p0 : Int32) (p1 : Int32) (σ : ZSt) : zEvS g 72 yX10_weeks cX10_weeks 5 (some .int) [.ref 68, .int p0, .int p1] σ (s_X10_weeks p0 p1 σ) :=
  zEvS_of 2 rfl rfl (z_X10_weeks g p0 p1 σ)
abbrev mX10_week (g : ZG) (q : Nat) : ZM := (yX10_week, cX10_week, 6, (some .int), zRm q 0 0, zTg g 0 0)
def s_X10_week_C143 (l1 : Int32) (l2 : Int32) (l3 : Int32) (l4 : Int32) (σ : ZSt) : Option Int32 :=
  if l2 = (2 : Int32) then (zLd (zIn l1 6) (σ.1 93 l1.toNatClampNeg) fun v1 => (some v1))
    else (if l2 = (3 : Int32) then (some l3)
      else (some l4))
set_option maxHeartbeats 4000000 in
set_option maxRecDepth 100000 in
theorem z_X10_week_C143 (g : ZG) (l1 : Int32) (l2 : Int32) (l3 : Int32) (l4 : Int32) (σ : ZSt) (o5 : Option Value) : Zo g (mX10_week g 1) (fun b : Int32 => (some (.int b), zw σ)) (s_X10_week_C143 l1 l2 l3 l4 σ) 0 0 143 [some (.ref 68), some (.int l1), some (.int l2), some (.int l3), some (.int l4), o5] [] (zw σ) := by
  unfold s_X10_week_C143
  refine Zo_iload2 dX10_week_143 ?_
  refine Zo_iconst (2 : Int32) dX10_week_144 ic_2 ?_
  refine Zo_icmpne 157 dX10_week_145 (by decide) ?_ ?_
  · refine Zo_iload2 dX10_week_157 ?_
    refine Zo_iconst (3 : Int32) dX10_week_158 ic_3 ?_
    refine Zo_icmpne 166 dX10_week_159 (by decide) ?_ ?_
    · refine Zo_iload4 dX10_week_166 ?_
      exact Zo_iret dX10_week_168 rfl rfl (Nat.le_refl _) (Nat.le_refl _)
    · refine Zo_iload3 dX10_week_162 ?_
      refine Zo_goto 168 dX10_week_163 (by decide) ?_
      exact Zo_iret dX10_week_168 rfl rfl (Nat.le_refl _) (Nat.le_refl _)
  · refine Zo_aload0 dX10_week_148 ?_
    refine Zo_getr (j := 93) fl_X10_82 kd_68 rfl dX10_week_149 ?_
    refine Zo_iload1 dX10_week_152 ?_
    refine Zo_iald kd_93 dX10_week_153 fun v1 => ?_
    refine Zo_goto 168 dX10_week_154 (by decide) ?_
    exact Zo_iret dX10_week_168 rfl rfl (Nat.le_refl _) (Nat.le_refl _)
def s_X10_week_L83 (l1 : Int32) (l2 : Int32) (σ : ZSt) : Nat → Int32 → Int32 → Int32 → Option Int32
  | 0, _, _, _ => none
  | n + 1, l3, l4, l5 =>
    if (σ.1 68 35) ≤ l5 then (s_X10_week_C143 l1 l2 l3 l4 σ)
      else (zLd (zIn l5 8) (σ.1 91 l5.toNatClampNeg) fun v1 => (if v1 = l1 then (if l4 < (0 : Int32) then (s_X10_week_L83 l1 l2 σ n (l3 + (1 : Int32)) l5 (l5 + (1 : Int32)))
          else (zLd (zIn l5 8) (σ.1 92 l5.toNatClampNeg) fun v2 => (zLd (zIn l4 8) (σ.1 92 l4.toNatClampNeg) fun v3 => (if v2 ≤ v3 then (s_X10_week_L83 l1 l2 σ n (l3 + (1 : Int32)) l4 (l5 + (1 : Int32)))
            else (s_X10_week_L83 l1 l2 σ n (l3 + (1 : Int32)) l5 (l5 + (1 : Int32)))))))
        else (s_X10_week_L83 l1 l2 σ n l3 l4 (l5 + (1 : Int32)))))
set_option maxHeartbeats 4000000 in
set_option maxRecDepth 100000 in
theorem z_X10_week_L83 (g : ZG) (l1 : Int32) (l2 : Int32) (σ : ZSt) : ∀ (n : Nat) (l3 : Int32) (l4 : Int32) (l5 : Int32), Zo g (mX10_week g 1) (fun b : Int32 => (some (.int b), zw σ)) (s_X10_week_L83 l1 l2 σ n l3 l4 l5) 0 0 83 [some (.ref 68), some (.int l1), some (.int l2), some (.int l3), some (.int l4), some (.int l5)] [] (zw σ) := by
  intro n
  induction n with
  | zero => intros; exact Zo_none
  | succ n ih =>
    intro l3 l4 l5
    rw [s_X10_week_L83]
    refine Zo_iload5 dX10_week_83 ?_
    refine Zo_aload0 dX10_week_85 ?_
    refine Zo_geti fl_X10_310 kd_68 dX10_week_86 ?_
    refine Zo_icmpge 143 dX10_week_89 (by decide) ?_ ?_
    · exact z_X10_week_C143 g _ _ _ _ _ _
    · refine Zo_aload0 dX10_week_92 ?_
      refine Zo_getr (j := 91) fl_X10_76 kd_68 rfl dX10_week_93 ?_
      refine Zo_iload5 dX10_week_96 ?_
      refine Zo_iald kd_91 dX10_week_98 fun v1 => ?_
      refine Zo_iload1 dX10_week_99 ?_
      refine Zo_icmpne 137 dX10_week_100 (by decide) ?_ ?_
      · refine Zo_iinc5 rfl (1 : Int32) ic_1 (zlt rfl) dX10_week_137 ?_
        refine Zo_goto 83 dX10_week_140 (by decide) ?_
        exact ih _ _ _
      · refine Zo_iinc3 rfl (1 : Int32) ic_1 (zlt rfl) dX10_week_103 ?_
        refine Zo_iload4 dX10_week_106 ?_
        refine Zo_iflt 128 dX10_week_108 (by decide) ?_ ?_
        · refine Zo_iload5 dX10_week_128 ?_
          refine Zo_goto 135 dX10_week_130 (by decide) ?_
          refine Zo_istore4 rfl (zlt rfl) dX10_week_135 ?_
          refine Zo_iinc5 rfl (1 : Int32) ic_1 (zlt rfl) dX10_week_137 ?_
          refine Zo_goto 83 dX10_week_140 (by decide) ?_
          exact ih _ _ _
        · refine Zo_aload0 dX10_week_111 ?_
          refine Zo_getr (j := 92) fl_X10_79 kd_68 rfl dX10_week_112 ?_
          refine Zo_iload5 dX10_week_115 ?_
          refine Zo_iald kd_92 dX10_week_117 fun v2 => ?_
          refine Zo_aload0 dX10_week_118 ?_
          refine Zo_getr (j := 92) fl_X10_79 kd_68 rfl dX10_week_119 ?_
          refine Zo_iload4 dX10_week_122 ?_
          show Zo g _ _ _ 0 0 124 _ _ _
          refine Zo_iald kd_92 dX10_week_124 fun v3 => ?_
          refine Zo_icmple 133 dX10_week_125 (by decide) ?_ ?_
          · refine Zo_iload4 dX10_week_133 ?_
            refine Zo_istore4 rfl (zlt rfl) dX10_week_135 ?_
            refine Zo_iinc5 rfl (1 : Int32) ic_1 (zlt rfl) dX10_week_137 ?_
            refine Zo_goto 83 dX10_week_140 (by decide) ?_
            exact ih _ _ _
          · refine Zo_iload5 dX10_week_128 ?_
            refine Zo_goto 135 dX10_week_130 (by decide) ?_
            refine Zo_istore4 rfl (zlt rfl) dX10_week_135 ?_
            refine Zo_iinc5 rfl (1 : Int32) ic_1 (zlt rfl) dX10_week_137 ?_
            refine Zo_goto 83 dX10_week_140 (by decide) ?_
            exact ih _ _ _
def s_X10_week_C38 (l1 : Int32) (l2 : Int32) (k_0 : Int64) (k_1 : Int64) (k_2 : Int32) (σ : ZSt) : Option Int32 :=
  (s_X10_within k_0 k_1 ((k_2 - (1 : Int32)).toInt64) σ).bind fun r1 => (if r1 = (0 : Int32) then (some (-2000000000 : Int32))
    else (if (2 : Int32) ≤ l2 then (s_X10_week_L83 l1 l2 σ 200 (0 : Int32) (-1 : Int32) (0 : Int32))
      else (if l2 = (0 : Int32) then (zLd (zIn l1 8) (σ.1 91 l1.toNatClampNeg) fun v3 => (some v3))
        else (zLd (zIn l1 8) (σ.1 92 l1.toNatClampNeg) fun v2 => (some v2)))))
set_option maxHeartbeats 4000000 in
set_option maxRecDepth 100000 in
theorem z_X10_week_C38 (g : ZG) (l1 : Int32) (l2 : Int32) (k_0 : Int64) (k_1 : Int64) (k_2 : Int32) (σ : ZSt) (o3 : Option Value) (o4 : Option Value) (o5 : Option Value) : Zo g (mX10_week g 1) (fun b : Int32 => (some (.int b), zw σ)) (s_X10_week_C38 l1 l2 k_0 k_1 k_2 σ) 0 0 38 [some (.ref 68), some (.int l1), some (.int l2), o3, o4, o5] [.int k_2, .long k_1, .long k_0] (zw σ) := by
  unfold s_X10_week_C38
  refine Zo_iconst (1 : Int32) dX10_week_38 ic_1 ?_
  refine Zo_isub dX10_week_39 ?_
  refine Zo_i2l dX10_week_40 ?_
  refine Zo_cSI3 lk_X10_120 (e_X10_within g _ _ _ _) (zFit_rm (by decide)) (zle rfl) dX10_week_41 fun r1 => ?_
  refine Zo_ifne 50 dX10_week_44 (by decide) ?_ ?_
  · refine Zo_iload2 dX10_week_50 ?_
    refine Zo_iconst (2 : Int32) dX10_week_51 ic_2 ?_
    refine Zo_icmpge 75 dX10_week_52 (by decide) ?_ ?_
    · refine Zo_iconst (0 : Int32) dX10_week_75 ic_0 ?_
      refine Zo_istore3 rfl (zlt rfl) dX10_week_76 ?_
      refine Zo_iconst (-1 : Int32) dX10_week_77 ic_m1 ?_
      refine Zo_istore4 rfl (zlt rfl) dX10_week_78 ?_
      refine Zo_iconst (0 : Int32) dX10_week_80 ic_0 ?_
      refine Zo_istore5 rfl (zlt rfl) dX10_week_81 ?_
      exact z_X10_week_L83 g _ _ _ _ _ _ _
    · refine Zo_iload2 dX10_week_55 ?_
      refine Zo_ifne 68 dX10_week_56 (by decide) ?_ ?_
      · refine Zo_aload0 dX10_week_68 ?_
        refine Zo_getr (j := 92) fl_X10_79 kd_68 rfl dX10_week_69 ?_
        refine Zo_iload1 dX10_week_72 ?_
        refine Zo_iald kd_92 dX10_week_73 fun v2 => ?_
        exact Zo_iret dX10_week_74 rfl rfl (Nat.le_refl _) (Nat.le_refl _)
      · refine Zo_aload0 dX10_week_59 ?_
        refine Zo_getr (j := 91) fl_X10_76 kd_68 rfl dX10_week_60 ?_
        refine Zo_iload1 dX10_week_63 ?_
        refine Zo_iald kd_91 dX10_week_64 fun v3 => ?_
        refine Zo_goto 74 dX10_week_65 (by decide) ?_
        exact Zo_iret dX10_week_74 rfl rfl (Nat.le_refl _) (Nat.le_refl _)
  · refine Zo_ldc rfl cw_X10_168 dX10_week_47 ?_
    exact Zo_iret dX10_week_49 rfl rfl (Nat.le_refl _) (Nat.le_refl _)
def s_X10_week (p0 : Int32) (p1 : Int32) (σ : ZSt) : Option Int32 :=
  if (σ.1 68 34) < (0 : Int32) then (some (-2000000000 : Int32))
    else ((s_X10_within (p1.toInt64) (0 : Int64) (4 : Int64) σ).bind fun r1 => (if r1 = (0 : Int32) then (some (-2000000000 : Int32))
      else (if (2 : Int32) ≤ p1 then (s_X10_week_C38 p0 p1 (p0.toInt64) (0 : Int64) (σ.1 68 34) σ)
        else (s_X10_week_C38 p0 p1 (p0.toInt64) (0 : Int64) (σ.1 68 35) σ))))
set_option maxHeartbeats 4000000 in
set_option maxRecDepth 100000 in
theorem z_X10_week (g : ZG) (p0 : Int32) (p1 : Int32) (σ : ZSt) : Zo g (mX10_week g 1) (fun b : Int32 => (some (.int b), zw σ)) (s_X10_week p0 p1 σ) 0 0 0 [some (.ref 68), some (.int p0), some (.int p1), none, none, none] [] (zw σ) := by
  unfold s_X10_week
  refine Zo_aload0 dX10_week_0 ?_
  refine Zo_geti fl_X10_108 kd_68 dX10_week_1 ?_
  refine Zo_iflt 47 dX10_week_4 (by decide) ?_ ?_
  · refine Zo_ldc rfl cw_X10_168 dX10_week_47 ?_
    exact Zo_iret dX10_week_49 rfl rfl (Nat.le_refl _) (Nat.le_refl _)
  · refine Zo_iload2 dX10_week_7 ?_
    refine Zo_i2l dX10_week_8 ?_
    refine Zo_lconst (0 : Int64) dX10_week_9 lc_0 ?_
    refine Zo_ldc2 rfl cw_X10_234 dX10_week_10 ?_
    refine Zo_cSI3 lk_X10_120 (e_X10_within g _ _ _ _) (zFit_rm (by decide)) (zle rfl) dX10_week_13 fun r1 => ?_
    refine Zo_ifeq 47 dX10_week_16 (by decide) ?_ ?_
    · refine Zo_ldc rfl cw_X10_168 dX10_week_47 ?_
      exact Zo_iret dX10_week_49 rfl rfl (Nat.le_refl _) (Nat.le_refl _)
    · refine Zo_iload1 dX10_week_19 ?_
      refine Zo_i2l dX10_week_20 ?_
      refine Zo_lconst (0 : Int64) dX10_week_21 lc_0 ?_
      refine Zo_iload2 dX10_week_22 ?_
      refine Zo_iconst (2 : Int32) dX10_week_23 ic_2 ?_
      refine Zo_icmpge 34 dX10_week_24 (by decide) ?_ ?_
      · refine Zo_aload0 dX10_week_34 ?_
        refine Zo_geti fl_X10_108 kd_68 dX10_week_35 ?_
        exact z_X10_week_C38 g _ _ _ _ _ _ _ _ _
      · refine Zo_aload0 dX10_week_27 ?_
        refine Zo_geti fl_X10_310 kd_68 dX10_week_28 ?_
        refine Zo_goto 38 dX10_week_31 (by decide) ?_
        exact z_X10_week_C38 g _ _ _ _ _ _ _ _ _
theorem e_X10_week (g : ZG) (p0 : Int32) (p1 : Int32) (σ : ZSt) : zEvI g 1 yX10_week cX10_week 6 (some .int) [.ref 68, .int p0, .int p1] σ (s_X10_week p0 p1 σ) :=
  zEvI_of 3 rfl rfl (z_X10_week g p0 p1 σ)
abbrev mX10_best (g : ZG) (q : Nat) : ZM := (yX10_best, cX10_best, 10, (some .int), zRm q 0 0, zTg g 0 0)
def s_X10_best_C81 (k53 : Int32 → Int32 → Int32 → ZSt → Option (Int32 × ZSt)) (k62 : Int32 → Int32 → Int32 → ZSt → Option (Int32 × ZSt)) (l1 : Int32) (l2 : Int32) (l3 : Int32) (l4 : Int32) (l5 : Int32) (l6 : Int32) (l7 : Int32) (l8 : Int32) (l9 : Int32) (k_0 : Int32) (k_1 : Int32) (σ : ZSt) : Option (Int32 × ZSt) :=
  if k_1 < k_0 then (k53 l6 l7 (l8 + (1 : Int32)) σ)
    else (zSg (zIn l1 6) (zWD σ 74 l1.toNatClampNeg l8) fun σ1 => (zSg (zIn l1 6) (zWD σ1 75 l1.toNatClampNeg l9) fun σ2 => ((s_X10_goesWeeks l2 σ2).bind fun σ3 => (if l6 < (0 : Int32) then (zLd (zIn l1 6) (σ3.1 89 l1.toNatClampNeg) fun v4 => (k62 (((100 : Int32) * l8) + l9) v4 (l9 + (10 : Int32)) σ3))
      else (zLd (zIn l1 6) (σ3.1 89 l1.toNatClampNeg) fun v5 => (if l7 ≤ v5 then (k62 l6 l7 (l9 + (10 : Int32)) σ3)
        else (zLd (zIn l1 6) (σ3.1 89 l1.toNatClampNeg) fun v6 => (k62 (((100 : Int32) * l8) + l9) v6 (l9 + (10 : Int32)) σ3))))))))
set_option maxHeartbeats 4000000 in
set_option maxRecDepth 100000 in
theorem z_X10_best_C81 (g : ZG) (k53 : Int32 → Int32 → Int32 → ZSt → Option (Int32 × ZSt)) (k62 : Int32 → Int32 → Int32 → ZSt → Option (Int32 × ZSt)) (l1 : Int32) (l2 : Int32) (l3 : Int32) (l4 : Int32) (l5 : Int32) (l6 : Int32) (l7 : Int32) (l8 : Int32) (l9 : Int32) (k_0 : Int32) (k_1 : Int32) (σ : ZSt) (hk53 : ∀ (x6 : Int32) (x7 : Int32) (x8 : Int32) (σx : ZSt) (d9 : Option Value), Zo g (mX10_best g 72) (fun b : Int32 × ZSt => (some (.int b.1), zw b.2)) (k53 x6 x7 x8 σx) 0 0 53 [some (.ref 68), some (.int l1), some (.int l2), some (.int l3), some (.int l4), some (.int l5), some (.int x6), some (.int x7), some (.int x8), d9] [] (zw σx)) (hk62 : ∀ (x6 : Int32) (x7 : Int32) (x9 : Int32) (σx : ZSt), Zo g (mX10_best g 72) (fun b : Int32 × ZSt => (some (.int b.1), zw b.2)) (k62 x6 x7 x9 σx) 0 0 62 [some (.ref 68), some (.int l1), some (.int l2), some (.int l3), some (.int l4), some (.int l5), some (.int x6), some (.int x7), some (.int l8), some (.int x9)] [] (zw σx)) : Zo g (mX10_best g 72) (fun b : Int32 × ZSt => (some (.int b.1), zw b.2)) (s_X10_best_C81 k53 k62 l1 l2 l3 l4 l5 l6 l7 l8 l9 k_0 k_1 σ) 0 0 81 [some (.ref 68), some (.int l1), some (.int l2), some (.int l3), some (.int l4), some (.int l5), some (.int l6), some (.int l7), some (.int l8), some (.int l9)] [.int k_1, .int k_0] (zw σ) := by
  unfold s_X10_best_C81
  refine Zo_icmpgt 145 dX10_best_81 (by decide) ?_ ?_
  · refine Zo_iinc8 rfl (1 : Int32) ic_1 (zlt rfl) dX10_best_145 ?_
    refine Zo_goto 53 dX10_best_148 (by decide) ?_
    exact hk53 _ _ _ _ _
  · refine Zo_aload0 dX10_best_84 ?_
    refine Zo_getr (j := 74) fl_X10_25 kd_68 rfl dX10_best_85 ?_
    refine Zo_iload1 dX10_best_88 ?_
    refine Zo_iload8 dX10_best_89 ?_
    refine Zo_iast kd_74 dX10_best_91 fun σ1 => ?_
    refine Zo_aload0 dX10_best_92 ?_
    refine Zo_getr (j := 75) fl_X10_28 kd_68 rfl dX10_best_93 ?_
    show Zo g _ _ _ 0 0 96 _ _ _
    refine Zo_iload1 dX10_best_96 ?_
    refine Zo_iload9 dX10_best_97 ?_
    refine Zo_iast kd_75 dX10_best_99 fun σ2 => ?_
    refine Zo_aload0 dX10_best_100 ?_
    refine Zo_iload2 dX10_best_101 ?_
    refine Zo_cVV1 lk_X10_307 (e_X10_goesWeeks g _ _) kd_68 (zFit_rm (by decide)) (zle rfl) dX10_best_102 fun σ3 => ?_
    refine Zo_iload6 dX10_best_105 ?_
    refine Zo_iflt 121 dX10_best_107 (by decide) ?_ ?_
    · refine Zo_bipush (100 : Int32) dX10_best_121 bp_100 ?_
      refine Zo_iload8 dX10_best_123 ?_
      refine Zo_imul dX10_best_125 ?_
      refine Zo_iload9 dX10_best_126 ?_
      refine Zo_iadd dX10_best_128 ?_
      refine Zo_istore6 rfl (zlt rfl) dX10_best_129 ?_
      refine Zo_aload0 dX10_best_131 ?_
      show Zo g _ _ _ 0 0 132 _ _ _
      refine Zo_getr (j := 89) fl_X10_70 kd_68 rfl dX10_best_132 ?_
      refine Zo_iload1 dX10_best_135 ?_
      refine Zo_iald kd_89 dX10_best_136 fun v4 => ?_
      refine Zo_istore7 rfl (zlt rfl) dX10_best_137 ?_
      refine Zo_iinc9 rfl (10 : Int32) ic_10 (zlt rfl) dX10_best_139 ?_
      refine Zo_goto 62 dX10_best_142 (by decide) ?_
      exact hk62 _ _ _ _
    · refine Zo_aload0 dX10_best_110 ?_
      refine Zo_getr (j := 89) fl_X10_70 kd_68 rfl dX10_best_111 ?_
      refine Zo_iload1 dX10_best_114 ?_
      refine Zo_iald kd_89 dX10_best_115 fun v5 => ?_
      refine Zo_iload7 dX10_best_116 ?_
      refine Zo_icmpge 139 dX10_best_118 (by decide) ?_ ?_
      · refine Zo_iinc9 rfl (10 : Int32) ic_10 (zlt rfl) dX10_best_139 ?_
        refine Zo_goto 62 dX10_best_142 (by decide) ?_
        exact hk62 _ _ _ _
      · refine Zo_bipush (100 : Int32) dX10_best_121 bp_100 ?_
        refine Zo_iload8 dX10_best_123 ?_
        refine Zo_imul dX10_best_125 ?_
        refine Zo_iload9 dX10_best_126 ?_
        refine Zo_iadd dX10_best_128 ?_
        refine Zo_istore6 rfl (zlt rfl) dX10_best_129 ?_
        refine Zo_aload0 dX10_best_131 ?_
        show Zo g _ _ _ 0 0 132 _ _ _
        refine Zo_getr (j := 89) fl_X10_70 kd_68 rfl dX10_best_132 ?_
        refine Zo_iload1 dX10_best_135 ?_
        refine Zo_iald kd_89 dX10_best_136 fun v6 => ?_
        refine Zo_istore7 rfl (zlt rfl) dX10_best_137 ?_
        refine Zo_iinc9 rfl (10 : Int32) ic_10 (zlt rfl) dX10_best_139 ?_
        refine Zo_goto 62 dX10_best_142 (by decide) ?_
        exact hk62 _ _ _ _
def s_X10_best_L62 (k53 : Int32 → Int32 → Int32 → ZSt → Option (Int32 × ZSt)) (l1 : Int32) (l2 : Int32) (l3 : Int32) (l4 : Int32) (l5 : Int32) (l8 : Int32) : Nat → Int32 → Int32 → Int32 → ZSt → Option (Int32 × ZSt)
  | 0, _, _, _, _ => none
  | n + 1, l6, l7, l9, σ =>
    if l8 = (0 : Int32) then (s_X10_best_C81 k53 (s_X10_best_L62 k53 l1 l2 l3 l4 l5 l8 n) l1 l2 l3 l4 l5 l6 l7 l8 l9 l9 (0 : Int32) σ)
      else (if l8 = (3 : Int32) then (s_X10_best_C81 k53 (s_X10_best_L62 k53 l1 l2 l3 l4 l5 l8 n) l1 l2 l3 l4 l5 l6 l7 l8 l9 l9 (0 : Int32) σ)
        else (s_X10_best_C81 k53 (s_X10_best_L62 k53 l1 l2 l3 l4 l5 l8 n) l1 l2 l3 l4 l5 l6 l7 l8 l9 l9 (90 : Int32) σ))
set_option maxHeartbeats 4000000 in
set_option maxRecDepth 100000 in
theorem z_X10_best_L62 (g : ZG) (k53 : Int32 → Int32 → Int32 → ZSt → Option (Int32 × ZSt)) (l1 : Int32) (l2 : Int32) (l3 : Int32) (l4 : Int32) (l5 : Int32) (l8 : Int32) (hk53 : ∀ (x6 : Int32) (x7 : Int32) (x8 : Int32) (σx : ZSt) (d9 : Option Value), Zo g (mX10_best g 72) (fun b : Int32 × ZSt => (some (.int b.1), zw b.2)) (k53 x6 x7 x8 σx) 0 0 53 [some (.ref 68), some (.int l1), some (.int l2), some (.int l3), some (.int l4), some (.int l5), some (.int x6), some (.int x7), some (.int x8), d9] [] (zw σx)) : ∀ (n : Nat) (l6 : Int32) (l7 : Int32) (l9 : Int32) (σ : ZSt), Zo g (mX10_best g 72) (fun b : Int32 × ZSt => (some (.int b.1), zw b.2)) (s_X10_best_L62 k53 l1 l2 l3 l4 l5 l8 n l6 l7 l9 σ) 0 0 62 [some (.ref 68), some (.int l1), some (.int l2), some (.int l3), some (.int l4), some (.int l5), some (.int l6), some (.int l7), some (.int l8), some (.int l9)] [] (zw σ) := by
  intro n
  induction n with
  | zero => intros; exact Zo_none
  | succ n ih =>
    intro l6 l7 l9 σ
    rw [s_X10_best_L62]
    refine Zo_iload9 dX10_best_62 ?_
    refine Zo_iload8 dX10_best_64 ?_
    refine Zo_ifeq 75 dX10_best_66 (by decide) ?_ ?_
    · refine Zo_iconst (0 : Int32) dX10_best_75 ic_0 ?_
      refine Zo_goto 81 dX10_best_76 (by decide) ?_
      exact z_X10_best_C81 g k53 (s_X10_best_L62 k53 l1 l2 l3 l4 l5 l8 n) _ _ _ _ _ _ _ _ _ _ _ _ hk53 ih 
    · refine Zo_iload8 dX10_best_69 ?_
      refine Zo_iconst (3 : Int32) dX10_best_71 ic_3 ?_
      refine Zo_icmpne 79 dX10_best_72 (by decide) ?_ ?_
      · refine Zo_bipush (90 : Int32) dX10_best_79 bp_90 ?_
        exact z_X10_best_C81 g k53 (s_X10_best_L62 k53 l1 l2 l3 l4 l5 l8 n) _ _ _ _ _ _ _ _ _ _ _ _ hk53 ih 
      · refine Zo_iconst (0 : Int32) dX10_best_75 ic_0 ?_
        refine Zo_goto 81 dX10_best_76 (by decide) ?_
        exact z_X10_best_C81 g k53 (s_X10_best_L62 k53 l1 l2 l3 l4 l5 l8 n) _ _ _ _ _ _ _ _ _ _ _ _ hk53 ih 
def s_X10_best_C151 (l1 : Int32) (l3 : Int32) (l4 : Int32) (l5 : Int32) (l6 : Int32) (l7 : Int32) (σ : ZSt) : Option (Int32 × ZSt) :=
  zSg (zIn l1 6) (zWD σ 74 l1.toNatClampNeg l4) fun σ1 => (zSg (zIn l1 6) (zWD σ1 75 l1.toNatClampNeg l5) fun σ2 => (if l3 = (0 : Int32) then (some (l6, σ2))
    else (some (l7, σ2))))
set_option maxHeartbeats 4000000 in
set_option maxRecDepth 100000 in
theorem z_X10_best_C151 (g : ZG) (l1 : Int32) (l3 : Int32) (l4 : Int32) (l5 : Int32) (l6 : Int32) (l7 : Int32) (σ : ZSt) (o2 : Option Value) (o8 : Option Value) (o9 : Option Value) : Zo g (mX10_best g 72) (fun b : Int32 × ZSt => (some (.int b.1), zw b.2)) (s_X10_best_C151 l1 l3 l4 l5 l6 l7 σ) 0 0 151 [some (.ref 68), some (.int l1), o2, some (.int l3), some (.int l4), some (.int l5), some (.int l6), some (.int l7), o8, o9] [] (zw σ) := by
  unfold s_X10_best_C151
  refine Zo_aload0 dX10_best_151 ?_
  refine Zo_getr (j := 74) fl_X10_25 kd_68 rfl dX10_best_152 ?_
  refine Zo_iload1 dX10_best_155 ?_
  refine Zo_iload4 dX10_best_156 ?_
  refine Zo_iast kd_74 dX10_best_158 fun σ1 => ?_
  refine Zo_aload0 dX10_best_159 ?_
  refine Zo_getr (j := 75) fl_X10_28 kd_68 rfl dX10_best_160 ?_
  show Zo g _ _ _ 0 0 163 _ _ _
  refine Zo_iload1 dX10_best_163 ?_
  refine Zo_iload5 dX10_best_164 ?_
  refine Zo_iast kd_75 dX10_best_166 fun σ2 => ?_
  refine Zo_iload3 dX10_best_167 ?_
  refine Zo_ifne 176 dX10_best_168 (by decide) ?_ ?_
  · refine Zo_iload7 dX10_best_176 ?_
    exact Zo_iret dX10_best_178 rfl rfl (Nat.le_refl _) (Nat.le_refl _)
  · refine Zo_iload6 dX10_best_171 ?_
    refine Zo_goto 178 dX10_best_173 (by decide) ?_
    exact Zo_iret dX10_best_178 rfl rfl (Nat.le_refl _) (Nat.le_refl _)
def s_X10_best_L53 (l1 : Int32) (l2 : Int32) (l3 : Int32) (l4 : Int32) (l5 : Int32) : Nat → Int32 → Int32 → Int32 → ZSt → Option (Int32 × ZSt)
  | 0, _, _, _, _ => none
  | n + 1, l6, l7, l8, σ =>
    if (4 : Int32) < l8 then (s_X10_best_C151 l1 l3 l4 l5 l6 l7 σ)
      else (s_X10_best_L62 (s_X10_best_L53 l1 l2 l3 l4 l5 n) l1 l2 l3 l4 l5 l8 200 l6 l7 (0 : Int32) σ)
set_option maxHeartbeats 4000000 in
set_option maxRecDepth 100000 in
theorem z_X10_best_L53 (g : ZG) (l1 : Int32) (l2 : Int32) (l3 : Int32) (l4 : Int32) (l5 : Int32) : ∀ (n : Nat) (l6 : Int32) (l7 : Int32) (l8 : Int32) (σ : ZSt) (o9 : Option Value), Zo g (mX10_best g 72) (fun b : Int32 × ZSt => (some (.int b.1), zw b.2)) (s_X10_best_L53 l1 l2 l3 l4 l5 n l6 l7 l8 σ) 0 0 53 [some (.ref 68), some (.int l1), some (.int l2), some (.int l3), some (.int l4), some (.int l5), some (.int l6), some (.int l7), some (.int l8), o9] [] (zw σ) := by
  intro n
  induction n with
  | zero => intros; exact Zo_none
  | succ n ih =>
    intro l6 l7 l8 σ o9
    rw [s_X10_best_L53]
    refine Zo_iload8 dX10_best_53 ?_
    refine Zo_iconst (4 : Int32) dX10_best_55 ic_4 ?_
    refine Zo_icmpgt 151 dX10_best_56 (by decide) ?_ ?_
    · exact z_X10_best_C151 g _ _ _ _ _ _ _ _ _ _
    · refine Zo_iconst (0 : Int32) dX10_best_59 ic_0 ?_
      refine Zo_istore9 rfl (zlt rfl) dX10_best_60 ?_
      exact z_X10_best_L62 g (s_X10_best_L53 l1 l2 l3 l4 l5 n) _ _ _ _ _ _ ih _ _ _ _ _
def s_X10_best (p0 : Int32) (p1 : Int32) (p2 : Int32) (σ : ZSt) : Option (Int32 × ZSt) :=
  (s_X10_isStreet p0 σ).bind fun r1 => (if r1 = (0 : Int32) then (some ((-2000000000 : Int32), σ))
    else ((s_X10_areWeeks p1 σ).bind fun r2 => (if r2 = (0 : Int32) then (some ((-2000000000 : Int32), σ))
      else ((s_X10_within (p2.toInt64) (0 : Int64) (1 : Int64) σ).bind fun r3 => (if r3 = (0 : Int32) then (some ((-2000000000 : Int32), σ))
        else (zLd (zIn p0 6) (σ.1 74 p0.toNatClampNeg) fun v4 => (zLd (zIn p0 6) (σ.1 75 p0.toNatClampNeg) fun v5 => (s_X10_best_L53 p0 p1 p2 v4 v5 200 (-1 : Int32) (0 : Int32) (0 : Int32) σ))))))))
set_option maxHeartbeats 4000000 in
set_option maxRecDepth 100000 in
theorem z_X10_best (g : ZG) (p0 : Int32) (p1 : Int32) (p2 : Int32) (σ : ZSt) : Zo g (mX10_best g 72) (fun b : Int32 × ZSt => (some (.int b.1), zw b.2)) (s_X10_best p0 p1 p2 σ) 0 0 0 [some (.ref 68), some (.int p0), some (.int p1), some (.int p2), none, none, none, none, none, none] [] (zw σ) := by
  unfold s_X10_best
  refine Zo_aload0 dX10_best_0 ?_
  refine Zo_iload1 dX10_best_1 ?_
  refine Zo_cVI1 lk_X10_158 (e_X10_isStreet g _ _) kd_68 (zFit_rm (by decide)) (zle rfl) dX10_best_2 fun r1 => ?_
  refine Zo_ifeq 25 dX10_best_5 (by decide) ?_ ?_
  · refine Zo_ldc rfl cw_X10_168 dX10_best_25 ?_
    exact Zo_iret dX10_best_27 rfl rfl (Nat.le_refl _) (Nat.le_refl _)
  · refine Zo_iload2 dX10_best_8 ?_
    refine Zo_cSI1 lk_X10_304 (e_X10_areWeeks g _ _) (zFit_rm (by decide)) (zle rfl) dX10_best_9 fun r2 => ?_
    refine Zo_ifeq 25 dX10_best_12 (by decide) ?_ ?_
    · refine Zo_ldc rfl cw_X10_168 dX10_best_25 ?_
      exact Zo_iret dX10_best_27 rfl rfl (Nat.le_refl _) (Nat.le_refl _)
    · refine Zo_iload3 dX10_best_15 ?_
      refine Zo_i2l dX10_best_16 ?_
      refine Zo_lconst (0 : Int64) dX10_best_17 lc_0 ?_
      refine Zo_lconst (1 : Int64) dX10_best_18 lc_1 ?_
      refine Zo_cSI3 lk_X10_120 (e_X10_within g _ _ _ _) (zFit_rm (by decide)) (zle rfl) dX10_best_19 fun r3 => ?_
      refine Zo_ifne 28 dX10_best_22 (by decide) ?_ ?_
      · refine Zo_aload0 dX10_best_28 ?_
        refine Zo_getr (j := 74) fl_X10_25 kd_68 rfl dX10_best_29 ?_
        refine Zo_iload1 dX10_best_32 ?_
        refine Zo_iald kd_74 dX10_best_33 fun v4 => ?_
        refine Zo_istore4 rfl (zlt rfl) dX10_best_34 ?_
        refine Zo_aload0 dX10_best_36 ?_
        refine Zo_getr (j := 75) fl_X10_28 kd_68 rfl dX10_best_37 ?_
        show Zo g _ _ _ 0 0 40 _ _ _
        refine Zo_iload1 dX10_best_40 ?_
        refine Zo_iald kd_75 dX10_best_41 fun v5 => ?_
        refine Zo_istore5 rfl (zlt rfl) dX10_best_42 ?_
        refine Zo_iconst (-1 : Int32) dX10_best_44 ic_m1 ?_
        refine Zo_istore6 rfl (zlt rfl) dX10_best_45 ?_
        refine Zo_iconst (0 : Int32) dX10_best_47 ic_0 ?_
        refine Zo_istore7 rfl (zlt rfl) dX10_best_48 ?_
        refine Zo_iconst (0 : Int32) dX10_best_50 ic_0 ?_
        show Zo g _ _ _ 0 0 51 _ _ _
        refine Zo_istore8 rfl (zlt rfl) dX10_best_51 ?_
        exact z_X10_best_L53 g _ _ _ _ _ _ _ _ _ _ _
      · refine Zo_ldc rfl cw_X10_168 dX10_best_25 ?_
        exact Zo_iret dX10_best_27 rfl rfl (Nat.le_refl _) (Nat.le_refl _)
theorem e_X10_best (g : ZG) (p0 : Int32) (p1 : Int32) (p2 : Int32) (σ : ZSt) : zEvS g 72 yX10_best cX10_best 10 (some .int) [.ref 68, .int p0, .int p1, .int p2] σ (s_X10_best p0 p1 p2 σ) :=
  zEvS_of 6 rfl rfl (z_X10_best g p0 p1 p2 σ)
abbrev mX10_called (g : ZG) (q : Nat) : ZM := (yX10_called, cX10_called, 5, (some .int), zRm q 0 0, zTg g 0 0)
def s_X10_called (p0 : Int32) (p1 : Int32) (σ : ZSt) : Option (Int32 × ZSt) :=
  (s_X10_isStreet p0 σ).bind fun r1 => (if r1 = (0 : Int32) then (some ((-2000000000 : Int32), σ))
    else ((s_X10_areWeeks p1 σ).bind fun r2 => (if r2 = (0 : Int32) then (some ((-2000000000 : Int32), σ))
      else ((s_X10_goesWeeks p1 σ).bind fun σ3 => (zLd (zIn p0 6) (σ3.1 87 p0.toNatClampNeg) fun v4 => (zLd (zIn p0 6) (σ3.1 74 p0.toNatClampNeg) fun v5 => (zSg (zIn p0 6) (zWD σ3 74 p0.toNatClampNeg (0 : Int32)) fun σ6 => ((s_X10_goesWeeks p1 σ6).bind fun σ7 => (zSg (zIn p0 6) (zWD σ7 74 p0.toNatClampNeg v5) fun σ8 => (zLd (zIn p0 6) (σ8.1 87 p0.toNatClampNeg) fun v9 => (some ((v4 - v9), σ8))))))))))))
set_option maxHeartbeats 4000000 in
set_option maxRecDepth 100000 in
theorem z_X10_called (g : ZG) (p0 : Int32) (p1 : Int32) (σ : ZSt) : Zo g (mX10_called g 72) (fun b : Int32 × ZSt => (some (.int b.1), zw b.2)) (s_X10_called p0 p1 σ) 0 0 0 [some (.ref 68), some (.int p0), some (.int p1), none, none] [] (zw σ) := by
  unfold s_X10_called
  refine Zo_aload0 dX10_called_0 ?_
  refine Zo_iload1 dX10_called_1 ?_
  refine Zo_cVI1 lk_X10_158 (e_X10_isStreet g _ _) kd_68 (zFit_rm (by decide)) (zle rfl) dX10_called_2 fun r1 => ?_
  refine Zo_ifeq 15 dX10_called_5 (by decide) ?_ ?_
  · refine Zo_ldc rfl cw_X10_168 dX10_called_15 ?_
    exact Zo_iret dX10_called_17 rfl rfl (Nat.le_refl _) (Nat.le_refl _)
  · refine Zo_iload2 dX10_called_8 ?_
    refine Zo_cSI1 lk_X10_304 (e_X10_areWeeks g _ _) (zFit_rm (by decide)) (zle rfl) dX10_called_9 fun r2 => ?_
    refine Zo_ifne 18 dX10_called_12 (by decide) ?_ ?_
    · refine Zo_aload0 dX10_called_18 ?_
      refine Zo_iload2 dX10_called_19 ?_
      refine Zo_cVV1 lk_X10_307 (e_X10_goesWeeks g _ _) kd_68 (zFit_rm (by decide)) (zle rfl) dX10_called_20 fun σ3 => ?_
      refine Zo_aload0 dX10_called_23 ?_
      refine Zo_getr (j := 87) fl_X10_64 kd_68 rfl dX10_called_24 ?_
      refine Zo_iload1 dX10_called_27 ?_
      refine Zo_iald kd_87 dX10_called_28 fun v4 => ?_
      show Zo g _ _ _ 0 0 29 _ _ _
      refine Zo_istore3 rfl (zlt rfl) dX10_called_29 ?_
      refine Zo_aload0 dX10_called_30 ?_
      refine Zo_getr (j := 74) fl_X10_25 kd_68 rfl dX10_called_31 ?_
      refine Zo_iload1 dX10_called_34 ?_
      refine Zo_iald kd_74 dX10_called_35 fun v5 => ?_
      refine Zo_istore4 rfl (zlt rfl) dX10_called_36 ?_
      refine Zo_aload0 dX10_called_38 ?_
      refine Zo_getr (j := 74) fl_X10_25 kd_68 rfl dX10_called_39 ?_
      show Zo g _ _ _ 0 0 42 _ _ _
      refine Zo_iload1 dX10_called_42 ?_
      refine Zo_iconst (0 : Int32) dX10_called_43 ic_0 ?_
      refine Zo_iast kd_74 dX10_called_44 fun σ6 => ?_
      refine Zo_aload0 dX10_called_45 ?_
      refine Zo_iload2 dX10_called_46 ?_
      refine Zo_cVV1 lk_X10_307 (e_X10_goesWeeks g _ _) kd_68 (zFit_rm (by decide)) (zle rfl) dX10_called_47 fun σ7 => ?_
      refine Zo_aload0 dX10_called_50 ?_
      refine Zo_getr (j := 74) fl_X10_25 kd_68 rfl dX10_called_51 ?_
      show Zo g _ _ _ 0 0 54 _ _ _
      refine Zo_iload1 dX10_called_54 ?_
      refine Zo_iload4 dX10_called_55 ?_
      refine Zo_iast kd_74 dX10_called_57 fun σ8 => ?_
      refine Zo_iload3 dX10_called_58 ?_
      refine Zo_aload0 dX10_called_59 ?_
      refine Zo_getr (j := 87) fl_X10_64 kd_68 rfl dX10_called_60 ?_
      refine Zo_iload1 dX10_called_63 ?_
      refine Zo_iald kd_87 dX10_called_64 fun v9 => ?_
      show Zo g _ _ _ 0 0 65 _ _ _
      refine Zo_isub dX10_called_65 ?_
      exact Zo_iret dX10_called_66 rfl rfl (Nat.le_refl _) (Nat.le_refl _)
    · refine Zo_ldc rfl cw_X10_168 dX10_called_15 ?_
      exact Zo_iret dX10_called_17 rfl rfl (Nat.le_refl _) (Nat.le_refl _)
theorem e_X10_called (g : ZG) (p0 : Int32) (p1 : Int32) (σ : ZSt) : zEvS g 72 yX10_called cX10_called 5 (some .int) [.ref 68, .int p0, .int p1] σ (s_X10_called p0 p1 σ) :=
  zEvS_of 2 rfl rfl (z_X10_called g p0 p1 σ)
abbrev mX10_off (g : ZG) (q : Nat) : ZM := (yX10_off, cX10_off, 7, (some .int), zRm q 0 0, zTg g 0 0)
def s_X10_off_C96 (l1 : Int32) (l3 : Int32) (l4 : Int32) (l5 : Int32) (σ : ZSt) : Option (Int32 × ZSt) :=
  zSg (zIn l1 6) (zWD σ 74 l1.toNatClampNeg l3) fun σ1 => (zSg (zIn l1 6) (zWD σ1 75 l1.toNatClampNeg l4) fun σ2 => (some (l5, σ2)))
set_option maxHeartbeats 4000000 in
set_option maxRecDepth 100000 in
theorem z_X10_off_C96 (g : ZG) (l1 : Int32) (l3 : Int32) (l4 : Int32) (l5 : Int32) (σ : ZSt) (o2 : Option Value) (o6 : Option Value) : Zo g (mX10_off g 72) (fun b : Int32 × ZSt => (some (.int b.1), zw b.2)) (s_X10_off_C96 l1 l3 l4 l5 σ) 0 0 96 [some (.ref 68), some (.int l1), o2, some (.int l3), some (.int l4), some (.int l5), o6] [] (zw σ) := by
  unfold s_X10_off_C96
  refine Zo_aload0 dX10_off_96 ?_
  refine Zo_getr (j := 74) fl_X10_25 kd_68 rfl dX10_off_97 ?_
  refine Zo_iload1 dX10_off_100 ?_
  refine Zo_iload3 dX10_off_101 ?_
  refine Zo_iast kd_74 dX10_off_102 fun σ1 => ?_
  refine Zo_aload0 dX10_off_103 ?_
  refine Zo_getr (j := 75) fl_X10_28 kd_68 rfl dX10_off_104 ?_
  show Zo g _ _ _ 0 0 107 _ _ _
  refine Zo_iload1 dX10_off_107 ?_
  refine Zo_iload4 dX10_off_108 ?_
  refine Zo_iast kd_75 dX10_off_110 fun σ2 => ?_
  refine Zo_iload5 dX10_off_111 ?_
  exact Zo_iret dX10_off_113 rfl rfl (Nat.le_refl _) (Nat.le_refl _)
def s_X10_off_L46 (l1 : Int32) (l2 : Int32) (l3 : Int32) (l4 : Int32) : Nat → Int32 → Int32 → ZSt → Option (Int32 × ZSt)
  | 0, _, _, _ => none
  | n + 1, l5, l6, σ =>
    if (99 : Int32) < l6 then (s_X10_off_C96 l1 l3 l4 l5 σ)
      else (if (0 : Int32) ≤ l5 then (s_X10_off_C96 l1 l3 l4 l5 σ)
        else (zSg (zIn l1 6) (zWD σ 75 l1.toNatClampNeg l6) fun σ1 => ((s_X10_goesWeeks l2 σ1).bind fun σ2 => (zLd (zIn l1 6) (σ2.1 87 l1.toNatClampNeg) fun v3 => (if (1 : Int32) < v3 then (s_X10_off_L46 l1 l2 l3 l4 n (-2 : Int32) (l6 + (1 : Int32)) σ2)
          else (s_X10_off_L46 l1 l2 l3 l4 n l6 (l6 + (1 : Int32)) σ2))))))
set_option maxHeartbeats 4000000 in
set_option maxRecDepth 100000 in
theorem z_X10_off_L46 (g : ZG) (l1 : Int32) (l2 : Int32) (l3 : Int32) (l4 : Int32) : ∀ (n : Nat) (l5 : Int32) (l6 : Int32) (σ : ZSt), Zo g (mX10_off g 72) (fun b : Int32 × ZSt => (some (.int b.1), zw b.2)) (s_X10_off_L46 l1 l2 l3 l4 n l5 l6 σ) 0 0 46 [some (.ref 68), some (.int l1), some (.int l2), some (.int l3), some (.int l4), some (.int l5), some (.int l6)] [] (zw σ) := by
  intro n
  induction n with
  | zero => intros; exact Zo_none
  | succ n ih =>
    intro l5 l6 σ
    rw [s_X10_off_L46]
    refine Zo_iload6 dX10_off_46 ?_
    refine Zo_bipush (99 : Int32) dX10_off_48 bp_99 ?_
    refine Zo_icmpgt 96 dX10_off_50 (by decide) ?_ ?_
    · exact z_X10_off_C96 g _ _ _ _ _ _ _
    · refine Zo_iload5 dX10_off_53 ?_
      refine Zo_ifge 96 dX10_off_55 (by decide) ?_ ?_
      · exact z_X10_off_C96 g _ _ _ _ _ _ _
      · refine Zo_aload0 dX10_off_58 ?_
        refine Zo_getr (j := 75) fl_X10_28 kd_68 rfl dX10_off_59 ?_
        refine Zo_iload1 dX10_off_62 ?_
        refine Zo_iload6 dX10_off_63 ?_
        refine Zo_iast kd_75 dX10_off_65 fun σ1 => ?_
        refine Zo_aload0 dX10_off_66 ?_
        refine Zo_iload2 dX10_off_67 ?_
        show Zo g _ _ _ 0 0 68 _ _ _
        refine Zo_cVV1 lk_X10_307 (e_X10_goesWeeks g _ _) kd_68 (zFit_rm (by decide)) (zle rfl) dX10_off_68 fun σ2 => ?_
        refine Zo_aload0 dX10_off_71 ?_
        refine Zo_getr (j := 87) fl_X10_64 kd_68 rfl dX10_off_72 ?_
        refine Zo_iload1 dX10_off_75 ?_
        refine Zo_iald kd_87 dX10_off_76 fun v3 => ?_
        refine Zo_iconst (1 : Int32) dX10_off_77 ic_1 ?_
        refine Zo_icmpgt 86 dX10_off_78 (by decide) ?_ ?_
        · refine Zo_bipush (-2 : Int32) dX10_off_86 bp_m2 ?_
          refine Zo_istore5 rfl (zlt rfl) dX10_off_88 ?_
          refine Zo_iinc6 rfl (1 : Int32) ic_1 (zlt rfl) dX10_off_90 ?_
          refine Zo_goto 46 dX10_off_93 (by decide) ?_
          exact ih _ _ _
        · refine Zo_iload6 dX10_off_81 ?_
          refine Zo_goto 88 dX10_off_83 (by decide) ?_
          refine Zo_istore5 rfl (zlt rfl) dX10_off_88 ?_
          refine Zo_iinc6 rfl (1 : Int32) ic_1 (zlt rfl) dX10_off_90 ?_
          refine Zo_goto 46 dX10_off_93 (by decide) ?_
          exact ih _ _ _
def s_X10_off (p0 : Int32) (p1 : Int32) (σ : ZSt) : Option (Int32 × ZSt) :=
  (s_X10_isStreet p0 σ).bind fun r1 => (if r1 = (0 : Int32) then (some ((-1 : Int32), σ))
    else ((s_X10_areWeeks p1 σ).bind fun r2 => (if r2 = (0 : Int32) then (some ((-1 : Int32), σ))
      else (zLd (zIn p0 6) (σ.1 74 p0.toNatClampNeg) fun v3 => (zLd (zIn p0 6) (σ.1 75 p0.toNatClampNeg) fun v4 => (zSg (zIn p0 6) (zWD σ 74 p0.toNatClampNeg (2 : Int32)) fun σ5 => (s_X10_off_L46 p0 p1 v3 v4 200 (-2 : Int32) (0 : Int32) σ5)))))))
set_option maxHeartbeats 4000000 in
set_option maxRecDepth 100000 in
theorem z_X10_off (g : ZG) (p0 : Int32) (p1 : Int32) (σ : ZSt) : Zo g (mX10_off g 72) (fun b : Int32 × ZSt => (some (.int b.1), zw b.2)) (s_X10_off p0 p1 σ) 0 0 0 [some (.ref 68), some (.int p0), some (.int p1), none, none, none, none] [] (zw σ) := by
  unfold s_X10_off
  refine Zo_aload0 dX10_off_0 ?_
  refine Zo_iload1 dX10_off_1 ?_
  refine Zo_cVI1 lk_X10_158 (e_X10_isStreet g _ _) kd_68 (zFit_rm (by decide)) (zle rfl) dX10_off_2 fun r1 => ?_
  refine Zo_ifeq 15 dX10_off_5 (by decide) ?_ ?_
  · refine Zo_iconst (-1 : Int32) dX10_off_15 ic_m1 ?_
    exact Zo_iret dX10_off_16 rfl rfl (Nat.le_refl _) (Nat.le_refl _)
  · refine Zo_iload2 dX10_off_8 ?_
    refine Zo_cSI1 lk_X10_304 (e_X10_areWeeks g _ _) (zFit_rm (by decide)) (zle rfl) dX10_off_9 fun r2 => ?_
    refine Zo_ifne 17 dX10_off_12 (by decide) ?_ ?_
    · refine Zo_aload0 dX10_off_17 ?_
      refine Zo_getr (j := 74) fl_X10_25 kd_68 rfl dX10_off_18 ?_
      refine Zo_iload1 dX10_off_21 ?_
      refine Zo_iald kd_74 dX10_off_22 fun v3 => ?_
      refine Zo_istore3 rfl (zlt rfl) dX10_off_23 ?_
      refine Zo_aload0 dX10_off_24 ?_
      refine Zo_getr (j := 75) fl_X10_28 kd_68 rfl dX10_off_25 ?_
      show Zo g _ _ _ 0 0 28 _ _ _
      refine Zo_iload1 dX10_off_28 ?_
      refine Zo_iald kd_75 dX10_off_29 fun v4 => ?_
      refine Zo_istore4 rfl (zlt rfl) dX10_off_30 ?_
      refine Zo_bipush (-2 : Int32) dX10_off_32 bp_m2 ?_
      refine Zo_istore5 rfl (zlt rfl) dX10_off_34 ?_
      refine Zo_aload0 dX10_off_36 ?_
      refine Zo_getr (j := 74) fl_X10_25 kd_68 rfl dX10_off_37 ?_
      refine Zo_iload1 dX10_off_40 ?_
      show Zo g _ _ _ 0 0 41 _ _ _
      refine Zo_iconst (2 : Int32) dX10_off_41 ic_2 ?_
      refine Zo_iast kd_74 dX10_off_42 fun σ5 => ?_
      refine Zo_iconst (0 : Int32) dX10_off_43 ic_0 ?_
      refine Zo_istore6 rfl (zlt rfl) dX10_off_44 ?_
      exact z_X10_off_L46 g _ _ _ _ _ _ _ _
    · refine Zo_iconst (-1 : Int32) dX10_off_15 ic_m1 ?_
      exact Zo_iret dX10_off_16 rfl rfl (Nat.le_refl _) (Nat.le_refl _)
theorem e_X10_off (g : ZG) (p0 : Int32) (p1 : Int32) (σ : ZSt) : zEvS g 72 yX10_off cX10_off 7 (some .int) [.ref 68, .int p0, .int p1] σ (s_X10_off p0 p1 σ) :=
  zEvS_of 4 rfl rfl (z_X10_off g p0 p1 σ)
abbrev mX10_partOf (g : ZG) (q : Nat) : ZM := (yX10_partOf, cX10_partOf, 11, (some .int), zRm q 0 0, zTg g 0 0)
def s_X10_partOf_C80 (k25 : Int32 → Int32 → Int32 → Int32 → Option Int32) (l1 : Int32) (l2 : Int32) (l3 : Int32) (l4 : Int32) (l5 : Int32) (l6 : Int32) (l8 : Int32) (l9 : Int32) (l10 : Int32) (k_0 : Int32) (σ : ZSt) : Option Int32 :=
  if l9 = l4 then (k25 (l6 - l10) k_0 l10 (l9 + (1 : Int32)))
    else (k25 (l6 - l10) k_0 l8 (l9 + (1 : Int32)))
set_option maxHeartbeats 4000000 in
set_option maxRecDepth 100000 in
theorem z_X10_partOf_C80 (g : ZG) (k25 : Int32 → Int32 → Int32 → Int32 → Option Int32) (l1 : Int32) (l2 : Int32) (l3 : Int32) (l4 : Int32) (l5 : Int32) (l6 : Int32) (l8 : Int32) (l9 : Int32) (l10 : Int32) (k_0 : Int32) (σ : ZSt) (hk25 : ∀ (x6 : Int32) (x7 : Int32) (x8 : Int32) (x9 : Int32) (d10 : Option Value), Zo g (mX10_partOf g 2) (fun b : Int32 => (some (.int b), zw σ)) (k25 x6 x7 x8 x9) 0 0 25 [some (.ref 68), some (.int l1), some (.int l2), some (.int l3), some (.int l4), some (.int l5), some (.int x6), some (.int x7), some (.int x8), some (.int x9), d10] [] (zw σ)) (o7 : Option Value) : Zo g (mX10_partOf g 2) (fun b : Int32 => (some (.int b), zw σ)) (s_X10_partOf_C80 k25 l1 l2 l3 l4 l5 l6 l8 l9 l10 k_0 σ) 0 0 80 [some (.ref 68), some (.int l1), some (.int l2), some (.int l3), some (.int l4), some (.int l5), some (.int l6), o7, some (.int l8), some (.int l9), some (.int l10)] [.int k_0] (zw σ) := by
  unfold s_X10_partOf_C80
  refine Zo_istore7 rfl (zlt rfl) dX10_partOf_80 ?_
  refine Zo_iload6 dX10_partOf_82 ?_
  refine Zo_iload10 dX10_partOf_84 ?_
  refine Zo_isub dX10_partOf_86 ?_
  refine Zo_istore6 rfl (zlt rfl) dX10_partOf_87 ?_
  refine Zo_iload9 dX10_partOf_89 ?_
  refine Zo_iload4 dX10_partOf_91 ?_
  show Zo g _ _ _ 0 0 93 _ _ _
  refine Zo_icmpne 101 dX10_partOf_93 (by decide) ?_ ?_
  · refine Zo_iload8 dX10_partOf_101 ?_
    refine Zo_istore8 rfl (zlt rfl) dX10_partOf_103 ?_
    refine Zo_iinc9 rfl (1 : Int32) ic_1 (zlt rfl) dX10_partOf_105 ?_
    refine Zo_goto 25 dX10_partOf_108 (by decide) ?_
    exact hk25 _ _ _ _ _
  · refine Zo_iload10 dX10_partOf_96 ?_
    refine Zo_goto 103 dX10_partOf_98 (by decide) ?_
    refine Zo_istore8 rfl (zlt rfl) dX10_partOf_103 ?_
    refine Zo_iinc9 rfl (1 : Int32) ic_1 (zlt rfl) dX10_partOf_105 ?_
    refine Zo_goto 25 dX10_partOf_108 (by decide) ?_
    exact hk25 _ _ _ _ _
def s_X10_partOf_C111 (l4 : Int32) (l6 : Int32) (l7 : Int32) (l8 : Int32) (σ : ZSt) : Option Int32 :=
  if l4 = l7 then (some (l8 + l6))
    else (some l8)
set_option maxHeartbeats 4000000 in
set_option maxRecDepth 100000 in
theorem z_X10_partOf_C111 (g : ZG) (l4 : Int32) (l6 : Int32) (l7 : Int32) (l8 : Int32) (σ : ZSt) (o0 : Option Value) (o1 : Option Value) (o2 : Option Value) (o3 : Option Value) (o5 : Option Value) (o9 : Option Value) (o10 : Option Value) : Zo g (mX10_partOf g 2) (fun b : Int32 => (some (.int b), zw σ)) (s_X10_partOf_C111 l4 l6 l7 l8 σ) 0 0 111 [o0, o1, o2, o3, some (.int l4), o5, some (.int l6), some (.int l7), some (.int l8), o9, o10] [] (zw σ) := by
  unfold s_X10_partOf_C111
  refine Zo_iload4 dX10_partOf_111 ?_
  refine Zo_iload7 dX10_partOf_113 ?_
  refine Zo_icmpne 126 dX10_partOf_115 (by decide) ?_ ?_
  · refine Zo_iload8 dX10_partOf_126 ?_
    exact Zo_iret dX10_partOf_128 rfl rfl (Nat.le_refl _) (Nat.le_refl _)
  · refine Zo_iload8 dX10_partOf_118 ?_
    refine Zo_iload6 dX10_partOf_120 ?_
    refine Zo_iadd dX10_partOf_122 ?_
    refine Zo_goto 128 dX10_partOf_123 (by decide) ?_
    exact Zo_iret dX10_partOf_128 rfl rfl (Nat.le_refl _) (Nat.le_refl _)
def s_X10_partOf_L25 (l1 : Int32) (l2 : Int32) (l3 : Int32) (l4 : Int32) (l5 : Int32) (σ : ZSt) : Nat → Int32 → Int32 → Int32 → Int32 → Option Int32
  | 0, _, _, _, _ => none
  | n + 1, l6, l7, l8, l9 =>
    if (σ.1 68 10) ≤ l9 then (s_X10_partOf_C111 l4 l6 l7 l8 σ)
      else ((s_X10_isHarmed l1 l2 l9 σ).bind fun r1 => (if r1 = (0 : Int32) then (s_X10_partOf_L25 l1 l2 l3 l4 l5 σ n l6 l7 l8 (l9 + (1 : Int32)))
        else (zLd (zIn l1 8) (σ.1 78 l1.toNatClampNeg) fun v2 => ((s_X10_harmBy v2 l9 σ).bind fun r3 => (if (l5.toInt64) = (0 : Int64) then none else (if (0 : Int32) ≤ l7 then (s_X10_partOf_C80 (s_X10_partOf_L25 l1 l2 l3 l4 l5 σ n) l1 l2 l3 l4 l5 l6 l8 l9 ((((l3.toInt64) * (r3.toInt64)) / (l5.toInt64)).toInt32) l7 σ)
          else (s_X10_partOf_C80 (s_X10_partOf_L25 l1 l2 l3 l4 l5 σ n) l1 l2 l3 l4 l5 l6 l8 l9 ((((l3.toInt64) * (r3.toInt64)) / (l5.toInt64)).toInt32) l9 σ)))))))
set_option maxHeartbeats 4000000 in
set_option maxRecDepth 100000 in
theorem z_X10_partOf_L25 (g : ZG) (l1 : Int32) (l2 : Int32) (l3 : Int32) (l4 : Int32) (l5 : Int32) (σ : ZSt) : ∀ (n : Nat) (l6 : Int32) (l7 : Int32) (l8 : Int32) (l9 : Int32) (o10 : Option Value), Zo g (mX10_partOf g 2) (fun b : Int32 => (some (.int b), zw σ)) (s_X10_partOf_L25 l1 l2 l3 l4 l5 σ n l6 l7 l8 l9) 0 0 25 [some (.ref 68), some (.int l1), some (.int l2), some (.int l3), some (.int l4), some (.int l5), some (.int l6), some (.int l7), some (.int l8), some (.int l9), o10] [] (zw σ) := by
  intro n
  induction n with
  | zero => intros; exact Zo_none
  | succ n ih =>
    intro l6 l7 l8 l9 o10
    rw [s_X10_partOf_L25]
    refine Zo_iload9 dX10_partOf_25 ?_
    refine Zo_aload0 dX10_partOf_27 ?_
    refine Zo_geti fl_X10_124 kd_68 dX10_partOf_28 ?_
    refine Zo_icmpge 111 dX10_partOf_31 (by decide) ?_ ?_
    · exact z_X10_partOf_C111 g _ _ _ _ _ _ _ _ _ _ _ _
    · refine Zo_aload0 dX10_partOf_34 ?_
      refine Zo_iload1 dX10_partOf_35 ?_
      refine Zo_iload2 dX10_partOf_36 ?_
      refine Zo_iload9 dX10_partOf_37 ?_
      refine Zo_cVI3 lk_X10_219 (e_X10_isHarmed g _ _ _ _) kd_68 (zFit_rm (by decide)) (zle rfl) dX10_partOf_39 fun r1 => ?_
      refine Zo_ifeq 105 dX10_partOf_42 (by decide) ?_ ?_
      · refine Zo_iinc9 rfl (1 : Int32) ic_1 (zlt rfl) dX10_partOf_105 ?_
        refine Zo_goto 25 dX10_partOf_108 (by decide) ?_
        exact ih _ _ _ _ _
      · refine Zo_iload3 dX10_partOf_45 ?_
        refine Zo_i2l dX10_partOf_46 ?_
        refine Zo_aload0 dX10_partOf_47 ?_
        refine Zo_aload0 dX10_partOf_48 ?_
        refine Zo_getr (j := 78) fl_X10_37 kd_68 rfl dX10_partOf_49 ?_
        refine Zo_iload1 dX10_partOf_52 ?_
        refine Zo_iald kd_78 dX10_partOf_53 fun v2 => ?_
        show Zo g _ _ _ 0 0 54 _ _ _
        refine Zo_iload9 dX10_partOf_54 ?_
        refine Zo_cVI2 lk_X10_200 (e_X10_harmBy g _ _ _) kd_68 (zFit_rm (by decide)) (zle rfl) dX10_partOf_56 fun r3 => ?_
        refine Zo_i2l dX10_partOf_59 ?_
        refine Zo_lmul dX10_partOf_60 ?_
        refine Zo_iload5 dX10_partOf_61 ?_
        refine Zo_i2l dX10_partOf_63 ?_
        refine Zo_gn fun hn4 => ?_
        refine Zo_ldiv dX10_partOf_64 hn4 ?_
        refine Zo_l2i dX10_partOf_65 ?_
        show Zo g _ _ _ 0 0 66 _ _ _
        refine Zo_istore10 rfl (zlt rfl) dX10_partOf_66 ?_
        refine Zo_iload7 dX10_partOf_68 ?_
        refine Zo_ifge 78 dX10_partOf_70 (by decide) ?_ ?_
        · refine Zo_iload7 dX10_partOf_78 ?_
          exact z_X10_partOf_C80 g (s_X10_partOf_L25 l1 l2 l3 l4 l5 σ n) _ _ _ _ _ _ _ _ _ _ _ ih _
        · refine Zo_iload9 dX10_partOf_73 ?_
          refine Zo_goto 80 dX10_partOf_75 (by decide) ?_
          exact z_X10_partOf_C80 g (s_X10_partOf_L25 l1 l2 l3 l4 l5 σ n) _ _ _ _ _ _ _ _ _ _ _ ih _
def s_X10_partOf (p0 : Int32) (p1 : Int32) (p2 : Int32) (p3 : Int32) (σ : ZSt) : Option Int32 :=
  zLd (zIn p0 8) (σ.1 78 p0.toNatClampNeg) fun v1 => ((s_X10_mostBy v1 p1 σ).bind fun r2 => (s_X10_partOf_L25 p0 p1 p2 p3 r2 σ 200 p2 (-1 : Int32) (0 : Int32) (0 : Int32)))
set_option maxHeartbeats 4000000 in
set_option maxRecDepth 100000 in
theorem z_X10_partOf (g : ZG) (p0 : Int32) (p1 : Int32) (p2 : Int32) (p3 : Int32) (σ : ZSt) : Zo g (mX10_partOf g 2) (fun b : Int32 => (some (.int b), zw σ)) (s_X10_partOf p0 p1 p2 p3 σ) 0 0 0 [some (.ref 68), some (.int p0), some (.int p1), some (.int p2), some (.int p3), none, none, none, none, none, none] [] (zw σ) := by
  unfold s_X10_partOf
  refine Zo_aload0 dX10_partOf_0 ?_
  refine Zo_aload0 dX10_partOf_1 ?_
  refine Zo_getr (j := 78) fl_X10_37 kd_68 rfl dX10_partOf_2 ?_
  refine Zo_iload1 dX10_partOf_5 ?_
  refine Zo_iald kd_78 dX10_partOf_6 fun v1 => ?_
  refine Zo_iload2 dX10_partOf_7 ?_
  refine Zo_cVI2 lk_X10_206 (e_X10_mostBy g _ _ _) kd_68 (zFit_rm (by decide)) (zle rfl) dX10_partOf_8 fun r2 => ?_
  show Zo g _ _ _ 0 0 11 _ _ _
  refine Zo_istore5 rfl (zlt rfl) dX10_partOf_11 ?_
  refine Zo_iload3 dX10_partOf_13 ?_
  refine Zo_istore6 rfl (zlt rfl) dX10_partOf_14 ?_
  refine Zo_iconst (-1 : Int32) dX10_partOf_16 ic_m1 ?_
  refine Zo_istore7 rfl (zlt rfl) dX10_partOf_17 ?_
  refine Zo_iconst (0 : Int32) dX10_partOf_19 ic_0 ?_
  refine Zo_istore8 rfl (zlt rfl) dX10_partOf_20 ?_
  refine Zo_iconst (0 : Int32) dX10_partOf_22 ic_0 ?_
  show Zo g _ _ _ 0 0 23 _ _ _
  refine Zo_istore9 rfl (zlt rfl) dX10_partOf_23 ?_
  exact z_X10_partOf_L25 g _ _ _ _ _ _ _ _ _ _ _ _
theorem e_X10_partOf (g : ZG) (p0 : Int32) (p1 : Int32) (p2 : Int32) (p3 : Int32) (σ : ZSt) : zEvI g 2 yX10_partOf cX10_partOf 11 (some .int) [.ref 68, .int p0, .int p1, .int p2, .int p3] σ (s_X10_partOf p0 p1 p2 p3 σ) :=
  zEvI_of 6 rfl rfl (z_X10_partOf g p0 p1 p2 p3 σ)
abbrev mX10_fund (g : ZG) (q : Nat) : ZM := (yX10_fund, cX10_fund, 13, (some .int), zRm q 0 0, zTg g 0 0)
def s_X10_fund_C208 (k67 : Int32 → Int32 → Int32 → Int32 → Int32 → Option Int32) (l2 : Int32) (l3 : Int32) (l4 : Int32) (l5 : Int32) (l6 : Int32) (l8 : Int32) (l9 : Int32) (l10 : Int32) (l11 : Int32) (k_0 : Int32) (k_1 : Int32) (σ : ZSt) : Option Int32 :=
  if l8 = l3 then (k67 l6 (k_0 ||| k_1) (l8 + (1 : Int32)) l11 (l10 + (1 : Int32)))
    else (k67 l6 (k_0 ||| k_1) (l8 + (1 : Int32)) l9 (l10 + (1 : Int32)))
set_option maxHeartbeats 4000000 in
set_option maxRecDepth 100000 in
theorem z_X10_fund_C208 (g : ZG) (k67 : Int32 → Int32 → Int32 → Int32 → Int32 → Option Int32) (l2 : Int32) (l3 : Int32) (l4 : Int32) (l5 : Int32) (l6 : Int32) (l8 : Int32) (l9 : Int32) (l10 : Int32) (l11 : Int32) (k_0 : Int32) (k_1 : Int32) (σ : ZSt) (hk67 : ∀ (x6 : Int32) (x7 : Int32) (x8 : Int32) (x9 : Int32) (x10 : Int32) (d1 d11 d12 : Option Value), Zo g (mX10_fund g 3) (fun b : Int32 => (some (.int b), zw σ)) (k67 x6 x7 x8 x9 x10) 0 0 67 [some (.ref 68), d1, some (.int l2), some (.int l3), some (.int l4), some (.int l5), some (.int x6), some (.int x7), some (.int x8), some (.int x9), some (.int x10), d11, d12] [] (zw σ)) (o1 : Option Value) (o7 : Option Value) (o12 : Option Value) : Zo g (mX10_fund g 3) (fun b : Int32 => (some (.int b), zw σ)) (s_X10_fund_C208 k67 l2 l3 l4 l5 l6 l8 l9 l10 l11 k_0 k_1 σ) 0 0 208 [some (.ref 68), o1, some (.int l2), some (.int l3), some (.int l4), some (.int l5), some (.int l6), o7, some (.int l8), some (.int l9), some (.int l10), some (.int l11), o12] [.int k_1, .int k_0] (zw σ) := by
  unfold s_X10_fund_C208
  refine Zo_ior dX10_fund_208 ?_
  refine Zo_istore7 rfl (zlt rfl) dX10_fund_209 ?_
  refine Zo_iload8 dX10_fund_211 ?_
  refine Zo_iload3 dX10_fund_213 ?_
  refine Zo_icmpne 222 dX10_fund_214 (by decide) ?_ ?_
  · refine Zo_iload9 dX10_fund_222 ?_
    refine Zo_istore9 rfl (zlt rfl) dX10_fund_224 ?_
    refine Zo_iinc8 rfl (1 : Int32) ic_1 (zlt rfl) dX10_fund_226 ?_
    refine Zo_iinc10 rfl (1 : Int32) ic_1 (zlt rfl) dX10_fund_229 ?_
    refine Zo_goto 67 dX10_fund_232 (by decide) ?_
    exact hk67 _ _ _ _ _ _ _ _
  · refine Zo_iload11 dX10_fund_217 ?_
    refine Zo_goto 224 dX10_fund_219 (by decide) ?_
    refine Zo_istore9 rfl (zlt rfl) dX10_fund_224 ?_
    refine Zo_iinc8 rfl (1 : Int32) ic_1 (zlt rfl) dX10_fund_226 ?_
    refine Zo_iinc10 rfl (1 : Int32) ic_1 (zlt rfl) dX10_fund_229 ?_
    refine Zo_goto 67 dX10_fund_232 (by decide) ?_
    exact hk67 _ _ _ _ _ _ _ _
def s_X10_fund_C157 (k67 : Int32 → Int32 → Int32 → Int32 → Int32 → Option Int32) (l2 : Int32) (l3 : Int32) (l4 : Int32) (l5 : Int32) (l6 : Int32) (l7 : Int32) (l8 : Int32) (l9 : Int32) (l10 : Int32) (l11 : Int32) (k_0 : Int32) (σ : ZSt) : Option Int32 :=
  if l6 = (0 : Int32) then (if k_0 = (0 : Int32) then (s_X10_fund_C208 k67 l2 l3 l4 l5 (0 : Int32) l8 l9 l10 l11 l7 (0 : Int32) σ)
      else (s_X10_fund_C208 k67 l2 l3 l4 l5 (0 : Int32) l8 l9 l10 l11 l7 ((1 : Int32) <<< (l8 &&& 31)) σ))
    else (if k_0 = (0 : Int32) then (if l11 = (0 : Int32) then (if k_0 = (0 : Int32) then (s_X10_fund_C208 k67 l2 l3 l4 l5 (1 : Int32) l8 l9 l10 l11 l7 (0 : Int32) σ)
          else (s_X10_fund_C208 k67 l2 l3 l4 l5 (1 : Int32) l8 l9 l10 l11 l7 ((1 : Int32) <<< (l8 &&& 31)) σ))
        else (zLd (zIn l10 30) (σ.1 77 l10.toNatClampNeg) fun v1 => (if v1 < l11 then (if k_0 = (0 : Int32) then (s_X10_fund_C208 k67 l2 l3 l4 l5 (0 : Int32) l8 l9 l10 l11 l7 (0 : Int32) σ)
            else (s_X10_fund_C208 k67 l2 l3 l4 l5 (0 : Int32) l8 l9 l10 l11 l7 ((1 : Int32) <<< (l8 &&& 31)) σ))
          else (if k_0 = (0 : Int32) then (s_X10_fund_C208 k67 l2 l3 l4 l5 (1 : Int32) l8 l9 l10 l11 l7 (0 : Int32) σ)
            else (s_X10_fund_C208 k67 l2 l3 l4 l5 (1 : Int32) l8 l9 l10 l11 l7 ((1 : Int32) <<< (l8 &&& 31)) σ)))))
      else (if k_0 = (0 : Int32) then (s_X10_fund_C208 k67 l2 l3 l4 l5 (0 : Int32) l8 l9 l10 l11 l7 (0 : Int32) σ)
        else (s_X10_fund_C208 k67 l2 l3 l4 l5 (0 : Int32) l8 l9 l10 l11 l7 ((1 : Int32) <<< (l8 &&& 31)) σ)))
set_option maxHeartbeats 4000000 in
set_option maxRecDepth 100000 in
theorem z_X10_fund_C157 (g : ZG) (k67 : Int32 → Int32 → Int32 → Int32 → Int32 → Option Int32) (l2 : Int32) (l3 : Int32) (l4 : Int32) (l5 : Int32) (l6 : Int32) (l7 : Int32) (l8 : Int32) (l9 : Int32) (l10 : Int32) (l11 : Int32) (k_0 : Int32) (σ : ZSt) (hk67 : ∀ (x6 : Int32) (x7 : Int32) (x8 : Int32) (x9 : Int32) (x10 : Int32) (d1 d11 d12 : Option Value), Zo g (mX10_fund g 3) (fun b : Int32 => (some (.int b), zw σ)) (k67 x6 x7 x8 x9 x10) 0 0 67 [some (.ref 68), d1, some (.int l2), some (.int l3), some (.int l4), some (.int l5), some (.int x6), some (.int x7), some (.int x8), some (.int x9), some (.int x10), d11, d12] [] (zw σ)) (o1 : Option Value) (o12 : Option Value) : Zo g (mX10_fund g 3) (fun b : Int32 => (some (.int b), zw σ)) (s_X10_fund_C157 k67 l2 l3 l4 l5 l6 l7 l8 l9 l10 l11 k_0 σ) 0 0 157 [some (.ref 68), o1, some (.int l2), some (.int l3), some (.int l4), some (.int l5), some (.int l6), some (.int l7), some (.int l8), some (.int l9), some (.int l10), some (.int l11), o12] [.int k_0] (zw σ) := by
  unfold s_X10_fund_C157
  refine Zo_istore12 rfl (zlt rfl) dX10_fund_157 ?_
  refine Zo_iload6 dX10_fund_159 ?_
  refine Zo_ifeq 190 dX10_fund_161 (by decide) ?_ ?_
  · refine Zo_iconst (0 : Int32) dX10_fund_190 ic_0 ?_
    refine Zo_istore6 rfl (zlt rfl) dX10_fund_191 ?_
    refine Zo_iload7 dX10_fund_193 ?_
    refine Zo_iload12 dX10_fund_195 ?_
    refine Zo_ifeq 207 dX10_fund_197 (by decide) ?_ ?_
    · refine Zo_iconst (0 : Int32) dX10_fund_207 ic_0 ?_
      exact z_X10_fund_C208 g k67 _ _ _ _ _ _ _ _ _ _ _ _ hk67 _ _ _
    · refine Zo_iconst (1 : Int32) dX10_fund_200 ic_1 ?_
      refine Zo_iload8 dX10_fund_201 ?_
      refine Zo_ishl dX10_fund_203 ?_
      refine Zo_goto 208 dX10_fund_204 (by decide) ?_
      exact z_X10_fund_C208 g k67 _ _ _ _ _ _ _ _ _ _ _ _ hk67 _ _ _
  · refine Zo_iload12 dX10_fund_164 ?_
    refine Zo_ifne 190 dX10_fund_166 (by decide) ?_ ?_
    · refine Zo_iconst (0 : Int32) dX10_fund_190 ic_0 ?_
      refine Zo_istore6 rfl (zlt rfl) dX10_fund_191 ?_
      refine Zo_iload7 dX10_fund_193 ?_
      refine Zo_iload12 dX10_fund_195 ?_
      refine Zo_ifeq 207 dX10_fund_197 (by decide) ?_ ?_
      · refine Zo_iconst (0 : Int32) dX10_fund_207 ic_0 ?_
        exact z_X10_fund_C208 g k67 _ _ _ _ _ _ _ _ _ _ _ _ hk67 _ _ _
      · refine Zo_iconst (1 : Int32) dX10_fund_200 ic_1 ?_
        refine Zo_iload8 dX10_fund_201 ?_
        refine Zo_ishl dX10_fund_203 ?_
        refine Zo_goto 208 dX10_fund_204 (by decide) ?_
        exact z_X10_fund_C208 g k67 _ _ _ _ _ _ _ _ _ _ _ _ hk67 _ _ _
    · refine Zo_iload11 dX10_fund_169 ?_
      refine Zo_ifeq 186 dX10_fund_171 (by decide) ?_ ?_
      · refine Zo_iconst (1 : Int32) dX10_fund_186 ic_1 ?_
        refine Zo_goto 191 dX10_fund_187 (by decide) ?_
        refine Zo_istore6 rfl (zlt rfl) dX10_fund_191 ?_
        refine Zo_iload7 dX10_fund_193 ?_
        refine Zo_iload12 dX10_fund_195 ?_
        refine Zo_ifeq 207 dX10_fund_197 (by decide) ?_ ?_
        · refine Zo_iconst (0 : Int32) dX10_fund_207 ic_0 ?_
          exact z_X10_fund_C208 g k67 _ _ _ _ _ _ _ _ _ _ _ _ hk67 _ _ _
        · refine Zo_iconst (1 : Int32) dX10_fund_200 ic_1 ?_
          refine Zo_iload8 dX10_fund_201 ?_
          refine Zo_ishl dX10_fund_203 ?_
          refine Zo_goto 208 dX10_fund_204 (by decide) ?_
          exact z_X10_fund_C208 g k67 _ _ _ _ _ _ _ _ _ _ _ _ hk67 _ _ _
      · refine Zo_iload11 dX10_fund_174 ?_
        refine Zo_aload0 dX10_fund_176 ?_
        refine Zo_getr (j := 77) fl_X10_34 kd_68 rfl dX10_fund_177 ?_
        refine Zo_iload10 dX10_fund_180 ?_
        refine Zo_iald kd_77 dX10_fund_182 fun v1 => ?_
        refine Zo_icmpgt 190 dX10_fund_183 (by decide) ?_ ?_
        · refine Zo_iconst (0 : Int32) dX10_fund_190 ic_0 ?_
          refine Zo_istore6 rfl (zlt rfl) dX10_fund_191 ?_
          refine Zo_iload7 dX10_fund_193 ?_
          refine Zo_iload12 dX10_fund_195 ?_
          refine Zo_ifeq 207 dX10_fund_197 (by decide) ?_ ?_
          · refine Zo_iconst (0 : Int32) dX10_fund_207 ic_0 ?_
            exact z_X10_fund_C208 g k67 _ _ _ _ _ _ _ _ _ _ _ _ hk67 _ _ _
          · refine Zo_iconst (1 : Int32) dX10_fund_200 ic_1 ?_
            refine Zo_iload8 dX10_fund_201 ?_
            refine Zo_ishl dX10_fund_203 ?_
            refine Zo_goto 208 dX10_fund_204 (by decide) ?_
            exact z_X10_fund_C208 g k67 _ _ _ _ _ _ _ _ _ _ _ _ hk67 _ _ _
        · refine Zo_iconst (1 : Int32) dX10_fund_186 ic_1 ?_
          refine Zo_goto 191 dX10_fund_187 (by decide) ?_
          refine Zo_istore6 rfl (zlt rfl) dX10_fund_191 ?_
          refine Zo_iload7 dX10_fund_193 ?_
          refine Zo_iload12 dX10_fund_195 ?_
          refine Zo_ifeq 207 dX10_fund_197 (by decide) ?_ ?_
          · refine Zo_iconst (0 : Int32) dX10_fund_207 ic_0 ?_
            exact z_X10_fund_C208 g k67 _ _ _ _ _ _ _ _ _ _ _ _ hk67 _ _ _
          · refine Zo_iconst (1 : Int32) dX10_fund_200 ic_1 ?_
            refine Zo_iload8 dX10_fund_201 ?_
            refine Zo_ishl dX10_fund_203 ?_
            refine Zo_goto 208 dX10_fund_204 (by decide) ?_
            exact z_X10_fund_C208 g k67 _ _ _ _ _ _ _ _ _ _ _ _ hk67 _ _ _
def s_X10_fund_C119 (k67 : Int32 → Int32 → Int32 → Int32 → Int32 → Option Int32) (l2 : Int32) (l3 : Int32) (l4 : Int32) (l5 : Int32) (l6 : Int32) (l7 : Int32) (l8 : Int32) (l9 : Int32) (l10 : Int32) (k_0 : Int32) (σ : ZSt) : Option Int32 :=
  (s_X10_isHarmed l4 l5 l10 σ).bind fun r1 => (if r1 = (0 : Int32) then (s_X10_fund_C157 k67 l2 l3 l4 l5 l6 l7 l8 l9 l10 k_0 (0 : Int32) σ)
    else (zLd (zIn l4 8) (σ.1 78 l4.toNatClampNeg) fun v2 => ((s_X10_harmBy v2 l10 σ).bind fun r3 => (if k_0 ≤ r3 then (s_X10_fund_C157 k67 l2 l3 l4 l5 l6 l7 l8 l9 l10 k_0 (0 : Int32) σ)
      else (s_X10_fund_C157 k67 l2 l3 l4 l5 l6 l7 l8 l9 l10 k_0 (1 : Int32) σ)))))
set_option maxHeartbeats 4000000 in
set_option maxRecDepth 100000 in
theorem z_X10_fund_C119 (g : ZG) (k67 : Int32 → Int32 → Int32 → Int32 → Int32 → Option Int32) (l2 : Int32) (l3 : Int32) (l4 : Int32) (l5 : Int32) (l6 : Int32) (l7 : Int32) (l8 : Int32) (l9 : Int32) (l10 : Int32) (k_0 : Int32) (σ : ZSt) (hk67 : ∀ (x6 : Int32) (x7 : Int32) (x8 : Int32) (x9 : Int32) (x10 : Int32) (d1 d11 d12 : Option Value), Zo g (mX10_fund g 3) (fun b : Int32 => (some (.int b), zw σ)) (k67 x6 x7 x8 x9 x10) 0 0 67 [some (.ref 68), d1, some (.int l2), some (.int l3), some (.int l4), some (.int l5), some (.int x6), some (.int x7), some (.int x8), some (.int x9), some (.int x10), d11, d12] [] (zw σ)) (o1 : Option Value) (o11 : Option Value) (o12 : Option Value) : Zo g (mX10_fund g 3) (fun b : Int32 => (some (.int b), zw σ)) (s_X10_fund_C119 k67 l2 l3 l4 l5 l6 l7 l8 l9 l10 k_0 σ) 0 0 119 [some (.ref 68), o1, some (.int l2), some (.int l3), some (.int l4), some (.int l5), some (.int l6), some (.int l7), some (.int l8), some (.int l9), some (.int l10), o11, o12] [.int k_0] (zw σ) := by
  unfold s_X10_fund_C119
  refine Zo_istore11 rfl (zlt rfl) dX10_fund_119 ?_
  refine Zo_aload0 dX10_fund_121 ?_
  refine Zo_iload4 dX10_fund_122 ?_
  refine Zo_iload5 dX10_fund_124 ?_
  refine Zo_iload10 dX10_fund_126 ?_
  refine Zo_cVI3 lk_X10_219 (e_X10_isHarmed g _ _ _ _) kd_68 (zFit_rm (by decide)) (zle rfl) dX10_fund_128 fun r1 => ?_
  refine Zo_ifeq 156 dX10_fund_131 (by decide) ?_ ?_
  · refine Zo_iconst (0 : Int32) dX10_fund_156 ic_0 ?_
    exact z_X10_fund_C157 g k67 _ _ _ _ _ _ _ _ _ _ _ _ hk67 _ _
  · refine Zo_iload11 dX10_fund_134 ?_
    refine Zo_aload0 dX10_fund_136 ?_
    refine Zo_aload0 dX10_fund_137 ?_
    refine Zo_getr (j := 78) fl_X10_37 kd_68 rfl dX10_fund_138 ?_
    refine Zo_iload4 dX10_fund_141 ?_
    refine Zo_iald kd_78 dX10_fund_143 fun v2 => ?_
    refine Zo_iload10 dX10_fund_144 ?_
    show Zo g _ _ _ 0 0 146 _ _ _
    refine Zo_cVI2 lk_X10_200 (e_X10_harmBy g _ _ _) kd_68 (zFit_rm (by decide)) (zle rfl) dX10_fund_146 fun r3 => ?_
    refine Zo_icmple 156 dX10_fund_149 (by decide) ?_ ?_
    · refine Zo_iconst (0 : Int32) dX10_fund_156 ic_0 ?_
      exact z_X10_fund_C157 g k67 _ _ _ _ _ _ _ _ _ _ _ _ hk67 _ _
    · refine Zo_iconst (1 : Int32) dX10_fund_152 ic_1 ?_
      refine Zo_goto 157 dX10_fund_153 (by decide) ?_
      exact z_X10_fund_C157 g k67 _ _ _ _ _ _ _ _ _ _ _ _ hk67 _ _
def s_X10_fund_C235 (l3 : Int32) (l6 : Int32) (l7 : Int32) (l9 : Int32) (σ : ZSt) : Option Int32 :=
  if l3 = (-1 : Int32) then (if l6 = (0 : Int32) then (some (0 : Int32))
      else (some (1 : Int32)))
    else (if l3 = (-2 : Int32) then (some l7)
      else (some l9))
set_option maxHeartbeats 4000000 in
set_option maxRecDepth 100000 in
theorem z_X10_fund_C235 (g : ZG) (l3 : Int32) (l6 : Int32) (l7 : Int32) (l9 : Int32) (σ : ZSt) (o0 : Option Value) (o1 : Option Value) (o2 : Option Value) (o4 : Option Value) (o5 : Option Value) (o8 : Option Value) (o10 : Option Value) (o11 : Option Value) (o12 : Option Value) : Zo g (mX10_fund g 3) (fun b : Int32 => (some (.int b), zw σ)) (s_X10_fund_C235 l3 l6 l7 l9 σ) 0 0 235 [o0, o1, o2, some (.int l3), o4, o5, some (.int l6), some (.int l7), o8, some (.int l9), o10, o11, o12] [] (zw σ) := by
  unfold s_X10_fund_C235
  refine Zo_iload3 dX10_fund_235 ?_
  refine Zo_iconst (-1 : Int32) dX10_fund_236 ic_m1 ?_
  refine Zo_icmpne 253 dX10_fund_237 (by decide) ?_ ?_
  · refine Zo_iload3 dX10_fund_253 ?_
    refine Zo_bipush (-2 : Int32) dX10_fund_254 bp_m2 ?_
    refine Zo_icmpne 264 dX10_fund_256 (by decide) ?_ ?_
    · refine Zo_iload9 dX10_fund_264 ?_
      exact Zo_iret dX10_fund_266 rfl rfl (Nat.le_refl _) (Nat.le_refl _)
    · refine Zo_iload7 dX10_fund_259 ?_
      refine Zo_goto 266 dX10_fund_261 (by decide) ?_
      exact Zo_iret dX10_fund_266 rfl rfl (Nat.le_refl _) (Nat.le_refl _)
  · refine Zo_iload6 dX10_fund_240 ?_
    refine Zo_ifeq 249 dX10_fund_242 (by decide) ?_ ?_
    · refine Zo_iconst (0 : Int32) dX10_fund_249 ic_0 ?_
      refine Zo_goto 266 dX10_fund_250 (by decide) ?_
      exact Zo_iret dX10_fund_266 rfl rfl (Nat.le_refl _) (Nat.le_refl _)
    · refine Zo_iconst (1 : Int32) dX10_fund_245 ic_1 ?_
      refine Zo_goto 266 dX10_fund_246 (by decide) ?_
      exact Zo_iret dX10_fund_266 rfl rfl (Nat.le_refl _) (Nat.le_refl _)
def s_X10_fund_L67 (l2 : Int32) (l3 : Int32) (l4 : Int32) (l5 : Int32) (σ : ZSt) : Nat → Int32 → Int32 → Int32 → Int32 → Int32 → Option Int32
  | 0, _, _, _, _, _ => none
  | n + 1, l6, l7, l8, l9, l10 =>
    if (σ.1 68 10) ≤ l10 then (s_X10_fund_C235 l3 l6 l7 l9 σ)
      else (zLd (zIn l10 30) (σ.1 76 l10.toNatClampNeg) fun v1 => (if v1 = l5 then ((s_X10_isHarmed l4 l5 l10 σ).bind fun r2 => (if r2 = (0 : Int32) then (s_X10_fund_C119 (s_X10_fund_L67 l2 l3 l4 l5 σ n) l2 l3 l4 l5 l6 l7 l8 l9 l10 (0 : Int32) σ)
          else ((s_X10_partOf l4 l5 l2 l10 σ).bind fun r3 => (s_X10_fund_C119 (s_X10_fund_L67 l2 l3 l4 l5 σ n) l2 l3 l4 l5 l6 l7 l8 l9 l10 r3 σ))))
        else (s_X10_fund_L67 l2 l3 l4 l5 σ n l6 l7 l8 l9 (l10 + (1 : Int32)))))
set_option maxHeartbeats 4000000 in
set_option maxRecDepth 100000 in
theorem z_X10_fund_L67 (g : ZG) (l2 : Int32) (l3 : Int32) (l4 : Int32) (l5 : Int32) (σ : ZSt) : ∀ (n : Nat) (l6 : Int32) (l7 : Int32) (l8 : Int32) (l9 : Int32) (l10 : Int32) (o1 o11 o12 : Option Value), Zo g (mX10_fund g 3) (fun b : Int32 => (some (.int b), zw σ)) (s_X10_fund_L67 l2 l3 l4 l5 σ n l6 l7 l8 l9 l10) 0 0 67 [some (.ref 68), o1, some (.int l2), some (.int l3), some (.int l4), some (.int l5), some (.int l6), some (.int l7), some (.int l8), some (.int l9), some (.int l10), o11, o12] [] (zw σ) := by
  intro n
  induction n with
  | zero => intros; exact Zo_none
  | succ n ih =>
    intro l6 l7 l8 l9 l10 o1 o11 o12
    rw [s_X10_fund_L67]
    refine Zo_iload10 dX10_fund_67 ?_
    refine Zo_aload0 dX10_fund_69 ?_
    refine Zo_geti fl_X10_124 kd_68 dX10_fund_70 ?_
    refine Zo_icmpge 235 dX10_fund_73 (by decide) ?_ ?_
    · exact z_X10_fund_C235 g _ _ _ _ _ _ _ _ _ _ _ _ _ _
    · refine Zo_aload0 dX10_fund_76 ?_
      refine Zo_getr (j := 76) fl_X10_31 kd_68 rfl dX10_fund_77 ?_
      refine Zo_iload10 dX10_fund_80 ?_
      refine Zo_iald kd_76 dX10_fund_82 fun v1 => ?_
      refine Zo_iload5 dX10_fund_83 ?_
      refine Zo_icmpeq 91 dX10_fund_85 (by decide) ?_ ?_
      · refine Zo_aload0 dX10_fund_91 ?_
        refine Zo_iload4 dX10_fund_92 ?_
        refine Zo_iload5 dX10_fund_94 ?_
        refine Zo_iload10 dX10_fund_96 ?_
        refine Zo_cVI3 lk_X10_219 (e_X10_isHarmed g _ _ _ _) kd_68 (zFit_rm (by decide)) (zle rfl) dX10_fund_98 fun r2 => ?_
        refine Zo_ifeq 118 dX10_fund_101 (by decide) ?_ ?_
        · refine Zo_iconst (0 : Int32) dX10_fund_118 ic_0 ?_
          exact z_X10_fund_C119 g (s_X10_fund_L67 l2 l3 l4 l5 σ n) _ _ _ _ _ _ _ _ _ _ _ ih _ _ _
        · refine Zo_aload0 dX10_fund_104 ?_
          refine Zo_iload4 dX10_fund_105 ?_
          refine Zo_iload5 dX10_fund_107 ?_
          refine Zo_iload2 dX10_fund_109 ?_
          refine Zo_iload10 dX10_fund_110 ?_
          refine Zo_cVI4 lk_X10_315 (e_X10_partOf g _ _ _ _ _) kd_68 (zFit_rm (by decide)) (zle rfl) dX10_fund_112 fun r3 => ?_
          refine Zo_goto 119 dX10_fund_115 (by decide) ?_
          exact z_X10_fund_C119 g (s_X10_fund_L67 l2 l3 l4 l5 σ n) _ _ _ _ _ _ _ _ _ _ _ ih _ _ _
      · refine Zo_goto 229 dX10_fund_88 (by decide) ?_
        refine Zo_iinc10 rfl (1 : Int32) ic_1 (zlt rfl) dX10_fund_229 ?_
        refine Zo_goto 67 dX10_fund_232 (by decide) ?_
        exact ih _ _ _ _ _ _ _ _
def s_X10_fund (p0 : Int32) (p1 : Int32) (p2 : Int32) (σ : ZSt) : Option Int32 :=
  (s_X10_isPs p0 σ).bind fun r1 => (if r1 = (0 : Int32) then (some (-1 : Int32))
    else ((s_X10_within (p1.toInt64) (0 : Int64) (9999 : Int64) σ).bind fun r2 => (if r2 = (0 : Int32) then (some (-1 : Int32))
      else (if p2 < (-2 : Int32) then (some (-1 : Int32))
        else ((s_X10_windowsOf (zRem p0 (10 : Int32)) σ).bind fun r3 => (if p2 < r3 then (s_X10_fund_L67 p1 p2 (p0 / (10 : Int32)) (zRem p0 (10 : Int32)) σ 200 (1 : Int32) (0 : Int32) (0 : Int32) (0 : Int32) (0 : Int32))
          else (some (-1 : Int32))))))))
set_option maxHeartbeats 4000000 in
set_option maxRecDepth 100000 in
theorem z_X10_fund (g : ZG) (p0 : Int32) (p1 : Int32) (p2 : Int32) (σ : ZSt) : Zo g (mX10_fund g 3) (fun b : Int32 => (some (.int b), zw σ)) (s_X10_fund p0 p1 p2 σ) 0 0 0 [some (.ref 68), some (.int p0), some (.int p1), some (.int p2), none, none, none, none, none, none, none, none, none] [] (zw σ) := by
  unfold s_X10_fund
  refine Zo_aload0 dX10_fund_0 ?_
  refine Zo_iload1 dX10_fund_1 ?_
  refine Zo_cVI1 lk_X10_209 (e_X10_isPs g _ _) kd_68 (zFit_rm (by decide)) (zle rfl) dX10_fund_2 fun r1 => ?_
  refine Zo_ifeq 38 dX10_fund_5 (by decide) ?_ ?_
  · refine Zo_iconst (-1 : Int32) dX10_fund_38 ic_m1 ?_
    exact Zo_iret dX10_fund_39 rfl rfl (Nat.le_refl _) (Nat.le_refl _)
  · refine Zo_iload2 dX10_fund_8 ?_
    refine Zo_i2l dX10_fund_9 ?_
    refine Zo_lconst (0 : Int64) dX10_fund_10 lc_0 ?_
    refine Zo_ldc2 rfl cw_X10_313 dX10_fund_11 ?_
    refine Zo_cSI3 lk_X10_120 (e_X10_within g _ _ _ _) (zFit_rm (by decide)) (zle rfl) dX10_fund_14 fun r2 => ?_
    refine Zo_ifeq 38 dX10_fund_17 (by decide) ?_ ?_
    · refine Zo_iconst (-1 : Int32) dX10_fund_38 ic_m1 ?_
      exact Zo_iret dX10_fund_39 rfl rfl (Nat.le_refl _) (Nat.le_refl _)
    · refine Zo_iload3 dX10_fund_20 ?_
      refine Zo_bipush (-2 : Int32) dX10_fund_21 bp_m2 ?_
      refine Zo_icmplt 38 dX10_fund_23 (by decide) ?_ ?_
      · refine Zo_iconst (-1 : Int32) dX10_fund_38 ic_m1 ?_
        exact Zo_iret dX10_fund_39 rfl rfl (Nat.le_refl _) (Nat.le_refl _)
      · refine Zo_iload3 dX10_fund_26 ?_
        refine Zo_aload0 dX10_fund_27 ?_
        refine Zo_iload1 dX10_fund_28 ?_
        refine Zo_bipush (10 : Int32) dX10_fund_29 bp_10 ?_
        refine Zo_irem dX10_fund_31 (by decide) ?_
        refine Zo_cVI1 lk_X10_175 (e_X10_windowsOf g _ _) kd_68 (zFit_rm (by decide)) (zle rfl) dX10_fund_32 fun r3 => ?_
        refine Zo_icmplt 40 dX10_fund_35 (by decide) ?_ ?_
        · refine Zo_iload1 dX10_fund_40 ?_
          refine Zo_bipush (10 : Int32) dX10_fund_41 bp_10 ?_
          refine Zo_idiv dX10_fund_43 (by decide) ?_
          refine Zo_istore4 rfl (zlt rfl) dX10_fund_44 ?_
          refine Zo_iload1 dX10_fund_46 ?_
          refine Zo_bipush (10 : Int32) dX10_fund_47 bp_10 ?_
          refine Zo_irem dX10_fund_49 (by decide) ?_
          show Zo g _ _ _ 0 0 50 _ _ _
          refine Zo_istore5 rfl (zlt rfl) dX10_fund_50 ?_
          refine Zo_iconst (1 : Int32) dX10_fund_52 ic_1 ?_
          refine Zo_istore6 rfl (zlt rfl) dX10_fund_53 ?_
          refine Zo_iconst (0 : Int32) dX10_fund_55 ic_0 ?_
          refine Zo_istore7 rfl (zlt rfl) dX10_fund_56 ?_
          refine Zo_iconst (0 : Int32) dX10_fund_58 ic_0 ?_
          refine Zo_istore8 rfl (zlt rfl) dX10_fund_59 ?_
          refine Zo_iconst (0 : Int32) dX10_fund_61 ic_0 ?_
          show Zo g _ _ _ 0 0 62 _ _ _
          refine Zo_istore9 rfl (zlt rfl) dX10_fund_62 ?_
          refine Zo_iconst (0 : Int32) dX10_fund_64 ic_0 ?_
          refine Zo_istore10 rfl (zlt rfl) dX10_fund_65 ?_
          exact z_X10_fund_L67 g _ _ _ _ _ _ _ _ _ _ _ _ _ _
        · refine Zo_iconst (-1 : Int32) dX10_fund_38 ic_m1 ?_
          exact Zo_iret dX10_fund_39 rfl rfl (Nat.le_refl _) (Nat.le_refl _)
theorem e_X10_fund (g : ZG) (p0 : Int32) (p1 : Int32) (p2 : Int32) (σ : ZSt) : zEvI g 3 yX10_fund cX10_fund 13 (some .int) [.ref 68, .int p0, .int p1, .int p2] σ (s_X10_fund p0 p1 p2 σ) :=
  zEvI_of 9 rfl rfl (z_X10_fund g p0 p1 p2 σ)
abbrev mX10_fetch (g : ZG) (q : Nat) : ZM := (yX10_fetch, cX10_fetch, 4, (some .int), zRm q 0 0, zTg g 0 0)
def s_X10_fetch (p0 : Int32) (σ : ZSt) : Option Int32 :=
  (s_X10_isPs p0 σ).bind fun r1 => (if r1 = (0 : Int32) then (some (-1 : Int32))
    else (zLd (zIn (p0 / (10 : Int32)) 8) (σ.1 78 (p0 / (10 : Int32)).toNatClampNeg) fun v2 => ((s_X10_bargainOf (p0 / (10 : Int32)) v2 (zRem p0 (10 : Int32)) σ).bind fun r3 => (zLd (zIn (zRem p0 (10 : Int32)) 6) (σ.1 73 (zRem p0 (10 : Int32)).toNatClampNeg) fun v4 => (if r3 < (0 : Int32) then (some (-2 : Int32))
      else (if v4 = (0 : Int32) then (some (-2 : Int32))
        else (if r3 ≤ v4 then (some (0 : Int32))
          else (some (1 : Int32)))))))))
set_option maxHeartbeats 4000000 in
set_option maxRecDepth 100000 in
theorem z_X10_fetch (g : ZG) (p0 : Int32) (σ : ZSt) : Zo g (mX10_fetch g 3) (fun b : Int32 => (some (.int b), zw σ)) (s_X10_fetch p0 σ) 0 0 0 [some (.ref 68), some (.int p0), none, none] [] (zw σ) := by
  unfold s_X10_fetch
  refine Zo_aload0 dX10_fetch_0 ?_
  refine Zo_iload1 dX10_fetch_1 ?_
  refine Zo_cVI1 lk_X10_209 (e_X10_isPs g _ _) kd_68 (zFit_rm (by decide)) (zle rfl) dX10_fetch_2 fun r1 => ?_
  refine Zo_ifne 10 dX10_fetch_5 (by decide) ?_ ?_
  · refine Zo_aload0 dX10_fetch_10 ?_
    refine Zo_iload1 dX10_fetch_11 ?_
    refine Zo_bipush (10 : Int32) dX10_fetch_12 bp_10 ?_
    refine Zo_idiv dX10_fetch_14 (by decide) ?_
    refine Zo_aload0 dX10_fetch_15 ?_
    refine Zo_getr (j := 78) fl_X10_37 kd_68 rfl dX10_fetch_16 ?_
    refine Zo_iload1 dX10_fetch_19 ?_
    show Zo g _ _ _ 0 0 20 _ _ _
    refine Zo_bipush (10 : Int32) dX10_fetch_20 bp_10 ?_
    refine Zo_idiv dX10_fetch_22 (by decide) ?_
    refine Zo_iald kd_78 dX10_fetch_23 fun v2 => ?_
    refine Zo_iload1 dX10_fetch_24 ?_
    refine Zo_bipush (10 : Int32) dX10_fetch_25 bp_10 ?_
    refine Zo_irem dX10_fetch_27 (by decide) ?_
    refine Zo_cVI3 lk_X10_215 (e_X10_bargainOf g _ _ _ _) kd_68 (zFit_rm (by decide)) (zle rfl) dX10_fetch_28 fun r3 => ?_
    refine Zo_istore2 rfl (zlt rfl) dX10_fetch_31 ?_
    show Zo g _ _ _ 0 0 32 _ _ _
    refine Zo_aload0 dX10_fetch_32 ?_
    refine Zo_getr (j := 73) fl_X10_22 kd_68 rfl dX10_fetch_33 ?_
    refine Zo_iload1 dX10_fetch_36 ?_
    refine Zo_bipush (10 : Int32) dX10_fetch_37 bp_10 ?_
    refine Zo_irem dX10_fetch_39 (by decide) ?_
    refine Zo_iald kd_73 dX10_fetch_40 fun v4 => ?_
    refine Zo_istore3 rfl (zlt rfl) dX10_fetch_41 ?_
    refine Zo_iload2 dX10_fetch_42 ?_
    show Zo g _ _ _ 0 0 43 _ _ _
    refine Zo_iflt 50 dX10_fetch_43 (by decide) ?_ ?_
    · refine Zo_bipush (-2 : Int32) dX10_fetch_50 bp_m2 ?_
      refine Zo_goto 65 dX10_fetch_52 (by decide) ?_
      exact Zo_iret dX10_fetch_65 rfl rfl (Nat.le_refl _) (Nat.le_refl _)
    · refine Zo_iload3 dX10_fetch_46 ?_
      refine Zo_ifne 55 dX10_fetch_47 (by decide) ?_ ?_
      · refine Zo_iload3 dX10_fetch_55 ?_
        refine Zo_iload2 dX10_fetch_56 ?_
        refine Zo_icmpge 64 dX10_fetch_57 (by decide) ?_ ?_
        · refine Zo_iconst (0 : Int32) dX10_fetch_64 ic_0 ?_
          exact Zo_iret dX10_fetch_65 rfl rfl (Nat.le_refl _) (Nat.le_refl _)
        · refine Zo_iconst (1 : Int32) dX10_fetch_60 ic_1 ?_
          refine Zo_goto 65 dX10_fetch_61 (by decide) ?_
          exact Zo_iret dX10_fetch_65 rfl rfl (Nat.le_refl _) (Nat.le_refl _)
      · refine Zo_bipush (-2 : Int32) dX10_fetch_50 bp_m2 ?_
        refine Zo_goto 65 dX10_fetch_52 (by decide) ?_
        exact Zo_iret dX10_fetch_65 rfl rfl (Nat.le_refl _) (Nat.le_refl _)
  · refine Zo_iconst (-1 : Int32) dX10_fetch_8 ic_m1 ?_
    exact Zo_iret dX10_fetch_9 rfl rfl (Nat.le_refl _) (Nat.le_refl _)
theorem e_X10_fetch (g : ZG) (p0 : Int32) (σ : ZSt) : zEvI g 3 yX10_fetch cX10_fetch 4 (some .int) [.ref 68, .int p0] σ (s_X10_fetch p0 σ) :=
  zEvI_of 2 rfl rfl (z_X10_fetch g p0 σ)
abbrev mX10_worse (g : ZG) (q : Nat) : ZM := (yX10_worse, cX10_worse, 6, (some .int), zRm q 0 0, zTg g 0 0)
def s_X10_worse_L19 (l1 : Int32) (σ : ZSt) : Nat → Int32 → Int32 → Int32 → Option Int32
  | 0, _, _, _ => none
  | n + 1, l2, l3, l4 =>
    if (10 : Int32) < l4 then (some l2)
      else ((s_X10_bargainOf (l1 / (10 : Int32)) l4 (zRem l1 (10 : Int32)) σ).bind fun r1 => (if r1 ≤ l3 then (s_X10_worse_L19 l1 σ n l2 l3 (l4 + (1 : Int32)))
        else (s_X10_worse_L19 l1 σ n l4 r1 (l4 + (1 : Int32)))))
set_option maxHeartbeats 4000000 in
set_option maxRecDepth 100000 in
theorem z_X10_worse_L19 (g : ZG) (l1 : Int32) (σ : ZSt) : ∀ (n : Nat) (l2 : Int32) (l3 : Int32) (l4 : Int32) (o5 : Option Value), Zo g (mX10_worse g 3) (fun b : Int32 => (some (.int b), zw σ)) (s_X10_worse_L19 l1 σ n l2 l3 l4) 0 0 19 [some (.ref 68), some (.int l1), some (.int l2), some (.int l3), some (.int l4), o5] [] (zw σ) := by
  intro n
  induction n with
  | zero => intros; exact Zo_none
  | succ n ih =>
    intro l2 l3 l4 o5
    rw [s_X10_worse_L19]
    refine Zo_iload4 dX10_worse_19 ?_
    refine Zo_bipush (10 : Int32) dX10_worse_21 bp_10 ?_
    refine Zo_icmpgt 60 dX10_worse_23 (by decide) ?_ ?_
    · refine Zo_iload2 dX10_worse_60 ?_
      exact Zo_iret dX10_worse_61 rfl rfl (Nat.le_refl _) (Nat.le_refl _)
    · refine Zo_aload0 dX10_worse_26 ?_
      refine Zo_iload1 dX10_worse_27 ?_
      refine Zo_bipush (10 : Int32) dX10_worse_28 bp_10 ?_
      refine Zo_idiv dX10_worse_30 (by decide) ?_
      refine Zo_iload4 dX10_worse_31 ?_
      refine Zo_iload1 dX10_worse_33 ?_
      refine Zo_bipush (10 : Int32) dX10_worse_34 bp_10 ?_
      show Zo g _ _ _ 0 0 36 _ _ _
      refine Zo_irem dX10_worse_36 (by decide) ?_
      refine Zo_cVI3 lk_X10_215 (e_X10_bargainOf g _ _ _ _) kd_68 (zFit_rm (by decide)) (zle rfl) dX10_worse_37 fun r1 => ?_
      refine Zo_istore5 rfl (zlt rfl) dX10_worse_40 ?_
      refine Zo_iload5 dX10_worse_42 ?_
      refine Zo_iload3 dX10_worse_44 ?_
      refine Zo_icmple 54 dX10_worse_45 (by decide) ?_ ?_
      · refine Zo_iinc4 rfl (1 : Int32) ic_1 (zlt rfl) dX10_worse_54 ?_
        refine Zo_goto 19 dX10_worse_57 (by decide) ?_
        exact ih _ _ _ _
      · refine Zo_iload4 dX10_worse_48 ?_
        refine Zo_istore2 rfl (zlt rfl) dX10_worse_50 ?_
        refine Zo_iload5 dX10_worse_51 ?_
        refine Zo_istore3 rfl (zlt rfl) dX10_worse_53 ?_
        refine Zo_iinc4 rfl (1 : Int32) ic_1 (zlt rfl) dX10_worse_54 ?_
        refine Zo_goto 19 dX10_worse_57 (by decide) ?_
        exact ih _ _ _ _
def s_X10_worse (p0 : Int32) (σ : ZSt) : Option Int32 :=
  (s_X10_isPs p0 σ).bind fun r1 => (if r1 = (0 : Int32) then (some (-1 : Int32))
    else (s_X10_worse_L19 p0 σ 200 (-2 : Int32) (-2 : Int32) (0 : Int32)))
set_option maxHeartbeats 4000000 in
set_option maxRecDepth 100000 in
theorem z_X10_worse (g : ZG) (p0 : Int32) (σ : ZSt) : Zo g (mX10_worse g 3) (fun b : Int32 => (some (.int b), zw σ)) (s_X10_worse p0 σ) 0 0 0 [some (.ref 68), some (.int p0), none, none, none, none] [] (zw σ) := by
  unfold s_X10_worse
  refine Zo_aload0 dX10_worse_0 ?_
  refine Zo_iload1 dX10_worse_1 ?_
  refine Zo_cVI1 lk_X10_209 (e_X10_isPs g _ _) kd_68 (zFit_rm (by decide)) (zle rfl) dX10_worse_2 fun r1 => ?_
  refine Zo_ifne 10 dX10_worse_5 (by decide) ?_ ?_
  · refine Zo_bipush (-2 : Int32) dX10_worse_10 bp_m2 ?_
    refine Zo_istore2 rfl (zlt rfl) dX10_worse_12 ?_
    refine Zo_bipush (-2 : Int32) dX10_worse_13 bp_m2 ?_
    refine Zo_istore3 rfl (zlt rfl) dX10_worse_15 ?_
    refine Zo_iconst (0 : Int32) dX10_worse_16 ic_0 ?_
    refine Zo_istore4 rfl (zlt rfl) dX10_worse_17 ?_
    exact z_X10_worse_L19 g _ _ _ _ _ _ _
  · refine Zo_iconst (-1 : Int32) dX10_worse_8 ic_m1 ?_
    exact Zo_iret dX10_worse_9 rfl rfl (Nat.le_refl _) (Nat.le_refl _)
theorem e_X10_worse (g : ZG) (p0 : Int32) (σ : ZSt) : zEvI g 3 yX10_worse cX10_worse 6 (some .int) [.ref 68, .int p0] σ (s_X10_worse p0 σ) :=
  zEvI_of 4 rfl rfl (z_X10_worse g p0 σ)
abbrev mX10_lovers (g : ZG) (q : Nat) : ZM := (yX10_lovers, cX10_lovers, 5, (some .int), zRm q 0 0, zTg g 0 0)
def s_X10_lovers (p0 : Int32) (p1 : Int32) (σ : ZSt) : Option Int32 :=
  (s_X10_isPs p0 σ).bind fun r1 => (if r1 = (0 : Int32) then (some (-1 : Int32))
    else ((s_X10_within (p1.toInt64) (0 : Int64) (1 : Int64) σ).bind fun r2 => (if r2 = (0 : Int32) then (some (-1 : Int32))
      else (zLd (zIn (p0 / (10 : Int32)) 8) (σ.1 78 (p0 / (10 : Int32)).toNatClampNeg) fun v3 => ((s_X10_mostBy v3 (zRem p0 (10 : Int32)) σ).bind fun r4 => (zLd (zIn (p0 / (10 : Int32)) 8) (σ.1 78 (p0 / (10 : Int32)).toNatClampNeg) fun v5 => ((s_X10_streetHarm v5 (zRem p0 (10 : Int32)) σ).bind fun r6 => (if p1 = (0 : Int32) then (some (r4 - r6))
        else ((s_X10_leastFor (p0 / (10 : Int32)) (zRem p0 (10 : Int32)) σ).bind fun r7 => (if (r4 - r6) < r7 then (some (0 : Int32))
          else (some (1 : Int32))))))))))))
set_option maxHeartbeats 4000000 in
set_option maxRecDepth 100000 in
theorem z_X10_lovers (g : ZG) (p0 : Int32) (p1 : Int32) (σ : ZSt) : Zo g (mX10_lovers g 3) (fun b : Int32 => (some (.int b), zw σ)) (s_X10_lovers p0 p1 σ) 0 0 0 [some (.ref 68), some (.int p0), some (.int p1), none, none] [] (zw σ) := by
  unfold s_X10_lovers
  refine Zo_aload0 dX10_lovers_0 ?_
  refine Zo_iload1 dX10_lovers_1 ?_
  refine Zo_cVI1 lk_X10_209 (e_X10_isPs g _ _) kd_68 (zFit_rm (by decide)) (zle rfl) dX10_lovers_2 fun r1 => ?_
  refine Zo_ifeq 18 dX10_lovers_5 (by decide) ?_ ?_
  · refine Zo_iconst (-1 : Int32) dX10_lovers_18 ic_m1 ?_
    exact Zo_iret dX10_lovers_19 rfl rfl (Nat.le_refl _) (Nat.le_refl _)
  · refine Zo_iload2 dX10_lovers_8 ?_
    refine Zo_i2l dX10_lovers_9 ?_
    refine Zo_lconst (0 : Int64) dX10_lovers_10 lc_0 ?_
    refine Zo_lconst (1 : Int64) dX10_lovers_11 lc_1 ?_
    refine Zo_cSI3 lk_X10_120 (e_X10_within g _ _ _ _) (zFit_rm (by decide)) (zle rfl) dX10_lovers_12 fun r2 => ?_
    refine Zo_ifne 20 dX10_lovers_15 (by decide) ?_ ?_
    · refine Zo_iload1 dX10_lovers_20 ?_
      refine Zo_bipush (10 : Int32) dX10_lovers_21 bp_10 ?_
      refine Zo_idiv dX10_lovers_23 (by decide) ?_
      refine Zo_istore3 rfl (zlt rfl) dX10_lovers_24 ?_
      refine Zo_aload0 dX10_lovers_25 ?_
      refine Zo_aload0 dX10_lovers_26 ?_
      refine Zo_getr (j := 78) fl_X10_37 kd_68 rfl dX10_lovers_27 ?_
      show Zo g _ _ _ 0 0 30 _ _ _
      refine Zo_iload3 dX10_lovers_30 ?_
      refine Zo_iald kd_78 dX10_lovers_31 fun v3 => ?_
      refine Zo_iload1 dX10_lovers_32 ?_
      refine Zo_bipush (10 : Int32) dX10_lovers_33 bp_10 ?_
      refine Zo_irem dX10_lovers_35 (by decide) ?_
      refine Zo_cVI2 lk_X10_206 (e_X10_mostBy g _ _ _) kd_68 (zFit_rm (by decide)) (zle rfl) dX10_lovers_36 fun r4 => ?_
      refine Zo_aload0 dX10_lovers_39 ?_
      refine Zo_aload0 dX10_lovers_40 ?_
      show Zo g _ _ _ 0 0 41 _ _ _
      refine Zo_getr (j := 78) fl_X10_37 kd_68 rfl dX10_lovers_41 ?_
      refine Zo_iload3 dX10_lovers_44 ?_
      refine Zo_iald kd_78 dX10_lovers_45 fun v5 => ?_
      refine Zo_iload1 dX10_lovers_46 ?_
      refine Zo_bipush (10 : Int32) dX10_lovers_47 bp_10 ?_
      refine Zo_irem dX10_lovers_49 (by decide) ?_
      refine Zo_cVI2 lk_X10_212 (e_X10_streetHarm g _ _ _) kd_68 (zFit_rm (by decide)) (zle rfl) dX10_lovers_50 fun r6 => ?_
      refine Zo_isub dX10_lovers_53 ?_
      show Zo g _ _ _ 0 0 54 _ _ _
      refine Zo_istore4 rfl (zlt rfl) dX10_lovers_54 ?_
      refine Zo_iload2 dX10_lovers_56 ?_
      refine Zo_ifne 65 dX10_lovers_57 (by decide) ?_ ?_
      · refine Zo_iload4 dX10_lovers_65 ?_
        refine Zo_aload0 dX10_lovers_67 ?_
        refine Zo_iload3 dX10_lovers_68 ?_
        refine Zo_iload1 dX10_lovers_69 ?_
        refine Zo_bipush (10 : Int32) dX10_lovers_70 bp_10 ?_
        refine Zo_irem dX10_lovers_72 (by decide) ?_
        refine Zo_cVI2 lk_X10_203 (e_X10_leastFor g _ _ _) kd_68 (zFit_rm (by decide)) (zle rfl) dX10_lovers_73 fun r7 => ?_
        show Zo g _ _ _ 0 0 76 _ _ _
        refine Zo_icmplt 83 dX10_lovers_76 (by decide) ?_ ?_
        · refine Zo_iconst (0 : Int32) dX10_lovers_83 ic_0 ?_
          exact Zo_iret dX10_lovers_84 rfl rfl (Nat.le_refl _) (Nat.le_refl _)
        · refine Zo_iconst (1 : Int32) dX10_lovers_79 ic_1 ?_
          refine Zo_goto 84 dX10_lovers_80 (by decide) ?_
          exact Zo_iret dX10_lovers_84 rfl rfl (Nat.le_refl _) (Nat.le_refl _)
      · refine Zo_iload4 dX10_lovers_60 ?_
        refine Zo_goto 84 dX10_lovers_62 (by decide) ?_
        exact Zo_iret dX10_lovers_84 rfl rfl (Nat.le_refl _) (Nat.le_refl _)
    · refine Zo_iconst (-1 : Int32) dX10_lovers_18 ic_m1 ?_
      exact Zo_iret dX10_lovers_19 rfl rfl (Nat.le_refl _) (Nat.le_refl _)
theorem e_X10_lovers (g : ZG) (p0 : Int32) (p1 : Int32) (σ : ZSt) : zEvI g 3 yX10_lovers cX10_lovers 5 (some .int) [.ref 68, .int p0, .int p1] σ (s_X10_lovers p0 p1 σ) :=
  zEvI_of 2 rfl rfl (z_X10_lovers g p0 p1 σ)
abbrev mX10_judge (g : ZG) (q : Nat) : ZM := (yX10_judge, cX10_judge, 4, (some .int), zRm q 0 0, zTg g 0 0)
def s_X10_judge_C51 (k2 : Int32 → Option Int32) (l1 : Int32) (l2 : Int32) (σ : ZSt) : Option Int32 :=
  zLd (zIn l1 6) (σ.1 75 l1.toNatClampNeg) fun v1 => (if v1 ≤ l2 then (k2 (l1 + (1 : Int32)))
    else (some l1))
set_option maxHeartbeats 4000000 in
set_option maxRecDepth 100000 in
theorem z_X10_judge_C51 (g : ZG) (k2 : Int32 → Option Int32) (l1 : Int32) (l2 : Int32) (σ : ZSt) (hk2 : ∀ (x1 : Int32) (d2 d3 : Option Value), Zo g (mX10_judge g 0) (fun b : Int32 => (some (.int b), zw σ)) (k2 x1) 0 0 2 [some (.ref 68), some (.int x1), d2, d3] [] (zw σ)) (o3 : Option Value) : Zo g (mX10_judge g 0) (fun b : Int32 => (some (.int b), zw σ)) (s_X10_judge_C51 k2 l1 l2 σ) 0 0 51 [some (.ref 68), some (.int l1), some (.int l2), o3] [] (zw σ) := by
  unfold s_X10_judge_C51
  refine Zo_aload0 dX10_judge_51 ?_
  refine Zo_getr (j := 75) fl_X10_28 kd_68 rfl dX10_judge_52 ?_
  refine Zo_iload1 dX10_judge_55 ?_
  refine Zo_iald kd_75 dX10_judge_56 fun v1 => ?_
  refine Zo_iload2 dX10_judge_57 ?_
  refine Zo_icmple 63 dX10_judge_58 (by decide) ?_ ?_
  · refine Zo_iinc1 rfl (1 : Int32) ic_1 (zlt rfl) dX10_judge_63 ?_
    refine Zo_goto 2 dX10_judge_66 (by decide) ?_
    exact hk2 _ _ _
  · refine Zo_iload1 dX10_judge_61 ?_
    exact Zo_iret dX10_judge_62 rfl rfl (Nat.le_refl _) (Nat.le_refl _)
def s_X10_judge_L14 (k2 : Int32 → Option Int32) (l1 : Int32) (σ : ZSt) : Nat → Int32 → Int32 → Option Int32
  | 0, _, _ => none
  | n + 1, l2, l3 =>
    if (σ.1 68 10) ≤ l3 then (s_X10_judge_C51 k2 l1 l2 σ)
      else (zLd (zIn l3 30) (σ.1 76 l3.toNatClampNeg) fun v1 => (if v1 = l1 then (zLd (zIn l3 30) (σ.1 77 l3.toNatClampNeg) fun v2 => (s_X10_judge_L14 k2 l1 σ n (l2 + v2) (l3 + (1 : Int32))))
        else (s_X10_judge_L14 k2 l1 σ n (l2 + (0 : Int32)) (l3 + (1 : Int32)))))
set_option maxHeartbeats 4000000 in
set_option maxRecDepth 100000 in
theorem z_X10_judge_L14 (g : ZG) (k2 : Int32 → Option Int32) (l1 : Int32) (σ : ZSt) (hk2 : ∀ (x1 : Int32) (d2 d3 : Option Value), Zo g (mX10_judge g 0) (fun b : Int32 => (some (.int b), zw σ)) (k2 x1) 0 0 2 [some (.ref 68), some (.int x1), d2, d3] [] (zw σ)) : ∀ (n : Nat) (l2 : Int32) (l3 : Int32), Zo g (mX10_judge g 0) (fun b : Int32 => (some (.int b), zw σ)) (s_X10_judge_L14 k2 l1 σ n l2 l3) 0 0 14 [some (.ref 68), some (.int l1), some (.int l2), some (.int l3)] [] (zw σ) := by
  intro n
  induction n with
  | zero => intros; exact Zo_none
  | succ n ih =>
    intro l2 l3
    rw [s_X10_judge_L14]
    refine Zo_iload3 dX10_judge_14 ?_
    refine Zo_aload0 dX10_judge_15 ?_
    refine Zo_geti fl_X10_124 kd_68 dX10_judge_16 ?_
    refine Zo_icmpge 51 dX10_judge_19 (by decide) ?_ ?_
    · exact z_X10_judge_C51 g k2 _ _ _ hk2 _
    · refine Zo_iload2 dX10_judge_22 ?_
      refine Zo_aload0 dX10_judge_23 ?_
      refine Zo_getr (j := 76) fl_X10_31 kd_68 rfl dX10_judge_24 ?_
      refine Zo_iload3 dX10_judge_27 ?_
      refine Zo_iald kd_76 dX10_judge_28 fun v1 => ?_
      refine Zo_iload1 dX10_judge_29 ?_
      refine Zo_icmpne 42 dX10_judge_30 (by decide) ?_ ?_
      · refine Zo_iconst (0 : Int32) dX10_judge_42 ic_0 ?_
        refine Zo_iadd dX10_judge_43 ?_
        refine Zo_istore2 rfl (zlt rfl) dX10_judge_44 ?_
        refine Zo_iinc3 rfl (1 : Int32) ic_1 (zlt rfl) dX10_judge_45 ?_
        refine Zo_goto 14 dX10_judge_48 (by decide) ?_
        exact ih _ _
      · refine Zo_aload0 dX10_judge_33 ?_
        refine Zo_getr (j := 77) fl_X10_34 kd_68 rfl dX10_judge_34 ?_
        refine Zo_iload3 dX10_judge_37 ?_
        refine Zo_iald kd_77 dX10_judge_38 fun v2 => ?_
        refine Zo_goto 43 dX10_judge_39 (by decide) ?_
        refine Zo_iadd dX10_judge_43 ?_
        refine Zo_istore2 rfl (zlt rfl) dX10_judge_44 ?_
        show Zo g _ _ _ 0 0 45 _ _ _
        refine Zo_iinc3 rfl (1 : Int32) ic_1 (zlt rfl) dX10_judge_45 ?_
        refine Zo_goto 14 dX10_judge_48 (by decide) ?_
        exact ih _ _
def s_X10_judge_L2 (σ : ZSt) : Nat → Int32 → Option Int32
  | 0, _ => none
  | n + 1, l1 =>
    if (σ.1 68 6) ≤ l1 then (some (-2 : Int32))
      else (s_X10_judge_L14 (s_X10_judge_L2 σ n) l1 σ 200 (0 : Int32) (0 : Int32))
set_option maxHeartbeats 4000000 in
set_option maxRecDepth 100000 in
theorem z_X10_judge_L2 (g : ZG) (σ : ZSt) : ∀ (n : Nat) (l1 : Int32) (o2 o3 : Option Value), Zo g (mX10_judge g 0) (fun b : Int32 => (some (.int b), zw σ)) (s_X10_judge_L2 σ n l1) 0 0 2 [some (.ref 68), some (.int l1), o2, o3] [] (zw σ) := by
  intro n
  induction n with
  | zero => intros; exact Zo_none
  | succ n ih =>
    intro l1 o2 o3
    rw [s_X10_judge_L2]
    refine Zo_iload1 dX10_judge_2 ?_
    refine Zo_aload0 dX10_judge_3 ?_
    refine Zo_geti fl_X10_117 kd_68 dX10_judge_4 ?_
    refine Zo_icmpge 69 dX10_judge_7 (by decide) ?_ ?_
    · refine Zo_bipush (-2 : Int32) dX10_judge_69 bp_m2 ?_
      exact Zo_iret dX10_judge_71 rfl rfl (Nat.le_refl _) (Nat.le_refl _)
    · refine Zo_iconst (0 : Int32) dX10_judge_10 ic_0 ?_
      refine Zo_istore2 rfl (zlt rfl) dX10_judge_11 ?_
      refine Zo_iconst (0 : Int32) dX10_judge_12 ic_0 ?_
      refine Zo_istore3 rfl (zlt rfl) dX10_judge_13 ?_
      exact z_X10_judge_L14 g (s_X10_judge_L2 σ n) _ _ ih _ _ _
def s_X10_judge (σ : ZSt) : Option Int32 :=
  s_X10_judge_L2 σ 200 (0 : Int32)
set_option maxHeartbeats 4000000 in
set_option maxRecDepth 100000 in
theorem z_X10_judge (g : ZG) (σ : ZSt) : Zo g (mX10_judge g 0) (fun b : Int32 => (some (.int b), zw σ)) (s_X10_judge σ) 0 0 0 [some (.ref 68), none, none, none] [] (zw σ) := by
  unfold s_X10_judge
  refine Zo_iconst (0 : Int32) dX10_judge_0 ic_0 ?_
  refine Zo_istore1 rfl (zlt rfl) dX10_judge_1 ?_
  exact z_X10_judge_L2 g _ _ _ _ _
theorem e_X10_judge (g : ZG) (σ : ZSt) : zEvI g 0 yX10_judge cX10_judge 4 (some .int) [.ref 68] σ (s_X10_judge σ) :=
  zEvI_of 3 rfl rfl (z_X10_judge g σ)
abbrev mX10_isBody (g : ZG) (q : Nat) : ZM := (yX10_isBody, cX10_isBody, 2, (some .boolean), zRm q 0 0, zTg g 0 0)
def s_X10_isBody (p0 : Int32) (σ : ZSt) : Option Int32 :=
  (s_X10_within (p0.toInt64) (0 : Int64) (((σ.1 68 39) - (1 : Int32)).toInt64) σ).bind fun r1 => (if r1 = (0 : Int32) ∨ r1 = (1 : Int32) then some r1 else none)
set_option maxHeartbeats 4000000 in
set_option maxRecDepth 100000 in
theorem z_X10_isBody (g : ZG) (p0 : Int32) (σ : ZSt) : Zo g (mX10_isBody g 1) (fun b : Int32 => (some (.int b), zw σ)) (s_X10_isBody p0 σ) 0 0 0 [some (.ref 68), some (.int p0)] [] (zw σ) := by
  unfold s_X10_isBody
  refine Zo_iload1 dX10_isBody_0 ?_
  refine Zo_i2l dX10_isBody_1 ?_
  refine Zo_lconst (0 : Int64) dX10_isBody_2 lc_0 ?_
  refine Zo_aload0 dX10_isBody_3 ?_
  refine Zo_geti fl_X10_318 kd_68 dX10_isBody_4 ?_
  refine Zo_iconst (1 : Int32) dX10_isBody_7 ic_1 ?_
  refine Zo_isub dX10_isBody_8 ?_
  show Zo g _ _ _ 0 0 9 _ _ _
  refine Zo_i2l dX10_isBody_9 ?_
  refine Zo_cSI3 lk_X10_120 (e_X10_within g _ _ _ _) (zFit_rm (by decide)) (zle rfl) dX10_isBody_10 fun r1 => ?_
  refine Zo_guard fun hb => ?_
  exact Zo_zret dX10_isBody_13 rfl rfl hb (Nat.le_refl _) (Nat.le_refl _)
theorem e_X10_isBody (g : ZG) (p0 : Int32) (σ : ZSt) : zEvI g 1 yX10_isBody cX10_isBody 2 (some .boolean) [.ref 68, .int p0] σ (s_X10_isBody p0 σ) :=
  zEvI_of 0 rfl rfl (z_X10_isBody g p0 σ)
abbrev mX10_kindOf (g : ZG) (q : Nat) : ZM := (yX10_kindOf, cX10_kindOf, 2, (some .int), zRm q 0 0, zTg g 0 0)
def s_X10_kindOf (p0 : Int32) (σ : ZSt) : Option Int32 :=
  zLd (zIn p0 50) (σ.1 94 p0.toNatClampNeg) fun v1 => (some v1)
set_option maxHeartbeats 4000000 in
set_option maxRecDepth 100000 in
theorem z_X10_kindOf (g : ZG) (p0 : Int32) (σ : ZSt) : Zo g (mX10_kindOf g 0) (fun b : Int32 => (some (.int b), zw σ)) (s_X10_kindOf p0 σ) 0 0 0 [some (.ref 68), some (.int p0)] [] (zw σ) := by
  unfold s_X10_kindOf
  refine Zo_aload0 dX10_kindOf_0 ?_
  refine Zo_getr (j := 94) fl_X10_85 kd_68 rfl dX10_kindOf_1 ?_
  refine Zo_iload1 dX10_kindOf_4 ?_
  refine Zo_iald kd_94 dX10_kindOf_5 fun v1 => ?_
  exact Zo_iret dX10_kindOf_6 rfl rfl (Nat.le_refl _) (Nat.le_refl _)
theorem e_X10_kindOf (g : ZG) (p0 : Int32) (σ : ZSt) : zEvI g 0 yX10_kindOf cX10_kindOf 2 (some .int) [.ref 68, .int p0] σ (s_X10_kindOf p0 σ) :=
  zEvI_of 0 rfl rfl (z_X10_kindOf g p0 σ)
abbrev mX10_body (g : ZG) (q : Nat) : ZM := (yX10_body, cX10_body, 2, (some .int), zRm q 0 0, zTg g 0 0)
def s_X10_body (p0 : Int32) (σ : ZSt) : Option (Int32 × ZSt) :=
  (s_X10_within (p0.toInt64) (0 : Int64) (7 : Int64) σ).bind fun r1 => (if r1 = (0 : Int32) then (some ((-1 : Int32), σ))
    else (if (σ.1 68 39) = (50 : Int32) then (some ((-3 : Int32), σ))
      else (zSg (zIn (σ.1 68 39) 50) (zWD σ 94 (σ.1 68 39).toNatClampNeg p0) fun σ2 => (zSt' (zWD σ2 68 39 ((σ2.1 68 39) + (1 : Int32))) fun σ3 => (some (((σ3.1 68 39) - (1 : Int32)), σ3))))))
set_option maxHeartbeats 4000000 in
set_option maxRecDepth 100000 in
theorem z_X10_body (g : ZG) (p0 : Int32) (σ : ZSt) : Zo g (mX10_body g 1) (fun b : Int32 × ZSt => (some (.int b.1), zw b.2)) (s_X10_body p0 σ) 0 0 0 [some (.ref 68), some (.int p0)] [] (zw σ) := by
  unfold s_X10_body
  refine Zo_iload1 dX10_body_0 ?_
  refine Zo_i2l dX10_body_1 ?_
  refine Zo_lconst (0 : Int64) dX10_body_2 lc_0 ?_
  refine Zo_ldc2 rfl cw_X10_321 dX10_body_3 ?_
  refine Zo_cSI3 lk_X10_120 (e_X10_within g _ _ _ _) (zFit_rm (by decide)) (zle rfl) dX10_body_6 fun r1 => ?_
  refine Zo_ifne 14 dX10_body_9 (by decide) ?_ ?_
  · refine Zo_aload0 dX10_body_14 ?_
    refine Zo_geti fl_X10_318 kd_68 dX10_body_15 ?_
    refine Zo_bipush (50 : Int32) dX10_body_18 bp_50 ?_
    refine Zo_icmpne 26 dX10_body_20 (by decide) ?_ ?_
    · refine Zo_aload0 dX10_body_26 ?_
      refine Zo_getr (j := 94) fl_X10_85 kd_68 rfl dX10_body_27 ?_
      refine Zo_aload0 dX10_body_30 ?_
      refine Zo_geti fl_X10_318 kd_68 dX10_body_31 ?_
      refine Zo_iload1 dX10_body_34 ?_
      refine Zo_iast kd_94 dX10_body_35 fun σ2 => ?_
      refine Zo_aload0 dX10_body_36 ?_
      show Zo g _ _ _ 0 0 37 _ _ _
      refine Zo_dup dX10_body_37 rfl ?_
      refine Zo_geti fl_X10_318 kd_68 dX10_body_38 ?_
      refine Zo_iconst (1 : Int32) dX10_body_41 ic_1 ?_
      refine Zo_iadd dX10_body_42 ?_
      refine Zo_puti fl_X10_318 kd_68 dX10_body_43 fun σ3 => ?_
      refine Zo_aload0 dX10_body_46 ?_
      refine Zo_geti fl_X10_318 kd_68 dX10_body_47 ?_
      refine Zo_iconst (1 : Int32) dX10_body_50 ic_1 ?_
      show Zo g _ _ _ 0 0 51 _ _ _
      refine Zo_isub dX10_body_51 ?_
      exact Zo_iret dX10_body_52 rfl rfl (Nat.le_refl _) (Nat.le_refl _)
    · refine Zo_bipush (-3 : Int32) dX10_body_23 bp_m3 ?_
      exact Zo_iret dX10_body_25 rfl rfl (Nat.le_refl _) (Nat.le_refl _)
  · refine Zo_iconst (-1 : Int32) dX10_body_12 ic_m1 ?_
    exact Zo_iret dX10_body_13 rfl rfl (Nat.le_refl _) (Nat.le_refl _)
theorem e_X10_body (g : ZG) (p0 : Int32) (σ : ZSt) : zEvS g 1 yX10_body cX10_body 2 (some .int) [.ref 68, .int p0] σ (s_X10_body p0 σ) :=
  zEvS_of 0 rfl rfl (z_X10_body g p0 σ)
abbrev mX10_above (g : ZG) (q : Nat) : ZM := (yX10_above, cX10_above, 1, (some .int), zRm q 0 0, zTg g 0 0)
def s_X10_above (p0 : Int32) (σ : ZSt) : Option Int32 :=
  if p0 = (3 : Int32) then (some (1 : Int32))
    else (if p0 = (4 : Int32) then (some (2 : Int32))
      else (if p0 = (7 : Int32) then (some (4 : Int32))
        else (some (0 : Int32))))
set_option maxHeartbeats 4000000 in
set_option maxRecDepth 100000 in
theorem z_X10_above (g : ZG) (p0 : Int32) (σ : ZSt) : Zo g (mX10_above g 0) (fun b : Int32 => (some (.int b), zw σ)) (s_X10_above p0 σ) 0 0 0 [some (.int p0)] [] (zw σ) := by
  unfold s_X10_above
  refine Zo_iload0 dX10_above_0 ?_
  refine Zo_iconst (3 : Int32) dX10_above_1 ic_3 ?_
  refine Zo_icmpne 9 dX10_above_2 (by decide) ?_ ?_
  · refine Zo_iload0 dX10_above_9 ?_
    refine Zo_iconst (4 : Int32) dX10_above_10 ic_4 ?_
    refine Zo_icmpne 18 dX10_above_11 (by decide) ?_ ?_
    · refine Zo_iload0 dX10_above_18 ?_
      refine Zo_bipush (7 : Int32) dX10_above_19 bp_7 ?_
      refine Zo_icmpne 28 dX10_above_21 (by decide) ?_ ?_
      · refine Zo_iconst (0 : Int32) dX10_above_28 ic_0 ?_
        exact Zo_iret dX10_above_29 rfl rfl (Nat.le_refl _) (Nat.le_refl _)
      · refine Zo_iconst (4 : Int32) dX10_above_24 ic_4 ?_
        refine Zo_goto 29 dX10_above_25 (by decide) ?_
        exact Zo_iret dX10_above_29 rfl rfl (Nat.le_refl _) (Nat.le_refl _)
    · refine Zo_iconst (2 : Int32) dX10_above_14 ic_2 ?_
      refine Zo_goto 29 dX10_above_15 (by decide) ?_
      exact Zo_iret dX10_above_29 rfl rfl (Nat.le_refl _) (Nat.le_refl _)
  · refine Zo_iconst (1 : Int32) dX10_above_5 ic_1 ?_
    refine Zo_goto 29 dX10_above_6 (by decide) ?_
    exact Zo_iret dX10_above_29 rfl rfl (Nat.le_refl _) (Nat.le_refl _)
theorem e_X10_above (g : ZG) (p0 : Int32) (σ : ZSt) : zEvI g 0 yX10_above cX10_above 1 (some .int) [.int p0] σ (s_X10_above p0 σ) :=
  zEvI_of 0 rfl rfl (z_X10_above g p0 σ)
abbrev mX10_begins (g : ZG) (q : Nat) : ZM := (yX10_begins, cX10_begins, 2, none, zRm q 0 0, zTg g 0 0)
def s_X10_begins (p0 : Int32) (σ : ZSt) : Option ZSt :=
  if (24 : Int32) ≤ (σ.1 68 42) then (zSt' (zWD σ 68 42 ((σ.1 68 42) + (1 : Int32))) fun σ1 => (some σ1))
    else (zSg (zIn (σ.1 68 42) 24) (zWD σ 95 (σ.1 68 42).toNatClampNeg p0) fun σ2 => (zSt' (zWD σ2 68 42 ((σ2.1 68 42) + (1 : Int32))) fun σ3 => (some σ3)))
set_option maxHeartbeats 4000000 in
set_option maxRecDepth 100000 in
theorem z_X10_begins (g : ZG) (p0 : Int32) (σ : ZSt) : Zo g (mX10_begins g 0) (fun b : ZSt => (none, zw b)) (s_X10_begins p0 σ) 0 0 0 [some (.ref 68), some (.int p0)] [] (zw σ) := by
  unfold s_X10_begins
  refine Zo_aload0 dX10_begins_0 ?_
  refine Zo_geti fl_X10_323 kd_68 dX10_begins_1 ?_
  refine Zo_bipush (24 : Int32) dX10_begins_4 bp_24 ?_
  refine Zo_icmpge 19 dX10_begins_6 (by decide) ?_ ?_
  · refine Zo_aload0 dX10_begins_19 ?_
    refine Zo_dup dX10_begins_20 rfl ?_
    refine Zo_geti fl_X10_323 kd_68 dX10_begins_21 ?_
    refine Zo_iconst (1 : Int32) dX10_begins_24 ic_1 ?_
    refine Zo_iadd dX10_begins_25 ?_
    refine Zo_puti fl_X10_323 kd_68 dX10_begins_26 fun σ1 => ?_
    exact Zo_vret dX10_begins_29 rfl rfl (Nat.le_refl _) (Nat.le_refl _)
  · refine Zo_aload0 dX10_begins_9 ?_
    refine Zo_getr (j := 95) fl_X10_88 kd_68 rfl dX10_begins_10 ?_
    refine Zo_aload0 dX10_begins_13 ?_
    refine Zo_geti fl_X10_323 kd_68 dX10_begins_14 ?_
    refine Zo_iload1 dX10_begins_17 ?_
    refine Zo_iast kd_95 dX10_begins_18 fun σ2 => ?_
    refine Zo_aload0 dX10_begins_19 ?_
    show Zo g _ _ _ 0 0 20 _ _ _
    refine Zo_dup dX10_begins_20 rfl ?_
    refine Zo_geti fl_X10_323 kd_68 dX10_begins_21 ?_
    refine Zo_iconst (1 : Int32) dX10_begins_24 ic_1 ?_
    refine Zo_iadd dX10_begins_25 ?_
    refine Zo_puti fl_X10_323 kd_68 dX10_begins_26 fun σ3 => ?_
    exact Zo_vret dX10_begins_29 rfl rfl (Nat.le_refl _) (Nat.le_refl _)
theorem e_X10_begins (g : ZG) (p0 : Int32) (σ : ZSt) : zEvV g 0 yX10_begins cX10_begins 2 none [.ref 68, .int p0] σ (s_X10_begins p0 σ) :=
  zEvV_of 0 rfl rfl (z_X10_begins g p0 σ)
abbrev mX10_waitsAs (g : ZG) (q : Nat) : ZM := (yX10_waitsAs, cX10_waitsAs, 3, (some .int), zRm q 0 0, zTg g 0 0)
def s_X10_waitsAs (f_X10_waitsAs : Int32 → Int32 → ZSt → Option (Int32 × ZSt)) (p0 : Int32) (p1 : Int32) (σ : ZSt) : Option (Int32 × ZSt) :=
  if p0 = (3 : Int32) then ((s_X10_begins (41 : Int32) σ).bind fun σ6 => ((f_X10_waitsAs (1 : Int32) (p1 + (1 : Int32)) σ6).bind fun r7 => (some (r7.1, r7.2))))
    else (if p0 = (1 : Int32) then ((s_X10_begins (20 : Int32) σ).bind fun σ4 => ((f_X10_waitsAs (0 : Int32) p1 σ4).bind fun r5 => (some ((r5.1 + (3 : Int32)), r5.2))))
      else (if p0 = (6 : Int32) then ((s_X10_begins (70 : Int32) σ).bind fun σ2 => ((f_X10_waitsAs (0 : Int32) p1 σ2).bind fun r3 => (some ((r3.1 * (2 : Int32)), r3.2))))
        else ((s_X10_begins (1 : Int32) σ).bind fun σ1 => (some ((p1 + (σ1.1 68 44)), σ1)))))
set_option maxHeartbeats 4000000 in
set_option maxRecDepth 100000 in
theorem z_X10_waitsAs (g : ZG) (q : Nat) (hq : 1 < q) (q2 : Nat) (hq2 : q2 < q) (f_X10_waitsAs : Int32 → Int32 → ZSt → Option (Int32 × ZSt)) (hf_X10_waitsAs : ∀ (p0 : Int32) (p1 : Int32) (σ : ZSt), zEvS g q2 yX10_waitsAs cX10_waitsAs 3 (some .int) [.ref 68, .int p0, .int p1] σ (f_X10_waitsAs p0 p1 σ)) (p0 : Int32) (p1 : Int32) (σ : ZSt) : Zo g (mX10_waitsAs g q) (fun b : Int32 × ZSt => (some (.int b.1), zw b.2)) (s_X10_waitsAs f_X10_waitsAs p0 p1 σ) 0 0 0 [some (.ref 68), some (.int p0), some (.int p1)] [] (zw σ) := by
  unfold s_X10_waitsAs
  refine Zo_iload1 dX10_waitsAs_0 ?_
  refine Zo_iconst (3 : Int32) dX10_waitsAs_1 ic_3 ?_
  refine Zo_icmpne 20 dX10_waitsAs_2 (by decide) ?_ ?_
  · refine Zo_iload1 dX10_waitsAs_20 ?_
    refine Zo_iconst (1 : Int32) dX10_waitsAs_21 ic_1 ?_
    refine Zo_icmpne 40 dX10_waitsAs_22 (by decide) ?_ ?_
    · refine Zo_iload1 dX10_waitsAs_40 ?_
      refine Zo_bipush (6 : Int32) dX10_waitsAs_41 bp_6 ?_
      refine Zo_icmpne 61 dX10_waitsAs_43 (by decide) ?_ ?_
      · refine Zo_aload0 dX10_waitsAs_61 ?_
        refine Zo_iconst (1 : Int32) dX10_waitsAs_62 ic_1 ?_
        refine Zo_cVV1 lk_X10_326 (e_X10_begins g _ _) kd_68 (zFit_rm (by omega)) (zle rfl) dX10_waitsAs_63 fun σ1 => ?_
        refine Zo_iload2 dX10_waitsAs_66 ?_
        refine Zo_aload0 dX10_waitsAs_67 ?_
        refine Zo_geti fl_X10_332 kd_68 dX10_waitsAs_68 ?_
        refine Zo_iadd dX10_waitsAs_71 ?_
        show Zo g _ _ _ 0 0 72 _ _ _
        exact Zo_iret dX10_waitsAs_72 rfl rfl (Nat.le_refl _) (Nat.le_refl _)
      · refine Zo_aload0 dX10_waitsAs_46 ?_
        refine Zo_bipush (70 : Int32) dX10_waitsAs_47 bp_70 ?_
        refine Zo_cVV1 lk_X10_326 (e_X10_begins g _ _) kd_68 (zFit_rm (by omega)) (zle rfl) dX10_waitsAs_49 fun σ2 => ?_
        refine Zo_aload0 dX10_waitsAs_52 ?_
        refine Zo_iconst (0 : Int32) dX10_waitsAs_53 ic_0 ?_
        refine Zo_iload2 dX10_waitsAs_54 ?_
        refine Zo_cVS2 lk_X10_329 (hf_X10_waitsAs _ _ _) kd_68 (zFit_rm hq2) (zle rfl) dX10_waitsAs_55 fun r3 => ?_
        show Zo g _ _ _ 0 0 58 _ _ _
        refine Zo_iconst (2 : Int32) dX10_waitsAs_58 ic_2 ?_
        refine Zo_imul dX10_waitsAs_59 ?_
        exact Zo_iret dX10_waitsAs_60 rfl rfl (Nat.le_refl _) (Nat.le_refl _)
    · refine Zo_aload0 dX10_waitsAs_25 ?_
      refine Zo_bipush (20 : Int32) dX10_waitsAs_26 bp_20 ?_
      refine Zo_cVV1 lk_X10_326 (e_X10_begins g _ _) kd_68 (zFit_rm (by omega)) (zle rfl) dX10_waitsAs_28 fun σ4 => ?_
      refine Zo_aload0 dX10_waitsAs_31 ?_
      refine Zo_iconst (0 : Int32) dX10_waitsAs_32 ic_0 ?_
      refine Zo_iload2 dX10_waitsAs_33 ?_
      refine Zo_cVS2 lk_X10_329 (hf_X10_waitsAs _ _ _) kd_68 (zFit_rm hq2) (zle rfl) dX10_waitsAs_34 fun r5 => ?_
      show Zo g _ _ _ 0 0 37 _ _ _
      refine Zo_iconst (3 : Int32) dX10_waitsAs_37 ic_3 ?_
      refine Zo_iadd dX10_waitsAs_38 ?_
      exact Zo_iret dX10_waitsAs_39 rfl rfl (Nat.le_refl _) (Nat.le_refl _)
  · refine Zo_aload0 dX10_waitsAs_5 ?_
    refine Zo_bipush (41 : Int32) dX10_waitsAs_6 bp_41 ?_
    refine Zo_cVV1 lk_X10_326 (e_X10_begins g _ _) kd_68 (zFit_rm (by omega)) (zle rfl) dX10_waitsAs_8 fun σ6 => ?_
    refine Zo_aload0 dX10_waitsAs_11 ?_
    refine Zo_iconst (1 : Int32) dX10_waitsAs_12 ic_1 ?_
    refine Zo_iload2 dX10_waitsAs_13 ?_
    refine Zo_iconst (1 : Int32) dX10_waitsAs_14 ic_1 ?_
    show Zo g _ _ _ 0 0 15 _ _ _
    refine Zo_iadd dX10_waitsAs_15 ?_
    refine Zo_cVS2 lk_X10_329 (hf_X10_waitsAs _ _ _) kd_68 (zFit_rm hq2) (zle rfl) dX10_waitsAs_16 fun r7 => ?_
    exact Zo_iret dX10_waitsAs_19 rfl rfl (Nat.le_refl _) (Nat.le_refl _)
theorem e_X10_waitsAs (g : ZG) (q : Nat) (hq : 1 < q) (q2 : Nat) (hq2 : q2 < q) (f_X10_waitsAs : Int32 → Int32 → ZSt → Option (Int32 × ZSt)) (hf_X10_waitsAs : ∀ (p0 : Int32) (p1 : Int32) (σ : ZSt), zEvS g q2 yX10_waitsAs cX10_waitsAs 3 (some .int) [.ref 68, .int p0, .int p1] σ (f_X10_waitsAs p0 p1 σ)) (p0 : Int32) (p1 : Int32) (σ : ZSt) : zEvS g q yX10_waitsAs cX10_waitsAs 3 (some .int) [.ref 68, .int p0, .int p1] σ (s_X10_waitsAs f_X10_waitsAs p0 p1 σ) :=
  zEvS_of 0 rfl rfl (z_X10_waitsAs g q hq q2 hq2 f_X10_waitsAs hf_X10_waitsAs p0 p1 σ)
def R_X10_waitsAs : Nat → Int32 → Int32 → ZSt → Option (Int32 × ZSt)
  | 0 => fun _ _ _ => none
  | d + 1 => s_X10_waitsAs (R_X10_waitsAs d)
def rd_X10_waitsAs (d : Nat) : Int32 → Int32 → ZSt → Option (Int32 × ZSt) := R_X10_waitsAs d
abbrev r_X10_waitsAs : Int32 → Int32 → ZSt → Option (Int32 × ZSt) := rd_X10_waitsAs 16
theorem et_X10_waitsAs (g : ZG) : ∀ d : Nat, (∀ (p0 : Int32) (p1 : Int32) (σ : ZSt), zEvS g (2 + d) yX10_waitsAs cX10_waitsAs 3 (some .int) [.ref 68, .int p0, .int p1] σ (rd_X10_waitsAs d p0 p1 σ)) := by
  intro d
  induction d with
  | zero => exact (by intros; intro b hb; exact absurd hb (fun h => by cases h))
  | succ d ih =>
    have h0 := ih
    exact fun p0 p1 σ => e_X10_waitsAs g _ (by omega) (2 + d) (by omega) _ h0 p0 p1 σ
theorem er_X10_waitsAs (g : ZG) (p0 : Int32) (p1 : Int32) (σ : ZSt) : zEvS g 18 yX10_waitsAs cX10_waitsAs 3 (some .int) [.ref 68, .int p0, .int p1] σ (r_X10_waitsAs p0 p1 σ) := (et_X10_waitsAs g 16) p0 p1 σ
abbrev mX10_hearsAs (g : ZG) (q : Nat) : ZM := (yX10_hearsAs, cX10_hearsAs, 4, (some .int), zRm q 0 0, zTg g 0 0)
def s_X10_hearsAs_C31 (f_X10_hearsAs : Int32 → Int32 → ZSt → Option (Int32 × ZSt)) (l2 : Int32) (σ : ZSt) : Option (Int32 × ZSt) :=
  (s_X10_begins (50 : Int32) σ).bind fun σ1 => ((f_X10_hearsAs (2 : Int32) l2 σ1).bind fun r2 => ((r_X10_waitsAs (r2.2.1 68 43) (2 : Int32) r2.2).bind fun r3 => (some ((r2.1 - r3.1), r3.2))))
set_option maxHeartbeats 4000000 in
set_option maxRecDepth 100000 in
theorem z_X10_hearsAs_C31 (g : ZG) (q : Nat) (hq : 19 < q) (q2 : Nat) (hq2 : q2 < q) (f_X10_hearsAs : Int32 → Int32 → ZSt → Option (Int32 × ZSt)) (hf_X10_hearsAs : ∀ (p0 : Int32) (p1 : Int32) (σ : ZSt), zEvS g q2 yX10_hearsAs cX10_hearsAs 4 (some .int) [.ref 68, .int p0, .int p1] σ (f_X10_hearsAs p0 p1 σ)) (l2 : Int32) (σ : ZSt) (o1 : Option Value) (o3 : Option Value) : Zo g (mX10_hearsAs g q) (fun b : Int32 × ZSt => (some (.int b.1), zw b.2)) (s_X10_hearsAs_C31 f_X10_hearsAs l2 σ) 0 0 31 [some (.ref 68), o1, some (.int l2), o3] [] (zw σ) := by
  unfold s_X10_hearsAs_C31
  refine Zo_aload0 dX10_hearsAs_31 ?_
  refine Zo_bipush (50 : Int32) dX10_hearsAs_32 bp_50 ?_
  refine Zo_cVV1 lk_X10_326 (e_X10_begins g _ _) kd_68 (zFit_rm (by omega)) (zle rfl) dX10_hearsAs_34 fun σ1 => ?_
  refine Zo_aload0 dX10_hearsAs_37 ?_
  refine Zo_iconst (2 : Int32) dX10_hearsAs_38 ic_2 ?_
  refine Zo_iload2 dX10_hearsAs_39 ?_
  refine Zo_cVS2 lk_X10_341 (hf_X10_hearsAs _ _ _) kd_68 (zFit_rm hq2) (zle rfl) dX10_hearsAs_40 fun r2 => ?_
  show Zo g _ _ _ 0 0 43 _ _ _
  refine Zo_istore3 rfl (zlt rfl) dX10_hearsAs_43 ?_
  refine Zo_iload3 dX10_hearsAs_44 ?_
  refine Zo_aload0 dX10_hearsAs_45 ?_
  refine Zo_aload0 dX10_hearsAs_46 ?_
  refine Zo_geti fl_X10_338 kd_68 dX10_hearsAs_47 ?_
  refine Zo_iconst (2 : Int32) dX10_hearsAs_50 ic_2 ?_
  refine Zo_cVS2 lk_X10_329 (er_X10_waitsAs g _ _ _) kd_68 (zFit_rm (by omega)) (zle rfl) dX10_hearsAs_51 fun r3 => ?_
  refine Zo_isub dX10_hearsAs_54 ?_
  show Zo g _ _ _ 0 0 55 _ _ _
  exact Zo_iret dX10_hearsAs_55 rfl rfl (Nat.le_refl _) (Nat.le_refl _)
def s_X10_hearsAs (f_X10_hearsAs : Int32 → Int32 → ZSt → Option (Int32 × ZSt)) (p0 : Int32) (p1 : Int32) (σ : ZSt) : Option (Int32 × ZSt) :=
  if p0 = (3 : Int32) then ((s_X10_begins (40 : Int32) σ).bind fun σ2 => ((f_X10_hearsAs (1 : Int32) p1 σ2).bind fun r3 => (some ((r3.1 * (3 : Int32)), r3.2))))
    else (if p0 = (4 : Int32) then (s_X10_hearsAs_C31 f_X10_hearsAs p1 σ)
      else (if p0 = (7 : Int32) then (s_X10_hearsAs_C31 f_X10_hearsAs p1 σ)
        else ((s_X10_begins (11 : Int32) σ).bind fun σ1 => (some ((p1 ^^^ (σ1.1 68 44)), σ1)))))
set_option maxHeartbeats 4000000 in
set_option maxRecDepth 100000 in
theorem z_X10_hearsAs (g : ZG) (q : Nat) (hq : 19 < q) (q2 : Nat) (hq2 : q2 < q) (f_X10_hearsAs : Int32 → Int32 → ZSt → Option (Int32 × ZSt)) (hf_X10_hearsAs : ∀ (p0 : Int32) (p1 : Int32) (σ : ZSt), zEvS g q2 yX10_hearsAs cX10_hearsAs 4 (some .int) [.ref 68, .int p0, .int p1] σ (f_X10_hearsAs p0 p1 σ)) (p0 : Int32) (p1 : Int32) (σ : ZSt) : Zo g (mX10_hearsAs g q) (fun b : Int32 × ZSt => (some (.int b.1), zw b.2)) (s_X10_hearsAs f_X10_hearsAs p0 p1 σ) 0 0 0 [some (.ref 68), some (.int p0), some (.int p1), none] [] (zw σ) := by
  unfold s_X10_hearsAs
  refine Zo_iload1 dX10_hearsAs_0 ?_
  refine Zo_iconst (3 : Int32) dX10_hearsAs_1 ic_3 ?_
  refine Zo_icmpne 20 dX10_hearsAs_2 (by decide) ?_ ?_
  · refine Zo_iload1 dX10_hearsAs_20 ?_
    refine Zo_iconst (4 : Int32) dX10_hearsAs_21 ic_4 ?_
    refine Zo_icmpeq 31 dX10_hearsAs_22 (by decide) ?_ ?_
    · exact z_X10_hearsAs_C31 g q hq q2 hq2 f_X10_hearsAs hf_X10_hearsAs _ _ _ _
    · refine Zo_iload1 dX10_hearsAs_25 ?_
      refine Zo_bipush (7 : Int32) dX10_hearsAs_26 bp_7 ?_
      refine Zo_icmpne 56 dX10_hearsAs_28 (by decide) ?_ ?_
      · refine Zo_aload0 dX10_hearsAs_56 ?_
        refine Zo_bipush (11 : Int32) dX10_hearsAs_57 bp_11 ?_
        refine Zo_cVV1 lk_X10_326 (e_X10_begins g _ _) kd_68 (zFit_rm (by omega)) (zle rfl) dX10_hearsAs_59 fun σ1 => ?_
        refine Zo_iload2 dX10_hearsAs_62 ?_
        refine Zo_aload0 dX10_hearsAs_63 ?_
        refine Zo_geti fl_X10_332 kd_68 dX10_hearsAs_64 ?_
        refine Zo_ixor dX10_hearsAs_67 ?_
        show Zo g _ _ _ 0 0 68 _ _ _
        exact Zo_iret dX10_hearsAs_68 rfl rfl (Nat.le_refl _) (Nat.le_refl _)
      · exact z_X10_hearsAs_C31 g q hq q2 hq2 f_X10_hearsAs hf_X10_hearsAs _ _ _ _
  · refine Zo_aload0 dX10_hearsAs_5 ?_
    refine Zo_bipush (40 : Int32) dX10_hearsAs_6 bp_40 ?_
    refine Zo_cVV1 lk_X10_326 (e_X10_begins g _ _) kd_68 (zFit_rm (by omega)) (zle rfl) dX10_hearsAs_8 fun σ2 => ?_
    refine Zo_aload0 dX10_hearsAs_11 ?_
    refine Zo_iconst (1 : Int32) dX10_hearsAs_12 ic_1 ?_
    refine Zo_iload2 dX10_hearsAs_13 ?_
    refine Zo_cVS2 lk_X10_341 (hf_X10_hearsAs _ _ _) kd_68 (zFit_rm hq2) (zle rfl) dX10_hearsAs_14 fun r3 => ?_
    show Zo g _ _ _ 0 0 17 _ _ _
    refine Zo_iconst (3 : Int32) dX10_hearsAs_17 ic_3 ?_
    refine Zo_imul dX10_hearsAs_18 ?_
    exact Zo_iret dX10_hearsAs_19 rfl rfl (Nat.le_refl _) (Nat.le_refl _)
theorem e_X10_hearsAs (g : ZG) (q : Nat) (hq : 19 < q) (q2 : Nat) (hq2 : q2 < q) (f_X10_hearsAs : Int32 → Int32 → ZSt → Option (Int32 × ZSt)) (hf_X10_hearsAs : ∀ (p0 : Int32) (p1 : Int32) (σ : ZSt), zEvS g q2 yX10_hearsAs cX10_hearsAs 4 (some .int) [.ref 68, .int p0, .int p1] σ (f_X10_hearsAs p0 p1 σ)) (p0 : Int32) (p1 : Int32) (σ : ZSt) : zEvS g q yX10_hearsAs cX10_hearsAs 4 (some .int) [.ref 68, .int p0, .int p1] σ (s_X10_hearsAs f_X10_hearsAs p0 p1 σ) :=
  zEvS_of 1 rfl rfl (z_X10_hearsAs g q hq q2 hq2 f_X10_hearsAs hf_X10_hearsAs p0 p1 σ)
def R_X10_hearsAs : Nat → Int32 → Int32 → ZSt → Option (Int32 × ZSt)
  | 0 => fun _ _ _ => none
  | d + 1 => s_X10_hearsAs (R_X10_hearsAs d)
def rd_X10_hearsAs (d : Nat) : Int32 → Int32 → ZSt → Option (Int32 × ZSt) := R_X10_hearsAs d
abbrev r_X10_hearsAs : Int32 → Int32 → ZSt → Option (Int32 × ZSt) := rd_X10_hearsAs 16
theorem et_X10_hearsAs (g : ZG) : ∀ d : Nat, (∀ (p0 : Int32) (p1 : Int32) (σ : ZSt), zEvS g (20 + d) yX10_hearsAs cX10_hearsAs 4 (some .int) [.ref 68, .int p0, .int p1] σ (rd_X10_hearsAs d p0 p1 σ)) := by
  intro d
  induction d with
  | zero => exact (by intros; intro b hb; exact absurd hb (fun h => by cases h))
  | succ d ih =>
    have h0 := ih
    exact fun p0 p1 σ => e_X10_hearsAs g _ (by omega) (20 + d) (by omega) _ h0 p0 p1 σ
theorem er_X10_hearsAs (g : ZG) (p0 : Int32) (p1 : Int32) (σ : ZSt) : zEvS g 36 yX10_hearsAs cX10_hearsAs 4 (some .int) [.ref 68, .int p0, .int p1] σ (r_X10_hearsAs p0 p1 σ) := (et_X10_hearsAs g 16) p0 p1 σ
abbrev mX10_paysAs (g : ZG) (q : Nat) : ZM := (yX10_paysAs, cX10_paysAs, 4, (some .int), zRm q 0 0, zTg g 0 0)
def s_X10_paysAs (f_X10_paysAs : Int32 → Int32 → ZSt → Option (Int32 × ZSt)) (p0 : Int32) (p1 : Int32) (σ : ZSt) : Option (Int32 × ZSt) :=
  if p0 = (7 : Int32) then ((s_X10_begins (80 : Int32) σ).bind fun σ7 => ((f_X10_paysAs (4 : Int32) p1 σ7).bind fun r8 => ((r_X10_hearsAs (r8.2.1 68 43) (2 : Int32) r8.2).bind fun r9 => (some ((r8.1 + r9.1), r9.2)))))
    else (if p0 = (2 : Int32) then ((s_X10_begins (30 : Int32) σ).bind fun σ1 => ((f_X10_paysAs (0 : Int32) p1 σ1).bind fun r2 => (some ((-r2.1), r2.2))))
      else (if p0 = (4 : Int32) then ((s_X10_begins (30 : Int32) σ).bind fun σ5 => ((f_X10_paysAs (0 : Int32) p1 σ5).bind fun r6 => (some ((-r6.1), r6.2))))
        else ((s_X10_begins (10 : Int32) σ).bind fun σ3 => ((r_X10_waitsAs (σ3.1 68 43) p1 σ3).bind fun r4 => (some ((r4.1 * (2 : Int32)), r4.2))))))
set_option maxHeartbeats 4000000 in
set_option maxRecDepth 100000 in
theorem z_X10_paysAs (g : ZG) (q : Nat) (hq : 37 < q) (q2 : Nat) (hq2 : q2 < q) (f_X10_paysAs : Int32 → Int32 → ZSt → Option (Int32 × ZSt)) (hf_X10_paysAs : ∀ (p0 : Int32) (p1 : Int32) (σ : ZSt), zEvS g q2 yX10_paysAs cX10_paysAs 4 (some .int) [.ref 68, .int p0, .int p1] σ (f_X10_paysAs p0 p1 σ)) (p0 : Int32) (p1 : Int32) (σ : ZSt) : Zo g (mX10_paysAs g q) (fun b : Int32 × ZSt => (some (.int b.1), zw b.2)) (s_X10_paysAs f_X10_paysAs p0 p1 σ) 0 0 0 [some (.ref 68), some (.int p0), some (.int p1), none] [] (zw σ) := by
  unfold s_X10_paysAs
  refine Zo_iload1 dX10_paysAs_0 ?_
  refine Zo_bipush (7 : Int32) dX10_paysAs_1 bp_7 ?_
  refine Zo_icmpne 31 dX10_paysAs_3 (by decide) ?_ ?_
  · refine Zo_iload1 dX10_paysAs_31 ?_
    refine Zo_iconst (2 : Int32) dX10_paysAs_32 ic_2 ?_
    refine Zo_icmpeq 41 dX10_paysAs_33 (by decide) ?_ ?_
    · refine Zo_aload0 dX10_paysAs_41 ?_
      refine Zo_bipush (30 : Int32) dX10_paysAs_42 bp_30 ?_
      refine Zo_cVV1 lk_X10_326 (e_X10_begins g _ _) kd_68 (zFit_rm (by omega)) (zle rfl) dX10_paysAs_44 fun σ1 => ?_
      refine Zo_aload0 dX10_paysAs_47 ?_
      refine Zo_iconst (0 : Int32) dX10_paysAs_48 ic_0 ?_
      refine Zo_iload2 dX10_paysAs_49 ?_
      refine Zo_cVS2 lk_X10_335 (hf_X10_paysAs _ _ _) kd_68 (zFit_rm hq2) (zle rfl) dX10_paysAs_50 fun r2 => ?_
      show Zo g _ _ _ 0 0 53 _ _ _
      refine Zo_ineg dX10_paysAs_53 ?_
      exact Zo_iret dX10_paysAs_54 rfl rfl (Nat.le_refl _) (Nat.le_refl _)
    · refine Zo_iload1 dX10_paysAs_36 ?_
      refine Zo_iconst (4 : Int32) dX10_paysAs_37 ic_4 ?_
      refine Zo_icmpne 55 dX10_paysAs_38 (by decide) ?_ ?_
      · refine Zo_aload0 dX10_paysAs_55 ?_
        refine Zo_bipush (10 : Int32) dX10_paysAs_56 bp_10 ?_
        refine Zo_cVV1 lk_X10_326 (e_X10_begins g _ _) kd_68 (zFit_rm (by omega)) (zle rfl) dX10_paysAs_58 fun σ3 => ?_
        refine Zo_aload0 dX10_paysAs_61 ?_
        refine Zo_aload0 dX10_paysAs_62 ?_
        refine Zo_geti fl_X10_338 kd_68 dX10_paysAs_63 ?_
        refine Zo_iload2 dX10_paysAs_66 ?_
        show Zo g _ _ _ 0 0 67 _ _ _
        refine Zo_cVS2 lk_X10_329 (er_X10_waitsAs g _ _ _) kd_68 (zFit_rm (by omega)) (zle rfl) dX10_paysAs_67 fun r4 => ?_
        refine Zo_iconst (2 : Int32) dX10_paysAs_70 ic_2 ?_
        refine Zo_imul dX10_paysAs_71 ?_
        exact Zo_iret dX10_paysAs_72 rfl rfl (Nat.le_refl _) (Nat.le_refl _)
      · refine Zo_aload0 dX10_paysAs_41 ?_
        refine Zo_bipush (30 : Int32) dX10_paysAs_42 bp_30 ?_
        refine Zo_cVV1 lk_X10_326 (e_X10_begins g _ _) kd_68 (zFit_rm (by omega)) (zle rfl) dX10_paysAs_44 fun σ5 => ?_
        refine Zo_aload0 dX10_paysAs_47 ?_
        refine Zo_iconst (0 : Int32) dX10_paysAs_48 ic_0 ?_
        refine Zo_iload2 dX10_paysAs_49 ?_
        refine Zo_cVS2 lk_X10_335 (hf_X10_paysAs _ _ _) kd_68 (zFit_rm hq2) (zle rfl) dX10_paysAs_50 fun r6 => ?_
        show Zo g _ _ _ 0 0 53 _ _ _
        refine Zo_ineg dX10_paysAs_53 ?_
        exact Zo_iret dX10_paysAs_54 rfl rfl (Nat.le_refl _) (Nat.le_refl _)
  · refine Zo_aload0 dX10_paysAs_6 ?_
    refine Zo_bipush (80 : Int32) dX10_paysAs_7 bp_80 ?_
    refine Zo_cVV1 lk_X10_326 (e_X10_begins g _ _) kd_68 (zFit_rm (by omega)) (zle rfl) dX10_paysAs_9 fun σ7 => ?_
    refine Zo_aload0 dX10_paysAs_12 ?_
    refine Zo_iconst (4 : Int32) dX10_paysAs_13 ic_4 ?_
    refine Zo_iload2 dX10_paysAs_14 ?_
    refine Zo_cVS2 lk_X10_335 (hf_X10_paysAs _ _ _) kd_68 (zFit_rm hq2) (zle rfl) dX10_paysAs_15 fun r8 => ?_
    show Zo g _ _ _ 0 0 18 _ _ _
    refine Zo_istore3 rfl (zlt rfl) dX10_paysAs_18 ?_
    refine Zo_iload3 dX10_paysAs_19 ?_
    refine Zo_aload0 dX10_paysAs_20 ?_
    refine Zo_aload0 dX10_paysAs_21 ?_
    refine Zo_geti fl_X10_338 kd_68 dX10_paysAs_22 ?_
    refine Zo_iconst (2 : Int32) dX10_paysAs_25 ic_2 ?_
    refine Zo_cVS2 lk_X10_341 (er_X10_hearsAs g _ _ _) kd_68 (zFit_rm (by omega)) (zle rfl) dX10_paysAs_26 fun r9 => ?_
    refine Zo_iadd dX10_paysAs_29 ?_
    show Zo g _ _ _ 0 0 30 _ _ _
    exact Zo_iret dX10_paysAs_30 rfl rfl (Nat.le_refl _) (Nat.le_refl _)
theorem e_X10_paysAs (g : ZG) (q : Nat) (hq : 37 < q) (q2 : Nat) (hq2 : q2 < q) (f_X10_paysAs : Int32 → Int32 → ZSt → Option (Int32 × ZSt)) (hf_X10_paysAs : ∀ (p0 : Int32) (p1 : Int32) (σ : ZSt), zEvS g q2 yX10_paysAs cX10_paysAs 4 (some .int) [.ref 68, .int p0, .int p1] σ (f_X10_paysAs p0 p1 σ)) (p0 : Int32) (p1 : Int32) (σ : ZSt) : zEvS g q yX10_paysAs cX10_paysAs 4 (some .int) [.ref 68, .int p0, .int p1] σ (s_X10_paysAs f_X10_paysAs p0 p1 σ) :=
  zEvS_of 1 rfl rfl (z_X10_paysAs g q hq q2 hq2 f_X10_paysAs hf_X10_paysAs p0 p1 σ)
def R_X10_paysAs : Nat → Int32 → Int32 → ZSt → Option (Int32 × ZSt)
  | 0 => fun _ _ _ => none
  | d + 1 => s_X10_paysAs (R_X10_paysAs d)
def rd_X10_paysAs (d : Nat) : Int32 → Int32 → ZSt → Option (Int32 × ZSt) := R_X10_paysAs d
abbrev r_X10_paysAs : Int32 → Int32 → ZSt → Option (Int32 × ZSt) := rd_X10_paysAs 16
theorem et_X10_paysAs (g : ZG) : ∀ d : Nat, (∀ (p0 : Int32) (p1 : Int32) (σ : ZSt), zEvS g (38 + d) yX10_paysAs cX10_paysAs 4 (some .int) [.ref 68, .int p0, .int p1] σ (rd_X10_paysAs d p0 p1 σ)) := by
  intro d
  induction d with
  | zero => exact (by intros; intro b hb; exact absurd hb (fun h => by cases h))
  | succ d ih =>
    have h0 := ih
    exact fun p0 p1 σ => e_X10_paysAs g _ (by omega) (38 + d) (by omega) _ h0 p0 p1 σ
theorem er_X10_paysAs (g : ZG) (p0 : Int32) (p1 : Int32) (σ : ZSt) : zEvS g 54 yX10_paysAs cX10_paysAs 4 (some .int) [.ref 68, .int p0, .int p1] σ (r_X10_paysAs p0 p1 σ) := (et_X10_paysAs g 16) p0 p1 σ
abbrev mX10_tellsAs (g : ZG) (q : Nat) : ZM := (yX10_tellsAs, cX10_tellsAs, 4, (some .int), zRm q 0 0, zTg g 0 0)
def s_X10_tellsAs (f_X10_tellsAs : Int32 → Int32 → ZSt → Option (Int32 × ZSt)) (p0 : Int32) (p1 : Int32) (σ : ZSt) : Option (Int32 × ZSt) :=
  if p0 = (5 : Int32) then ((s_X10_begins (60 : Int32) σ).bind fun σ6 => ((f_X10_tellsAs (0 : Int32) p1 σ6).bind fun r7 => (some ((r7.1 ^^^ (5 : Int32)), r7.2))))
    else (if p0 = (7 : Int32) then ((s_X10_begins (81 : Int32) σ).bind fun σ4 => ((f_X10_tellsAs (4 : Int32) p1 σ4).bind fun r5 => (some ((r5.1 - (1 : Int32)), r5.2))))
      else ((s_X10_begins (2 : Int32) σ).bind fun σ1 => ((r_X10_paysAs (σ1.1 68 43) p1 σ1).bind fun r2 => ((r_X10_hearsAs (r2.2.1 68 43) (1 : Int32) r2.2).bind fun r3 => (some ((r2.1 - r3.1), r3.2))))))
set_option maxHeartbeats 4000000 in
set_option maxRecDepth 100000 in
theorem z_X10_tellsAs (g : ZG) (q : Nat) (hq : 55 < q) (q2 : Nat) (hq2 : q2 < q) (f_X10_tellsAs : Int32 → Int32 → ZSt → Option (Int32 × ZSt)) (hf_X10_tellsAs : ∀ (p0 : Int32) (p1 : Int32) (σ : ZSt), zEvS g q2 yX10_tellsAs cX10_tellsAs 4 (some .int) [.ref 68, .int p0, .int p1] σ (f_X10_tellsAs p0 p1 σ)) (p0 : Int32) (p1 : Int32) (σ : ZSt) : Zo g (mX10_tellsAs g q) (fun b : Int32 × ZSt => (some (.int b.1), zw b.2)) (s_X10_tellsAs f_X10_tellsAs p0 p1 σ) 0 0 0 [some (.ref 68), some (.int p0), some (.int p1), none] [] (zw σ) := by
  unfold s_X10_tellsAs
  refine Zo_iload1 dX10_tellsAs_0 ?_
  refine Zo_iconst (5 : Int32) dX10_tellsAs_1 ic_5 ?_
  refine Zo_icmpne 20 dX10_tellsAs_2 (by decide) ?_ ?_
  · refine Zo_iload1 dX10_tellsAs_20 ?_
    refine Zo_bipush (7 : Int32) dX10_tellsAs_21 bp_7 ?_
    refine Zo_icmpne 41 dX10_tellsAs_23 (by decide) ?_ ?_
    · refine Zo_aload0 dX10_tellsAs_41 ?_
      refine Zo_iconst (2 : Int32) dX10_tellsAs_42 ic_2 ?_
      refine Zo_cVV1 lk_X10_326 (e_X10_begins g _ _) kd_68 (zFit_rm (by omega)) (zle rfl) dX10_tellsAs_43 fun σ1 => ?_
      refine Zo_aload0 dX10_tellsAs_46 ?_
      refine Zo_aload0 dX10_tellsAs_47 ?_
      refine Zo_geti fl_X10_338 kd_68 dX10_tellsAs_48 ?_
      refine Zo_iload2 dX10_tellsAs_51 ?_
      show Zo g _ _ _ 0 0 52 _ _ _
      refine Zo_cVS2 lk_X10_335 (er_X10_paysAs g _ _ _) kd_68 (zFit_rm (by omega)) (zle rfl) dX10_tellsAs_52 fun r2 => ?_
      refine Zo_istore3 rfl (zlt rfl) dX10_tellsAs_55 ?_
      refine Zo_iload3 dX10_tellsAs_56 ?_
      refine Zo_aload0 dX10_tellsAs_57 ?_
      refine Zo_aload0 dX10_tellsAs_58 ?_
      refine Zo_geti fl_X10_338 kd_68 dX10_tellsAs_59 ?_
      refine Zo_iconst (1 : Int32) dX10_tellsAs_62 ic_1 ?_
      refine Zo_cVS2 lk_X10_341 (er_X10_hearsAs g _ _ _) kd_68 (zFit_rm (by omega)) (zle rfl) dX10_tellsAs_63 fun r3 => ?_
      show Zo g _ _ _ 0 0 66 _ _ _
      refine Zo_isub dX10_tellsAs_66 ?_
      exact Zo_iret dX10_tellsAs_67 rfl rfl (Nat.le_refl _) (Nat.le_refl _)
    · refine Zo_aload0 dX10_tellsAs_26 ?_
      refine Zo_bipush (81 : Int32) dX10_tellsAs_27 bp_81 ?_
      refine Zo_cVV1 lk_X10_326 (e_X10_begins g _ _) kd_68 (zFit_rm (by omega)) (zle rfl) dX10_tellsAs_29 fun σ4 => ?_
      refine Zo_aload0 dX10_tellsAs_32 ?_
      refine Zo_iconst (4 : Int32) dX10_tellsAs_33 ic_4 ?_
      refine Zo_iload2 dX10_tellsAs_34 ?_
      refine Zo_cVS2 lk_X10_344 (hf_X10_tellsAs _ _ _) kd_68 (zFit_rm hq2) (zle rfl) dX10_tellsAs_35 fun r5 => ?_
      show Zo g _ _ _ 0 0 38 _ _ _
      refine Zo_iconst (1 : Int32) dX10_tellsAs_38 ic_1 ?_
      refine Zo_isub dX10_tellsAs_39 ?_
      exact Zo_iret dX10_tellsAs_40 rfl rfl (Nat.le_refl _) (Nat.le_refl _)
  · refine Zo_aload0 dX10_tellsAs_5 ?_
    refine Zo_bipush (60 : Int32) dX10_tellsAs_6 bp_60 ?_
    refine Zo_cVV1 lk_X10_326 (e_X10_begins g _ _) kd_68 (zFit_rm (by omega)) (zle rfl) dX10_tellsAs_8 fun σ6 => ?_
    refine Zo_aload0 dX10_tellsAs_11 ?_
    refine Zo_iconst (0 : Int32) dX10_tellsAs_12 ic_0 ?_
    refine Zo_iload2 dX10_tellsAs_13 ?_
    refine Zo_cVS2 lk_X10_344 (hf_X10_tellsAs _ _ _) kd_68 (zFit_rm hq2) (zle rfl) dX10_tellsAs_14 fun r7 => ?_
    show Zo g _ _ _ 0 0 17 _ _ _
    refine Zo_iconst (5 : Int32) dX10_tellsAs_17 ic_5 ?_
    refine Zo_ixor dX10_tellsAs_18 ?_
    exact Zo_iret dX10_tellsAs_19 rfl rfl (Nat.le_refl _) (Nat.le_refl _)
theorem e_X10_tellsAs (g : ZG) (q : Nat) (hq : 55 < q) (q2 : Nat) (hq2 : q2 < q) (f_X10_tellsAs : Int32 → Int32 → ZSt → Option (Int32 × ZSt)) (hf_X10_tellsAs : ∀ (p0 : Int32) (p1 : Int32) (σ : ZSt), zEvS g q2 yX10_tellsAs cX10_tellsAs 4 (some .int) [.ref 68, .int p0, .int p1] σ (f_X10_tellsAs p0 p1 σ)) (p0 : Int32) (p1 : Int32) (σ : ZSt) : zEvS g q yX10_tellsAs cX10_tellsAs 4 (some .int) [.ref 68, .int p0, .int p1] σ (s_X10_tellsAs f_X10_tellsAs p0 p1 σ) :=
  zEvS_of 1 rfl rfl (z_X10_tellsAs g q hq q2 hq2 f_X10_tellsAs hf_X10_tellsAs p0 p1 σ)
def R_X10_tellsAs : Nat → Int32 → Int32 → ZSt → Option (Int32 × ZSt)
  | 0 => fun _ _ _ => none
  | d + 1 => s_X10_tellsAs (R_X10_tellsAs d)
def rd_X10_tellsAs (d : Nat) : Int32 → Int32 → ZSt → Option (Int32 × ZSt) := R_X10_tellsAs d
abbrev r_X10_tellsAs : Int32 → Int32 → ZSt → Option (Int32 × ZSt) := rd_X10_tellsAs 16
theorem et_X10_tellsAs (g : ZG) : ∀ d : Nat, (∀ (p0 : Int32) (p1 : Int32) (σ : ZSt), zEvS g (56 + d) yX10_tellsAs cX10_tellsAs 4 (some .int) [.ref 68, .int p0, .int p1] σ (rd_X10_tellsAs d p0 p1 σ)) := by
  intro d
  induction d with
  | zero => exact (by intros; intro b hb; exact absurd hb (fun h => by cases h))
  | succ d ih =>
    have h0 := ih
    exact fun p0 p1 σ => e_X10_tellsAs g _ (by omega) (56 + d) (by omega) _ h0 p0 p1 σ
theorem er_X10_tellsAs (g : ZG) (p0 : Int32) (p1 : Int32) (σ : ZSt) : zEvS g 72 yX10_tellsAs cX10_tellsAs 4 (some .int) [.ref 68, .int p0, .int p1] σ (r_X10_tellsAs p0 p1 σ) := (et_X10_tellsAs g 16) p0 p1 σ
abbrev mX10_act (g : ZG) (q : Nat) : ZM := (yX10_act, cX10_act, 4, (some .int), zRm q 0 0, zTg g 0 0)
def s_X10_act (p0 : Int32) (p1 : Int32) (p2 : Int32) (σ : ZSt) : Option (Int32 × ZSt) :=
  zSt' (zWD σ 68 42 (0 : Int32)) fun σ1 => ((s_X10_isBody p0 σ1).bind fun r2 => (if r2 = (0 : Int32) then (some ((0 : Int32), σ1))
    else (zLd (zIn p0 50) (σ1.1 94 p0.toNatClampNeg) fun v3 => (zSt' (zWD σ1 68 43 v3) fun σ4 => (zSt' (zWD σ4 68 44 p0) fun σ5 => (if p1 = (0 : Int32) then ((r_X10_waitsAs (σ5.1 68 43) p2 σ5).bind fun r6 => (some (r6.1, r6.2)))
      else (if p1 = (1 : Int32) then ((r_X10_paysAs (σ5.1 68 43) p2 σ5).bind fun r7 => (some (r7.1, r7.2)))
      else (if p1 = (2 : Int32) then ((r_X10_hearsAs (σ5.1 68 43) p2 σ5).bind fun r8 => (some (r8.1, r8.2)))
      else (if p1 = (3 : Int32) then ((r_X10_tellsAs (σ5.1 68 43) p2 σ5).bind fun r9 => (some (r9.1, r9.2)))
      else (some ((0 : Int32), σ5)))))))))))
set_option maxHeartbeats 4000000 in
set_option maxRecDepth 100000 in
theorem z_X10_act (g : ZG) (p0 : Int32) (p1 : Int32) (p2 : Int32) (σ : ZSt) : Zo g (mX10_act g 73) (fun b : Int32 × ZSt => (some (.int b.1), zw b.2)) (s_X10_act p0 p1 p2 σ) 0 0 0 [some (.ref 68), some (.int p0), some (.int p1), some (.int p2)] [] (zw σ) := by
  unfold s_X10_act
  refine Zo_aload0 dX10_act_0 ?_
  refine Zo_iconst (0 : Int32) dX10_act_1 ic_0 ?_
  refine Zo_puti fl_X10_323 kd_68 dX10_act_2 fun σ1 => ?_
  refine Zo_aload0 dX10_act_5 ?_
  refine Zo_iload1 dX10_act_6 ?_
  refine Zo_cVI1 lk_X10_347 (e_X10_isBody g _ _) kd_68 (zFit_rm (by decide)) (zle rfl) dX10_act_7 fun r2 => ?_
  refine Zo_ifne 15 dX10_act_10 (by decide) ?_ ?_
  · refine Zo_aload0 dX10_act_15 ?_
    refine Zo_aload0 dX10_act_16 ?_
    refine Zo_getr (j := 94) fl_X10_85 kd_68 rfl dX10_act_17 ?_
    refine Zo_iload1 dX10_act_20 ?_
    refine Zo_iald kd_94 dX10_act_21 fun v3 => ?_
    refine Zo_puti fl_X10_338 kd_68 dX10_act_22 fun σ4 => ?_
    refine Zo_aload0 dX10_act_25 ?_
    show Zo g _ _ _ 0 0 26 _ _ _
    refine Zo_iload1 dX10_act_26 ?_
    refine Zo_puti fl_X10_332 kd_68 dX10_act_27 fun σ5 => ?_
    refine Zo_iload2 dX10_act_30 ?_
    refine Zo_ite (fun hc0 => ?_) (fun hc0 => ?_)
    · refine Zo_tswC (off := 29) (0 : Int32) 60 hc0 dX10_act_31 (by decide) (by decide) (by decide) (by decide) ?_
      refine Zo_aload0 dX10_act_60 ?_
      refine Zo_aload0 dX10_act_61 ?_
      refine Zo_geti fl_X10_338 kd_68 dX10_act_62 ?_
      refine Zo_iload3 dX10_act_65 ?_
      refine Zo_cVS2 lk_X10_329 (er_X10_waitsAs g _ _ _) kd_68 (zFit_rm (by decide)) (zle rfl) dX10_act_66 fun r6 => ?_
      exact Zo_iret dX10_act_69 rfl rfl (Nat.le_refl _) (Nat.le_refl _)
    refine Zo_ite (fun hc1 => ?_) (fun hc1 => ?_)
    · refine Zo_tswC (off := 39) (1 : Int32) 70 hc1 dX10_act_31 (by decide) (by decide) (by decide) (by decide) ?_
      refine Zo_aload0 dX10_act_70 ?_
      refine Zo_aload0 dX10_act_71 ?_
      refine Zo_geti fl_X10_338 kd_68 dX10_act_72 ?_
      refine Zo_iload3 dX10_act_75 ?_
      refine Zo_cVS2 lk_X10_335 (er_X10_paysAs g _ _ _) kd_68 (zFit_rm (by decide)) (zle rfl) dX10_act_76 fun r7 => ?_
      exact Zo_iret dX10_act_79 rfl rfl (Nat.le_refl _) (Nat.le_refl _)
    refine Zo_ite (fun hc2 => ?_) (fun hc2 => ?_)
    · refine Zo_tswC (off := 49) (2 : Int32) 80 hc2 dX10_act_31 (by decide) (by decide) (by decide) (by decide) ?_
      refine Zo_aload0 dX10_act_80 ?_
      refine Zo_aload0 dX10_act_81 ?_
      refine Zo_geti fl_X10_338 kd_68 dX10_act_82 ?_
      refine Zo_iload3 dX10_act_85 ?_
      refine Zo_cVS2 lk_X10_341 (er_X10_hearsAs g _ _ _) kd_68 (zFit_rm (by decide)) (zle rfl) dX10_act_86 fun r8 => ?_
      exact Zo_iret dX10_act_89 rfl rfl (Nat.le_refl _) (Nat.le_refl _)
    refine Zo_ite (fun hc3 => ?_) (fun hc3 => ?_)
    · refine Zo_tswC (off := 59) (3 : Int32) 90 hc3 dX10_act_31 (by decide) (by decide) (by decide) (by decide) ?_
      refine Zo_aload0 dX10_act_90 ?_
      refine Zo_aload0 dX10_act_91 ?_
      refine Zo_geti fl_X10_338 kd_68 dX10_act_92 ?_
      refine Zo_iload3 dX10_act_95 ?_
      refine Zo_cVS2 lk_X10_344 (er_X10_tellsAs g _ _ _) kd_68 (zFit_rm (by decide)) (zle rfl) dX10_act_96 fun r9 => ?_
      exact Zo_iret dX10_act_99 rfl rfl (Nat.le_refl _) (Nat.le_refl _)
    refine Zo_tswOut 100 dX10_act_31 (by have a0 := zne_0 hc0; have a1 := zne_1 hc1; have a2 := zne_2 hc2; have a3 := zne_3 hc3; omega) (by decide) ?_
    refine Zo_iconst (0 : Int32) dX10_act_100 ic_0 ?_
    exact Zo_iret dX10_act_101 rfl rfl (Nat.le_refl _) (Nat.le_refl _)
  · refine Zo_iconst (0 : Int32) dX10_act_13 ic_0 ?_
    exact Zo_iret dX10_act_14 rfl rfl (Nat.le_refl _) (Nat.le_refl _)
theorem e_X10_act (g : ZG) (p0 : Int32) (p1 : Int32) (p2 : Int32) (σ : ZSt) : zEvS g 73 yX10_act cX10_act 4 (some .int) [.ref 68, .int p0, .int p1, .int p2] σ (s_X10_act p0 p1 p2 σ) :=
  zEvS_of 0 rfl rfl (z_X10_act g p0 p1 p2 σ)
abbrev mX10_trace (g : ZG) (q : Nat) : ZM := (yX10_trace, cX10_trace, 2, (some .int), zRm q 0 0, zTg g 0 0)
def s_X10_trace (p0 : Int32) (σ : ZSt) : Option Int32 :=
  if p0 < (0 : Int32) then (some (-1 : Int32))
    else (if (σ.1 68 42) ≤ p0 then (some (-1 : Int32))
      else (if (24 : Int32) ≤ p0 then (some (-1 : Int32))
        else (zLd (zIn p0 24) (σ.1 95 p0.toNatClampNeg) fun v1 => (some v1))))
set_option maxHeartbeats 4000000 in
set_option maxRecDepth 100000 in
theorem z_X10_trace (g : ZG) (p0 : Int32) (σ : ZSt) : Zo g (mX10_trace g 0) (fun b : Int32 => (some (.int b), zw σ)) (s_X10_trace p0 σ) 0 0 0 [some (.ref 68), some (.int p0)] [] (zw σ) := by
  unfold s_X10_trace
  refine Zo_iload1 dX10_trace_0 ?_
  refine Zo_iflt 27 dX10_trace_1 (by decide) ?_ ?_
  · refine Zo_iconst (-1 : Int32) dX10_trace_27 ic_m1 ?_
    exact Zo_iret dX10_trace_28 rfl rfl (Nat.le_refl _) (Nat.le_refl _)
  · refine Zo_iload1 dX10_trace_4 ?_
    refine Zo_aload0 dX10_trace_5 ?_
    refine Zo_geti fl_X10_323 kd_68 dX10_trace_6 ?_
    refine Zo_icmpge 27 dX10_trace_9 (by decide) ?_ ?_
    · refine Zo_iconst (-1 : Int32) dX10_trace_27 ic_m1 ?_
      exact Zo_iret dX10_trace_28 rfl rfl (Nat.le_refl _) (Nat.le_refl _)
    · refine Zo_iload1 dX10_trace_12 ?_
      refine Zo_bipush (24 : Int32) dX10_trace_13 bp_24 ?_
      refine Zo_icmpge 27 dX10_trace_15 (by decide) ?_ ?_
      · refine Zo_iconst (-1 : Int32) dX10_trace_27 ic_m1 ?_
        exact Zo_iret dX10_trace_28 rfl rfl (Nat.le_refl _) (Nat.le_refl _)
      · refine Zo_aload0 dX10_trace_18 ?_
        refine Zo_getr (j := 95) fl_X10_88 kd_68 rfl dX10_trace_19 ?_
        refine Zo_iload1 dX10_trace_22 ?_
        refine Zo_iald kd_95 dX10_trace_23 fun v1 => ?_
        refine Zo_goto 28 dX10_trace_24 (by decide) ?_
        exact Zo_iret dX10_trace_28 rfl rfl (Nat.le_refl _) (Nat.le_refl _)
theorem e_X10_trace (g : ZG) (p0 : Int32) (σ : ZSt) : zEvI g 0 yX10_trace cX10_trace 2 (some .int) [.ref 68, .int p0] σ (s_X10_trace p0 σ) :=
  zEvI_of 0 rfl rfl (z_X10_trace g p0 σ)
abbrev mX10_keep (g : ZG) (q : Nat) : ZM := (yX10_keep, cX10_keep, 3, (some .int), zRm q 0 0, zTg g 0 0)
def s_X10_keep (p0 : Int32) (p1 : Int32) (σ : ZSt) : Option (Int32 × ZSt) :=
  (s_X10_isShelf p0 σ).bind fun r1 => (if r1 = (0 : Int32) then (some ((-1 : Int32), σ))
    else (if p1 = (-1 : Int32) then (zSg (zIn p0 6) (zWD σ 96 p0.toNatClampNeg p1) fun σ2 => (zSg (zIn p0 6) (zWD σ2 97 p0.toNatClampNeg (0 : Int32)) fun σ3 => (some ((1 : Int32), σ3))))
      else ((s_X10_isBody p1 σ).bind fun r4 => (if r4 = (0 : Int32) then (some ((-1 : Int32), σ))
        else (zSg (zIn p0 6) (zWD σ 96 p0.toNatClampNeg p1) fun σ5 => (zSg (zIn p0 6) (zWD σ5 97 p0.toNatClampNeg (0 : Int32)) fun σ6 => (some ((1 : Int32), σ6))))))))
set_option maxHeartbeats 4000000 in
set_option maxRecDepth 100000 in
theorem z_X10_keep (g : ZG) (p0 : Int32) (p1 : Int32) (σ : ZSt) : Zo g (mX10_keep g 2) (fun b : Int32 × ZSt => (some (.int b.1), zw b.2)) (s_X10_keep p0 p1 σ) 0 0 0 [some (.ref 68), some (.int p0), some (.int p1)] [] (zw σ) := by
  unfold s_X10_keep
  refine Zo_iload1 dX10_keep_0 ?_
  refine Zo_cSI1 lk_X10_148 (e_X10_isShelf g _ _) (zFit_rm (by decide)) (zle rfl) dX10_keep_1 fun r1 => ?_
  refine Zo_ifeq 20 dX10_keep_4 (by decide) ?_ ?_
  · refine Zo_iconst (-1 : Int32) dX10_keep_20 ic_m1 ?_
    exact Zo_iret dX10_keep_21 rfl rfl (Nat.le_refl _) (Nat.le_refl _)
  · refine Zo_iload2 dX10_keep_7 ?_
    refine Zo_iconst (-1 : Int32) dX10_keep_8 ic_m1 ?_
    refine Zo_icmpeq 22 dX10_keep_9 (by decide) ?_ ?_
    · refine Zo_aload0 dX10_keep_22 ?_
      refine Zo_getr (j := 96) fl_X10_91 kd_68 rfl dX10_keep_23 ?_
      refine Zo_iload1 dX10_keep_26 ?_
      refine Zo_iload2 dX10_keep_27 ?_
      refine Zo_iast kd_96 dX10_keep_28 fun σ2 => ?_
      refine Zo_aload0 dX10_keep_29 ?_
      refine Zo_getr (j := 97) fl_X10_94 kd_68 rfl dX10_keep_30 ?_
      show Zo g _ _ _ 0 0 33 _ _ _
      refine Zo_iload1 dX10_keep_33 ?_
      refine Zo_iconst (0 : Int32) dX10_keep_34 ic_0 ?_
      refine Zo_iast kd_97 dX10_keep_35 fun σ3 => ?_
      refine Zo_iconst (1 : Int32) dX10_keep_36 ic_1 ?_
      exact Zo_iret dX10_keep_37 rfl rfl (Nat.le_refl _) (Nat.le_refl _)
    · refine Zo_aload0 dX10_keep_12 ?_
      refine Zo_iload2 dX10_keep_13 ?_
      refine Zo_cVI1 lk_X10_347 (e_X10_isBody g _ _) kd_68 (zFit_rm (by decide)) (zle rfl) dX10_keep_14 fun r4 => ?_
      refine Zo_ifne 22 dX10_keep_17 (by decide) ?_ ?_
      · refine Zo_aload0 dX10_keep_22 ?_
        refine Zo_getr (j := 96) fl_X10_91 kd_68 rfl dX10_keep_23 ?_
        refine Zo_iload1 dX10_keep_26 ?_
        refine Zo_iload2 dX10_keep_27 ?_
        refine Zo_iast kd_96 dX10_keep_28 fun σ5 => ?_
        refine Zo_aload0 dX10_keep_29 ?_
        refine Zo_getr (j := 97) fl_X10_94 kd_68 rfl dX10_keep_30 ?_
        show Zo g _ _ _ 0 0 33 _ _ _
        refine Zo_iload1 dX10_keep_33 ?_
        refine Zo_iconst (0 : Int32) dX10_keep_34 ic_0 ?_
        refine Zo_iast kd_97 dX10_keep_35 fun σ6 => ?_
        refine Zo_iconst (1 : Int32) dX10_keep_36 ic_1 ?_
        exact Zo_iret dX10_keep_37 rfl rfl (Nat.le_refl _) (Nat.le_refl _)
      · refine Zo_iconst (-1 : Int32) dX10_keep_20 ic_m1 ?_
        exact Zo_iret dX10_keep_21 rfl rfl (Nat.le_refl _) (Nat.le_refl _)
theorem e_X10_keep (g : ZG) (p0 : Int32) (p1 : Int32) (σ : ZSt) : zEvS g 2 yX10_keep cX10_keep 3 (some .int) [.ref 68, .int p0, .int p1] σ (s_X10_keep p0 p1 σ) :=
  zEvS_of 0 rfl rfl (z_X10_keep g p0 p1 σ)
abbrev mX10_row (g : ZG) (q : Nat) : ZM := (yX10_row, cX10_row, 5, (some .int), zRm q 0 0, zTg g 0 0)
def s_X10_row_L57 (l1 : Int32) : Nat → Int32 → ZSt → Option (Int32 × ZSt)
  | 0, _, _ => none
  | n + 1, l4, σ =>
    if (((60 : Int32) * l1) + (60 : Int32)) ≤ l4 then (some ((1 : Int32), σ))
      else (zSg (zIn l4 360) (zWE σ 98 l4.toNatClampNeg (0 : Int64)) fun σ1 => (s_X10_row_L57 l1 n (l4 + (1 : Int32)) σ1))
set_option maxHeartbeats 4000000 in
set_option maxRecDepth 100000 in
theorem z_X10_row_L57 (g : ZG) (l1 : Int32) : ∀ (n : Nat) (l4 : Int32) (σ : ZSt) (o2 o3 : Option Value), Zo g (mX10_row g 2) (fun b : Int32 × ZSt => (some (.int b.1), zw b.2)) (s_X10_row_L57 l1 n l4 σ) 0 0 57 [some (.ref 68), some (.int l1), o2, o3, some (.int l4)] [] (zw σ) := by
  intro n
  induction n with
  | zero => intros; exact Zo_none
  | succ n ih =>
    intro l4 σ o2 o3
    rw [s_X10_row_L57]
    refine Zo_iload4 dX10_row_57 ?_
    refine Zo_bipush (60 : Int32) dX10_row_59 bp_60 ?_
    refine Zo_iload1 dX10_row_61 ?_
    refine Zo_imul dX10_row_62 ?_
    refine Zo_bipush (60 : Int32) dX10_row_63 bp_60 ?_
    refine Zo_iadd dX10_row_65 ?_
    refine Zo_icmpge 83 dX10_row_66 (by decide) ?_ ?_
    · refine Zo_iconst (1 : Int32) dX10_row_83 ic_1 ?_
      exact Zo_iret dX10_row_84 rfl rfl (Nat.le_refl _) (Nat.le_refl _)
    · refine Zo_aload0 dX10_row_69 ?_
      refine Zo_getr (j := 98) fl_X10_97 kd_68 rfl dX10_row_70 ?_
      refine Zo_iload4 dX10_row_73 ?_
      refine Zo_lconst (0 : Int64) dX10_row_75 lc_0 ?_
      refine Zo_last kd_98 dX10_row_76 fun σ1 => ?_
      refine Zo_drop3 ?_
      refine Zo_iinc4 rfl (1 : Int32) ic_1 (zlt rfl) dX10_row_77 ?_
      refine Zo_goto 57 dX10_row_80 (by decide) ?_
      exact ih _ _ _ _
def s_X10_row (p0 : Int32) (p1 : Int32) (p2 : Int32) (σ : ZSt) : Option (Int32 × ZSt) :=
  (s_X10_isShelf p0 σ).bind fun r1 => (if r1 = (0 : Int32) then (some ((-1 : Int32), σ))
    else ((s_X10_within (p1.toInt64) (0 : Int64) (4 : Int64) σ).bind fun r2 => (if r2 = (0 : Int32) then (some ((-1 : Int32), σ))
      else (if p2 ≤ (60 : Int32) then (if (0 : Int32) ≤ p2 then (zSg (zIn p0 6) (zWD σ 96 p0.toNatClampNeg ((50 : Int32) + p1)) fun σ3 => (zSg (zIn p0 6) (zWD σ3 97 p0.toNatClampNeg p2) fun σ4 => (s_X10_row_L57 p0 200 ((60 : Int32) * p0) σ4)))
          else (some ((-14 : Int32), σ)))
        else (some ((-1 : Int32), σ))))))
set_option maxHeartbeats 4000000 in
set_option maxRecDepth 100000 in
theorem z_X10_row (g : ZG) (p0 : Int32) (p1 : Int32) (p2 : Int32) (σ : ZSt) : Zo g (mX10_row g 2) (fun b : Int32 × ZSt => (some (.int b.1), zw b.2)) (s_X10_row p0 p1 p2 σ) 0 0 0 [some (.ref 68), some (.int p0), some (.int p1), some (.int p2), none] [] (zw σ) := by
  unfold s_X10_row
  refine Zo_iload1 dX10_row_0 ?_
  refine Zo_cSI1 lk_X10_148 (e_X10_isShelf g _ _) (zFit_rm (by decide)) (zle rfl) dX10_row_1 fun r1 => ?_
  refine Zo_ifeq 25 dX10_row_4 (by decide) ?_ ?_
  · refine Zo_iconst (-1 : Int32) dX10_row_25 ic_m1 ?_
    exact Zo_iret dX10_row_26 rfl rfl (Nat.le_refl _) (Nat.le_refl _)
  · refine Zo_iload2 dX10_row_7 ?_
    refine Zo_i2l dX10_row_8 ?_
    refine Zo_lconst (0 : Int64) dX10_row_9 lc_0 ?_
    refine Zo_ldc2 rfl cw_X10_234 dX10_row_10 ?_
    refine Zo_cSI3 lk_X10_120 (e_X10_within g _ _ _ _) (zFit_rm (by decide)) (zle rfl) dX10_row_13 fun r2 => ?_
    refine Zo_ifeq 25 dX10_row_16 (by decide) ?_ ?_
    · refine Zo_iconst (-1 : Int32) dX10_row_25 ic_m1 ?_
      exact Zo_iret dX10_row_26 rfl rfl (Nat.le_refl _) (Nat.le_refl _)
    · refine Zo_iload3 dX10_row_19 ?_
      refine Zo_bipush (60 : Int32) dX10_row_20 bp_60 ?_
      refine Zo_icmple 27 dX10_row_22 (by decide) ?_ ?_
      · refine Zo_iload3 dX10_row_27 ?_
        refine Zo_ifge 34 dX10_row_28 (by decide) ?_ ?_
        · refine Zo_aload0 dX10_row_34 ?_
          refine Zo_getr (j := 96) fl_X10_91 kd_68 rfl dX10_row_35 ?_
          refine Zo_iload1 dX10_row_38 ?_
          refine Zo_bipush (50 : Int32) dX10_row_39 bp_50 ?_
          refine Zo_iload2 dX10_row_41 ?_
          refine Zo_iadd dX10_row_42 ?_
          refine Zo_iast kd_96 dX10_row_43 fun σ3 => ?_
          show Zo g _ _ _ 0 0 44 _ _ _
          refine Zo_aload0 dX10_row_44 ?_
          refine Zo_getr (j := 97) fl_X10_94 kd_68 rfl dX10_row_45 ?_
          refine Zo_iload1 dX10_row_48 ?_
          refine Zo_iload3 dX10_row_49 ?_
          refine Zo_iast kd_97 dX10_row_50 fun σ4 => ?_
          refine Zo_bipush (60 : Int32) dX10_row_51 bp_60 ?_
          refine Zo_iload1 dX10_row_53 ?_
          refine Zo_imul dX10_row_54 ?_
          show Zo g _ _ _ 0 0 55 _ _ _
          refine Zo_istore4 rfl (zlt rfl) dX10_row_55 ?_
          exact z_X10_row_L57 g _ _ _ _ _ _
        · refine Zo_bipush (-14 : Int32) dX10_row_31 bp_m14 ?_
          exact Zo_iret dX10_row_33 rfl rfl (Nat.le_refl _) (Nat.le_refl _)
      · refine Zo_iconst (-1 : Int32) dX10_row_25 ic_m1 ?_
        exact Zo_iret dX10_row_26 rfl rfl (Nat.le_refl _) (Nat.le_refl _)
theorem e_X10_row (g : ZG) (p0 : Int32) (p1 : Int32) (p2 : Int32) (σ : ZSt) : zEvS g 2 yX10_row cX10_row 5 (some .int) [.ref 68, .int p0, .int p1, .int p2] σ (s_X10_row p0 p1 p2 σ) :=
  zEvS_of 1 rfl rfl (z_X10_row g p0 p1 p2 σ)
abbrev mX10_refusal (g : ZG) (q : Nat) : ZM := (yX10_refusal, cX10_refusal, 3, (some .int), zRm q 0 0, zTg g 0 0)
def s_X10_refusal (p0 : Int32) (p1 : Int32) (σ : ZSt) : Option Int32 :=
  (s_X10_isShelf p0 σ).bind fun r1 => (if r1 = (0 : Int32) then (some (-1 : Int32))
    else (zLd (zIn p0 6) (σ.1 96 p0.toNatClampNeg) fun v2 => (if (0 : Int32) ≤ v2 then (zLd (zIn p0 6) (σ.1 96 p0.toNatClampNeg) fun v3 => (if (50 : Int32) ≤ v3 then (if p1 < (0 : Int32) then (some (-13 : Int32))
          else (zLd (zIn p0 6) (σ.1 97 p0.toNatClampNeg) fun v4 => (if v4 ≤ p1 then (some (-13 : Int32))
            else (some (0 : Int32)))))
        else (some (-12 : Int32))))
      else (some (-11 : Int32)))))
set_option maxHeartbeats 4000000 in
set_option maxRecDepth 100000 in
theorem z_X10_refusal (g : ZG) (p0 : Int32) (p1 : Int32) (σ : ZSt) : Zo g (mX10_refusal g 2) (fun b : Int32 => (some (.int b), zw σ)) (s_X10_refusal p0 p1 σ) 0 0 0 [some (.ref 68), some (.int p0), some (.int p1)] [] (zw σ) := by
  unfold s_X10_refusal
  refine Zo_iload1 dX10_refusal_0 ?_
  refine Zo_cSI1 lk_X10_148 (e_X10_isShelf g _ _) (zFit_rm (by decide)) (zle rfl) dX10_refusal_1 fun r1 => ?_
  refine Zo_ifne 9 dX10_refusal_4 (by decide) ?_ ?_
  · refine Zo_aload0 dX10_refusal_9 ?_
    refine Zo_getr (j := 96) fl_X10_91 kd_68 rfl dX10_refusal_10 ?_
    refine Zo_iload1 dX10_refusal_13 ?_
    refine Zo_iald kd_96 dX10_refusal_14 fun v2 => ?_
    refine Zo_ifge 21 dX10_refusal_15 (by decide) ?_ ?_
    · refine Zo_aload0 dX10_refusal_21 ?_
      refine Zo_getr (j := 96) fl_X10_91 kd_68 rfl dX10_refusal_22 ?_
      refine Zo_iload1 dX10_refusal_25 ?_
      refine Zo_iald kd_96 dX10_refusal_26 fun v3 => ?_
      refine Zo_bipush (50 : Int32) dX10_refusal_27 bp_50 ?_
      refine Zo_icmpge 35 dX10_refusal_29 (by decide) ?_ ?_
      · refine Zo_iload2 dX10_refusal_35 ?_
        refine Zo_iflt 53 dX10_refusal_36 (by decide) ?_ ?_
        · refine Zo_bipush (-13 : Int32) dX10_refusal_53 bp_m13 ?_
          exact Zo_iret dX10_refusal_55 rfl rfl (Nat.le_refl _) (Nat.le_refl _)
        · refine Zo_iload2 dX10_refusal_39 ?_
          refine Zo_aload0 dX10_refusal_40 ?_
          refine Zo_getr (j := 97) fl_X10_94 kd_68 rfl dX10_refusal_41 ?_
          refine Zo_iload1 dX10_refusal_44 ?_
          refine Zo_iald kd_97 dX10_refusal_45 fun v4 => ?_
          refine Zo_icmpge 53 dX10_refusal_46 (by decide) ?_ ?_
          · refine Zo_bipush (-13 : Int32) dX10_refusal_53 bp_m13 ?_
            exact Zo_iret dX10_refusal_55 rfl rfl (Nat.le_refl _) (Nat.le_refl _)
          · refine Zo_iconst (0 : Int32) dX10_refusal_49 ic_0 ?_
            refine Zo_goto 55 dX10_refusal_50 (by decide) ?_
            exact Zo_iret dX10_refusal_55 rfl rfl (Nat.le_refl _) (Nat.le_refl _)
      · refine Zo_bipush (-12 : Int32) dX10_refusal_32 bp_m12 ?_
        exact Zo_iret dX10_refusal_34 rfl rfl (Nat.le_refl _) (Nat.le_refl _)
    · refine Zo_bipush (-11 : Int32) dX10_refusal_18 bp_m11 ?_
      exact Zo_iret dX10_refusal_20 rfl rfl (Nat.le_refl _) (Nat.le_refl _)
  · refine Zo_iconst (-1 : Int32) dX10_refusal_7 ic_m1 ?_
    exact Zo_iret dX10_refusal_8 rfl rfl (Nat.le_refl _) (Nat.le_refl _)
theorem e_X10_refusal (g : ZG) (p0 : Int32) (p1 : Int32) (σ : ZSt) : zEvI g 2 yX10_refusal cX10_refusal 3 (some .int) [.ref 68, .int p0, .int p1] σ (s_X10_refusal p0 p1 σ) :=
  zEvI_of 0 rfl rfl (z_X10_refusal g p0 p1 σ)
abbrev mX10_asSort (g : ZG) (q : Nat) : ZM := (yX10_asSort, cX10_asSort, 3, (some .long), zRm q 0 0, zTg g 0 0)
def s_X10_asSort (p0 : Int32) (p1 : Int64) (σ : ZSt) : Option Int64 :=
  if p0 = (0 : Int32) then (some (((p1.toInt32).toInt8.toInt32).toInt64))
    else (if p0 = (1 : Int32) then (some (((p1.toInt32).toInt16.toInt32).toInt64))
      else (if p0 = (2 : Int32) then (some ((p1.toInt32).toInt64))
        else (if p0 = (4 : Int32) then (if (lg_cmp p1 (0 : Int64)) = (0 : Int32) then (some (0 : Int64))
            else (some (1 : Int64)))
          else (some p1))))
set_option maxHeartbeats 4000000 in
set_option maxRecDepth 100000 in
theorem z_X10_asSort (g : ZG) (p0 : Int32) (p1 : Int64) (σ : ZSt) : Zo g (mX10_asSort g 0) (fun b : Int64 => (some (.long b), zw σ)) (s_X10_asSort p0 p1 σ) 0 0 0 [some (.int p0), some (.long p1), none] [] (zw σ) := by
  unfold s_X10_asSort
  refine Zo_iload0 dX10_asSort_0 ?_
  refine Zo_ifne 11 dX10_asSort_1 (by decide) ?_ ?_
  · refine Zo_iload0 dX10_asSort_11 ?_
    refine Zo_iconst (1 : Int32) dX10_asSort_12 ic_1 ?_
    refine Zo_icmpne 23 dX10_asSort_13 (by decide) ?_ ?_
    · refine Zo_iload0 dX10_asSort_23 ?_
      refine Zo_iconst (2 : Int32) dX10_asSort_24 ic_2 ?_
      refine Zo_icmpne 34 dX10_asSort_25 (by decide) ?_ ?_
      · refine Zo_iload0 dX10_asSort_34 ?_
        refine Zo_iconst (4 : Int32) dX10_asSort_35 ic_4 ?_
        refine Zo_icmpne 53 dX10_asSort_36 (by decide) ?_ ?_
        · refine Zo_lload1 dX10_asSort_53 ?_
          exact Zo_lret dX10_asSort_54 rfl rfl (Nat.le_refl _) (Nat.le_refl _)
        · refine Zo_lload1 dX10_asSort_39 ?_
          refine Zo_lconst (0 : Int64) dX10_asSort_40 lc_0 ?_
          refine Zo_lcmp dX10_asSort_41 ?_
          refine Zo_ifeq 49 dX10_asSort_42 (by decide) ?_ ?_
          · refine Zo_lconst (0 : Int64) dX10_asSort_49 lc_0 ?_
            refine Zo_goto 54 dX10_asSort_50 (by decide) ?_
            exact Zo_lret dX10_asSort_54 rfl rfl (Nat.le_refl _) (Nat.le_refl _)
          · refine Zo_lconst (1 : Int64) dX10_asSort_45 lc_1 ?_
            refine Zo_goto 54 dX10_asSort_46 (by decide) ?_
            exact Zo_lret dX10_asSort_54 rfl rfl (Nat.le_refl _) (Nat.le_refl _)
      · refine Zo_lload1 dX10_asSort_28 ?_
        refine Zo_l2i dX10_asSort_29 ?_
        refine Zo_i2l dX10_asSort_30 ?_
        refine Zo_goto 54 dX10_asSort_31 (by decide) ?_
        exact Zo_lret dX10_asSort_54 rfl rfl (Nat.le_refl _) (Nat.le_refl _)
    · refine Zo_lload1 dX10_asSort_16 ?_
      refine Zo_l2i dX10_asSort_17 ?_
      refine Zo_i2s dX10_asSort_18 ?_
      refine Zo_i2l dX10_asSort_19 ?_
      refine Zo_goto 54 dX10_asSort_20 (by decide) ?_
      exact Zo_lret dX10_asSort_54 rfl rfl (Nat.le_refl _) (Nat.le_refl _)
  · refine Zo_lload1 dX10_asSort_4 ?_
    refine Zo_l2i dX10_asSort_5 ?_
    refine Zo_i2b dX10_asSort_6 ?_
    refine Zo_i2l dX10_asSort_7 ?_
    refine Zo_goto 54 dX10_asSort_8 (by decide) ?_
    exact Zo_lret dX10_asSort_54 rfl rfl (Nat.le_refl _) (Nat.le_refl _)
theorem e_X10_asSort (g : ZG) (p0 : Int32) (p1 : Int64) (σ : ZSt) : zEvJ g 0 yX10_asSort cX10_asSort 3 (some .long) [.int p0, .long p1] σ (s_X10_asSort p0 p1 σ) :=
  zEvJ_of 0 rfl rfl (z_X10_asSort g p0 p1 σ)
abbrev mX10_put (g : ZG) (q : Nat) : ZM := (yX10_put, cX10_put, 6, (some .int), zRm q 0 0, zTg g 0 0)
def s_X10_put (p0 : Int32) (p1 : Int32) (p2 : Int64) (σ : ZSt) : Option (Int32 × ZSt) :=
  (s_X10_refusal p0 p1 σ).bind fun r1 => (if r1 = (0 : Int32) then (zLd (zIn p0 6) (σ.1 96 p0.toNatClampNeg) fun v2 => ((s_X10_asSort (v2 - (50 : Int32)) p2 σ).bind fun r3 => (zSg (zIn (((60 : Int32) * p0) + p1) 360) (zWE σ 98 (((60 : Int32) * p0) + p1).toNatClampNeg r3) fun σ4 => (if r1 = (0 : Int32) then (some ((1 : Int32), σ4))
      else (some (r1, σ4))))))
    else (if r1 = (0 : Int32) then (some ((1 : Int32), σ))
      else (some (r1, σ))))
set_option maxHeartbeats 4000000 in
set_option maxRecDepth 100000 in
theorem z_X10_put (g : ZG) (p0 : Int32) (p1 : Int32) (p2 : Int64) (σ : ZSt) : Zo g (mX10_put g 3) (fun b : Int32 × ZSt => (some (.int b.1), zw b.2)) (s_X10_put p0 p1 p2 σ) 0 0 0 [some (.ref 68), some (.int p0), some (.int p1), some (.long p2), none, none] [] (zw σ) := by
  unfold s_X10_put
  refine Zo_aload0 dX10_put_0 ?_
  refine Zo_iload1 dX10_put_1 ?_
  refine Zo_iload2 dX10_put_2 ?_
  refine Zo_cVI2 lk_X10_352 (e_X10_refusal g _ _ _) kd_68 (zFit_rm (by decide)) (zle rfl) dX10_put_3 fun r1 => ?_
  refine Zo_istore5 rfl (zlt rfl) dX10_put_6 ?_
  refine Zo_iload5 dX10_put_8 ?_
  refine Zo_ifne 37 dX10_put_10 (by decide) ?_ ?_
  · refine Zo_iload5 dX10_put_37 ?_
    refine Zo_ifne 46 dX10_put_39 (by decide) ?_ ?_
    · refine Zo_iload5 dX10_put_46 ?_
      exact Zo_iret dX10_put_48 rfl rfl (Nat.le_refl _) (Nat.le_refl _)
    · refine Zo_iconst (1 : Int32) dX10_put_42 ic_1 ?_
      refine Zo_goto 48 dX10_put_43 (by decide) ?_
      exact Zo_iret dX10_put_48 rfl rfl (Nat.le_refl _) (Nat.le_refl _)
  · refine Zo_aload0 dX10_put_13 ?_
    refine Zo_getr (j := 98) fl_X10_97 kd_68 rfl dX10_put_14 ?_
    refine Zo_bipush (60 : Int32) dX10_put_17 bp_60 ?_
    refine Zo_iload1 dX10_put_19 ?_
    refine Zo_imul dX10_put_20 ?_
    refine Zo_iload2 dX10_put_21 ?_
    refine Zo_iadd dX10_put_22 ?_
    show Zo g _ _ _ 0 0 23 _ _ _
    refine Zo_aload0 dX10_put_23 ?_
    refine Zo_getr (j := 96) fl_X10_91 kd_68 rfl dX10_put_24 ?_
    refine Zo_iload1 dX10_put_27 ?_
    refine Zo_iald kd_96 dX10_put_28 fun v2 => ?_
    refine Zo_bipush (50 : Int32) dX10_put_29 bp_50 ?_
    refine Zo_isub dX10_put_31 ?_
    refine Zo_lload3 dX10_put_32 ?_
    refine Zo_cSJ2 lk_X10_355 (e_X10_asSort g _ _ _) (zFit_rm (by decide)) (zle rfl) dX10_put_33 fun r3 => ?_
    show Zo g _ _ _ 0 0 36 _ _ _
    refine Zo_last kd_98 dX10_put_36 fun σ4 => ?_
    refine Zo_iload5 dX10_put_37 ?_
    refine Zo_ifne 46 dX10_put_39 (by decide) ?_ ?_
    · refine Zo_iload5 dX10_put_46 ?_
      exact Zo_iret dX10_put_48 rfl rfl (Nat.le_refl _) (Nat.le_refl _)
    · refine Zo_iconst (1 : Int32) dX10_put_42 ic_1 ?_
      refine Zo_goto 48 dX10_put_43 (by decide) ?_
      exact Zo_iret dX10_put_48 rfl rfl (Nat.le_refl _) (Nat.le_refl _)
theorem e_X10_put (g : ZG) (p0 : Int32) (p1 : Int32) (p2 : Int64) (σ : ZSt) : zEvS g 3 yX10_put cX10_put 6 (some .int) [.ref 68, .int p0, .int p1, .long p2] σ (s_X10_put p0 p1 p2 σ) :=
  zEvS_of 1 rfl rfl (z_X10_put g p0 p1 p2 σ)
abbrev mX10_element (g : ZG) (q : Nat) : ZM := (yX10_element, cX10_element, 3, (some .long), zRm q 0 0, zTg g 0 0)
def s_X10_element (p0 : Int32) (p1 : Int32) (σ : ZSt) : Option Int64 :=
  (s_X10_refusal p0 p1 σ).bind fun r1 => (if r1 = (0 : Int32) then (zLd (zIn (((60 : Int32) * p0) + p1) 360) (σ.2 98 (((60 : Int32) * p0) + p1).toNatClampNeg) fun v2 => (some v2))
    else (some (-9223372036854775808 : Int64)))
set_option maxHeartbeats 4000000 in
set_option maxRecDepth 100000 in
theorem z_X10_element (g : ZG) (p0 : Int32) (p1 : Int32) (σ : ZSt) : Zo g (mX10_element g 3) (fun b : Int64 => (some (.long b), zw σ)) (s_X10_element p0 p1 σ) 0 0 0 [some (.ref 68), some (.int p0), some (.int p1)] [] (zw σ) := by
  unfold s_X10_element
  refine Zo_aload0 dX10_element_0 ?_
  refine Zo_iload1 dX10_element_1 ?_
  refine Zo_iload2 dX10_element_2 ?_
  refine Zo_cVI2 lk_X10_352 (e_X10_refusal g _ _ _) kd_68 (zFit_rm (by decide)) (zle rfl) dX10_element_3 fun r1 => ?_
  refine Zo_ifeq 15 dX10_element_6 (by decide) ?_ ?_
  · refine Zo_aload0 dX10_element_15 ?_
    refine Zo_getr (j := 98) fl_X10_97 kd_68 rfl dX10_element_16 ?_
    refine Zo_bipush (60 : Int32) dX10_element_19 bp_60 ?_
    refine Zo_iload1 dX10_element_21 ?_
    refine Zo_imul dX10_element_22 ?_
    refine Zo_iload2 dX10_element_23 ?_
    refine Zo_iadd dX10_element_24 ?_
    show Zo g _ _ _ 0 0 25 _ _ _
    refine Zo_lald kd_98 dX10_element_25 fun v2 => ?_
    exact Zo_lret dX10_element_26 rfl rfl (Nat.le_refl _) (Nat.le_refl _)
  · refine Zo_ldc2 rfl cw_X10_361 dX10_element_9 ?_
    refine Zo_goto 26 dX10_element_12 (by decide) ?_
    exact Zo_lret dX10_element_26 rfl rfl (Nat.le_refl _) (Nat.le_refl _)
theorem e_X10_element (g : ZG) (p0 : Int32) (p1 : Int32) (σ : ZSt) : zEvJ g 3 yX10_element cX10_element 3 (some .long) [.ref 68, .int p0, .int p1] σ (s_X10_element p0 p1 σ) :=
  zEvJ_of 0 rfl rfl (z_X10_element g p0 p1 σ)
abbrev mX10_shift (g : ZG) (q : Nat) : ZM := (yX10_shift, cX10_shift, 7, (some .int), zRm q 0 0, zTg g 0 0)
def s_X10_shift_L150 (l3 : Int32) (l4 : Int32) (l5 : Int32) : Nat → Int32 → ZSt → Option (Int32 × ZSt)
  | 0, _, _ => none
  | n + 1, l6, σ =>
    if l5 ≤ l6 then (some (l5, σ))
      else (zLd (zIn l6 60) (σ.2 99 l6.toNatClampNeg) fun v1 => (zSg (zIn ((((60 : Int32) * l3) + l4) + l6) 360) (zWE σ 98 ((((60 : Int32) * l3) + l4) + l6).toNatClampNeg v1) fun σ2 => (s_X10_shift_L150 l3 l4 l5 n (l6 + (1 : Int32)) σ2)))
set_option maxHeartbeats 4000000 in
set_option maxRecDepth 100000 in
theorem z_X10_shift_L150 (g : ZG) (l3 : Int32) (l4 : Int32) (l5 : Int32) : ∀ (n : Nat) (l6 : Int32) (σ : ZSt) (o1 o2 : Option Value), Zo g (mX10_shift g 2) (fun b : Int32 × ZSt => (some (.int b.1), zw b.2)) (s_X10_shift_L150 l3 l4 l5 n l6 σ) 0 0 150 [some (.ref 68), o1, o2, some (.int l3), some (.int l4), some (.int l5), some (.int l6)] [] (zw σ) := by
  intro n
  induction n with
  | zero => intros; exact Zo_none
  | succ n ih =>
    intro l6 σ o1 o2
    rw [s_X10_shift_L150]
    refine Zo_iload6 dX10_shift_150 ?_
    refine Zo_iload5 dX10_shift_152 ?_
    refine Zo_icmpge 185 dX10_shift_154 (by decide) ?_ ?_
    · refine Zo_iload5 dX10_shift_185 ?_
      exact Zo_iret dX10_shift_187 rfl rfl (Nat.le_refl _) (Nat.le_refl _)
    · refine Zo_aload0 dX10_shift_157 ?_
      refine Zo_getr (j := 98) fl_X10_97 kd_68 rfl dX10_shift_158 ?_
      refine Zo_bipush (60 : Int32) dX10_shift_161 bp_60 ?_
      refine Zo_iload3 dX10_shift_163 ?_
      refine Zo_imul dX10_shift_164 ?_
      refine Zo_iload4 dX10_shift_165 ?_
      refine Zo_iadd dX10_shift_167 ?_
      show Zo g _ _ _ 0 0 168 _ _ _
      refine Zo_iload6 dX10_shift_168 ?_
      refine Zo_iadd dX10_shift_170 ?_
      refine Zo_aload0 dX10_shift_171 ?_
      refine Zo_getr (j := 99) fl_X10_101 kd_68 rfl dX10_shift_172 ?_
      refine Zo_iload6 dX10_shift_175 ?_
      refine Zo_lald kd_99 dX10_shift_177 fun v1 => ?_
      refine Zo_last kd_98 dX10_shift_178 fun σ2 => ?_
      refine Zo_iinc6 rfl (1 : Int32) ic_1 (zlt rfl) dX10_shift_179 ?_
      show Zo g _ _ _ 0 0 182 _ _ _
      refine Zo_goto 150 dX10_shift_182 (by decide) ?_
      exact ih _ _ _ _
def s_X10_shift_L113 (l1 : Int32) (l2 : Int32) (l3 : Int32) (l4 : Int32) (l5 : Int32) : Nat → Int32 → ZSt → Option (Int32 × ZSt)
  | 0, _, _ => none
  | n + 1, l6, σ =>
    if l5 ≤ l6 then (s_X10_shift_L150 l3 l4 l5 200 (0 : Int32) σ)
      else (zLd (zIn ((((60 : Int32) * l1) + l2) + l6) 360) (σ.2 98 ((((60 : Int32) * l1) + l2) + l6).toNatClampNeg) fun v1 => (zSg (zIn l6 60) (zWE σ 99 l6.toNatClampNeg v1) fun σ2 => (s_X10_shift_L113 l1 l2 l3 l4 l5 n (l6 + (1 : Int32)) σ2)))
set_option maxHeartbeats 4000000 in
set_option maxRecDepth 100000 in
theorem z_X10_shift_L113 (g : ZG) (l1 : Int32) (l2 : Int32) (l3 : Int32) (l4 : Int32) (l5 : Int32) : ∀ (n : Nat) (l6 : Int32) (σ : ZSt), Zo g (mX10_shift g 2) (fun b : Int32 × ZSt => (some (.int b.1), zw b.2)) (s_X10_shift_L113 l1 l2 l3 l4 l5 n l6 σ) 0 0 113 [some (.ref 68), some (.int l1), some (.int l2), some (.int l3), some (.int l4), some (.int l5), some (.int l6)] [] (zw σ) := by
  intro n
  induction n with
  | zero => intros; exact Zo_none
  | succ n ih =>
    intro l6 σ
    rw [s_X10_shift_L113]
    refine Zo_iload6 dX10_shift_113 ?_
    refine Zo_iload5 dX10_shift_115 ?_
    refine Zo_icmpge 147 dX10_shift_117 (by decide) ?_ ?_
    · refine Zo_iconst (0 : Int32) dX10_shift_147 ic_0 ?_
      refine Zo_istore6 rfl (zlt rfl) dX10_shift_148 ?_
      exact z_X10_shift_L150 g _ _ _ _ _ _ _ _
    · refine Zo_aload0 dX10_shift_120 ?_
      refine Zo_getr (j := 99) fl_X10_101 kd_68 rfl dX10_shift_121 ?_
      refine Zo_iload6 dX10_shift_124 ?_
      refine Zo_aload0 dX10_shift_126 ?_
      refine Zo_getr (j := 98) fl_X10_97 kd_68 rfl dX10_shift_127 ?_
      refine Zo_bipush (60 : Int32) dX10_shift_130 bp_60 ?_
      refine Zo_iload1 dX10_shift_132 ?_
      show Zo g _ _ _ 0 0 133 _ _ _
      refine Zo_imul dX10_shift_133 ?_
      refine Zo_iload2 dX10_shift_134 ?_
      refine Zo_iadd dX10_shift_135 ?_
      refine Zo_iload6 dX10_shift_136 ?_
      refine Zo_iadd dX10_shift_138 ?_
      refine Zo_lald kd_98 dX10_shift_139 fun v1 => ?_
      refine Zo_last kd_99 dX10_shift_140 fun σ2 => ?_
      refine Zo_iinc6 rfl (1 : Int32) ic_1 (zlt rfl) dX10_shift_141 ?_
      show Zo g _ _ _ 0 0 144 _ _ _
      refine Zo_goto 113 dX10_shift_144 (by decide) ?_
      exact ih _ _
def s_X10_shift (p0 : Int32) (p1 : Int32) (p2 : Int32) (p3 : Int32) (p4 : Int32) (σ : ZSt) : Option (Int32 × ZSt) :=
  (s_X10_isShelf p0 σ).bind fun r1 => (if r1 = (0 : Int32) then (some ((-1 : Int32), σ))
    else ((s_X10_isShelf p2 σ).bind fun r2 => (if r2 = (0 : Int32) then (some ((-1 : Int32), σ))
      else (zLd (zIn p0 6) (σ.1 96 p0.toNatClampNeg) fun v3 => (if v3 < (0 : Int32) then (some ((-11 : Int32), σ))
        else (zLd (zIn p2 6) (σ.1 96 p2.toNatClampNeg) fun v4 => (if (0 : Int32) ≤ v4 then (zLd (zIn p0 6) (σ.1 96 p0.toNatClampNeg) fun v5 => (if v5 < (50 : Int32) then (some ((-12 : Int32), σ))
            else (zLd (zIn p0 6) (σ.1 96 p0.toNatClampNeg) fun v6 => (zLd (zIn p2 6) (σ.1 96 p2.toNatClampNeg) fun v7 => (if v6 = v7 then (if p4 < (0 : Int32) then (some ((-13 : Int32), σ))
                else (if p1 < (0 : Int32) then (some ((-13 : Int32), σ))
                  else (if p3 < (0 : Int32) then (some ((-13 : Int32), σ))
                    else (zLd (zIn p0 6) (σ.1 97 p0.toNatClampNeg) fun v8 => (if (v8 - p4) < p1 then (some ((-13 : Int32), σ))
                      else (zLd (zIn p2 6) (σ.1 97 p2.toNatClampNeg) fun v9 => (if p3 ≤ (v9 - p4) then (s_X10_shift_L113 p0 p1 p2 p3 p4 200 (0 : Int32) σ)
                        else (some ((-13 : Int32), σ)))))))))
              else (some ((-12 : Int32), σ)))))))
          else (some ((-11 : Int32), σ)))))))))
set_option maxHeartbeats 4000000 in
set_option maxRecDepth 100000 in
theorem z_X10_shift (g : ZG) (p0 : Int32) (p1 : Int32) (p2 : Int32) (p3 : Int32) (p4 : Int32) (σ : ZSt) : Zo g (mX10_shift g 2) (fun b : Int32 × ZSt => (some (.int b.1), zw b.2)) (s_X10_shift p0 p1 p2 p3 p4 σ) 0 0 0 [some (.ref 68), some (.int p0), some (.int p1), some (.int p2), some (.int p3), some (.int p4), none] [] (zw σ) := by
  unfold s_X10_shift
  refine Zo_iload1 dX10_shift_0 ?_
  refine Zo_cSI1 lk_X10_148 (e_X10_isShelf g _ _) (zFit_rm (by decide)) (zle rfl) dX10_shift_1 fun r1 => ?_
  refine Zo_ifeq 14 dX10_shift_4 (by decide) ?_ ?_
  · refine Zo_iconst (-1 : Int32) dX10_shift_14 ic_m1 ?_
    exact Zo_iret dX10_shift_15 rfl rfl (Nat.le_refl _) (Nat.le_refl _)
  · refine Zo_iload3 dX10_shift_7 ?_
    refine Zo_cSI1 lk_X10_148 (e_X10_isShelf g _ _) (zFit_rm (by decide)) (zle rfl) dX10_shift_8 fun r2 => ?_
    refine Zo_ifne 16 dX10_shift_11 (by decide) ?_ ?_
    · refine Zo_aload0 dX10_shift_16 ?_
      refine Zo_getr (j := 96) fl_X10_91 kd_68 rfl dX10_shift_17 ?_
      refine Zo_iload1 dX10_shift_20 ?_
      refine Zo_iald kd_96 dX10_shift_21 fun v3 => ?_
      refine Zo_iflt 34 dX10_shift_22 (by decide) ?_ ?_
      · refine Zo_bipush (-11 : Int32) dX10_shift_34 bp_m11 ?_
        exact Zo_iret dX10_shift_36 rfl rfl (Nat.le_refl _) (Nat.le_refl _)
      · refine Zo_aload0 dX10_shift_25 ?_
        refine Zo_getr (j := 96) fl_X10_91 kd_68 rfl dX10_shift_26 ?_
        refine Zo_iload3 dX10_shift_29 ?_
        refine Zo_iald kd_96 dX10_shift_30 fun v4 => ?_
        refine Zo_ifge 37 dX10_shift_31 (by decide) ?_ ?_
        · refine Zo_aload0 dX10_shift_37 ?_
          refine Zo_getr (j := 96) fl_X10_91 kd_68 rfl dX10_shift_38 ?_
          refine Zo_iload1 dX10_shift_41 ?_
          refine Zo_iald kd_96 dX10_shift_42 fun v5 => ?_
          refine Zo_bipush (50 : Int32) dX10_shift_43 bp_50 ?_
          refine Zo_icmplt 63 dX10_shift_45 (by decide) ?_ ?_
          · refine Zo_bipush (-12 : Int32) dX10_shift_63 bp_m12 ?_
            exact Zo_iret dX10_shift_65 rfl rfl (Nat.le_refl _) (Nat.le_refl _)
          · refine Zo_aload0 dX10_shift_48 ?_
            refine Zo_getr (j := 96) fl_X10_91 kd_68 rfl dX10_shift_49 ?_
            refine Zo_iload1 dX10_shift_52 ?_
            refine Zo_iald kd_96 dX10_shift_53 fun v6 => ?_
            refine Zo_aload0 dX10_shift_54 ?_
            refine Zo_getr (j := 96) fl_X10_91 kd_68 rfl dX10_shift_55 ?_
            refine Zo_iload3 dX10_shift_58 ?_
            show Zo g _ _ _ 0 0 59 _ _ _
            refine Zo_iald kd_96 dX10_shift_59 fun v7 => ?_
            refine Zo_icmpeq 66 dX10_shift_60 (by decide) ?_ ?_
            · refine Zo_iload5 dX10_shift_66 ?_
              refine Zo_iflt 107 dX10_shift_68 (by decide) ?_ ?_
              · refine Zo_bipush (-13 : Int32) dX10_shift_107 bp_m13 ?_
                exact Zo_iret dX10_shift_109 rfl rfl (Nat.le_refl _) (Nat.le_refl _)
              · refine Zo_iload2 dX10_shift_71 ?_
                refine Zo_iflt 107 dX10_shift_72 (by decide) ?_ ?_
                · refine Zo_bipush (-13 : Int32) dX10_shift_107 bp_m13 ?_
                  exact Zo_iret dX10_shift_109 rfl rfl (Nat.le_refl _) (Nat.le_refl _)
                · refine Zo_iload4 dX10_shift_75 ?_
                  refine Zo_iflt 107 dX10_shift_77 (by decide) ?_ ?_
                  · refine Zo_bipush (-13 : Int32) dX10_shift_107 bp_m13 ?_
                    exact Zo_iret dX10_shift_109 rfl rfl (Nat.le_refl _) (Nat.le_refl _)
                  · refine Zo_iload2 dX10_shift_80 ?_
                    refine Zo_aload0 dX10_shift_81 ?_
                    refine Zo_getr (j := 97) fl_X10_94 kd_68 rfl dX10_shift_82 ?_
                    refine Zo_iload1 dX10_shift_85 ?_
                    refine Zo_iald kd_97 dX10_shift_86 fun v8 => ?_
                    refine Zo_iload5 dX10_shift_87 ?_
                    refine Zo_isub dX10_shift_89 ?_
                    show Zo g _ _ _ 0 0 90 _ _ _
                    refine Zo_icmpgt 107 dX10_shift_90 (by decide) ?_ ?_
                    · refine Zo_bipush (-13 : Int32) dX10_shift_107 bp_m13 ?_
                      exact Zo_iret dX10_shift_109 rfl rfl (Nat.le_refl _) (Nat.le_refl _)
                    · refine Zo_iload4 dX10_shift_93 ?_
                      refine Zo_aload0 dX10_shift_95 ?_
                      refine Zo_getr (j := 97) fl_X10_94 kd_68 rfl dX10_shift_96 ?_
                      refine Zo_iload3 dX10_shift_99 ?_
                      refine Zo_iald kd_97 dX10_shift_100 fun v9 => ?_
                      refine Zo_iload5 dX10_shift_101 ?_
                      refine Zo_isub dX10_shift_103 ?_
                      show Zo g _ _ _ 0 0 104 _ _ _
                      refine Zo_icmple 110 dX10_shift_104 (by decide) ?_ ?_
                      · refine Zo_iconst (0 : Int32) dX10_shift_110 ic_0 ?_
                        refine Zo_istore6 rfl (zlt rfl) dX10_shift_111 ?_
                        exact z_X10_shift_L113 g _ _ _ _ _ _ _ _
                      · refine Zo_bipush (-13 : Int32) dX10_shift_107 bp_m13 ?_
                        exact Zo_iret dX10_shift_109 rfl rfl (Nat.le_refl _) (Nat.le_refl _)
            · refine Zo_bipush (-12 : Int32) dX10_shift_63 bp_m12 ?_
              exact Zo_iret dX10_shift_65 rfl rfl (Nat.le_refl _) (Nat.le_refl _)
        · refine Zo_bipush (-11 : Int32) dX10_shift_34 bp_m11 ?_
          exact Zo_iret dX10_shift_36 rfl rfl (Nat.le_refl _) (Nat.le_refl _)
    · refine Zo_iconst (-1 : Int32) dX10_shift_14 ic_m1 ?_
      exact Zo_iret dX10_shift_15 rfl rfl (Nat.le_refl _) (Nat.le_refl _)
theorem e_X10_shift (g : ZG) (p0 : Int32) (p1 : Int32) (p2 : Int32) (p3 : Int32) (p4 : Int32) (σ : ZSt) : zEvS g 2 yX10_shift cX10_shift 7 (some .int) [.ref 68, .int p0, .int p1, .int p2, .int p3, .int p4] σ (s_X10_shift p0 p1 p2 p3 p4 σ) :=
  zEvS_of 1 rfl rfl (z_X10_shift g p0 p1 p2 p3 p4 σ)
abbrev mX10_taken (g : ZG) (q : Nat) : ZM := (yX10_taken, cX10_taken, 4, (some .int), zRm q 0 0, zTg g 0 0)
def s_X10_taken_C75 (l1 : Int32) (l2 : Int32) (l3 : Int32) (σ : ZSt) : Option Int32 :=
  if l3 = l2 then (zLd (zIn l1 6) (σ.1 96 l1.toNatClampNeg) fun v1 => ((s_X10_kindOf v1 σ).bind fun r2 => (some r2)))
    else (some (-12 : Int32))
set_option maxHeartbeats 4000000 in
set_option maxRecDepth 100000 in
theorem z_X10_taken_C75 (g : ZG) (l1 : Int32) (l2 : Int32) (l3 : Int32) (σ : ZSt) : Zo g (mX10_taken g 2) (fun b : Int32 => (some (.int b), zw σ)) (s_X10_taken_C75 l1 l2 l3 σ) 0 0 75 [some (.ref 68), some (.int l1), some (.int l2), some (.int l3)] [] (zw σ) := by
  unfold s_X10_taken_C75
  refine Zo_iload3 dX10_taken_75 ?_
  refine Zo_iload2 dX10_taken_76 ?_
  refine Zo_icmpne 93 dX10_taken_77 (by decide) ?_ ?_
  · refine Zo_bipush (-12 : Int32) dX10_taken_93 bp_m12 ?_
    exact Zo_iret dX10_taken_95 rfl rfl (Nat.le_refl _) (Nat.le_refl _)
  · refine Zo_aload0 dX10_taken_80 ?_
    refine Zo_aload0 dX10_taken_81 ?_
    refine Zo_getr (j := 96) fl_X10_91 kd_68 rfl dX10_taken_82 ?_
    refine Zo_iload1 dX10_taken_85 ?_
    refine Zo_iald kd_96 dX10_taken_86 fun v1 => ?_
    refine Zo_cVI1 lk_X10_363 (e_X10_kindOf g _ _) kd_68 (zFit_rm (by decide)) (zle rfl) dX10_taken_87 fun r2 => ?_
    refine Zo_goto 95 dX10_taken_90 (by decide) ?_
    show Zo g _ _ _ 0 0 95 _ _ _
    exact Zo_iret dX10_taken_95 rfl rfl (Nat.le_refl _) (Nat.le_refl _)
def s_X10_taken_L58 (l1 : Int32) (l2 : Int32) (σ : ZSt) : Nat → Int32 → Option Int32
  | 0, _ => none
  | n + 1, l3 =>
    if l3 = l2 then (s_X10_taken_C75 l1 l2 l3 σ)
      else (if l3 ≤ (0 : Int32) then (s_X10_taken_C75 l1 l2 l3 σ)
        else ((s_X10_above l3 σ).bind fun r1 => (s_X10_taken_L58 l1 l2 σ n r1)))
set_option maxHeartbeats 4000000 in
set_option maxRecDepth 100000 in
theorem z_X10_taken_L58 (g : ZG) (l1 : Int32) (l2 : Int32) (σ : ZSt) : ∀ (n : Nat) (l3 : Int32), Zo g (mX10_taken g 2) (fun b : Int32 => (some (.int b), zw σ)) (s_X10_taken_L58 l1 l2 σ n l3) 0 0 58 [some (.ref 68), some (.int l1), some (.int l2), some (.int l3)] [] (zw σ) := by
  intro n
  induction n with
  | zero => intros; exact Zo_none
  | succ n ih =>
    intro l3
    rw [s_X10_taken_L58]
    refine Zo_iload3 dX10_taken_58 ?_
    refine Zo_iload2 dX10_taken_59 ?_
    refine Zo_icmpeq 75 dX10_taken_60 (by decide) ?_ ?_
    · exact z_X10_taken_C75 g _ _ _ _ 
    · refine Zo_iload3 dX10_taken_63 ?_
      refine Zo_ifle 75 dX10_taken_64 (by decide) ?_ ?_
      · exact z_X10_taken_C75 g _ _ _ _ 
      · refine Zo_iload3 dX10_taken_67 ?_
        refine Zo_cSI1 lk_X10_366 (e_X10_above g _ _) (zFit_rm (by decide)) (zle rfl) dX10_taken_68 fun r1 => ?_
        refine Zo_istore3 rfl (zlt rfl) dX10_taken_71 ?_
        refine Zo_goto 58 dX10_taken_72 (by decide) ?_
        exact ih _
def s_X10_taken (p0 : Int32) (p1 : Int32) (σ : ZSt) : Option Int32 :=
  (s_X10_isShelf p0 σ).bind fun r1 => (if r1 = (0 : Int32) then (some (-1 : Int32))
    else ((s_X10_within (p1.toInt64) (0 : Int64) (7 : Int64) σ).bind fun r2 => (if r2 = (0 : Int32) then (some (-1 : Int32))
      else (zLd (zIn p0 6) (σ.1 96 p0.toNatClampNeg) fun v3 => (if (0 : Int32) ≤ v3 then (zLd (zIn p0 6) (σ.1 96 p0.toNatClampNeg) fun v4 => (if v4 < (50 : Int32) then (zLd (zIn p0 6) (σ.1 96 p0.toNatClampNeg) fun v5 => ((s_X10_kindOf v5 σ).bind fun r6 => (s_X10_taken_L58 p0 p1 σ 200 r6)))
          else (some (-12 : Int32))))
        else (some (-11 : Int32)))))))
set_option maxHeartbeats 4000000 in
set_option maxRecDepth 100000 in
theorem z_X10_taken (g : ZG) (p0 : Int32) (p1 : Int32) (σ : ZSt) : Zo g (mX10_taken g 2) (fun b : Int32 => (some (.int b), zw σ)) (s_X10_taken p0 p1 σ) 0 0 0 [some (.ref 68), some (.int p0), some (.int p1), none] [] (zw σ) := by
  unfold s_X10_taken
  refine Zo_iload1 dX10_taken_0 ?_
  refine Zo_cSI1 lk_X10_148 (e_X10_isShelf g _ _) (zFit_rm (by decide)) (zle rfl) dX10_taken_1 fun r1 => ?_
  refine Zo_ifeq 19 dX10_taken_4 (by decide) ?_ ?_
  · refine Zo_iconst (-1 : Int32) dX10_taken_19 ic_m1 ?_
    exact Zo_iret dX10_taken_20 rfl rfl (Nat.le_refl _) (Nat.le_refl _)
  · refine Zo_iload2 dX10_taken_7 ?_
    refine Zo_i2l dX10_taken_8 ?_
    refine Zo_lconst (0 : Int64) dX10_taken_9 lc_0 ?_
    refine Zo_ldc2 rfl cw_X10_321 dX10_taken_10 ?_
    refine Zo_cSI3 lk_X10_120 (e_X10_within g _ _ _ _) (zFit_rm (by decide)) (zle rfl) dX10_taken_13 fun r2 => ?_
    refine Zo_ifne 21 dX10_taken_16 (by decide) ?_ ?_
    · refine Zo_aload0 dX10_taken_21 ?_
      refine Zo_getr (j := 96) fl_X10_91 kd_68 rfl dX10_taken_22 ?_
      refine Zo_iload1 dX10_taken_25 ?_
      refine Zo_iald kd_96 dX10_taken_26 fun v3 => ?_
      refine Zo_ifge 33 dX10_taken_27 (by decide) ?_ ?_
      · refine Zo_aload0 dX10_taken_33 ?_
        refine Zo_getr (j := 96) fl_X10_91 kd_68 rfl dX10_taken_34 ?_
        refine Zo_iload1 dX10_taken_37 ?_
        refine Zo_iald kd_96 dX10_taken_38 fun v4 => ?_
        refine Zo_bipush (50 : Int32) dX10_taken_39 bp_50 ?_
        refine Zo_icmplt 47 dX10_taken_41 (by decide) ?_ ?_
        · refine Zo_aload0 dX10_taken_47 ?_
          refine Zo_aload0 dX10_taken_48 ?_
          refine Zo_getr (j := 96) fl_X10_91 kd_68 rfl dX10_taken_49 ?_
          refine Zo_iload1 dX10_taken_52 ?_
          refine Zo_iald kd_96 dX10_taken_53 fun v5 => ?_
          refine Zo_cVI1 lk_X10_363 (e_X10_kindOf g _ _) kd_68 (zFit_rm (by decide)) (zle rfl) dX10_taken_54 fun r6 => ?_
          refine Zo_istore3 rfl (zlt rfl) dX10_taken_57 ?_
          exact z_X10_taken_L58 g _ _ _ _ _
        · refine Zo_bipush (-12 : Int32) dX10_taken_44 bp_m12 ?_
          exact Zo_iret dX10_taken_46 rfl rfl (Nat.le_refl _) (Nat.le_refl _)
      · refine Zo_bipush (-11 : Int32) dX10_taken_30 bp_m11 ?_
        exact Zo_iret dX10_taken_32 rfl rfl (Nat.le_refl _) (Nat.le_refl _)
    · refine Zo_iconst (-1 : Int32) dX10_taken_19 ic_m1 ?_
      exact Zo_iret dX10_taken_20 rfl rfl (Nat.le_refl _) (Nat.le_refl _)
theorem e_X10_taken (g : ZG) (p0 : Int32) (p1 : Int32) (σ : ZSt) : zEvI g 2 yX10_taken cX10_taken 4 (some .int) [.ref 68, .int p0, .int p1] σ (s_X10_taken p0 p1 σ) :=
  zEvI_of 1 rfl rfl (z_X10_taken g p0 p1 σ)
abbrev mX10_count (g : ZG) (q : Nat) : ZM := (yX10_count, cX10_count, 2, (some .int), zRm q 0 0, zTg g 0 0)
def s_X10_count (p0 : Int32) (σ : ZSt) : Option Int32 :=
  if p0 = (0 : Int32) then (some (σ.1 68 6))
    else (if p0 = (1 : Int32) then (some (σ.1 68 10))
    else (if p0 = (2 : Int32) then (some (σ.1 68 13))
    else (if p0 = (3 : Int32) then (some (σ.1 68 19))
    else (if p0 = (4 : Int32) then (some (σ.1 68 5))
    else (if p0 = (5 : Int32) then (some (σ.1 68 39))
    else (if p0 = (6 : Int32) then (some (σ.1 68 42))
    else (some (-1 : Int32))))))))
set_option maxHeartbeats 4000000 in
set_option maxRecDepth 100000 in
theorem z_X10_count (g : ZG) (p0 : Int32) (σ : ZSt) : Zo g (mX10_count g 0) (fun b : Int32 => (some (.int b), zw σ)) (s_X10_count p0 σ) 0 0 0 [some (.ref 68), some (.int p0)] [] (zw σ) := by
  unfold s_X10_count
  refine Zo_iload1 dX10_count_0 ?_
  refine Zo_ite (fun hc0 => ?_) (fun hc0 => ?_)
  · refine Zo_tswC (off := 43) (0 : Int32) 44 hc0 dX10_count_1 (by decide) (by decide) (by decide) (by decide) ?_
    refine Zo_aload0 dX10_count_44 ?_
    refine Zo_geti fl_X10_117 kd_68 dX10_count_45 ?_
    exact Zo_iret dX10_count_48 rfl rfl (Nat.le_refl _) (Nat.le_refl _)
  refine Zo_ite (fun hc1 => ?_) (fun hc1 => ?_)
  · refine Zo_tswC (off := 48) (1 : Int32) 49 hc1 dX10_count_1 (by decide) (by decide) (by decide) (by decide) ?_
    refine Zo_aload0 dX10_count_49 ?_
    refine Zo_geti fl_X10_124 kd_68 dX10_count_50 ?_
    exact Zo_iret dX10_count_53 rfl rfl (Nat.le_refl _) (Nat.le_refl _)
  refine Zo_ite (fun hc2 => ?_) (fun hc2 => ?_)
  · refine Zo_tswC (off := 53) (2 : Int32) 54 hc2 dX10_count_1 (by decide) (by decide) (by decide) (by decide) ?_
    refine Zo_aload0 dX10_count_54 ?_
    refine Zo_geti fl_X10_127 kd_68 dX10_count_55 ?_
    exact Zo_iret dX10_count_58 rfl rfl (Nat.le_refl _) (Nat.le_refl _)
  refine Zo_ite (fun hc3 => ?_) (fun hc3 => ?_)
  · refine Zo_tswC (off := 58) (3 : Int32) 59 hc3 dX10_count_1 (by decide) (by decide) (by decide) (by decide) ?_
    refine Zo_aload0 dX10_count_59 ?_
    refine Zo_geti fl_X10_236 kd_68 dX10_count_60 ?_
    exact Zo_iret dX10_count_63 rfl rfl (Nat.le_refl _) (Nat.le_refl _)
  refine Zo_ite (fun hc4 => ?_) (fun hc4 => ?_)
  · refine Zo_tswC (off := 63) (4 : Int32) 64 hc4 dX10_count_1 (by decide) (by decide) (by decide) (by decide) ?_
    refine Zo_aload0 dX10_count_64 ?_
    refine Zo_geti fl_X10_111 kd_68 dX10_count_65 ?_
    exact Zo_iret dX10_count_68 rfl rfl (Nat.le_refl _) (Nat.le_refl _)
  refine Zo_ite (fun hc5 => ?_) (fun hc5 => ?_)
  · refine Zo_tswC (off := 68) (5 : Int32) 69 hc5 dX10_count_1 (by decide) (by decide) (by decide) (by decide) ?_
    refine Zo_aload0 dX10_count_69 ?_
    refine Zo_geti fl_X10_318 kd_68 dX10_count_70 ?_
    exact Zo_iret dX10_count_73 rfl rfl (Nat.le_refl _) (Nat.le_refl _)
  refine Zo_ite (fun hc6 => ?_) (fun hc6 => ?_)
  · refine Zo_tswC (off := 73) (6 : Int32) 74 hc6 dX10_count_1 (by decide) (by decide) (by decide) (by decide) ?_
    refine Zo_aload0 dX10_count_74 ?_
    refine Zo_geti fl_X10_323 kd_68 dX10_count_75 ?_
    exact Zo_iret dX10_count_78 rfl rfl (Nat.le_refl _) (Nat.le_refl _)
  refine Zo_tswOut 79 dX10_count_1 (by have a0 := zne_0 hc0; have a1 := zne_1 hc1; have a2 := zne_2 hc2; have a3 := zne_3 hc3; have a4 := zne_4 hc4; have a5 := zne_5 hc5; have a6 := zne_6 hc6; omega) (by decide) ?_
  refine Zo_iconst (-1 : Int32) dX10_count_79 ic_m1 ?_
  exact Zo_iret dX10_count_80 rfl rfl (Nat.le_refl _) (Nat.le_refl _)
theorem e_X10_count (g : ZG) (p0 : Int32) (σ : ZSt) : zEvI g 0 yX10_count cX10_count 2 (some .int) [.ref 68, .int p0] σ (s_X10_count p0 σ) :=
  zEvI_of 0 rfl rfl (z_X10_count g p0 σ)
