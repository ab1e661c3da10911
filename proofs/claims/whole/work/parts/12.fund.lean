abbrev mX2_share (g : ZG) (q : Nat) : ZM := (yX2_share, cX2_share, 8, none, zRm q 0 0, zTg g 0 0)
def s_X2_share_C128 (k25 : Int32 → Int32 → Int32 → ZSt → Option ZSt) (l1 : Int32) (l2 : Int32) (l3 : Int32) (l4 : Int32) (l5 : Int32) (l6 : Int32) (l7 : Int32) (k_1 : Int32) (k_2 : Int32) (σ : ZSt) : Option ZSt :=
  zSg (zIn k_1 30) (zWD σ 16 k_1.toNatClampNeg k_2) fun σ1 => (zLd (zIn (σ1.1 15 4) 30) (σ1.1 16 (σ1.1 15 4).toNatClampNeg) fun v2 => (if l6 = (-1 : Int32) then (zLd (zIn (σ1.1 15 4) 30) (σ1.1 17 (σ1.1 15 4).toNatClampNeg) fun v4 => (if v4 ≤ (0 : Int32) then (zSt' (zWD σ1 15 4 ((σ1.1 15 4) + (1 : Int32))) fun σ5 => (k25 (l5 - v2) l6 (l7 + (1 : Int32)) σ5))
      else (zSt' (zWD σ1 15 4 ((σ1.1 15 4) + (1 : Int32))) fun σ6 => (k25 (l5 - v2) (σ1.1 15 4) (l7 + (1 : Int32)) σ6))))
    else (zSt' (zWD σ1 15 4 ((σ1.1 15 4) + (1 : Int32))) fun σ3 => (k25 (l5 - v2) l6 (l7 + (1 : Int32)) σ3))))
set_option maxHeartbeats 4000000 in
set_option maxRecDepth 100000 in
theorem z_X2_share_C128 (g : ZG) (k25 : Int32 → Int32 → Int32 → ZSt → Option ZSt) (l1 : Int32) (l2 : Int32) (l3 : Int32) (l4 : Int32) (l5 : Int32) (l6 : Int32) (l7 : Int32) (k_1 : Int32) (k_2 : Int32) (σ : ZSt) (hk25 : ∀ (x5 : Int32) (x6 : Int32) (x7 : Int32) (σx : ZSt), Zo g (mX2_share g 4) (fun b : ZSt => (none, zw b)) (k25 x5 x6 x7 σx) 0 0 25 [some (.ref 15), some (.int l1), some (.int l2), some (.int l3), some (.int l4), some (.int x5), some (.int x6), some (.int x7)] [] (zw σx)) : Zo g (mX2_share g 4) (fun b : ZSt => (none, zw b)) (s_X2_share_C128 k25 l1 l2 l3 l4 l5 l6 l7 k_1 k_2 σ) 0 0 128 [some (.ref 15), some (.int l1), some (.int l2), some (.int l3), some (.int l4), some (.int l5), some (.int l6), some (.int l7)] [.int k_2, .int k_1, .ref 16] (zw σ) := by
  unfold s_X2_share_C128
  refine Zo_iast kd_16 dX2_share_128 fun σ1 => ?_
  refine Zo_iload5 dX2_share_129 ?_
  refine Zo_aload0 dX2_share_131 ?_
  refine Zo_getr (j := 16) fl_X2_9 kd_15 rfl dX2_share_132 ?_
  refine Zo_aload0 dX2_share_135 ?_
  refine Zo_geti fl_X2_31 kd_15 dX2_share_136 ?_
  refine Zo_iald kd_16 dX2_share_139 fun v2 => ?_
  show Zo g _ _ _ 0 0 140 _ _ _
  refine Zo_isub dX2_share_140 ?_
  refine Zo_istore5 rfl (zlt rfl) dX2_share_141 ?_
  refine Zo_iload6 dX2_share_143 ?_
  refine Zo_iconst (-1 : Int32) dX2_share_145 ic_m1 ?_
  refine Zo_icmpne 167 dX2_share_146 (by decide) ?_ ?_
  · refine Zo_aload0 dX2_share_167 ?_
    refine Zo_dup dX2_share_168 rfl ?_
    refine Zo_geti fl_X2_31 kd_15 dX2_share_169 ?_
    refine Zo_iconst (1 : Int32) dX2_share_172 ic_1 ?_
    refine Zo_iadd dX2_share_173 ?_
    refine Zo_puti fl_X2_31 kd_15 dX2_share_174 fun σ3 => ?_
    refine Zo_iinc7 rfl (1 : Int32) ic_1 (zlt rfl) dX2_share_177 ?_
    show Zo g _ _ _ 0 0 180 _ _ _
    refine Zo_goto 25 dX2_share_180 (by decide) ?_
    exact hk25 _ _ _ _
  · refine Zo_aload0 dX2_share_149 ?_
    refine Zo_getr (j := 17) fl_X2_15 kd_15 rfl dX2_share_150 ?_
    refine Zo_aload0 dX2_share_153 ?_
    refine Zo_geti fl_X2_31 kd_15 dX2_share_154 ?_
    refine Zo_iald kd_17 dX2_share_157 fun v4 => ?_
    refine Zo_ifle 167 dX2_share_158 (by decide) ?_ ?_
    · refine Zo_aload0 dX2_share_167 ?_
      refine Zo_dup dX2_share_168 rfl ?_
      refine Zo_geti fl_X2_31 kd_15 dX2_share_169 ?_
      refine Zo_iconst (1 : Int32) dX2_share_172 ic_1 ?_
      refine Zo_iadd dX2_share_173 ?_
      refine Zo_puti fl_X2_31 kd_15 dX2_share_174 fun σ5 => ?_
      refine Zo_iinc7 rfl (1 : Int32) ic_1 (zlt rfl) dX2_share_177 ?_
      show Zo g _ _ _ 0 0 180 _ _ _
      refine Zo_goto 25 dX2_share_180 (by decide) ?_
      exact hk25 _ _ _ _
    · refine Zo_aload0 dX2_share_161 ?_
      refine Zo_geti fl_X2_31 kd_15 dX2_share_162 ?_
      refine Zo_istore6 rfl (zlt rfl) dX2_share_165 ?_
      refine Zo_aload0 dX2_share_167 ?_
      refine Zo_dup dX2_share_168 rfl ?_
      refine Zo_geti fl_X2_31 kd_15 dX2_share_169 ?_
      refine Zo_iconst (1 : Int32) dX2_share_172 ic_1 ?_
      show Zo g _ _ _ 0 0 173 _ _ _
      refine Zo_iadd dX2_share_173 ?_
      refine Zo_puti fl_X2_31 kd_15 dX2_share_174 fun σ6 => ?_
      refine Zo_iinc7 rfl (1 : Int32) ic_1 (zlt rfl) dX2_share_177 ?_
      refine Zo_goto 25 dX2_share_180 (by decide) ?_
      exact hk25 _ _ _ _
def s_X2_share_C183 (l5 : Int32) (l6 : Int32) (σ : ZSt) : Option ZSt :=
  if l6 = (-1 : Int32) then (some σ)
    else (zLd (zIn l6 30) (σ.1 16 l6.toNatClampNeg) fun v1 => (zSg (zIn l6 30) (zWD σ 16 l6.toNatClampNeg (v1 + l5)) fun σ2 => (some σ2)))
set_option maxHeartbeats 4000000 in
set_option maxRecDepth 100000 in
theorem z_X2_share_C183 (g : ZG) (l5 : Int32) (l6 : Int32) (σ : ZSt) (o1 : Option Value) (o2 : Option Value) (o3 : Option Value) (o4 : Option Value) (o7 : Option Value) : Zo g (mX2_share g 4) (fun b : ZSt => (none, zw b)) (s_X2_share_C183 l5 l6 σ) 0 0 183 [some (.ref 15), o1, o2, o3, o4, some (.int l5), some (.int l6), o7] [] (zw σ) := by
  unfold s_X2_share_C183
  refine Zo_iload6 dX2_share_183 ?_
  refine Zo_iconst (-1 : Int32) dX2_share_185 ic_m1 ?_
  refine Zo_icmpeq 201 dX2_share_186 (by decide) ?_ ?_
  · exact Zo_vret dX2_share_201 rfl rfl (Nat.le_refl _) (Nat.le_refl _)
  · refine Zo_aload0 dX2_share_189 ?_
    refine Zo_getr (j := 16) fl_X2_9 kd_15 rfl dX2_share_190 ?_
    refine Zo_iload6 dX2_share_193 ?_
    refine Zo_dup2 dX2_share_195 rfl rfl ?_
    refine Zo_iald kd_16 dX2_share_196 fun v1 => ?_
    refine Zo_iload5 dX2_share_197 ?_
    refine Zo_iadd dX2_share_199 ?_
    show Zo g _ _ _ 0 0 200 _ _ _
    refine Zo_iast kd_16 dX2_share_200 fun σ2 => ?_
    exact Zo_vret dX2_share_201 rfl rfl (Nat.le_refl _) (Nat.le_refl _)
def s_X2_share_L25 (l1 : Int32) (l2 : Int32) (l3 : Int32) (l4 : Int32) : Nat → Int32 → Int32 → Int32 → ZSt → Option ZSt
  | 0, _, _, _, _ => none
  | n + 1, l5, l6, l7, σ =>
    if (30 : Int32) ≤ l7 then (s_X2_share_C183 l5 l6 σ)
      else ((s_X7_isOf l7 l1 σ).bind fun r1 => (if r1 = (0 : Int32) then (s_X2_share_L25 l1 l2 l3 l4 n l5 l6 (l7 + (1 : Int32)) σ)
        else ((s_X7_harmTo l7 l2 σ).bind fun r2 => (zSg (zIn (σ.1 15 4) 30) (zWD σ 17 (σ.1 15 4).toNatClampNeg r2) fun σ3 => ((s_X7_purse l7 σ3).bind fun r4 => (zSg (zIn (σ3.1 15 4) 30) (zWD σ3 18 (σ3.1 15 4).toNatClampNeg r4) fun σ5 => (zLd (zIn (σ5.1 15 4) 30) (σ5.1 17 (σ5.1 15 4).toNatClampNeg) fun v6 => (if v6 ≤ (0 : Int32) then (s_X2_share_C128 (s_X2_share_L25 l1 l2 l3 l4 n) l1 l2 l3 l4 l5 l6 l7 (σ5.1 15 4) (0 : Int32) σ5)
          else (if l4 ≤ (0 : Int32) then (s_X2_share_C128 (s_X2_share_L25 l1 l2 l3 l4 n) l1 l2 l3 l4 l5 l6 l7 (σ5.1 15 4) (0 : Int32) σ5)
            else (zLd (zIn (σ5.1 15 4) 30) (σ5.1 17 (σ5.1 15 4).toNatClampNeg) fun v7 => (if l4 = (0 : Int32) then none else (s_X2_share_C128 (s_X2_share_L25 l1 l2 l3 l4 n) l1 l2 l3 l4 l5 l6 l7 (σ5.1 15 4) ((l3 * v7) / l4) σ5))))))))))))
set_option maxHeartbeats 4000000 in
set_option maxRecDepth 100000 in
theorem z_X2_share_L25 (g : ZG) (l1 : Int32) (l2 : Int32) (l3 : Int32) (l4 : Int32) : ∀ (n : Nat) (l5 : Int32) (l6 : Int32) (l7 : Int32) (σ : ZSt), Zo g (mX2_share g 4) (fun b : ZSt => (none, zw b)) (s_X2_share_L25 l1 l2 l3 l4 n l5 l6 l7 σ) 0 0 25 [some (.ref 15), some (.int l1), some (.int l2), some (.int l3), some (.int l4), some (.int l5), some (.int l6), some (.int l7)] [] (zw σ) := by
  intro n
  induction n with
  | zero => intros; exact Zo_none
  | succ n ih =>
    intro l5 l6 l7 σ
    rw [s_X2_share_L25]
    refine Zo_iload7 dX2_share_25 ?_
    refine Zo_bipush (30 : Int32) dX2_share_27 bp_30 ?_
    refine Zo_icmpge 183 dX2_share_29 (by decide) ?_ ?_
    · exact z_X2_share_C183 g _ _ _ _ _ _ _ _
    · refine Zo_aload0 dX2_share_32 ?_
      refine Zo_getr (j := 1) fl_X2_21 kd_15 rfl dX2_share_33 ?_
      refine Zo_iload7 dX2_share_36 ?_
      refine Zo_iload1 dX2_share_38 ?_
      refine Zo_cVI2 lk_X2_35 (e_X7_isOf g _ _ _) kd_1 (zFit_rm (by decide)) (zle rfl) dX2_share_39 fun r1 => ?_
      refine Zo_ifne 48 dX2_share_42 (by decide) ?_ ?_
      · refine Zo_aload0 dX2_share_48 ?_
        refine Zo_getr (j := 17) fl_X2_15 kd_15 rfl dX2_share_49 ?_
        refine Zo_aload0 dX2_share_52 ?_
        refine Zo_geti fl_X2_31 kd_15 dX2_share_53 ?_
        refine Zo_aload0 dX2_share_56 ?_
        refine Zo_getr (j := 1) fl_X2_21 kd_15 rfl dX2_share_57 ?_
        refine Zo_iload7 dX2_share_60 ?_
        show Zo g _ _ _ 0 0 62 _ _ _
        refine Zo_iload2 dX2_share_62 ?_
        refine Zo_cVI2 lk_X2_39 (e_X7_harmTo g _ _ _) kd_1 (zFit_rm (by decide)) (zle rfl) dX2_share_63 fun r2 => ?_
        refine Zo_iast kd_17 dX2_share_66 fun σ3 => ?_
        refine Zo_aload0 dX2_share_67 ?_
        refine Zo_getr (j := 18) fl_X2_18 kd_15 rfl dX2_share_68 ?_
        refine Zo_aload0 dX2_share_71 ?_
        refine Zo_geti fl_X2_31 kd_15 dX2_share_72 ?_
        refine Zo_aload0 dX2_share_75 ?_
        show Zo g _ _ _ 0 0 76 _ _ _
        refine Zo_getr (j := 1) fl_X2_21 kd_15 rfl dX2_share_76 ?_
        refine Zo_iload7 dX2_share_79 ?_
        refine Zo_cVI1 lk_X2_42 (e_X7_purse g _ _) kd_1 (zFit_rm (by decide)) (zle rfl) dX2_share_81 fun r4 => ?_
        refine Zo_iast kd_18 dX2_share_84 fun σ5 => ?_
        refine Zo_aload0 dX2_share_85 ?_
        refine Zo_getr (j := 16) fl_X2_9 kd_15 rfl dX2_share_86 ?_
        refine Zo_aload0 dX2_share_89 ?_
        refine Zo_geti fl_X2_31 kd_15 dX2_share_90 ?_
        show Zo g _ _ _ 0 0 93 _ _ _
        refine Zo_aload0 dX2_share_93 ?_
        refine Zo_getr (j := 17) fl_X2_15 kd_15 rfl dX2_share_94 ?_
        refine Zo_aload0 dX2_share_97 ?_
        refine Zo_geti fl_X2_31 kd_15 dX2_share_98 ?_
        refine Zo_iald kd_17 dX2_share_101 fun v6 => ?_
        refine Zo_ifle 127 dX2_share_102 (by decide) ?_ ?_
        · refine Zo_iconst (0 : Int32) dX2_share_127 ic_0 ?_
          exact z_X2_share_C128 g (s_X2_share_L25 l1 l2 l3 l4 n) _ _ _ _ _ _ _ _ _ _ ih 
        · refine Zo_iload4 dX2_share_105 ?_
          refine Zo_ifle 127 dX2_share_107 (by decide) ?_ ?_
          · refine Zo_iconst (0 : Int32) dX2_share_127 ic_0 ?_
            exact z_X2_share_C128 g (s_X2_share_L25 l1 l2 l3 l4 n) _ _ _ _ _ _ _ _ _ _ ih 
          · refine Zo_iload3 dX2_share_110 ?_
            refine Zo_aload0 dX2_share_111 ?_
            refine Zo_getr (j := 17) fl_X2_15 kd_15 rfl dX2_share_112 ?_
            refine Zo_aload0 dX2_share_115 ?_
            refine Zo_geti fl_X2_31 kd_15 dX2_share_116 ?_
            refine Zo_iald kd_17 dX2_share_119 fun v7 => ?_
            refine Zo_imul dX2_share_120 ?_
            show Zo g _ _ _ 0 0 121 _ _ _
            refine Zo_iload4 dX2_share_121 ?_
            refine Zo_gn fun hn8 => ?_
            refine Zo_idiv dX2_share_123 hn8 ?_
            refine Zo_goto 128 dX2_share_124 (by decide) ?_
            exact z_X2_share_C128 g (s_X2_share_L25 l1 l2 l3 l4 n) _ _ _ _ _ _ _ _ _ _ ih 
      · refine Zo_goto 177 dX2_share_45 (by decide) ?_
        refine Zo_iinc7 rfl (1 : Int32) ic_1 (zlt rfl) dX2_share_177 ?_
        refine Zo_goto 25 dX2_share_180 (by decide) ?_
        exact ih _ _ _ _
def s_X2_share (p0 : Int32) (p1 : Int32) (p2 : Int32) (σ : ZSt) : Option ZSt :=
  (s_X7_most p0 p1 σ).bind fun r1 => (zSt' (zWD σ 15 4 (0 : Int32)) fun σ2 => (s_X2_share_L25 p0 p1 p2 r1 200 p2 (-1 : Int32) (0 : Int32) σ2))
set_option maxHeartbeats 4000000 in
set_option maxRecDepth 100000 in
theorem z_X2_share (g : ZG) (p0 : Int32) (p1 : Int32) (p2 : Int32) (σ : ZSt) : Zo g (mX2_share g 4) (fun b : ZSt => (none, zw b)) (s_X2_share p0 p1 p2 σ) 0 0 0 [some (.ref 15), some (.int p0), some (.int p1), some (.int p2), none, none, none, none] [] (zw σ) := by
  unfold s_X2_share
  refine Zo_aload0 dX2_share_0 ?_
  refine Zo_getr (j := 1) fl_X2_21 kd_15 rfl dX2_share_1 ?_
  refine Zo_iload1 dX2_share_4 ?_
  refine Zo_iload2 dX2_share_5 ?_
  refine Zo_cVI2 lk_X2_25 (e_X7_most g _ _ _) kd_1 (zFit_rm (by decide)) (zle rfl) dX2_share_6 fun r1 => ?_
  refine Zo_istore4 rfl (zlt rfl) dX2_share_9 ?_
  refine Zo_iload3 dX2_share_11 ?_
  show Zo g _ _ _ 0 0 12 _ _ _
  refine Zo_istore5 rfl (zlt rfl) dX2_share_12 ?_
  refine Zo_iconst (-1 : Int32) dX2_share_14 ic_m1 ?_
  refine Zo_istore6 rfl (zlt rfl) dX2_share_15 ?_
  refine Zo_aload0 dX2_share_17 ?_
  refine Zo_iconst (0 : Int32) dX2_share_18 ic_0 ?_
  refine Zo_puti fl_X2_31 kd_15 dX2_share_19 fun σ2 => ?_
  refine Zo_iconst (0 : Int32) dX2_share_22 ic_0 ?_
  refine Zo_istore7 rfl (zlt rfl) dX2_share_23 ?_
  exact z_X2_share_L25 g _ _ _ _ _ _ _ _ _
theorem e_X2_share (g : ZG) (p0 : Int32) (p1 : Int32) (p2 : Int32) (σ : ZSt) : zEvV g 4 yX2_share cX2_share 8 none [.ref 15, .int p0, .int p1, .int p2] σ (s_X2_share p0 p1 p2 σ) :=
  zEvV_of 4 rfl rfl (z_X2_share g p0 p1 p2 σ)
abbrev mX2_isAboveHarm (g : ZG) (q : Nat) : ZM := (yX2_isAboveHarm, cX2_isAboveHarm, 2, (some .boolean), zRm q 0 0, zTg g 0 0)
def s_X2_isAboveHarm (p0 : Int32) (σ : ZSt) : Option Int32 :=
  zLd (zIn p0 30) (σ.1 17 p0.toNatClampNeg) fun v1 => (if v1 ≤ (0 : Int32) then (some (0 : Int32))
    else (zLd (zIn p0 30) (σ.1 16 p0.toNatClampNeg) fun v2 => (zLd (zIn p0 30) (σ.1 17 p0.toNatClampNeg) fun v3 => (if v2 ≤ v3 then (some (0 : Int32))
      else (some (1 : Int32))))))
set_option maxHeartbeats 4000000 in
set_option maxRecDepth 100000 in
theorem z_X2_isAboveHarm (g : ZG) (p0 : Int32) (σ : ZSt) : Zo g (mX2_isAboveHarm g 0) (fun b : Int32 => (some (.int b), zw σ)) (s_X2_isAboveHarm p0 σ) 0 0 0 [some (.ref 15), some (.int p0)] [] (zw σ) := by
  unfold s_X2_isAboveHarm
  refine Zo_aload0 dX2_isAboveHarm_0 ?_
  refine Zo_getr (j := 17) fl_X2_15 kd_15 rfl dX2_isAboveHarm_1 ?_
  refine Zo_iload1 dX2_isAboveHarm_4 ?_
  refine Zo_iald kd_17 dX2_isAboveHarm_5 fun v1 => ?_
  refine Zo_ifle 28 dX2_isAboveHarm_6 (by decide) ?_ ?_
  · refine Zo_iconst (0 : Int32) dX2_isAboveHarm_28 ic_0 ?_
    exact Zo_zret dX2_isAboveHarm_29 rfl rfl (Or.inl rfl) (Nat.le_refl _) (Nat.le_refl _)
  · refine Zo_aload0 dX2_isAboveHarm_9 ?_
    refine Zo_getr (j := 16) fl_X2_9 kd_15 rfl dX2_isAboveHarm_10 ?_
    refine Zo_iload1 dX2_isAboveHarm_13 ?_
    refine Zo_iald kd_16 dX2_isAboveHarm_14 fun v2 => ?_
    refine Zo_aload0 dX2_isAboveHarm_15 ?_
    refine Zo_getr (j := 17) fl_X2_15 kd_15 rfl dX2_isAboveHarm_16 ?_
    refine Zo_iload1 dX2_isAboveHarm_19 ?_
    show Zo g _ _ _ 0 0 20 _ _ _
    refine Zo_iald kd_17 dX2_isAboveHarm_20 fun v3 => ?_
    refine Zo_icmple 28 dX2_isAboveHarm_21 (by decide) ?_ ?_
    · refine Zo_iconst (0 : Int32) dX2_isAboveHarm_28 ic_0 ?_
      exact Zo_zret dX2_isAboveHarm_29 rfl rfl (Or.inl rfl) (Nat.le_refl _) (Nat.le_refl _)
    · refine Zo_iconst (1 : Int32) dX2_isAboveHarm_24 ic_1 ?_
      refine Zo_goto 29 dX2_isAboveHarm_25 (by decide) ?_
      exact Zo_zret dX2_isAboveHarm_29 rfl rfl (Or.inr rfl) (Nat.le_refl _) (Nat.le_refl _)
theorem e_X2_isAboveHarm (g : ZG) (p0 : Int32) (σ : ZSt) : zEvI g 0 yX2_isAboveHarm cX2_isAboveHarm 2 (some .boolean) [.ref 15, .int p0] σ (s_X2_isAboveHarm p0 σ) :=
  zEvI_of 0 rfl rfl (z_X2_isAboveHarm g p0 σ)
abbrev mX2_holds (g : ZG) (q : Nat) : ZM := (yX2_holds, cX2_holds, 2, (some .boolean), zRm q 0 0, zTg g 0 0)
def s_X2_holds_L2 (σ : ZSt) : Nat → Int32 → Option Int32
  | 0, _ => none
  | n + 1, l1 =>
    if (σ.1 15 4) ≤ l1 then (some (1 : Int32))
      else ((s_X2_isAboveHarm l1 σ).bind fun r1 => (if r1 = (0 : Int32) then (zLd (zIn l1 30) (σ.1 16 l1.toNatClampNeg) fun v2 => (zLd (zIn l1 30) (σ.1 18 l1.toNatClampNeg) fun v3 => (if v2 ≤ v3 then (s_X2_holds_L2 σ n (l1 + (1 : Int32)))
          else (some (0 : Int32)))))
        else (some (0 : Int32))))
set_option maxHeartbeats 4000000 in
set_option maxRecDepth 100000 in
theorem z_X2_holds_L2 (g : ZG) (σ : ZSt) : ∀ (n : Nat) (l1 : Int32), Zo g (mX2_holds g 1) (fun b : Int32 => (some (.int b), zw σ)) (s_X2_holds_L2 σ n l1) 0 0 2 [some (.ref 15), some (.int l1)] [] (zw σ) := by
  intro n
  induction n with
  | zero => intros; exact Zo_none
  | succ n ih =>
    intro l1
    rw [s_X2_holds_L2]
    refine Zo_iload1 dX2_holds_2 ?_
    refine Zo_aload0 dX2_holds_3 ?_
    refine Zo_geti fl_X2_31 kd_15 dX2_holds_4 ?_
    refine Zo_icmpge 41 dX2_holds_7 (by decide) ?_ ?_
    · refine Zo_iconst (1 : Int32) dX2_holds_41 ic_1 ?_
      exact Zo_zret dX2_holds_42 rfl rfl (Or.inr rfl) (Nat.le_refl _) (Nat.le_refl _)
    · refine Zo_aload0 dX2_holds_10 ?_
      refine Zo_iload1 dX2_holds_11 ?_
      refine Zo_cVI1 lk_X2_45 (e_X2_isAboveHarm g _ _) kd_15 (zFit_rm (by decide)) (zle rfl) dX2_holds_12 fun r1 => ?_
      refine Zo_ifne 33 dX2_holds_15 (by decide) ?_ ?_
      · refine Zo_iconst (0 : Int32) dX2_holds_33 ic_0 ?_
        exact Zo_zret dX2_holds_34 rfl rfl (Or.inl rfl) (Nat.le_refl _) (Nat.le_refl _)
      · refine Zo_aload0 dX2_holds_18 ?_
        refine Zo_getr (j := 16) fl_X2_9 kd_15 rfl dX2_holds_19 ?_
        refine Zo_iload1 dX2_holds_22 ?_
        refine Zo_iald kd_16 dX2_holds_23 fun v2 => ?_
        refine Zo_aload0 dX2_holds_24 ?_
        refine Zo_getr (j := 18) fl_X2_18 kd_15 rfl dX2_holds_25 ?_
        refine Zo_iload1 dX2_holds_28 ?_
        show Zo g _ _ _ 0 0 29 _ _ _
        refine Zo_iald kd_18 dX2_holds_29 fun v3 => ?_
        refine Zo_icmple 35 dX2_holds_30 (by decide) ?_ ?_
        · refine Zo_iinc1 rfl (1 : Int32) ic_1 (zlt rfl) dX2_holds_35 ?_
          refine Zo_goto 2 dX2_holds_38 (by decide) ?_
          exact ih _
        · refine Zo_iconst (0 : Int32) dX2_holds_33 ic_0 ?_
          exact Zo_zret dX2_holds_34 rfl rfl (Or.inl rfl) (Nat.le_refl _) (Nat.le_refl _)
def s_X2_holds (σ : ZSt) : Option Int32 :=
  s_X2_holds_L2 σ 200 (0 : Int32)
set_option maxHeartbeats 4000000 in
set_option maxRecDepth 100000 in
theorem z_X2_holds (g : ZG) (σ : ZSt) : Zo g (mX2_holds g 1) (fun b : Int32 => (some (.int b), zw σ)) (s_X2_holds σ) 0 0 0 [some (.ref 15), none] [] (zw σ) := by
  unfold s_X2_holds
  refine Zo_iconst (0 : Int32) dX2_holds_0 ic_0 ?_
  refine Zo_istore1 rfl (zlt rfl) dX2_holds_1 ?_
  exact z_X2_holds_L2 g _ _ _
theorem e_X2_holds (g : ZG) (σ : ZSt) : zEvI g 1 yX2_holds cX2_holds 2 (some .boolean) [.ref 15] σ (s_X2_holds σ) :=
  zEvI_of 1 rfl rfl (z_X2_holds g σ)
abbrev mX2_unwilling (g : ZG) (q : Nat) : ZM := (yX2_unwilling, cX2_unwilling, 3, (some .int), zRm q 0 0, zTg g 0 0)
def s_X2_unwilling_L4 (σ : ZSt) : Nat → Int32 → Int32 → Option Int32
  | 0, _, _ => none
  | n + 1, l1, l2 =>
    if (σ.1 15 4) ≤ l2 then (some l1)
      else ((s_X2_isAboveHarm l2 σ).bind fun r1 => (if r1 = (0 : Int32) then (s_X2_unwilling_L4 σ n l1 (l2 + (1 : Int32)))
        else (s_X2_unwilling_L4 σ n (l1 ||| ((1 : Int32) <<< (l2 &&& 31))) (l2 + (1 : Int32)))))
set_option maxHeartbeats 4000000 in
set_option maxRecDepth 100000 in
theorem z_X2_unwilling_L4 (g : ZG) (σ : ZSt) : ∀ (n : Nat) (l1 : Int32) (l2 : Int32), Zo g (mX2_unwilling g 1) (fun b : Int32 => (some (.int b), zw σ)) (s_X2_unwilling_L4 σ n l1 l2) 0 0 4 [some (.ref 15), some (.int l1), some (.int l2)] [] (zw σ) := by
  intro n
  induction n with
  | zero => intros; exact Zo_none
  | succ n ih =>
    intro l1 l2
    rw [s_X2_unwilling_L4]
    refine Zo_iload2 dX2_unwilling_4 ?_
    refine Zo_aload0 dX2_unwilling_5 ?_
    refine Zo_geti fl_X2_31 kd_15 dX2_unwilling_6 ?_
    refine Zo_icmpge 32 dX2_unwilling_9 (by decide) ?_ ?_
    · refine Zo_iload1 dX2_unwilling_32 ?_
      exact Zo_iret dX2_unwilling_33 rfl rfl (Nat.le_refl _) (Nat.le_refl _)
    · refine Zo_aload0 dX2_unwilling_12 ?_
      refine Zo_iload2 dX2_unwilling_13 ?_
      refine Zo_cVI1 lk_X2_45 (e_X2_isAboveHarm g _ _) kd_15 (zFit_rm (by decide)) (zle rfl) dX2_unwilling_14 fun r1 => ?_
      refine Zo_ifeq 26 dX2_unwilling_17 (by decide) ?_ ?_
      · refine Zo_iinc2 rfl (1 : Int32) ic_1 (zlt rfl) dX2_unwilling_26 ?_
        refine Zo_goto 4 dX2_unwilling_29 (by decide) ?_
        exact ih _ _
      · refine Zo_iload1 dX2_unwilling_20 ?_
        refine Zo_iconst (1 : Int32) dX2_unwilling_21 ic_1 ?_
        refine Zo_iload2 dX2_unwilling_22 ?_
        refine Zo_ishl dX2_unwilling_23 ?_
        refine Zo_ior dX2_unwilling_24 ?_
        refine Zo_istore1 rfl (zlt rfl) dX2_unwilling_25 ?_
        refine Zo_iinc2 rfl (1 : Int32) ic_1 (zlt rfl) dX2_unwilling_26 ?_
        show Zo g _ _ _ 0 0 29 _ _ _
        refine Zo_goto 4 dX2_unwilling_29 (by decide) ?_
        exact ih _ _
def s_X2_unwilling (σ : ZSt) : Option Int32 :=
  s_X2_unwilling_L4 σ 200 (0 : Int32) (0 : Int32)
set_option maxHeartbeats 4000000 in
set_option maxRecDepth 100000 in
theorem z_X2_unwilling (g : ZG) (σ : ZSt) : Zo g (mX2_unwilling g 1) (fun b : Int32 => (some (.int b), zw σ)) (s_X2_unwilling σ) 0 0 0 [some (.ref 15), none, none] [] (zw σ) := by
  unfold s_X2_unwilling
  refine Zo_iconst (0 : Int32) dX2_unwilling_0 ic_0 ?_
  refine Zo_istore1 rfl (zlt rfl) dX2_unwilling_1 ?_
  refine Zo_iconst (0 : Int32) dX2_unwilling_2 ic_0 ?_
  refine Zo_istore2 rfl (zlt rfl) dX2_unwilling_3 ?_
  exact z_X2_unwilling_L4 g _ _ _ _
theorem e_X2_unwilling (g : ZG) (σ : ZSt) : zEvI g 1 yX2_unwilling cX2_unwilling 3 (some .int) [.ref 15] σ (s_X2_unwilling σ) :=
  zEvI_of 2 rfl rfl (z_X2_unwilling g σ)
abbrev mX2_partOf (g : ZG) (q : Nat) : ZM := (yX2_partOf, cX2_partOf, 2, (some .int), zRm q 0 0, zTg g 0 0)
def s_X2_partOf (p0 : Int32) (σ : ZSt) : Option Int32 :=
  if p0 < (0 : Int32) then (some (-1 : Int32))
    else (if (σ.1 15 4) ≤ p0 then (some (-1 : Int32))
      else (zLd (zIn p0 30) (σ.1 16 p0.toNatClampNeg) fun v1 => (some v1)))
set_option maxHeartbeats 4000000 in
set_option maxRecDepth 100000 in
theorem z_X2_partOf (g : ZG) (p0 : Int32) (σ : ZSt) : Zo g (mX2_partOf g 0) (fun b : Int32 => (some (.int b), zw σ)) (s_X2_partOf p0 σ) 0 0 0 [some (.ref 15), some (.int p0)] [] (zw σ) := by
  unfold s_X2_partOf
  refine Zo_iload1 dX2_partOf_0 ?_
  refine Zo_iflt 21 dX2_partOf_1 (by decide) ?_ ?_
  · refine Zo_iconst (-1 : Int32) dX2_partOf_21 ic_m1 ?_
    exact Zo_iret dX2_partOf_22 rfl rfl (Nat.le_refl _) (Nat.le_refl _)
  · refine Zo_iload1 dX2_partOf_4 ?_
    refine Zo_aload0 dX2_partOf_5 ?_
    refine Zo_geti fl_X2_31 kd_15 dX2_partOf_6 ?_
    refine Zo_icmpge 21 dX2_partOf_9 (by decide) ?_ ?_
    · refine Zo_iconst (-1 : Int32) dX2_partOf_21 ic_m1 ?_
      exact Zo_iret dX2_partOf_22 rfl rfl (Nat.le_refl _) (Nat.le_refl _)
    · refine Zo_aload0 dX2_partOf_12 ?_
      refine Zo_getr (j := 16) fl_X2_9 kd_15 rfl dX2_partOf_13 ?_
      refine Zo_iload1 dX2_partOf_16 ?_
      refine Zo_iald kd_16 dX2_partOf_17 fun v1 => ?_
      refine Zo_goto 22 dX2_partOf_18 (by decide) ?_
      exact Zo_iret dX2_partOf_22 rfl rfl (Nat.le_refl _) (Nat.le_refl _)
theorem e_X2_partOf (g : ZG) (p0 : Int32) (σ : ZSt) : zEvI g 0 yX2_partOf cX2_partOf 2 (some .int) [.ref 15, .int p0] σ (s_X2_partOf p0 σ) :=
  zEvI_of 0 rfl rfl (z_X2_partOf g p0 σ)
