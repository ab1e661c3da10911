abbrev mX3_feedBytes (g : ZG) (q : Nat) : ZM := (yX3_feedBytes, cX3_feedBytes, 4, (some .int), zRm q 0 0, zTg g 0 0)
def s_X3_feedBytes_L16 (l1 : Int32) (l2 : Int32) : Nat → Int32 → ZSt → Option (Int32 × ZSt)
  | 0, _, _ => none
  | n + 1, l3, σ =>
    if l1 ≤ l3 then (some ((σ.1 46 1), σ))
      else (zSt' (zWD σ 46 1 ((σ.1 46 1) + (1 : Int32))) fun σ1 => (zSg (zIn (σ.1 46 1) 120) (zWD σ1 47 (σ.1 46 1).toNatClampNeg ((l2.toUInt32 >>> (((8 : Int32) * l3).toUInt32 &&& Int32.toUInt32 31)).toInt32 &&& (255 : Int32))) fun σ2 => (s_X3_feedBytes_L16 l1 l2 n (l3 + (1 : Int32)) σ2)))
set_option maxHeartbeats 4000000 in
set_option maxRecDepth 100000 in
theorem z_X3_feedBytes_L16 (g : ZG) (l1 : Int32) (l2 : Int32) : ∀ (n : Nat) (l3 : Int32) (σ : ZSt), Zo g (mX3_feedBytes g 0) (fun b : Int32 × ZSt => (some (.int b.1), zw b.2)) (s_X3_feedBytes_L16 l1 l2 n l3 σ) 0 0 16 [some (.ref 46), some (.int l1), some (.int l2), some (.int l3)] [] (zw σ) := by
  intro n
  induction n with
  | zero => intros; exact Zo_none
  | succ n ih =>
    intro l3 σ
    rw [s_X3_feedBytes_L16]
    refine Zo_iload3 dX3_feedBytes_16 ?_
    refine Zo_iload1 dX3_feedBytes_17 ?_
    refine Zo_icmpge 53 dX3_feedBytes_18 (by decide) ?_ ?_
    · refine Zo_aload0 dX3_feedBytes_53 ?_
      refine Zo_geti fl_X3_15 kd_46 dX3_feedBytes_54 ?_
      exact Zo_iret dX3_feedBytes_57 rfl rfl (Nat.le_refl _) (Nat.le_refl _)
    · refine Zo_aload0 dX3_feedBytes_21 ?_
      refine Zo_getr (j := 47) fl_X3_9 kd_46 rfl dX3_feedBytes_22 ?_
      refine Zo_aload0 dX3_feedBytes_25 ?_
      refine Zo_dup dX3_feedBytes_26 rfl ?_
      refine Zo_geti fl_X3_15 kd_46 dX3_feedBytes_27 ?_
      refine Zo_dup_x1 dX3_feedBytes_30 rfl rfl ?_
      refine Zo_iconst (1 : Int32) dX3_feedBytes_31 ic_1 ?_
      show Zo g _ _ _ 0 0 32 _ _ _
      refine Zo_iadd dX3_feedBytes_32 ?_
      refine Zo_puti fl_X3_15 kd_46 dX3_feedBytes_33 fun σ1 => ?_
      refine Zo_iload2 dX3_feedBytes_36 ?_
      refine Zo_bipush (8 : Int32) dX3_feedBytes_37 bp_8 ?_
      refine Zo_iload3 dX3_feedBytes_39 ?_
      refine Zo_imul dX3_feedBytes_40 ?_
      refine Zo_iushr dX3_feedBytes_41 ?_
      refine Zo_sipush (255 : Int32) dX3_feedBytes_42 sp_255 ?_
      show Zo g _ _ _ 0 0 45 _ _ _
      refine Zo_iand dX3_feedBytes_45 ?_
      refine Zo_iast kd_47 dX3_feedBytes_46 fun σ2 => ?_
      refine Zo_iinc3 rfl (1 : Int32) ic_1 (zlt rfl) dX3_feedBytes_47 ?_
      refine Zo_goto 16 dX3_feedBytes_50 (by decide) ?_
      exact ih _ _
def s_X3_feedBytes (p0 : Int32) (p1 : Int32) (σ : ZSt) : Option (Int32 × ZSt) :=
  if ((σ.1 46 1) + p0) ≤ (120 : Int32) then (s_X3_feedBytes_L16 p0 p1 200 (0 : Int32) σ)
    else (some ((-3 : Int32), σ))
set_option maxHeartbeats 4000000 in
set_option maxRecDepth 100000 in
theorem z_X3_feedBytes (g : ZG) (p0 : Int32) (p1 : Int32) (σ : ZSt) : Zo g (mX3_feedBytes g 0) (fun b : Int32 × ZSt => (some (.int b.1), zw b.2)) (s_X3_feedBytes p0 p1 σ) 0 0 0 [some (.ref 46), some (.int p0), some (.int p1), none] [] (zw σ) := by
  unfold s_X3_feedBytes
  refine Zo_aload0 dX3_feedBytes_0 ?_
  refine Zo_geti fl_X3_15 kd_46 dX3_feedBytes_1 ?_
  refine Zo_iload1 dX3_feedBytes_4 ?_
  refine Zo_iadd dX3_feedBytes_5 ?_
  refine Zo_bipush (120 : Int32) dX3_feedBytes_6 bp_120 ?_
  refine Zo_icmple 14 dX3_feedBytes_8 (by decide) ?_ ?_
  · refine Zo_iconst (0 : Int32) dX3_feedBytes_14 ic_0 ?_
    refine Zo_istore3 rfl (zlt rfl) dX3_feedBytes_15 ?_
    exact z_X3_feedBytes_L16 g _ _ _ _ _
  · refine Zo_bipush (-3 : Int32) dX3_feedBytes_11 bp_m3 ?_
    exact Zo_iret dX3_feedBytes_13 rfl rfl (Nat.le_refl _) (Nat.le_refl _)
theorem e_X3_feedBytes (g : ZG) (p0 : Int32) (p1 : Int32) (σ : ZSt) : zEvS g 0 yX3_feedBytes cX3_feedBytes 4 (some .int) [.ref 46, .int p0, .int p1] σ (s_X3_feedBytes p0 p1 σ) :=
  zEvS_of 1 rfl rfl (z_X3_feedBytes g p0 p1 σ)
abbrev mX3_next (g : ZG) (q : Nat) : ZM := (yX3_next, cX3_next, 1, (some .int), zRm q 0 0, zTg g 0 0)
def s_X3_next (σ : ZSt) : Option Int32 :=
  if (σ.1 46 2) < (0 : Int32) then (some (-1 : Int32))
    else (if (σ.1 46 1) ≤ (σ.1 46 2) then (some (-1 : Int32))
      else (if (120 : Int32) ≤ (σ.1 46 2) then (some (-1 : Int32))
        else (zLd (zIn (σ.1 46 2) 120) (σ.1 47 (σ.1 46 2).toNatClampNeg) fun v1 => (some v1))))
set_option maxHeartbeats 4000000 in
set_option maxRecDepth 100000 in
theorem z_X3_next (g : ZG) (σ : ZSt) : Zo g (mX3_next g 0) (fun b : Int32 => (some (.int b), zw σ)) (s_X3_next σ) 0 0 0 [some (.ref 46)] [] (zw σ) := by
  unfold s_X3_next
  refine Zo_aload0 dX3_next_0 ?_
  refine Zo_geti fl_X3_28 kd_46 dX3_next_1 ?_
  refine Zo_iflt 39 dX3_next_4 (by decide) ?_ ?_
  · refine Zo_iconst (-1 : Int32) dX3_next_39 ic_m1 ?_
    exact Zo_iret dX3_next_40 rfl rfl (Nat.le_refl _) (Nat.le_refl _)
  · refine Zo_aload0 dX3_next_7 ?_
    refine Zo_geti fl_X3_28 kd_46 dX3_next_8 ?_
    refine Zo_aload0 dX3_next_11 ?_
    refine Zo_geti fl_X3_15 kd_46 dX3_next_12 ?_
    refine Zo_icmpge 39 dX3_next_15 (by decide) ?_ ?_
    · refine Zo_iconst (-1 : Int32) dX3_next_39 ic_m1 ?_
      exact Zo_iret dX3_next_40 rfl rfl (Nat.le_refl _) (Nat.le_refl _)
    · refine Zo_aload0 dX3_next_18 ?_
      refine Zo_geti fl_X3_28 kd_46 dX3_next_19 ?_
      refine Zo_bipush (120 : Int32) dX3_next_22 bp_120 ?_
      refine Zo_icmpge 39 dX3_next_24 (by decide) ?_ ?_
      · refine Zo_iconst (-1 : Int32) dX3_next_39 ic_m1 ?_
        exact Zo_iret dX3_next_40 rfl rfl (Nat.le_refl _) (Nat.le_refl _)
      · refine Zo_aload0 dX3_next_27 ?_
        refine Zo_getr (j := 47) fl_X3_9 kd_46 rfl dX3_next_28 ?_
        refine Zo_aload0 dX3_next_31 ?_
        refine Zo_geti fl_X3_28 kd_46 dX3_next_32 ?_
        refine Zo_iald kd_47 dX3_next_35 fun v1 => ?_
        refine Zo_goto 40 dX3_next_36 (by decide) ?_
        exact Zo_iret dX3_next_40 rfl rfl (Nat.le_refl _) (Nat.le_refl _)
theorem e_X3_next (g : ZG) (σ : ZSt) : zEvI g 0 yX3_next cX3_next 1 (some .int) [.ref 46] σ (s_X3_next σ) :=
  zEvI_of 0 rfl rfl (z_X3_next g σ)
abbrev mX3_isDigit (g : ZG) (q : Nat) : ZM := (yX3_isDigit, cX3_isDigit, 1, (some .boolean), zRm q 0 0, zTg g 0 0)
def s_X3_isDigit (p0 : Int32) (σ : ZSt) : Option Int32 :=
  if p0 < (48 : Int32) then (some (0 : Int32))
    else (if (57 : Int32) < p0 then (some (0 : Int32))
      else (some (1 : Int32)))
set_option maxHeartbeats 4000000 in
set_option maxRecDepth 100000 in
theorem z_X3_isDigit (g : ZG) (p0 : Int32) (σ : ZSt) : Zo g (mX3_isDigit g 0) (fun b : Int32 => (some (.int b), zw σ)) (s_X3_isDigit p0 σ) 0 0 0 [some (.int p0)] [] (zw σ) := by
  unfold s_X3_isDigit
  refine Zo_iload0 dX3_isDigit_0 ?_
  refine Zo_bipush (48 : Int32) dX3_isDigit_1 bp_48 ?_
  refine Zo_icmplt 16 dX3_isDigit_3 (by decide) ?_ ?_
  · refine Zo_iconst (0 : Int32) dX3_isDigit_16 ic_0 ?_
    exact Zo_zret dX3_isDigit_17 rfl rfl (Or.inl rfl) (Nat.le_refl _) (Nat.le_refl _)
  · refine Zo_iload0 dX3_isDigit_6 ?_
    refine Zo_bipush (57 : Int32) dX3_isDigit_7 bp_57 ?_
    refine Zo_icmpgt 16 dX3_isDigit_9 (by decide) ?_ ?_
    · refine Zo_iconst (0 : Int32) dX3_isDigit_16 ic_0 ?_
      exact Zo_zret dX3_isDigit_17 rfl rfl (Or.inl rfl) (Nat.le_refl _) (Nat.le_refl _)
    · refine Zo_iconst (1 : Int32) dX3_isDigit_12 ic_1 ?_
      refine Zo_goto 17 dX3_isDigit_13 (by decide) ?_
      exact Zo_zret dX3_isDigit_17 rfl rfl (Or.inr rfl) (Nat.le_refl _) (Nat.le_refl _)
theorem e_X3_isDigit (g : ZG) (p0 : Int32) (σ : ZSt) : zEvI g 0 yX3_isDigit cX3_isDigit 1 (some .boolean) [.int p0] σ (s_X3_isDigit p0 σ) :=
  zEvI_of 0 rfl rfl (z_X3_isDigit g p0 σ)
abbrev mX3_readNumber (g : ZG) (q : Nat) : ZM := (yX3_readNumber, cX3_readNumber, 3, (some .boolean), zRm q 0 0, zTg g 0 0)
def s_X3_readNumber_C48 (l1 : Int32) (σ : ZSt) : Option (Int32 × ZSt) :=
  (zDyn (σ.1 46 3)).bind fun t1 => ((s_X4_addStep t1 l1 σ).bind fun σ2 => (some ((1 : Int32), σ2)))
set_option maxHeartbeats 4000000 in
set_option maxRecDepth 100000 in
theorem z_X3_readNumber_C48 (g : ZG) (l1 : Int32) (σ : ZSt) (o2 : Option Value) : Zo g (mX3_readNumber g 1) (fun b : Int32 × ZSt => (some (.int b.1), zw b.2)) (s_X3_readNumber_C48 l1 σ) 0 0 48 [some (.ref 46), some (.int l1), o2] [] (zw σ) := by
  unfold s_X3_readNumber_C48
  refine Zo_aload0 dX3_readNumber_48 ?_
  refine Zo_getd fl_X3_19 kd_46 dX3_readNumber_49 fun t1 ht1 => ?_
  refine Zo_iload1 dX3_readNumber_52 ?_
  refine Zo_cVV1 lk_X3_39 (e_X4_addStep g _ _ _ ht1) (kL0 ht1) (zFit_rm (by decide)) (zle rfl) dX3_readNumber_53 fun σ2 => ?_
  refine Zo_iconst (1 : Int32) dX3_readNumber_56 ic_1 ?_
  exact Zo_zret dX3_readNumber_57 rfl rfl (Or.inr rfl) (Nat.le_refl _) (Nat.le_refl _)
def s_X3_readNumber_L4 : Nat → Int32 → Int32 → ZSt → Option (Int32 × ZSt)
  | 0, _, _, _ => none
  | n + 1, l1, l2, σ =>
    if (4 : Int32) ≤ l2 then (s_X3_readNumber_C48 l1 σ)
      else ((s_X3_next σ).bind fun r1 => ((s_X3_isDigit r1 σ).bind fun r2 => (if r2 = (0 : Int32) then (s_X3_readNumber_C48 l1 σ)
        else ((s_X3_next σ).bind fun r3 => (zSt' (zWD σ 46 2 ((σ.1 46 2) + (1 : Int32))) fun σ4 => (s_X3_readNumber_L4 n ((((10 : Int32) * l1) + r3) - (48 : Int32)) (l2 + (1 : Int32)) σ4))))))
set_option maxHeartbeats 4000000 in
set_option maxRecDepth 100000 in
theorem z_X3_readNumber_L4 (g : ZG) : ∀ (n : Nat) (l1 : Int32) (l2 : Int32) (σ : ZSt), Zo g (mX3_readNumber g 1) (fun b : Int32 × ZSt => (some (.int b.1), zw b.2)) (s_X3_readNumber_L4 n l1 l2 σ) 0 0 4 [some (.ref 46), some (.int l1), some (.int l2)] [] (zw σ) := by
  intro n
  induction n with
  | zero => intros; exact Zo_none
  | succ n ih =>
    intro l1 l2 σ
    rw [s_X3_readNumber_L4]
    refine Zo_iload2 dX3_readNumber_4 ?_
    refine Zo_iconst (4 : Int32) dX3_readNumber_5 ic_4 ?_
    refine Zo_icmpge 48 dX3_readNumber_6 (by decide) ?_ ?_
    · exact z_X3_readNumber_C48 g _ _ _
    · refine Zo_aload0 dX3_readNumber_9 ?_
      refine Zo_cVI0 lk_X3_35 (e_X3_next g _) kd_46 (zFit_rm (by decide)) (zle rfl) dX3_readNumber_10 fun r1 => ?_
      refine Zo_cSI1 lk_X3_58 (e_X3_isDigit g _ _) (zFit_rm (by decide)) (zle rfl) dX3_readNumber_13 fun r2 => ?_
      refine Zo_ifeq 48 dX3_readNumber_16 (by decide) ?_ ?_
      · exact z_X3_readNumber_C48 g _ _ _
      · refine Zo_bipush (10 : Int32) dX3_readNumber_19 bp_10 ?_
        refine Zo_iload1 dX3_readNumber_21 ?_
        refine Zo_imul dX3_readNumber_22 ?_
        refine Zo_aload0 dX3_readNumber_23 ?_
        refine Zo_cVI0 lk_X3_35 (e_X3_next g _) kd_46 (zFit_rm (by decide)) (zle rfl) dX3_readNumber_24 fun r3 => ?_
        refine Zo_iadd dX3_readNumber_27 ?_
        refine Zo_bipush (48 : Int32) dX3_readNumber_28 bp_48 ?_
        show Zo g _ _ _ 0 0 30 _ _ _
        refine Zo_isub dX3_readNumber_30 ?_
        refine Zo_istore1 rfl (zlt rfl) dX3_readNumber_31 ?_
        refine Zo_aload0 dX3_readNumber_32 ?_
        refine Zo_dup dX3_readNumber_33 rfl ?_
        refine Zo_geti fl_X3_28 kd_46 dX3_readNumber_34 ?_
        refine Zo_iconst (1 : Int32) dX3_readNumber_37 ic_1 ?_
        refine Zo_iadd dX3_readNumber_38 ?_
        refine Zo_puti fl_X3_28 kd_46 dX3_readNumber_39 fun σ4 => ?_
        show Zo g _ _ _ 0 0 42 _ _ _
        refine Zo_iinc2 rfl (1 : Int32) ic_1 (zlt rfl) dX3_readNumber_42 ?_
        refine Zo_goto 4 dX3_readNumber_45 (by decide) ?_
        exact ih _ _ _
def s_X3_readNumber (σ : ZSt) : Option (Int32 × ZSt) :=
  s_X3_readNumber_L4 200 (0 : Int32) (0 : Int32) σ
set_option maxHeartbeats 4000000 in
set_option maxRecDepth 100000 in
theorem z_X3_readNumber (g : ZG) (σ : ZSt) : Zo g (mX3_readNumber g 1) (fun b : Int32 × ZSt => (some (.int b.1), zw b.2)) (s_X3_readNumber σ) 0 0 0 [some (.ref 46), none, none] [] (zw σ) := by
  unfold s_X3_readNumber
  refine Zo_iconst (0 : Int32) dX3_readNumber_0 ic_0 ?_
  refine Zo_istore1 rfl (zlt rfl) dX3_readNumber_1 ?_
  refine Zo_iconst (0 : Int32) dX3_readNumber_2 ic_0 ?_
  refine Zo_istore2 rfl (zlt rfl) dX3_readNumber_3 ?_
  exact z_X3_readNumber_L4 g _ _ _ _
theorem e_X3_readNumber (g : ZG) (σ : ZSt) : zEvS g 1 yX3_readNumber cX3_readNumber 3 (some .boolean) [.ref 46] σ (s_X3_readNumber σ) :=
  zEvS_of 2 rfl rfl (z_X3_readNumber g σ)
abbrev mX3_readBracket (g : ZG) (q : Nat) : ZM := (yX3_readBracket, cX3_readBracket, 2, (some .boolean), zRm q 0 0, zTg g 0 0)
def s_X3_readBracket (f_X3_readPart : Int32 → Int32 → ZSt → Option (Int32 × ZSt)) (p0 : Int32) (σ : ZSt) : Option (Int32 × ZSt) :=
  zSt' (zWD σ 46 2 ((σ.1 46 2) + (1 : Int32))) fun σ1 => ((f_X3_readPart (0 : Int32) p0 σ1).bind fun r2 => (if r2.1 = (0 : Int32) then (some ((0 : Int32), r2.2))
    else ((s_X3_next r2.2).bind fun r3 => (if r3 = (41 : Int32) then (zSt' (zWD r2.2 46 2 ((r2.2.1 46 2) + (1 : Int32))) fun σ4 => (some ((1 : Int32), σ4)))
      else (some ((0 : Int32), r2.2))))))
set_option maxHeartbeats 4000000 in
set_option maxRecDepth 100000 in
theorem z_X3_readBracket (g : ZG) (q : Nat) (hq : 4 < q) (q2 : Nat) (hq2 : q2 < q) (f_X3_readPart : Int32 → Int32 → ZSt → Option (Int32 × ZSt)) (hf_X3_readPart : ∀ (p0 : Int32) (p1 : Int32) (σ : ZSt), zEvS g q2 yX3_readPart cX3_readPart 6 (some .boolean) [.ref 46, .int p0, .int p1] σ (f_X3_readPart p0 p1 σ)) (p0 : Int32) (σ : ZSt) : Zo g (mX3_readBracket g q) (fun b : Int32 × ZSt => (some (.int b.1), zw b.2)) (s_X3_readBracket f_X3_readPart p0 σ) 0 0 0 [some (.ref 46), some (.int p0)] [] (zw σ) := by
  unfold s_X3_readBracket
  refine Zo_aload0 dX3_readBracket_0 ?_
  refine Zo_dup dX3_readBracket_1 rfl ?_
  refine Zo_geti fl_X3_28 kd_46 dX3_readBracket_2 ?_
  refine Zo_iconst (1 : Int32) dX3_readBracket_5 ic_1 ?_
  refine Zo_iadd dX3_readBracket_6 ?_
  refine Zo_puti fl_X3_28 kd_46 dX3_readBracket_7 fun σ1 => ?_
  refine Zo_aload0 dX3_readBracket_10 ?_
  show Zo g _ _ _ 0 0 11 _ _ _
  refine Zo_iconst (0 : Int32) dX3_readBracket_11 ic_0 ?_
  refine Zo_iload1 dX3_readBracket_12 ?_
  refine Zo_cVS2 lk_X3_43 (hf_X3_readPart _ _ _) kd_46 (zFit_rm hq2) (zle rfl) dX3_readBracket_13 fun r2 => ?_
  refine Zo_ifeq 28 dX3_readBracket_16 (by decide) ?_ ?_
  · refine Zo_iconst (0 : Int32) dX3_readBracket_28 ic_0 ?_
    exact Zo_zret dX3_readBracket_29 rfl rfl (Or.inl rfl) (Nat.le_refl _) (Nat.le_refl _)
  · refine Zo_aload0 dX3_readBracket_19 ?_
    refine Zo_cVI0 lk_X3_35 (e_X3_next g _) kd_46 (zFit_rm (by omega)) (zle rfl) dX3_readBracket_20 fun r3 => ?_
    refine Zo_bipush (41 : Int32) dX3_readBracket_23 bp_41 ?_
    refine Zo_icmpeq 30 dX3_readBracket_25 (by decide) ?_ ?_
    · refine Zo_aload0 dX3_readBracket_30 ?_
      refine Zo_dup dX3_readBracket_31 rfl ?_
      refine Zo_geti fl_X3_28 kd_46 dX3_readBracket_32 ?_
      refine Zo_iconst (1 : Int32) dX3_readBracket_35 ic_1 ?_
      refine Zo_iadd dX3_readBracket_36 ?_
      refine Zo_puti fl_X3_28 kd_46 dX3_readBracket_37 fun σ4 => ?_
      refine Zo_iconst (1 : Int32) dX3_readBracket_40 ic_1 ?_
      show Zo g _ _ _ 0 0 41 _ _ _
      exact Zo_zret dX3_readBracket_41 rfl rfl (Or.inr rfl) (Nat.le_refl _) (Nat.le_refl _)
    · refine Zo_iconst (0 : Int32) dX3_readBracket_28 ic_0 ?_
      exact Zo_zret dX3_readBracket_29 rfl rfl (Or.inl rfl) (Nat.le_refl _) (Nat.le_refl _)
theorem e_X3_readBracket (g : ZG) (q : Nat) (hq : 4 < q) (q2 : Nat) (hq2 : q2 < q) (f_X3_readPart : Int32 → Int32 → ZSt → Option (Int32 × ZSt)) (hf_X3_readPart : ∀ (p0 : Int32) (p1 : Int32) (σ : ZSt), zEvS g q2 yX3_readPart cX3_readPart 6 (some .boolean) [.ref 46, .int p0, .int p1] σ (f_X3_readPart p0 p1 σ)) (p0 : Int32) (σ : ZSt) : zEvS g q yX3_readBracket cX3_readBracket 2 (some .boolean) [.ref 46, .int p0] σ (s_X3_readBracket f_X3_readPart p0 σ) :=
  zEvS_of 0 rfl rfl (z_X3_readBracket g q hq q2 hq2 f_X3_readPart hf_X3_readPart p0 σ)
abbrev mX3_addSign (g : ZG) (q : Nat) : ZM := (yX3_addSign, cX3_addSign, 2, none, zRm q 0 0, zTg g 0 0)
def s_X3_addSign (p0 : Int32) (σ : ZSt) : Option ZSt :=
  (zDyn (σ.1 46 3)).bind fun t1 => ((s_X4_addStep t1 ((-100 : Int32) - p0) σ).bind fun σ2 => (some σ2))
set_option maxHeartbeats 4000000 in
set_option maxRecDepth 100000 in
theorem z_X3_addSign (g : ZG) (p0 : Int32) (σ : ZSt) : Zo g (mX3_addSign g 1) (fun b : ZSt => (none, zw b)) (s_X3_addSign p0 σ) 0 0 0 [some (.ref 46), some (.int p0)] [] (zw σ) := by
  unfold s_X3_addSign
  refine Zo_aload0 dX3_addSign_0 ?_
  refine Zo_getd fl_X3_19 kd_46 dX3_addSign_1 fun t1 ht1 => ?_
  refine Zo_bipush (-100 : Int32) dX3_addSign_4 bp_m100 ?_
  refine Zo_iload1 dX3_addSign_6 ?_
  refine Zo_isub dX3_addSign_7 ?_
  refine Zo_cVV1 lk_X3_39 (e_X4_addStep g _ _ _ ht1) (kL0 ht1) (zFit_rm (by decide)) (zle rfl) dX3_addSign_8 fun σ2 => ?_
  exact Zo_vret dX3_addSign_11 rfl rfl (Nat.le_refl _) (Nat.le_refl _)
theorem e_X3_addSign (g : ZG) (p0 : Int32) (σ : ZSt) : zEvV g 1 yX3_addSign cX3_addSign 2 none [.ref 46, .int p0] σ (s_X3_addSign p0 σ) :=
  zEvV_of 0 rfl rfl (z_X3_addSign g p0 σ)
abbrev mX3_readOperand (g : ZG) (q : Nat) : ZM := (yX3_readOperand, cX3_readOperand, 4, (some .boolean), zRm q 0 0, zTg g 0 0)
def s_X3_readOperand_C95 (f_X3_readBracket : Int32 → ZSt → Option (Int32 × ZSt)) (f_X3_readOperand : Int32 → ZSt → Option (Int32 × ZSt)) (l1 : Int32) (l2 : Int32) (σ : ZSt) : Option (Int32 × ZSt) :=
  zSt' (zWD σ 46 2 ((σ.1 46 2) + (1 : Int32))) fun σ1 => ((f_X3_readOperand (l1 + (1 : Int32)) σ1).bind fun r2 => (if r2.1 = (0 : Int32) then (some ((0 : Int32), r2.2))
    else (if l2 = (45 : Int32) then ((s_X3_addSign (126 : Int32) r2.2).bind fun σ4 => (some ((1 : Int32), σ4)))
      else ((s_X3_addSign (33 : Int32) r2.2).bind fun σ3 => (some ((1 : Int32), σ3))))))
set_option maxHeartbeats 4000000 in
set_option maxRecDepth 100000 in
theorem z_X3_readOperand_C95 (g : ZG) (q : Nat) (hq : 4 < q) (q2 : Nat) (hq2 : q2 < q) (f_X3_readBracket : Int32 → ZSt → Option (Int32 × ZSt)) (hf_X3_readBracket : ∀ (p0 : Int32) (σ : ZSt), zEvS g q2 yX3_readBracket cX3_readBracket 2 (some .boolean) [.ref 46, .int p0] σ (f_X3_readBracket p0 σ)) (f_X3_readOperand : Int32 → ZSt → Option (Int32 × ZSt)) (hf_X3_readOperand : ∀ (p0 : Int32) (σ : ZSt), zEvS g q2 yX3_readOperand cX3_readOperand 4 (some .boolean) [.ref 46, .int p0] σ (f_X3_readOperand p0 σ)) (l1 : Int32) (l2 : Int32) (σ : ZSt) (o3 : Option Value) : Zo g (mX3_readOperand g q) (fun b : Int32 × ZSt => (some (.int b.1), zw b.2)) (s_X3_readOperand_C95 f_X3_readBracket f_X3_readOperand l1 l2 σ) 0 0 95 [some (.ref 46), some (.int l1), some (.int l2), o3] [] (zw σ) := by
  unfold s_X3_readOperand_C95
  refine Zo_aload0 dX3_readOperand_95 ?_
  refine Zo_dup dX3_readOperand_96 rfl ?_
  refine Zo_geti fl_X3_28 kd_46 dX3_readOperand_97 ?_
  refine Zo_iconst (1 : Int32) dX3_readOperand_100 ic_1 ?_
  refine Zo_iadd dX3_readOperand_101 ?_
  refine Zo_puti fl_X3_28 kd_46 dX3_readOperand_102 fun σ1 => ?_
  refine Zo_aload0 dX3_readOperand_105 ?_
  show Zo g _ _ _ 0 0 106 _ _ _
  refine Zo_iload1 dX3_readOperand_106 ?_
  refine Zo_iconst (1 : Int32) dX3_readOperand_107 ic_1 ?_
  refine Zo_iadd dX3_readOperand_108 ?_
  refine Zo_cVS1 lk_X3_50 (hf_X3_readOperand _ _) kd_46 (zFit_rm hq2) (zle rfl) dX3_readOperand_109 fun r2 => ?_
  refine Zo_ifne 117 dX3_readOperand_112 (by decide) ?_ ?_
  · refine Zo_aload0 dX3_readOperand_117 ?_
    refine Zo_iload2 dX3_readOperand_118 ?_
    refine Zo_bipush (45 : Int32) dX3_readOperand_119 bp_45 ?_
    refine Zo_icmpne 129 dX3_readOperand_121 (by decide) ?_ ?_
    · refine Zo_bipush (33 : Int32) dX3_readOperand_129 bp_33 ?_
      refine Zo_cVV1 lk_X3_47 (e_X3_addSign g _ _) kd_46 (zFit_rm (by omega)) (zle rfl) dX3_readOperand_131 fun σ3 => ?_
      refine Zo_iconst (1 : Int32) dX3_readOperand_134 ic_1 ?_
      exact Zo_zret dX3_readOperand_135 rfl rfl (Or.inr rfl) (Nat.le_refl _) (Nat.le_refl _)
    · refine Zo_bipush (126 : Int32) dX3_readOperand_124 bp_126 ?_
      refine Zo_goto 131 dX3_readOperand_126 (by decide) ?_
      refine Zo_cVV1 lk_X3_47 (e_X3_addSign g _ _) kd_46 (zFit_rm (by omega)) (zle rfl) dX3_readOperand_131 fun σ4 => ?_
      refine Zo_iconst (1 : Int32) dX3_readOperand_134 ic_1 ?_
      exact Zo_zret dX3_readOperand_135 rfl rfl (Or.inr rfl) (Nat.le_refl _) (Nat.le_refl _)
  · refine Zo_iconst (0 : Int32) dX3_readOperand_115 ic_0 ?_
    exact Zo_zret dX3_readOperand_116 rfl rfl (Or.inl rfl) (Nat.le_refl _) (Nat.le_refl _)
def s_X3_readOperand_C32 (f_X3_readBracket : Int32 → ZSt → Option (Int32 × ZSt)) (f_X3_readOperand : Int32 → ZSt → Option (Int32 × ZSt)) (l1 : Int32) (l2 : Int32) (k_0 : Int32) (σ : ZSt) : Option (Int32 × ZSt) :=
  if k_0 < (0 : Int32) then (if l1 < (6 : Int32) then (if l2 = (40 : Int32) then ((f_X3_readBracket (l1 + (1 : Int32)) σ).bind fun r1 => (if r1.1 = (0 : Int32) ∨ r1.1 = (1 : Int32) then some (r1.1, r1.2) else none))
        else (if l2 = (33 : Int32) then (s_X3_readOperand_C95 f_X3_readBracket f_X3_readOperand l1 l2 σ)
          else (if l2 = (45 : Int32) then (s_X3_readOperand_C95 f_X3_readBracket f_X3_readOperand l1 l2 σ)
            else (some ((0 : Int32), σ)))))
      else (some ((0 : Int32), σ)))
    else (zSt' (zWD σ 46 2 ((σ.1 46 2) + (1 : Int32))) fun σ2 => ((zDyn (σ2.1 46 3)).bind fun t3 => ((s_X4_addStep t3 ((-1 : Int32) - k_0) σ2).bind fun σ4 => (some ((1 : Int32), σ4)))))
set_option maxHeartbeats 4000000 in
set_option maxRecDepth 100000 in
theorem z_X3_readOperand_C32 (g : ZG) (q : Nat) (hq : 4 < q) (q2 : Nat) (hq2 : q2 < q) (f_X3_readBracket : Int32 → ZSt → Option (Int32 × ZSt)) (hf_X3_readBracket : ∀ (p0 : Int32) (σ : ZSt), zEvS g q2 yX3_readBracket cX3_readBracket 2 (some .boolean) [.ref 46, .int p0] σ (f_X3_readBracket p0 σ)) (f_X3_readOperand : Int32 → ZSt → Option (Int32 × ZSt)) (hf_X3_readOperand : ∀ (p0 : Int32) (σ : ZSt), zEvS g q2 yX3_readOperand cX3_readOperand 4 (some .boolean) [.ref 46, .int p0] σ (f_X3_readOperand p0 σ)) (l1 : Int32) (l2 : Int32) (k_0 : Int32) (σ : ZSt) (o3 : Option Value) : Zo g (mX3_readOperand g q) (fun b : Int32 × ZSt => (some (.int b.1), zw b.2)) (s_X3_readOperand_C32 f_X3_readBracket f_X3_readOperand l1 l2 k_0 σ) 0 0 32 [some (.ref 46), some (.int l1), some (.int l2), o3] [.int k_0] (zw σ) := by
  unfold s_X3_readOperand_C32
  refine Zo_istore3 rfl (zlt rfl) dX3_readOperand_32 ?_
  refine Zo_iload3 dX3_readOperand_33 ?_
  refine Zo_iflt 59 dX3_readOperand_34 (by decide) ?_ ?_
  · refine Zo_iload1 dX3_readOperand_59 ?_
    refine Zo_bipush (6 : Int32) dX3_readOperand_60 bp_6 ?_
    refine Zo_icmplt 67 dX3_readOperand_62 (by decide) ?_ ?_
    · refine Zo_iload2 dX3_readOperand_67 ?_
      refine Zo_bipush (40 : Int32) dX3_readOperand_68 bp_40 ?_
      refine Zo_icmpne 81 dX3_readOperand_70 (by decide) ?_ ?_
      · refine Zo_iload2 dX3_readOperand_81 ?_
        refine Zo_bipush (33 : Int32) dX3_readOperand_82 bp_33 ?_
        refine Zo_icmpeq 95 dX3_readOperand_84 (by decide) ?_ ?_
        · exact z_X3_readOperand_C95 g q hq q2 hq2 f_X3_readBracket hf_X3_readBracket f_X3_readOperand hf_X3_readOperand _ _ _ _
        · refine Zo_iload2 dX3_readOperand_87 ?_
          refine Zo_bipush (45 : Int32) dX3_readOperand_88 bp_45 ?_
          refine Zo_icmpeq 95 dX3_readOperand_90 (by decide) ?_ ?_
          · exact z_X3_readOperand_C95 g q hq q2 hq2 f_X3_readBracket hf_X3_readBracket f_X3_readOperand hf_X3_readOperand _ _ _ _
          · refine Zo_iconst (0 : Int32) dX3_readOperand_93 ic_0 ?_
            exact Zo_zret dX3_readOperand_94 rfl rfl (Or.inl rfl) (Nat.le_refl _) (Nat.le_refl _)
      · refine Zo_aload0 dX3_readOperand_73 ?_
        refine Zo_iload1 dX3_readOperand_74 ?_
        refine Zo_iconst (1 : Int32) dX3_readOperand_75 ic_1 ?_
        refine Zo_iadd dX3_readOperand_76 ?_
        refine Zo_cVS1 lk_X3_71 (hf_X3_readBracket _ _) kd_46 (zFit_rm hq2) (zle rfl) dX3_readOperand_77 fun r1 => ?_
        refine Zo_guard fun hb => ?_
        exact Zo_zret dX3_readOperand_80 rfl rfl hb (Nat.le_refl _) (Nat.le_refl _)
    · refine Zo_iconst (0 : Int32) dX3_readOperand_65 ic_0 ?_
      exact Zo_zret dX3_readOperand_66 rfl rfl (Or.inl rfl) (Nat.le_refl _) (Nat.le_refl _)
  · refine Zo_aload0 dX3_readOperand_37 ?_
    refine Zo_dup dX3_readOperand_38 rfl ?_
    refine Zo_geti fl_X3_28 kd_46 dX3_readOperand_39 ?_
    refine Zo_iconst (1 : Int32) dX3_readOperand_42 ic_1 ?_
    refine Zo_iadd dX3_readOperand_43 ?_
    refine Zo_puti fl_X3_28 kd_46 dX3_readOperand_44 fun σ2 => ?_
    refine Zo_aload0 dX3_readOperand_47 ?_
    show Zo g _ _ _ 0 0 48 _ _ _
    refine Zo_getd fl_X3_19 kd_46 dX3_readOperand_48 fun t3 ht3 => ?_
    refine Zo_iconst (-1 : Int32) dX3_readOperand_51 ic_m1 ?_
    refine Zo_iload3 dX3_readOperand_52 ?_
    refine Zo_isub dX3_readOperand_53 ?_
    refine Zo_cVV1 lk_X3_39 (e_X4_addStep g _ _ _ ht3) (kL0 ht3) (zFit_rm (by omega)) (zle rfl) dX3_readOperand_54 fun σ4 => ?_
    refine Zo_iconst (1 : Int32) dX3_readOperand_57 ic_1 ?_
    exact Zo_zret dX3_readOperand_58 rfl rfl (Or.inr rfl) (Nat.le_refl _) (Nat.le_refl _)
def s_X3_readOperand (f_X3_readBracket : Int32 → ZSt → Option (Int32 × ZSt)) (f_X3_readOperand : Int32 → ZSt → Option (Int32 × ZSt)) (p0 : Int32) (σ : ZSt) : Option (Int32 × ZSt) :=
  (s_X3_next σ).bind fun r1 => ((s_X3_isDigit r1 σ).bind fun r2 => (if r2 = (0 : Int32) then (if (0 : Int32) ≤ r1 then ((s_J0_indexOf_0f7a4 ((r1.toUInt32 % 65536).toInt32) σ).bind fun r3 => (s_X3_readOperand_C32 f_X3_readBracket f_X3_readOperand p0 r1 r3 σ))
      else (s_X3_readOperand_C32 f_X3_readBracket f_X3_readOperand p0 r1 (-1 : Int32) σ))
    else ((s_X3_readNumber σ).bind fun r4 => (if r4.1 = (0 : Int32) ∨ r4.1 = (1 : Int32) then some (r4.1, r4.2) else none))))
set_option maxHeartbeats 4000000 in
set_option maxRecDepth 100000 in
theorem z_X3_readOperand (g : ZG) (q : Nat) (hq : 4 < q) (q2 : Nat) (hq2 : q2 < q) (f_X3_readBracket : Int32 → ZSt → Option (Int32 × ZSt)) (hf_X3_readBracket : ∀ (p0 : Int32) (σ : ZSt), zEvS g q2 yX3_readBracket cX3_readBracket 2 (some .boolean) [.ref 46, .int p0] σ (f_X3_readBracket p0 σ)) (f_X3_readOperand : Int32 → ZSt → Option (Int32 × ZSt)) (hf_X3_readOperand : ∀ (p0 : Int32) (σ : ZSt), zEvS g q2 yX3_readOperand cX3_readOperand 4 (some .boolean) [.ref 46, .int p0] σ (f_X3_readOperand p0 σ)) (p0 : Int32) (σ : ZSt) : Zo g (mX3_readOperand g q) (fun b : Int32 × ZSt => (some (.int b.1), zw b.2)) (s_X3_readOperand f_X3_readBracket f_X3_readOperand p0 σ) 0 0 0 [some (.ref 46), some (.int p0), none, none] [] (zw σ) := by
  unfold s_X3_readOperand
  refine Zo_aload0 dX3_readOperand_0 ?_
  refine Zo_cVI0 lk_X3_35 (e_X3_next g _) kd_46 (zFit_rm (by omega)) (zle rfl) dX3_readOperand_1 fun r1 => ?_
  refine Zo_istore2 rfl (zlt rfl) dX3_readOperand_4 ?_
  refine Zo_iload2 dX3_readOperand_5 ?_
  refine Zo_cSI1 lk_X3_58 (e_X3_isDigit g _ _) (zFit_rm (by omega)) (zle rfl) dX3_readOperand_6 fun r2 => ?_
  refine Zo_ifeq 17 dX3_readOperand_9 (by decide) ?_ ?_
  · refine Zo_iload2 dX3_readOperand_17 ?_
    refine Zo_ifge 25 dX3_readOperand_18 (by decide) ?_ ?_
    · refine Zo_ldcS dX3_readOperand_25 ?_
      refine Zo_iload2 dX3_readOperand_27 ?_
      refine Zo_i2c dX3_readOperand_28 ?_
      refine Zo_cWI1 lk_X3_66 (e_J0_indexOf_0f7a4 g _ _) (zFit_rm (by omega)) (zle rfl) dX3_readOperand_29 fun r3 => ?_
      exact z_X3_readOperand_C32 g q hq q2 hq2 f_X3_readBracket hf_X3_readBracket f_X3_readOperand hf_X3_readOperand _ _ _ _ _
    · refine Zo_iconst (-1 : Int32) dX3_readOperand_21 ic_m1 ?_
      refine Zo_goto 32 dX3_readOperand_22 (by decide) ?_
      exact z_X3_readOperand_C32 g q hq q2 hq2 f_X3_readBracket hf_X3_readBracket f_X3_readOperand hf_X3_readOperand _ _ _ _ _
  · refine Zo_aload0 dX3_readOperand_12 ?_
    refine Zo_cVS0 lk_X3_61 (e_X3_readNumber g _) kd_46 (zFit_rm (by omega)) (zle rfl) dX3_readOperand_13 fun r4 => ?_
    refine Zo_guard fun hb => ?_
    exact Zo_zret dX3_readOperand_16 rfl rfl hb (Nat.le_refl _) (Nat.le_refl _)
theorem e_X3_readOperand (g : ZG) (q : Nat) (hq : 4 < q) (q2 : Nat) (hq2 : q2 < q) (f_X3_readBracket : Int32 → ZSt → Option (Int32 × ZSt)) (hf_X3_readBracket : ∀ (p0 : Int32) (σ : ZSt), zEvS g q2 yX3_readBracket cX3_readBracket 2 (some .boolean) [.ref 46, .int p0] σ (f_X3_readBracket p0 σ)) (f_X3_readOperand : Int32 → ZSt → Option (Int32 × ZSt)) (hf_X3_readOperand : ∀ (p0 : Int32) (σ : ZSt), zEvS g q2 yX3_readOperand cX3_readOperand 4 (some .boolean) [.ref 46, .int p0] σ (f_X3_readOperand p0 σ)) (p0 : Int32) (σ : ZSt) : zEvS g q yX3_readOperand cX3_readOperand 4 (some .boolean) [.ref 46, .int p0] σ (s_X3_readOperand f_X3_readBracket f_X3_readOperand p0 σ) :=
  zEvS_of 2 rfl rfl (z_X3_readOperand g q hq q2 hq2 f_X3_readBracket hf_X3_readBracket f_X3_readOperand hf_X3_readOperand p0 σ)
abbrev mX3_levelOf (g : ZG) (q : Nat) : ZM := (yX3_levelOf, cX3_levelOf, 1, (some .int), zRm q 0 0, zTg g 0 0)
def s_X3_levelOf (p0 : Int32) (σ : ZSt) : Option Int32 :=
  if p0 = (37 : Int32) then (some (4 : Int32))
    else (if p0 = (38 : Int32) then (some (1 : Int32))
    else (if p0 = (42 : Int32) then (some (4 : Int32))
    else (if p0 = (43 : Int32) then (some (3 : Int32))
    else (if p0 = (45 : Int32) then (some (3 : Int32))
    else (if p0 = (47 : Int32) then (some (4 : Int32))
    else (if p0 = (60 : Int32) then (some (2 : Int32))
    else (if p0 = (61 : Int32) then (some (2 : Int32))
    else (if p0 = (62 : Int32) then (some (2 : Int32))
    else (if p0 = (124 : Int32) then (some (0 : Int32))
    else (some (-1 : Int32)))))))))))
set_option maxHeartbeats 4000000 in
set_option maxRecDepth 100000 in
theorem z_X3_levelOf (g : ZG) (p0 : Int32) (σ : ZSt) : Zo g (mX3_levelOf g 0) (fun b : Int32 => (some (.int b), zw σ)) (s_X3_levelOf p0 σ) 0 0 0 [some (.int p0)] [] (zw σ) := by
  unfold s_X3_levelOf
  refine Zo_iload0 dX3_levelOf_0 ?_
  refine Zo_ite (fun hc37 => ?_) (fun hc37 => ?_)
  · refine Zo_lswC (off := 99) (37 : Int32) 100 hc37 dX3_levelOf_1 (by decide) (by decide) (by decide) ?_
    refine Zo_iconst (4 : Int32) dX3_levelOf_100 ic_4 ?_
    exact Zo_iret dX3_levelOf_101 rfl rfl (Nat.le_refl _) (Nat.le_refl _)
  refine Zo_ite (fun hc38 => ?_) (fun hc38 => ?_)
  · refine Zo_lswC (off := 93) (38 : Int32) 94 hc38 dX3_levelOf_1 (by decide) (by decide) (by decide) ?_
    refine Zo_iconst (1 : Int32) dX3_levelOf_94 ic_1 ?_
    exact Zo_iret dX3_levelOf_95 rfl rfl (Nat.le_refl _) (Nat.le_refl _)
  refine Zo_ite (fun hc42 => ?_) (fun hc42 => ?_)
  · refine Zo_lswC (off := 99) (42 : Int32) 100 hc42 dX3_levelOf_1 (by decide) (by decide) (by decide) ?_
    refine Zo_iconst (4 : Int32) dX3_levelOf_100 ic_4 ?_
    exact Zo_iret dX3_levelOf_101 rfl rfl (Nat.le_refl _) (Nat.le_refl _)
  refine Zo_ite (fun hc43 => ?_) (fun hc43 => ?_)
  · refine Zo_lswC (off := 97) (43 : Int32) 98 hc43 dX3_levelOf_1 (by decide) (by decide) (by decide) ?_
    refine Zo_iconst (3 : Int32) dX3_levelOf_98 ic_3 ?_
    exact Zo_iret dX3_levelOf_99 rfl rfl (Nat.le_refl _) (Nat.le_refl _)
  refine Zo_ite (fun hc45 => ?_) (fun hc45 => ?_)
  · refine Zo_lswC (off := 97) (45 : Int32) 98 hc45 dX3_levelOf_1 (by decide) (by decide) (by decide) ?_
    refine Zo_iconst (3 : Int32) dX3_levelOf_98 ic_3 ?_
    exact Zo_iret dX3_levelOf_99 rfl rfl (Nat.le_refl _) (Nat.le_refl _)
  refine Zo_ite (fun hc47 => ?_) (fun hc47 => ?_)
  · refine Zo_lswC (off := 99) (47 : Int32) 100 hc47 dX3_levelOf_1 (by decide) (by decide) (by decide) ?_
    refine Zo_iconst (4 : Int32) dX3_levelOf_100 ic_4 ?_
    exact Zo_iret dX3_levelOf_101 rfl rfl (Nat.le_refl _) (Nat.le_refl _)
  refine Zo_ite (fun hc60 => ?_) (fun hc60 => ?_)
  · refine Zo_lswC (off := 95) (60 : Int32) 96 hc60 dX3_levelOf_1 (by decide) (by decide) (by decide) ?_
    refine Zo_iconst (2 : Int32) dX3_levelOf_96 ic_2 ?_
    exact Zo_iret dX3_levelOf_97 rfl rfl (Nat.le_refl _) (Nat.le_refl _)
  refine Zo_ite (fun hc61 => ?_) (fun hc61 => ?_)
  · refine Zo_lswC (off := 95) (61 : Int32) 96 hc61 dX3_levelOf_1 (by decide) (by decide) (by decide) ?_
    refine Zo_iconst (2 : Int32) dX3_levelOf_96 ic_2 ?_
    exact Zo_iret dX3_levelOf_97 rfl rfl (Nat.le_refl _) (Nat.le_refl _)
  refine Zo_ite (fun hc62 => ?_) (fun hc62 => ?_)
  · refine Zo_lswC (off := 95) (62 : Int32) 96 hc62 dX3_levelOf_1 (by decide) (by decide) (by decide) ?_
    refine Zo_iconst (2 : Int32) dX3_levelOf_96 ic_2 ?_
    exact Zo_iret dX3_levelOf_97 rfl rfl (Nat.le_refl _) (Nat.le_refl _)
  refine Zo_ite (fun hc124 => ?_) (fun hc124 => ?_)
  · refine Zo_lswC (off := 91) (124 : Int32) 92 hc124 dX3_levelOf_1 (by decide) (by decide) (by decide) ?_
    refine Zo_iconst (0 : Int32) dX3_levelOf_92 ic_0 ?_
    exact Zo_iret dX3_levelOf_93 rfl rfl (Nat.le_refl _) (Nat.le_refl _)
  refine Zo_lsw 102 dX3_levelOf_1 (by decide) (zlsw_out ⟨zne_37 hc37, zne_38 hc38, zne_42 hc42, zne_43 hc43, zne_45 hc45, zne_47 hc47, zne_60 hc60, zne_61 hc61, zne_62 hc62, zne_124 hc124, trivial⟩) (by decide) ?_
  refine Zo_iconst (-1 : Int32) dX3_levelOf_102 ic_m1 ?_
  exact Zo_iret dX3_levelOf_103 rfl rfl (Nat.le_refl _) (Nat.le_refl _)
theorem e_X3_levelOf (g : ZG) (p0 : Int32) (σ : ZSt) : zEvI g 0 yX3_levelOf cX3_levelOf 1 (some .int) [.int p0] σ (s_X3_levelOf p0 σ) :=
  zEvI_of 0 rfl rfl (z_X3_levelOf g p0 σ)
abbrev mX3_readPart (g : ZG) (q : Nat) : ZM := (yX3_readPart, cX3_readPart, 6, (some .boolean), zRm q 0 0, zTg g 0 0)
def s_X3_readPart_L39 (f_X3_readOperand : Int32 → ZSt → Option (Int32 × ZSt)) (f_X3_readPart : Int32 → Int32 → ZSt → Option (Int32 × ZSt)) (l1 : Int32) (l2 : Int32) (l3 : Int32) : Nat → Int32 → ZSt → Option (Int32 × ZSt)
  | 0, _, _ => none
  | n + 1, l4, σ =>
    if l3 ≤ l4 then (some ((1 : Int32), σ))
      else ((s_X3_next σ).bind fun r1 => ((s_X3_levelOf r1 σ).bind fun r2 => (if r2 = l1 then ((s_X3_next σ).bind fun r3 => (zSt' (zWD σ 46 2 ((σ.1 46 2) + (1 : Int32))) fun σ4 => ((f_X3_readPart (l1 + (1 : Int32)) l2 σ4).bind fun r5 => (if r5.1 = (0 : Int32) then (some ((0 : Int32), r5.2))
          else ((s_X3_addSign r3 r5.2).bind fun σ6 => (s_X3_readPart_L39 f_X3_readOperand f_X3_readPart l1 l2 l3 n (l4 + (1 : Int32)) σ6))))))
        else (some ((1 : Int32), σ)))))
set_option maxHeartbeats 4000000 in
set_option maxRecDepth 100000 in
theorem z_X3_readPart_L39 (g : ZG) (q : Nat) (hq : 4 < q) (q2 : Nat) (hq2 : q2 < q) (f_X3_readOperand : Int32 → ZSt → Option (Int32 × ZSt)) (hf_X3_readOperand : ∀ (p0 : Int32) (σ : ZSt), zEvS g q2 yX3_readOperand cX3_readOperand 4 (some .boolean) [.ref 46, .int p0] σ (f_X3_readOperand p0 σ)) (f_X3_readPart : Int32 → Int32 → ZSt → Option (Int32 × ZSt)) (hf_X3_readPart : ∀ (p0 : Int32) (p1 : Int32) (σ : ZSt), zEvS g q2 yX3_readPart cX3_readPart 6 (some .boolean) [.ref 46, .int p0, .int p1] σ (f_X3_readPart p0 p1 σ)) (l1 : Int32) (l2 : Int32) (l3 : Int32) : ∀ (n : Nat) (l4 : Int32) (σ : ZSt) (o5 : Option Value), Zo g (mX3_readPart g q) (fun b : Int32 × ZSt => (some (.int b.1), zw b.2)) (s_X3_readPart_L39 f_X3_readOperand f_X3_readPart l1 l2 l3 n l4 σ) 0 0 39 [some (.ref 46), some (.int l1), some (.int l2), some (.int l3), some (.int l4), o5] [] (zw σ) := by
  intro n
  induction n with
  | zero => intros; exact Zo_none
  | succ n ih =>
    intro l4 σ o5
    rw [s_X3_readPart_L39]
    refine Zo_iload4 dX3_readPart_39 ?_
    refine Zo_iload3 dX3_readPart_41 ?_
    refine Zo_icmpge 97 dX3_readPart_42 (by decide) ?_ ?_
    · refine Zo_iconst (1 : Int32) dX3_readPart_97 ic_1 ?_
      exact Zo_zret dX3_readPart_98 rfl rfl (Or.inr rfl) (Nat.le_refl _) (Nat.le_refl _)
    · refine Zo_aload0 dX3_readPart_45 ?_
      refine Zo_cVI0 lk_X3_35 (e_X3_next g _) kd_46 (zFit_rm (by omega)) (zle rfl) dX3_readPart_46 fun r1 => ?_
      refine Zo_cSI1 lk_X3_54 (e_X3_levelOf g _ _) (zFit_rm (by omega)) (zle rfl) dX3_readPart_49 fun r2 => ?_
      refine Zo_iload1 dX3_readPart_52 ?_
      refine Zo_icmpne 97 dX3_readPart_53 (by decide) ?_ ?_
      · refine Zo_iconst (1 : Int32) dX3_readPart_97 ic_1 ?_
        exact Zo_zret dX3_readPart_98 rfl rfl (Or.inr rfl) (Nat.le_refl _) (Nat.le_refl _)
      · refine Zo_aload0 dX3_readPart_56 ?_
        refine Zo_cVI0 lk_X3_35 (e_X3_next g _) kd_46 (zFit_rm (by omega)) (zle rfl) dX3_readPart_57 fun r3 => ?_
        refine Zo_istore5 rfl (zlt rfl) dX3_readPart_60 ?_
        refine Zo_aload0 dX3_readPart_62 ?_
        refine Zo_dup dX3_readPart_63 rfl ?_
        refine Zo_geti fl_X3_28 kd_46 dX3_readPart_64 ?_
        refine Zo_iconst (1 : Int32) dX3_readPart_67 ic_1 ?_
        show Zo g _ _ _ 0 0 68 _ _ _
        refine Zo_iadd dX3_readPart_68 ?_
        refine Zo_puti fl_X3_28 kd_46 dX3_readPart_69 fun σ4 => ?_
        refine Zo_aload0 dX3_readPart_72 ?_
        refine Zo_iload1 dX3_readPart_73 ?_
        refine Zo_iconst (1 : Int32) dX3_readPart_74 ic_1 ?_
        refine Zo_iadd dX3_readPart_75 ?_
        refine Zo_iload2 dX3_readPart_76 ?_
        refine Zo_cVS2 lk_X3_43 (hf_X3_readPart _ _ _) kd_46 (zFit_rm hq2) (zle rfl) dX3_readPart_77 fun r5 => ?_
        show Zo g _ _ _ 0 0 80 _ _ _
        refine Zo_ifne 85 dX3_readPart_80 (by decide) ?_ ?_
        · refine Zo_aload0 dX3_readPart_85 ?_
          refine Zo_iload5 dX3_readPart_86 ?_
          refine Zo_cVV1 lk_X3_47 (e_X3_addSign g _ _) kd_46 (zFit_rm (by omega)) (zle rfl) dX3_readPart_88 fun σ6 => ?_
          refine Zo_iinc4 rfl (1 : Int32) ic_1 (zlt rfl) dX3_readPart_91 ?_
          refine Zo_goto 39 dX3_readPart_94 (by decide) ?_
          exact ih _ _ _
        · refine Zo_iconst (0 : Int32) dX3_readPart_83 ic_0 ?_
          exact Zo_zret dX3_readPart_84 rfl rfl (Or.inl rfl) (Nat.le_refl _) (Nat.le_refl _)
def s_X3_readPart (f_X3_readOperand : Int32 → ZSt → Option (Int32 × ZSt)) (f_X3_readPart : Int32 → Int32 → ZSt → Option (Int32 × ZSt)) (p0 : Int32) (p1 : Int32) (σ : ZSt) : Option (Int32 × ZSt) :=
  if p0 < (5 : Int32) then ((f_X3_readPart (p0 + (1 : Int32)) p1 σ).bind fun r1 => (if r1.1 = (0 : Int32) then (some ((0 : Int32), r1.2))
      else (if p0 = (2 : Int32) then (s_X3_readPart_L39 f_X3_readOperand f_X3_readPart p0 p1 (1 : Int32) 200 (0 : Int32) r1.2)
        else (s_X3_readPart_L39 f_X3_readOperand f_X3_readPart p0 p1 (120 : Int32) 200 (0 : Int32) r1.2))))
    else ((f_X3_readOperand p1 σ).bind fun r2 => (if r2.1 = (0 : Int32) ∨ r2.1 = (1 : Int32) then some (r2.1, r2.2) else none))
set_option maxHeartbeats 4000000 in
set_option maxRecDepth 100000 in
theorem z_X3_readPart (g : ZG) (q : Nat) (hq : 4 < q) (q2 : Nat) (hq2 : q2 < q) (f_X3_readOperand : Int32 → ZSt → Option (Int32 × ZSt)) (hf_X3_readOperand : ∀ (p0 : Int32) (σ : ZSt), zEvS g q2 yX3_readOperand cX3_readOperand 4 (some .boolean) [.ref 46, .int p0] σ (f_X3_readOperand p0 σ)) (f_X3_readPart : Int32 → Int32 → ZSt → Option (Int32 × ZSt)) (hf_X3_readPart : ∀ (p0 : Int32) (p1 : Int32) (σ : ZSt), zEvS g q2 yX3_readPart cX3_readPart 6 (some .boolean) [.ref 46, .int p0, .int p1] σ (f_X3_readPart p0 p1 σ)) (p0 : Int32) (p1 : Int32) (σ : ZSt) : Zo g (mX3_readPart g q) (fun b : Int32 × ZSt => (some (.int b.1), zw b.2)) (s_X3_readPart f_X3_readOperand f_X3_readPart p0 p1 σ) 0 0 0 [some (.ref 46), some (.int p0), some (.int p1), none, none, none] [] (zw σ) := by
  unfold s_X3_readPart
  refine Zo_iload1 dX3_readPart_0 ?_
  refine Zo_iconst (5 : Int32) dX3_readPart_1 ic_5 ?_
  refine Zo_icmplt 11 dX3_readPart_2 (by decide) ?_ ?_
  · refine Zo_aload0 dX3_readPart_11 ?_
    refine Zo_iload1 dX3_readPart_12 ?_
    refine Zo_iconst (1 : Int32) dX3_readPart_13 ic_1 ?_
    refine Zo_iadd dX3_readPart_14 ?_
    refine Zo_iload2 dX3_readPart_15 ?_
    refine Zo_cVS2 lk_X3_43 (hf_X3_readPart _ _ _) kd_46 (zFit_rm hq2) (zle rfl) dX3_readPart_16 fun r1 => ?_
    refine Zo_ifne 24 dX3_readPart_19 (by decide) ?_ ?_
    · refine Zo_iload1 dX3_readPart_24 ?_
      refine Zo_iconst (2 : Int32) dX3_readPart_25 ic_2 ?_
      refine Zo_icmpne 33 dX3_readPart_26 (by decide) ?_ ?_
      · refine Zo_bipush (120 : Int32) dX3_readPart_33 bp_120 ?_
        refine Zo_istore3 rfl (zlt rfl) dX3_readPart_35 ?_
        refine Zo_iconst (0 : Int32) dX3_readPart_36 ic_0 ?_
        refine Zo_istore4 rfl (zlt rfl) dX3_readPart_37 ?_
        exact z_X3_readPart_L39 g q hq q2 hq2 f_X3_readOperand hf_X3_readOperand f_X3_readPart hf_X3_readPart _ _ _ _ _ _ _
      · refine Zo_iconst (1 : Int32) dX3_readPart_29 ic_1 ?_
        refine Zo_goto 35 dX3_readPart_30 (by decide) ?_
        refine Zo_istore3 rfl (zlt rfl) dX3_readPart_35 ?_
        refine Zo_iconst (0 : Int32) dX3_readPart_36 ic_0 ?_
        refine Zo_istore4 rfl (zlt rfl) dX3_readPart_37 ?_
        exact z_X3_readPart_L39 g q hq q2 hq2 f_X3_readOperand hf_X3_readOperand f_X3_readPart hf_X3_readPart _ _ _ _ _ _ _
    · refine Zo_iconst (0 : Int32) dX3_readPart_22 ic_0 ?_
      exact Zo_zret dX3_readPart_23 rfl rfl (Or.inl rfl) (Nat.le_refl _) (Nat.le_refl _)
  · refine Zo_aload0 dX3_readPart_5 ?_
    refine Zo_iload2 dX3_readPart_6 ?_
    refine Zo_cVS1 lk_X3_50 (hf_X3_readOperand _ _) kd_46 (zFit_rm hq2) (zle rfl) dX3_readPart_7 fun r2 => ?_
    refine Zo_guard fun hb => ?_
    exact Zo_zret dX3_readPart_10 rfl rfl hb (Nat.le_refl _) (Nat.le_refl _)
theorem e_X3_readPart (g : ZG) (q : Nat) (hq : 4 < q) (q2 : Nat) (hq2 : q2 < q) (f_X3_readOperand : Int32 → ZSt → Option (Int32 × ZSt)) (hf_X3_readOperand : ∀ (p0 : Int32) (σ : ZSt), zEvS g q2 yX3_readOperand cX3_readOperand 4 (some .boolean) [.ref 46, .int p0] σ (f_X3_readOperand p0 σ)) (f_X3_readPart : Int32 → Int32 → ZSt → Option (Int32 × ZSt)) (hf_X3_readPart : ∀ (p0 : Int32) (p1 : Int32) (σ : ZSt), zEvS g q2 yX3_readPart cX3_readPart 6 (some .boolean) [.ref 46, .int p0, .int p1] σ (f_X3_readPart p0 p1 σ)) (p0 : Int32) (p1 : Int32) (σ : ZSt) : zEvS g q yX3_readPart cX3_readPart 6 (some .boolean) [.ref 46, .int p0, .int p1] σ (s_X3_readPart f_X3_readOperand f_X3_readPart p0 p1 σ) :=
  zEvS_of 3 rfl rfl (z_X3_readPart g q hq q2 hq2 f_X3_readOperand hf_X3_readOperand f_X3_readPart hf_X3_readPart p0 p1 σ)
def R_X3_readBracket_readOperand_readPart : Nat → (Int32 → ZSt → Option (Int32 × ZSt)) × (Int32 → ZSt → Option (Int32 × ZSt)) × (Int32 → Int32 → ZSt → Option (Int32 × ZSt))
  | 0 => (fun _ _ => none, fun _ _ => none, fun _ _ _ => none)
  | d + 1 => (s_X3_readBracket ((R_X3_readBracket_readOperand_readPart d).2.2), s_X3_readOperand ((R_X3_readBracket_readOperand_readPart d).1) ((R_X3_readBracket_readOperand_readPart d).2.1), s_X3_readPart ((R_X3_readBracket_readOperand_readPart d).2.1) ((R_X3_readBracket_readOperand_readPart d).2.2))
def rd_X3_readBracket (d : Nat) : Int32 → ZSt → Option (Int32 × ZSt) := (R_X3_readBracket_readOperand_readPart d).1
abbrev r_X3_readBracket : Int32 → ZSt → Option (Int32 × ZSt) := rd_X3_readBracket 64
def rd_X3_readOperand (d : Nat) : Int32 → ZSt → Option (Int32 × ZSt) := (R_X3_readBracket_readOperand_readPart d).2.1
abbrev r_X3_readOperand : Int32 → ZSt → Option (Int32 × ZSt) := rd_X3_readOperand 64
def rd_X3_readPart (d : Nat) : Int32 → Int32 → ZSt → Option (Int32 × ZSt) := (R_X3_readBracket_readOperand_readPart d).2.2
abbrev r_X3_readPart : Int32 → Int32 → ZSt → Option (Int32 × ZSt) := rd_X3_readPart 64
theorem et_X3_readBracket_readOperand_readPart (g : ZG) : ∀ d : Nat, (∀ (p0 : Int32) (σ : ZSt), zEvS g (5 + d) yX3_readBracket cX3_readBracket 2 (some .boolean) [.ref 46, .int p0] σ (rd_X3_readBracket d p0 σ)) ∧ (∀ (p0 : Int32) (σ : ZSt), zEvS g (5 + d) yX3_readOperand cX3_readOperand 4 (some .boolean) [.ref 46, .int p0] σ (rd_X3_readOperand d p0 σ)) ∧ (∀ (p0 : Int32) (p1 : Int32) (σ : ZSt), zEvS g (5 + d) yX3_readPart cX3_readPart 6 (some .boolean) [.ref 46, .int p0, .int p1] σ (rd_X3_readPart d p0 p1 σ)) := by
  intro d
  induction d with
  | zero => exact ⟨(by intros; intro b hb; exact absurd hb (fun h => by cases h)), (by intros; intro b hb; exact absurd hb (fun h => by cases h)), (by intros; intro b hb; exact absurd hb (fun h => by cases h))⟩
  | succ d ih =>
    obtain ⟨h0, h1, h2⟩ := ih
    exact ⟨fun p0 σ => e_X3_readBracket g _ (by omega) (5 + d) (by omega) _ h2 p0 σ, fun p0 σ => e_X3_readOperand g _ (by omega) (5 + d) (by omega) _ h0 _ h1 p0 σ, fun p0 p1 σ => e_X3_readPart g _ (by omega) (5 + d) (by omega) _ h1 _ h2 p0 p1 σ⟩
theorem er_X3_readBracket (g : ZG) (p0 : Int32) (σ : ZSt) : zEvS g 69 yX3_readBracket cX3_readBracket 2 (some .boolean) [.ref 46, .int p0] σ (r_X3_readBracket p0 σ) := (et_X3_readBracket_readOperand_readPart g 64).1 p0 σ
theorem er_X3_readOperand (g : ZG) (p0 : Int32) (σ : ZSt) : zEvS g 69 yX3_readOperand cX3_readOperand 4 (some .boolean) [.ref 46, .int p0] σ (r_X3_readOperand p0 σ) := (et_X3_readBracket_readOperand_readPart g 64).2.1 p0 σ
theorem er_X3_readPart (g : ZG) (p0 : Int32) (p1 : Int32) (σ : ZSt) : zEvS g 69 yX3_readPart cX3_readPart 6 (some .boolean) [.ref 46, .int p0, .int p1] σ (r_X3_readPart p0 p1 σ) := (et_X3_readBracket_readOperand_readPart g 64).2.2 p0 p1 σ
abbrev mX3_readLine (g : ZG) (q : Nat) : ZM := (yX3_readLine, cX3_readLine, 1, (some .boolean), zRm q 0 0, zTg g 0 0)
def s_X3_readLine (σ : ZSt) : Option (Int32 × ZSt) :=
  (r_X3_readPart (0 : Int32) (0 : Int32) σ).bind fun r1 => (if r1.1 = (0 : Int32) then (some ((0 : Int32), r1.2))
    else ((s_X3_next r1.2).bind fun r2 => (if r2 = (63 : Int32) then (zSt' (zWD r1.2 46 2 ((r1.2.1 46 2) + (1 : Int32))) fun σ4 => ((s_X3_addSign (63 : Int32) σ4).bind fun σ5 => ((r_X3_readPart (0 : Int32) (0 : Int32) σ5).bind fun r6 => (if r6.1 = (0 : Int32) then (some ((0 : Int32), r6.2))
        else ((s_X3_addSign (59 : Int32) r6.2).bind fun σ7 => (some ((1 : Int32), σ7)))))))
      else ((s_X3_addSign (59 : Int32) r1.2).bind fun σ3 => (some ((1 : Int32), σ3))))))
set_option maxHeartbeats 4000000 in
set_option maxRecDepth 100000 in
theorem z_X3_readLine (g : ZG) (σ : ZSt) : Zo g (mX3_readLine g 70) (fun b : Int32 × ZSt => (some (.int b.1), zw b.2)) (s_X3_readLine σ) 0 0 0 [some (.ref 46)] [] (zw σ) := by
  unfold s_X3_readLine
  refine Zo_aload0 dX3_readLine_0 ?_
  refine Zo_iconst (0 : Int32) dX3_readLine_1 ic_0 ?_
  refine Zo_iconst (0 : Int32) dX3_readLine_2 ic_0 ?_
  refine Zo_cVS2 lk_X3_43 (er_X3_readPart g _ _ _) kd_46 (zFit_rm (by decide)) (zle rfl) dX3_readLine_3 fun r1 => ?_
  refine Zo_ifne 11 dX3_readLine_6 (by decide) ?_ ?_
  · refine Zo_aload0 dX3_readLine_11 ?_
    refine Zo_cVI0 lk_X3_35 (e_X3_next g _) kd_46 (zFit_rm (by decide)) (zle rfl) dX3_readLine_12 fun r2 => ?_
    refine Zo_bipush (63 : Int32) dX3_readLine_15 bp_63 ?_
    refine Zo_icmpne 47 dX3_readLine_17 (by decide) ?_ ?_
    · refine Zo_aload0 dX3_readLine_47 ?_
      refine Zo_bipush (59 : Int32) dX3_readLine_48 bp_59 ?_
      refine Zo_cVV1 lk_X3_47 (e_X3_addSign g _ _) kd_46 (zFit_rm (by decide)) (zle rfl) dX3_readLine_50 fun σ3 => ?_
      refine Zo_iconst (1 : Int32) dX3_readLine_53 ic_1 ?_
      exact Zo_zret dX3_readLine_54 rfl rfl (Or.inr rfl) (Nat.le_refl _) (Nat.le_refl _)
    · refine Zo_aload0 dX3_readLine_20 ?_
      refine Zo_dup dX3_readLine_21 rfl ?_
      refine Zo_geti fl_X3_28 kd_46 dX3_readLine_22 ?_
      refine Zo_iconst (1 : Int32) dX3_readLine_25 ic_1 ?_
      refine Zo_iadd dX3_readLine_26 ?_
      refine Zo_puti fl_X3_28 kd_46 dX3_readLine_27 fun σ4 => ?_
      refine Zo_aload0 dX3_readLine_30 ?_
      show Zo g _ _ _ 0 0 31 _ _ _
      refine Zo_bipush (63 : Int32) dX3_readLine_31 bp_63 ?_
      refine Zo_cVV1 lk_X3_47 (e_X3_addSign g _ _) kd_46 (zFit_rm (by decide)) (zle rfl) dX3_readLine_33 fun σ5 => ?_
      refine Zo_aload0 dX3_readLine_36 ?_
      refine Zo_iconst (0 : Int32) dX3_readLine_37 ic_0 ?_
      refine Zo_iconst (0 : Int32) dX3_readLine_38 ic_0 ?_
      refine Zo_cVS2 lk_X3_43 (er_X3_readPart g _ _ _) kd_46 (zFit_rm (by decide)) (zle rfl) dX3_readLine_39 fun r6 => ?_
      refine Zo_ifne 47 dX3_readLine_42 (by decide) ?_ ?_
      · refine Zo_aload0 dX3_readLine_47 ?_
        refine Zo_bipush (59 : Int32) dX3_readLine_48 bp_59 ?_
        refine Zo_cVV1 lk_X3_47 (e_X3_addSign g _ _) kd_46 (zFit_rm (by decide)) (zle rfl) dX3_readLine_50 fun σ7 => ?_
        refine Zo_iconst (1 : Int32) dX3_readLine_53 ic_1 ?_
        exact Zo_zret dX3_readLine_54 rfl rfl (Or.inr rfl) (Nat.le_refl _) (Nat.le_refl _)
      · refine Zo_iconst (0 : Int32) dX3_readLine_45 ic_0 ?_
        exact Zo_zret dX3_readLine_46 rfl rfl (Or.inl rfl) (Nat.le_refl _) (Nat.le_refl _)
  · refine Zo_iconst (0 : Int32) dX3_readLine_9 ic_0 ?_
    exact Zo_zret dX3_readLine_10 rfl rfl (Or.inl rfl) (Nat.le_refl _) (Nat.le_refl _)
theorem e_X3_readLine (g : ZG) (σ : ZSt) : zEvS g 70 yX3_readLine cX3_readLine 1 (some .boolean) [.ref 46] σ (s_X3_readLine σ) :=
  zEvS_of 0 rfl rfl (z_X3_readLine g σ)
abbrev mX3_read (g : ZG) (q : Nat) : ZM := (yX3_read, cX3_read, 4, (some .int), zRm q 0 0, zTg g 0 0)
def s_X3_read_C59 (p0 : Nat) (k24 : Int32 → Int32 → ZSt → Option (Int32 × ZSt)) (l3 : Int32) (k_0 : Int32) (σ : ZSt) : Option (Int32 × ZSt) :=
  if k_0 = (0 : Int32) then (k24 k_0 (l3 + (1 : Int32)) σ)
    else (zSt' (zWD σ 46 2 ((σ.1 46 2) + (1 : Int32))) fun σ1 => ((s_X3_readLine σ1).bind fun r2 => (k24 r2.1 (l3 + (1 : Int32)) r2.2)))
set_option maxHeartbeats 4000000 in
set_option maxRecDepth 100000 in
theorem z_X3_read_C59 (g : ZG) (p0 : Nat) (hp0 : p0 = 62 ∨ p0 = 65) (k24 : Int32 → Int32 → ZSt → Option (Int32 × ZSt)) (l3 : Int32) (k_0 : Int32) (σ : ZSt) (hk24 : ∀ (x2 : Int32) (x3 : Int32) (σx : ZSt) (d1 : Option Value), Zo g (mX3_read g 71) (fun b : Int32 × ZSt => (some (.int b.1), zw b.2)) (k24 x2 x3 σx) 0 0 24 [some (.ref 46), d1, some (.int x2), some (.int x3)] [] (zw σx)) (o1 : Option Value) (o2 : Option Value) : Zo g (mX3_read g 71) (fun b : Int32 × ZSt => (some (.int b.1), zw b.2)) (s_X3_read_C59 p0 k24 l3 k_0 σ) 0 0 59 [some (.ref 46), o1, o2, some (.int l3)] [.int k_0] (zw σ) := by
  unfold s_X3_read_C59
  refine Zo_drop1 ?_
  refine Zo_istore2 rfl (zlt rfl) dX3_read_59 ?_
  refine Zo_iload2 dX3_read_60 ?_
  refine Zo_ifeq 79 dX3_read_61 (by decide) ?_ ?_
  · refine Zo_iinc3 rfl (1 : Int32) ic_1 (zlt rfl) dX3_read_79 ?_
    refine Zo_goto 24 dX3_read_82 (by decide) ?_
    exact hk24 _ _ _ _
  · refine Zo_aload0 dX3_read_64 ?_
    refine Zo_dup dX3_read_65 rfl ?_
    refine Zo_geti fl_X3_28 kd_46 dX3_read_66 ?_
    refine Zo_iconst (1 : Int32) dX3_read_69 ic_1 ?_
    refine Zo_iadd dX3_read_70 ?_
    refine Zo_puti fl_X3_28 kd_46 dX3_read_71 fun σ1 => ?_
    refine Zo_aload0 dX3_read_74 ?_
    show Zo g _ _ _ 0 0 75 _ _ _
    refine Zo_cVS0 lk_X3_31 (e_X3_readLine g _) kd_46 (zFit_rm (by decide)) (zle rfl) dX3_read_75 fun r2 => ?_
    refine Zo_istore2 rfl (zlt rfl) dX3_read_78 ?_
    refine Zo_iinc3 rfl (1 : Int32) ic_1 (zlt rfl) dX3_read_79 ?_
    refine Zo_goto 24 dX3_read_82 (by decide) ?_
    exact hk24 _ _ _ _
def s_X3_read_C85 (p0 : Nat) (l2 : Int32) (σ : ZSt) : Option (Int32 × ZSt) :=
  if l2 = (0 : Int32) then (zSt' (zWD σ 46 1 (0 : Int32)) fun σ1 => (some ((σ.1 46 2), σ1)))
    else (zSt' (zWD σ 46 1 (0 : Int32)) fun σ2 => (some ((-1 : Int32), σ2)))
set_option maxHeartbeats 4000000 in
set_option maxRecDepth 100000 in
theorem z_X3_read_C85 (g : ZG) (p0 : Nat) (hp0 : p0 = 62 ∨ p0 = 65) (l2 : Int32) (σ : ZSt) (o1 : Option Value) (o3 : Option Value) : Zo g (mX3_read g 71) (fun b : Int32 × ZSt => (some (.int b.1), zw b.2)) (s_X3_read_C85 p0 l2 σ) 0 0 85 [some (.ref 46), o1, some (.int l2), o3] [] (zw σ) := by
  unfold s_X3_read_C85
  refine Zo_iload2 dX3_read_85 ?_
  refine Zo_ifeq 93 dX3_read_86 (by decide) ?_ ?_
  · refine Zo_aload0 dX3_read_93 ?_
    refine Zo_geti fl_X3_28 kd_46 dX3_read_94 ?_
    refine Zo_istore3 rfl (zlt rfl) dX3_read_97 ?_
    refine Zo_aload0 dX3_read_98 ?_
    refine Zo_iconst (0 : Int32) dX3_read_99 ic_0 ?_
    refine Zo_puti fl_X3_15 kd_46 dX3_read_100 fun σ1 => ?_
    refine Zo_iload3 dX3_read_103 ?_
    show Zo g _ _ _ 0 0 104 _ _ _
    exact Zo_iret dX3_read_104 rfl rfl (Nat.le_refl _) (Nat.le_refl _)
  · refine Zo_iconst (-1 : Int32) dX3_read_89 ic_m1 ?_
    refine Zo_goto 97 dX3_read_90 (by decide) ?_
    refine Zo_istore3 rfl (zlt rfl) dX3_read_97 ?_
    refine Zo_aload0 dX3_read_98 ?_
    refine Zo_iconst (0 : Int32) dX3_read_99 ic_0 ?_
    refine Zo_puti fl_X3_15 kd_46 dX3_read_100 fun σ2 => ?_
    refine Zo_iload3 dX3_read_103 ?_
    show Zo g _ _ _ 0 0 104 _ _ _
    exact Zo_iret dX3_read_104 rfl rfl (Nat.le_refl _) (Nat.le_refl _)
def s_X3_read_L24 (p0 : Nat) : Nat → Int32 → Int32 → ZSt → Option (Int32 × ZSt)
  | 0, _, _, _ => none
  | n + 1, l2, l3, σ =>
    if l2 = (0 : Int32) then (s_X3_read_C85 p0 l2 σ)
      else (if (σ.1 46 1) ≤ (σ.1 46 2) then (s_X3_read_C85 p0 l2 σ)
        else (if (120 : Int32) < l3 then (s_X3_read_C85 p0 l2 σ)
          else ((s_X3_next σ).bind fun r1 => (if r1 = (59 : Int32) then (s_X3_read_C59 p0 (s_X3_read_L24 p0 n) l3 (1 : Int32) σ)
            else (s_X3_read_C59 p0 (s_X3_read_L24 p0 n) l3 (0 : Int32) σ)))))
set_option maxHeartbeats 4000000 in
set_option maxRecDepth 100000 in
theorem z_X3_read_L24 (g : ZG) (p0 : Nat) (hp0 : p0 = 62 ∨ p0 = 65) : ∀ (n : Nat) (l2 : Int32) (l3 : Int32) (σ : ZSt) (o1 : Option Value), Zo g (mX3_read g 71) (fun b : Int32 × ZSt => (some (.int b.1), zw b.2)) (s_X3_read_L24 p0 n l2 l3 σ) 0 0 24 [some (.ref 46), o1, some (.int l2), some (.int l3)] [] (zw σ) := by
  intro n
  induction n with
  | zero => intros; exact Zo_none
  | succ n ih =>
    intro l2 l3 σ o1
    rw [s_X3_read_L24]
    refine Zo_iload2 dX3_read_24 ?_
    refine Zo_ifeq 85 dX3_read_25 (by decide) ?_ ?_
    · exact z_X3_read_C85 g p0 hp0 _ _ _ _
    · refine Zo_aload0 dX3_read_28 ?_
      refine Zo_geti fl_X3_28 kd_46 dX3_read_29 ?_
      refine Zo_aload0 dX3_read_32 ?_
      refine Zo_geti fl_X3_15 kd_46 dX3_read_33 ?_
      refine Zo_icmpge 85 dX3_read_36 (by decide) ?_ ?_
      · exact z_X3_read_C85 g p0 hp0 _ _ _ _
      · refine Zo_iload3 dX3_read_39 ?_
        refine Zo_bipush (120 : Int32) dX3_read_40 bp_120 ?_
        refine Zo_icmpgt 85 dX3_read_42 (by decide) ?_ ?_
        · exact z_X3_read_C85 g p0 hp0 _ _ _ _
        · refine Zo_aload0 dX3_read_45 ?_
          refine Zo_cVI0 lk_X3_35 (e_X3_next g _) kd_46 (zFit_rm (by decide)) (zle rfl) dX3_read_46 fun r1 => ?_
          refine Zo_bipush (59 : Int32) dX3_read_49 bp_59 ?_
          refine Zo_icmpne 58 dX3_read_51 (by decide) ?_ ?_
          · refine Zo_iconst (0 : Int32) dX3_read_58 ic_0 ?_
            exact z_X3_read_C59 g p0 hp0 (s_X3_read_L24 p0 n) _ _ _ ih _ _
          · refine Zo_iconst (1 : Int32) dX3_read_54 ic_1 ?_
            refine Zo_goto 59 dX3_read_55 (by decide) ?_
            exact z_X3_read_C59 g p0 hp0 (s_X3_read_L24 p0 n) _ _ _ ih _ _
def s_X3_read (p0 : Nat) (σ : ZSt) : Option (Int32 × ZSt) :=
  zSt' (zWD σ 46 3 (Int32.ofNat p0)) fun σ1 => ((zDyn (σ1.1 46 3)).bind fun t2 => ((s_X4_clearSteps t2 σ1).bind fun σ3 => (zSt' (zWD σ3 46 2 (0 : Int32)) fun σ4 => ((s_X3_readLine σ4).bind fun r5 => (s_X3_read_L24 p0 200 r5.1 (1 : Int32) r5.2)))))
set_option maxHeartbeats 4000000 in
set_option maxRecDepth 100000 in
theorem z_X3_read (g : ZG) (p0 : Nat) (hp0 : p0 = 62 ∨ p0 = 65) (σ : ZSt) : Zo g (mX3_read g 71) (fun b : Int32 × ZSt => (some (.int b.1), zw b.2)) (s_X3_read p0 σ) 0 0 0 [some (.ref 46), some (.ref p0), none, none] [] (zw σ) := by
  unfold s_X3_read
  refine Zo_aload0 dX3_read_0 ?_
  refine Zo_aload1 dX3_read_1 ?_
  refine Zo_putd hp0 fl_X3_19 kd_46 dX3_read_2 fun σ1 => ?_
  refine Zo_aload0 dX3_read_5 ?_
  refine Zo_getd fl_X3_19 kd_46 dX3_read_6 fun t2 ht2 => ?_
  refine Zo_cVV0 lk_X3_23 (e_X4_clearSteps g _ _ ht2) (kL0 ht2) (zFit_rm (by decide)) (zle rfl) dX3_read_9 fun σ3 => ?_
  refine Zo_aload0 dX3_read_12 ?_
  show Zo g _ _ _ 0 0 13 _ _ _
  refine Zo_iconst (0 : Int32) dX3_read_13 ic_0 ?_
  refine Zo_puti fl_X3_28 kd_46 dX3_read_14 fun σ4 => ?_
  refine Zo_aload0 dX3_read_17 ?_
  refine Zo_cVS0 lk_X3_31 (e_X3_readLine g _) kd_46 (zFit_rm (by decide)) (zle rfl) dX3_read_18 fun r5 => ?_
  refine Zo_istore2 rfl (zlt rfl) dX3_read_21 ?_
  refine Zo_iconst (1 : Int32) dX3_read_22 ic_1 ?_
  refine Zo_istore3 rfl (zlt rfl) dX3_read_23 ?_
  exact z_X3_read_L24 g p0 hp0 _ _ _ _ _
theorem e_X3_read (g : ZG) (p0 : Nat) (σ : ZSt) (hp0 : p0 = 62 ∨ p0 = 65) : zEvS g 71 yX3_read cX3_read 4 (some .int) [.ref 46, .ref p0] σ (s_X3_read p0 σ) :=
  zEvS_of 2 rfl rfl (z_X3_read g p0 hp0 σ)
abbrev mX3_bytes (g : ZG) (q : Nat) : ZM := (yX3_bytes, cX3_bytes, 1, (some .int), zRm q 0 0, zTg g 0 0)
def s_X3_bytes (σ : ZSt) : Option Int32 :=
  some (σ.1 46 1)
set_option maxHeartbeats 4000000 in
set_option maxRecDepth 100000 in
theorem z_X3_bytes (g : ZG) (σ : ZSt) : Zo g (mX3_bytes g 0) (fun b : Int32 => (some (.int b), zw σ)) (s_X3_bytes σ) 0 0 0 [some (.ref 46)] [] (zw σ) := by
  unfold s_X3_bytes
  refine Zo_aload0 dX3_bytes_0 ?_
  refine Zo_geti fl_X3_15 kd_46 dX3_bytes_1 ?_
  exact Zo_iret dX3_bytes_4 rfl rfl (Nat.le_refl _) (Nat.le_refl _)
theorem e_X3_bytes (g : ZG) (σ : ZSt) : zEvI g 0 yX3_bytes cX3_bytes 1 (some .int) [.ref 46] σ (s_X3_bytes σ) :=
  zEvI_of 0 rfl rfl (z_X3_bytes g σ)
