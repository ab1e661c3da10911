abbrev mX8_takeWays (g : ZG) (q : Nat) : ZM := (yX8_takeWays, cX8_takeWays, 3, none, zRm q 0 0, zTg g 0 0)
def s_X8_takeWays_L2 (t : Nat) : Nat → Int32 → ZSt → Option ZSt
  | 0, _, _ => none
  | n + 1, l1, σ =>
    if (6 : Int32) ≤ l1 then (some σ)
      else ((s_X7_wayAndSum l1 σ).bind fun r1 => (zSg (zIn l1 6) (zWD σ (t + 1) l1.toNatClampNeg (r1 / (100 : Int32))) fun σ2 => (zSg (zIn l1 6) (zWD σ2 (t + 2) l1.toNatClampNeg (zRem r1 (100 : Int32))) fun σ3 => (s_X8_takeWays_L2 t n (l1 + (1 : Int32)) σ3))))
set_option maxHeartbeats 4000000 in
set_option maxRecDepth 100000 in
theorem z_X8_takeWays_L2 (g : ZG) (t : Nat) (ht : t = 19 ∨ t = 30) : ∀ (n : Nat) (l1 : Int32) (σ : ZSt) (o2 : Option Value), Zo g (mX8_takeWays g 2) (fun b : ZSt => (none, zw b)) (s_X8_takeWays_L2 t n l1 σ) 0 0 2 [some (.ref t), some (.int l1), o2] [] (zw σ) := by
  intro n
  induction n with
  | zero => intros; exact Zo_none
  | succ n ih =>
    intro l1 σ o2
    rw [s_X8_takeWays_L2]
    refine Zo_iload1 dX8_takeWays_2 ?_
    refine Zo_bipush (6 : Int32) dX8_takeWays_3 bp_6 ?_
    refine Zo_icmpge 43 dX8_takeWays_5 (by decide) ?_ ?_
    · exact Zo_vret dX8_takeWays_43 rfl rfl (Nat.le_refl _) (Nat.le_refl _)
    · refine Zo_aload0 dX8_takeWays_8 ?_
      refine Zo_getr (j := 1) fl_X8_42 (kW0 ht) (rW0 ht) dX8_takeWays_9 ?_
      refine Zo_iload1 dX8_takeWays_12 ?_
      refine Zo_cVI1 lk_X8_46 (e_X7_wayAndSum g _ _) kd_1 (zFit_rm (by decide)) (zle rfl) dX8_takeWays_13 fun r1 => ?_
      refine Zo_istore2 rfl (zlt rfl) dX8_takeWays_16 ?_
      refine Zo_aload0 dX8_takeWays_17 ?_
      refine Zo_getr (j := (t + 1)) fl_X8_9 (kW0 ht) (rW1 ht) dX8_takeWays_18 ?_
      show Zo g _ _ _ 0 0 21 _ _ _
      refine Zo_iload1 dX8_takeWays_21 ?_
      refine Zo_iload2 dX8_takeWays_22 ?_
      refine Zo_bipush (100 : Int32) dX8_takeWays_23 bp_100 ?_
      refine Zo_idiv dX8_takeWays_25 (by decide) ?_
      refine Zo_iast (kW1 ht) dX8_takeWays_26 fun σ2 => ?_
      refine Zo_aload0 dX8_takeWays_27 ?_
      refine Zo_getr (j := (t + 2)) fl_X8_15 (kW0 ht) (rW2 ht) dX8_takeWays_28 ?_
      refine Zo_iload1 dX8_takeWays_31 ?_
      show Zo g _ _ _ 0 0 32 _ _ _
      refine Zo_iload2 dX8_takeWays_32 ?_
      refine Zo_bipush (100 : Int32) dX8_takeWays_33 bp_100 ?_
      refine Zo_irem dX8_takeWays_35 (by decide) ?_
      refine Zo_iast (kW2 ht) dX8_takeWays_36 fun σ3 => ?_
      refine Zo_iinc1 rfl (1 : Int32) ic_1 (zlt rfl) dX8_takeWays_37 ?_
      refine Zo_goto 2 dX8_takeWays_40 (by decide) ?_
      exact ih _ _ _
def s_X8_takeWays (t : Nat) (σ : ZSt) : Option ZSt :=
  s_X8_takeWays_L2 t 200 (0 : Int32) σ
set_option maxHeartbeats 4000000 in
set_option maxRecDepth 100000 in
theorem z_X8_takeWays (g : ZG) (t : Nat) (ht : t = 19 ∨ t = 30) (σ : ZSt) : Zo g (mX8_takeWays g 2) (fun b : ZSt => (none, zw b)) (s_X8_takeWays t σ) 0 0 0 [some (.ref t), none, none] [] (zw σ) := by
  unfold s_X8_takeWays
  refine Zo_iconst (0 : Int32) dX8_takeWays_0 ic_0 ?_
  refine Zo_istore1 rfl (zlt rfl) dX8_takeWays_1 ?_
  exact z_X8_takeWays_L2 g t ht _ _ _ _
theorem e_X8_takeWays (g : ZG) (t : Nat) (σ : ZSt) (ht : t = 19 ∨ t = 30) : zEvV g 2 yX8_takeWays cX8_takeWays 3 none [.ref t] σ (s_X8_takeWays t σ) :=
  zEvV_of 2 rfl rfl (z_X8_takeWays g t ht σ)
abbrev mX8_isSomewhere (g : ZG) (q : Nat) : ZM := (yX8_isSomewhere, cX8_isSomewhere, 2, (some .boolean), zRm q 0 0, zTg g 0 0)
def s_X8_isSomewhere (t : Nat) (p0 : Int32) (σ : ZSt) : Option Int32 :=
  zLd (zIn p0 8) (σ.1 (t + 6) p0.toNatClampNeg) fun v1 => (if v1 < (0 : Int32) then (some (0 : Int32))
    else (zLd (zIn p0 8) (σ.1 (t + 6) p0.toNatClampNeg) fun v2 => (if (6 : Int32) ≤ v2 then (some (0 : Int32))
      else (some (1 : Int32)))))
set_option maxHeartbeats 4000000 in
set_option maxRecDepth 100000 in
theorem z_X8_isSomewhere (g : ZG) (t : Nat) (ht : t = 19 ∨ t = 30) (p0 : Int32) (σ : ZSt) : Zo g (mX8_isSomewhere g 0) (fun b : Int32 => (some (.int b), zw σ)) (s_X8_isSomewhere t p0 σ) 0 0 0 [some (.ref t), some (.int p0)] [] (zw σ) := by
  unfold s_X8_isSomewhere
  refine Zo_aload0 dX8_isSomewhere_0 ?_
  refine Zo_getr (j := (t + 6)) fl_X8_27 (kW0 ht) (rW6 ht) dX8_isSomewhere_1 ?_
  refine Zo_iload1 dX8_isSomewhere_4 ?_
  refine Zo_iald (kW6 ht) dX8_isSomewhere_5 fun v1 => ?_
  refine Zo_iflt 24 dX8_isSomewhere_6 (by decide) ?_ ?_
  · refine Zo_iconst (0 : Int32) dX8_isSomewhere_24 ic_0 ?_
    exact Zo_zret dX8_isSomewhere_25 rfl rfl (Or.inl rfl) (Nat.le_refl _) (Nat.le_refl _)
  · refine Zo_aload0 dX8_isSomewhere_9 ?_
    refine Zo_getr (j := (t + 6)) fl_X8_27 (kW0 ht) (rW6 ht) dX8_isSomewhere_10 ?_
    refine Zo_iload1 dX8_isSomewhere_13 ?_
    refine Zo_iald (kW6 ht) dX8_isSomewhere_14 fun v2 => ?_
    refine Zo_bipush (6 : Int32) dX8_isSomewhere_15 bp_6 ?_
    refine Zo_icmpge 24 dX8_isSomewhere_17 (by decide) ?_ ?_
    · refine Zo_iconst (0 : Int32) dX8_isSomewhere_24 ic_0 ?_
      exact Zo_zret dX8_isSomewhere_25 rfl rfl (Or.inl rfl) (Nat.le_refl _) (Nat.le_refl _)
    · refine Zo_iconst (1 : Int32) dX8_isSomewhere_20 ic_1 ?_
      refine Zo_goto 25 dX8_isSomewhere_21 (by decide) ?_
      exact Zo_zret dX8_isSomewhere_25 rfl rfl (Or.inr rfl) (Nat.le_refl _) (Nat.le_refl _)
theorem e_X8_isSomewhere (g : ZG) (t : Nat) (p0 : Int32) (σ : ZSt) (ht : t = 19 ∨ t = 30) : zEvI g 0 yX8_isSomewhere cX8_isSomewhere 2 (some .boolean) [.ref t, .int p0] σ (s_X8_isSomewhere t p0 σ) :=
  zEvI_of 0 rfl rfl (z_X8_isSomewhere g t ht p0 σ)
abbrev mX8_countThere (g : ZG) (q : Nat) : ZM := (yX8_countThere, cX8_countThere, 2, none, zRm q 0 0, zTg g 0 0)
def s_X8_countThere_L23 (t : Nat) : Nat → Int32 → ZSt → Option ZSt
  | 0, _, _ => none
  | n + 1, l1, σ =>
    if (σ.1 t 12) ≤ l1 then (some σ)
      else ((s_X8_isSomewhere t l1 σ).bind fun r1 => (if r1 = (0 : Int32) then (s_X8_countThere_L23 t n (l1 + (1 : Int32)) σ)
        else (zLd (zIn l1 8) (σ.1 (t + 6) l1.toNatClampNeg) fun v2 => (zLd (zIn v2 6) (σ.1 (t + 3) v2.toNatClampNeg) fun v3 => (zSg (zIn v2 6) (zWD σ (t + 3) v2.toNatClampNeg (v3 + (1 : Int32))) fun σ4 => (s_X8_countThere_L23 t n (l1 + (1 : Int32)) σ4))))))
set_option maxHeartbeats 4000000 in
set_option maxRecDepth 100000 in
theorem z_X8_countThere_L23 (g : ZG) (t : Nat) (ht : t = 19 ∨ t = 30) : ∀ (n : Nat) (l1 : Int32) (σ : ZSt), Zo g (mX8_countThere g 1) (fun b : ZSt => (none, zw b)) (s_X8_countThere_L23 t n l1 σ) 0 0 23 [some (.ref t), some (.int l1)] [] (zw σ) := by
  intro n
  induction n with
  | zero => intros; exact Zo_none
  | succ n ih =>
    intro l1 σ
    rw [s_X8_countThere_L23]
    refine Zo_iload1 dX8_countThere_23 ?_
    refine Zo_aload0 dX8_countThere_24 ?_
    refine Zo_geti fl_X8_68 (kW0 ht) dX8_countThere_25 ?_
    refine Zo_icmpge 60 dX8_countThere_28 (by decide) ?_ ?_
    · exact Zo_vret dX8_countThere_60 rfl rfl (Nat.le_refl _) (Nat.le_refl _)
    · refine Zo_aload0 dX8_countThere_31 ?_
      refine Zo_iload1 dX8_countThere_32 ?_
      refine Zo_cVI1 lk_X8_108 (e_X8_isSomewhere g _ _ _ ht) (kW0 ht) (zFit_rm (by decide)) (zle rfl) dX8_countThere_33 fun r1 => ?_
      refine Zo_ifeq 54 dX8_countThere_36 (by decide) ?_ ?_
      · refine Zo_iinc1 rfl (1 : Int32) ic_1 (zlt rfl) dX8_countThere_54 ?_
        refine Zo_goto 23 dX8_countThere_57 (by decide) ?_
        exact ih _ _
      · refine Zo_aload0 dX8_countThere_39 ?_
        refine Zo_getr (j := (t + 3)) fl_X8_18 (kW0 ht) (rW3 ht) dX8_countThere_40 ?_
        refine Zo_aload0 dX8_countThere_43 ?_
        refine Zo_getr (j := (t + 6)) fl_X8_27 (kW0 ht) (rW6 ht) dX8_countThere_44 ?_
        refine Zo_iload1 dX8_countThere_47 ?_
        refine Zo_iald (kW6 ht) dX8_countThere_48 fun v2 => ?_
        refine Zo_dup2 dX8_countThere_49 rfl rfl ?_
        show Zo g _ _ _ 0 0 50 _ _ _
        refine Zo_iald (kW3 ht) dX8_countThere_50 fun v3 => ?_
        refine Zo_iconst (1 : Int32) dX8_countThere_51 ic_1 ?_
        refine Zo_iadd dX8_countThere_52 ?_
        refine Zo_iast (kW3 ht) dX8_countThere_53 fun σ4 => ?_
        refine Zo_iinc1 rfl (1 : Int32) ic_1 (zlt rfl) dX8_countThere_54 ?_
        refine Zo_goto 23 dX8_countThere_57 (by decide) ?_
        exact ih _ _
def s_X8_countThere_L2 (t : Nat) : Nat → Int32 → ZSt → Option ZSt
  | 0, _, _ => none
  | n + 1, l1, σ =>
    if (6 : Int32) ≤ l1 then (s_X8_countThere_L23 t 200 (0 : Int32) σ)
      else (zSg (zIn l1 6) (zWD σ (t + 3) l1.toNatClampNeg (0 : Int32)) fun σ1 => (s_X8_countThere_L2 t n (l1 + (1 : Int32)) σ1))
set_option maxHeartbeats 4000000 in
set_option maxRecDepth 100000 in
theorem z_X8_countThere_L2 (g : ZG) (t : Nat) (ht : t = 19 ∨ t = 30) : ∀ (n : Nat) (l1 : Int32) (σ : ZSt), Zo g (mX8_countThere g 1) (fun b : ZSt => (none, zw b)) (s_X8_countThere_L2 t n l1 σ) 0 0 2 [some (.ref t), some (.int l1)] [] (zw σ) := by
  intro n
  induction n with
  | zero => intros; exact Zo_none
  | succ n ih =>
    intro l1 σ
    rw [s_X8_countThere_L2]
    refine Zo_iload1 dX8_countThere_2 ?_
    refine Zo_bipush (6 : Int32) dX8_countThere_3 bp_6 ?_
    refine Zo_icmpge 21 dX8_countThere_5 (by decide) ?_ ?_
    · refine Zo_iconst (0 : Int32) dX8_countThere_21 ic_0 ?_
      refine Zo_istore1 rfl (zlt rfl) dX8_countThere_22 ?_
      exact z_X8_countThere_L23 g t ht _ _ _
    · refine Zo_aload0 dX8_countThere_8 ?_
      refine Zo_getr (j := (t + 3)) fl_X8_18 (kW0 ht) (rW3 ht) dX8_countThere_9 ?_
      refine Zo_iload1 dX8_countThere_12 ?_
      refine Zo_iconst (0 : Int32) dX8_countThere_13 ic_0 ?_
      refine Zo_iast (kW3 ht) dX8_countThere_14 fun σ1 => ?_
      refine Zo_iinc1 rfl (1 : Int32) ic_1 (zlt rfl) dX8_countThere_15 ?_
      refine Zo_goto 2 dX8_countThere_18 (by decide) ?_
      exact ih _ _
def s_X8_countThere (t : Nat) (σ : ZSt) : Option ZSt :=
  s_X8_countThere_L2 t 200 (0 : Int32) σ
set_option maxHeartbeats 4000000 in
set_option maxRecDepth 100000 in
theorem z_X8_countThere (g : ZG) (t : Nat) (ht : t = 19 ∨ t = 30) (σ : ZSt) : Zo g (mX8_countThere g 1) (fun b : ZSt => (none, zw b)) (s_X8_countThere t σ) 0 0 0 [some (.ref t), none] [] (zw σ) := by
  unfold s_X8_countThere
  refine Zo_iconst (0 : Int32) dX8_countThere_0 ic_0 ?_
  refine Zo_istore1 rfl (zlt rfl) dX8_countThere_1 ?_
  exact z_X8_countThere_L2 g t ht _ _ _
theorem e_X8_countThere (g : ZG) (t : Nat) (σ : ZSt) (ht : t = 19 ∨ t = 30) : zEvV g 1 yX8_countThere cX8_countThere 2 none [.ref t] σ (s_X8_countThere t σ) :=
  zEvV_of 1 rfl rfl (z_X8_countThere g t ht σ)
abbrev mX8_begin (g : ZG) (q : Nat) : ZM := (yX8_begin, cX8_begin, 2, none, zRm q 0 0, zTg g 0 0)
def s_X8_begin_L36 (t : Nat) : Nat → Int32 → ZSt → Option ZSt
  | 0, _, _ => none
  | n + 1, l1, σ =>
    if (6 : Int32) ≤ l1 then (some σ)
      else (zSg (zIn l1 6) (zWD σ (t + 4) l1.toNatClampNeg (0 : Int32)) fun σ1 => (s_X8_begin_L36 t n (l1 + (1 : Int32)) σ1))
set_option maxHeartbeats 4000000 in
set_option maxRecDepth 100000 in
theorem z_X8_begin_L36 (g : ZG) (t : Nat) (ht : t = 19 ∨ t = 30) : ∀ (n : Nat) (l1 : Int32) (σ : ZSt), Zo g (mX8_begin g 2) (fun b : ZSt => (none, zw b)) (s_X8_begin_L36 t n l1 σ) 0 0 36 [some (.ref t), some (.int l1)] [] (zw σ) := by
  intro n
  induction n with
  | zero => intros; exact Zo_none
  | succ n ih =>
    intro l1 σ
    rw [s_X8_begin_L36]
    refine Zo_iload1 dX8_begin_36 ?_
    refine Zo_bipush (6 : Int32) dX8_begin_37 bp_6 ?_
    refine Zo_icmpge 55 dX8_begin_39 (by decide) ?_ ?_
    · exact Zo_vret dX8_begin_55 rfl rfl (Nat.le_refl _) (Nat.le_refl _)
    · refine Zo_aload0 dX8_begin_42 ?_
      refine Zo_getr (j := (t + 4)) fl_X8_21 (kW0 ht) (rW4 ht) dX8_begin_43 ?_
      refine Zo_iload1 dX8_begin_46 ?_
      refine Zo_iconst (0 : Int32) dX8_begin_47 ic_0 ?_
      refine Zo_iast (kW4 ht) dX8_begin_48 fun σ1 => ?_
      refine Zo_iinc1 rfl (1 : Int32) ic_1 (zlt rfl) dX8_begin_49 ?_
      refine Zo_goto 36 dX8_begin_52 (by decide) ?_
      exact ih _ _
def s_X8_begin_L2 (t : Nat) : Nat → Int32 → ZSt → Option ZSt
  | 0, _, _ => none
  | n + 1, l1, σ =>
    if (σ.1 t 12) ≤ l1 then ((s_X8_countThere t σ).bind fun σ1 => (s_X8_begin_L36 t 200 (0 : Int32) σ1))
      else ((s_X7_place l1 σ).bind fun r2 => (zSg (zIn l1 8) (zWD σ (t + 6) l1.toNatClampNeg r2) fun σ3 => (s_X8_begin_L2 t n (l1 + (1 : Int32)) σ3)))
set_option maxHeartbeats 4000000 in
set_option maxRecDepth 100000 in
theorem z_X8_begin_L2 (g : ZG) (t : Nat) (ht : t = 19 ∨ t = 30) : ∀ (n : Nat) (l1 : Int32) (σ : ZSt), Zo g (mX8_begin g 2) (fun b : ZSt => (none, zw b)) (s_X8_begin_L2 t n l1 σ) 0 0 2 [some (.ref t), some (.int l1)] [] (zw σ) := by
  intro n
  induction n with
  | zero => intros; exact Zo_none
  | succ n ih =>
    intro l1 σ
    rw [s_X8_begin_L2]
    refine Zo_iload1 dX8_begin_2 ?_
    refine Zo_aload0 dX8_begin_3 ?_
    refine Zo_geti fl_X8_68 (kW0 ht) dX8_begin_4 ?_
    refine Zo_icmpge 30 dX8_begin_7 (by decide) ?_ ?_
    · refine Zo_aload0 dX8_begin_30 ?_
      refine Zo_cVV0 lk_X8_105 (e_X8_countThere g _ _ ht) (kW0 ht) (zFit_rm (by decide)) (zle rfl) dX8_begin_31 fun σ1 => ?_
      refine Zo_iconst (0 : Int32) dX8_begin_34 ic_0 ?_
      refine Zo_istore1 rfl (zlt rfl) dX8_begin_35 ?_
      exact z_X8_begin_L36 g t ht _ _ _
    · refine Zo_aload0 dX8_begin_10 ?_
      refine Zo_getr (j := (t + 6)) fl_X8_27 (kW0 ht) (rW6 ht) dX8_begin_11 ?_
      refine Zo_iload1 dX8_begin_14 ?_
      refine Zo_aload0 dX8_begin_15 ?_
      refine Zo_getr (j := 1) fl_X8_42 (kW0 ht) (rW0 ht) dX8_begin_16 ?_
      refine Zo_iload1 dX8_begin_19 ?_
      refine Zo_cVI1 lk_X8_102 (e_X7_place g _ _) kd_1 (zFit_rm (by decide)) (zle rfl) dX8_begin_20 fun r2 => ?_
      show Zo g _ _ _ 0 0 23 _ _ _
      refine Zo_iast (kW6 ht) dX8_begin_23 fun σ3 => ?_
      refine Zo_iinc1 rfl (1 : Int32) ic_1 (zlt rfl) dX8_begin_24 ?_
      refine Zo_goto 2 dX8_begin_27 (by decide) ?_
      exact ih _ _
def s_X8_begin (t : Nat) (σ : ZSt) : Option ZSt :=
  s_X8_begin_L2 t 200 (0 : Int32) σ
set_option maxHeartbeats 4000000 in
set_option maxRecDepth 100000 in
theorem z_X8_begin (g : ZG) (t : Nat) (ht : t = 19 ∨ t = 30) (σ : ZSt) : Zo g (mX8_begin g 2) (fun b : ZSt => (none, zw b)) (s_X8_begin t σ) 0 0 0 [some (.ref t), none] [] (zw σ) := by
  unfold s_X8_begin
  refine Zo_iconst (0 : Int32) dX8_begin_0 ic_0 ?_
  refine Zo_istore1 rfl (zlt rfl) dX8_begin_1 ?_
  exact z_X8_begin_L2 g t ht _ _ _
theorem e_X8_begin (g : ZG) (t : Nat) (σ : ZSt) (ht : t = 19 ∨ t = 30) : zEvV g 2 yX8_begin cX8_begin 2 none [.ref t] σ (s_X8_begin t σ) :=
  zEvV_of 1 rfl rfl (z_X8_begin g t ht σ)
abbrev mX8_choice (g : ZG) (q : Nat) : ZM := (yX8_choice, cX8_choice, 7, (some .int), zRm q 0 0, zTg g 0 0)
def s_X8_choice_C131 (t : Nat) (p0 : Nat) (k50 : Int32 → Int32 → Int32 → ZSt → Option (Int32 × ZSt)) (l2 : Int32) (l3 : Int32) (l4 : Int32) (l5 : Int32) (k_1 : Int32) (k_2 : Int32) (σ : ZSt) : Option (Int32 × ZSt) :=
  zSg (zIn k_1 8) (zWD σ (t + 9) k_1.toNatClampNeg k_2) fun σ1 => ((s_X4_worth p0 (t + 9) σ1).bind fun r2 => (if r2.1 ≤ l3 then (k50 l3 l4 (l5 + (1 : Int32)) r2.2)
    else (k50 r2.1 l5 (l5 + (1 : Int32)) r2.2)))
set_option maxHeartbeats 4000000 in
set_option maxRecDepth 100000 in
theorem z_X8_choice_C131 (g : ZG) (t : Nat) (p0 : Nat) (ht : t = 19 ∨ t = 30) (hp0 : p0 = 62 ∨ p0 = 65) (k50 : Int32 → Int32 → Int32 → ZSt → Option (Int32 × ZSt)) (l2 : Int32) (l3 : Int32) (l4 : Int32) (l5 : Int32) (k_1 : Int32) (k_2 : Int32) (σ : ZSt) (hk50 : ∀ (x3 : Int32) (x4 : Int32) (x5 : Int32) (σx : ZSt) (d6 : Option Value), Zo g (mX8_choice g 2) (fun b : Int32 × ZSt => (some (.int b.1), zw b.2)) (k50 x3 x4 x5 σx) 0 0 50 [some (.ref t), some (.ref p0), some (.int l2), some (.int x3), some (.int x4), some (.int x5), d6] [] (zw σx)) (o6 : Option Value) : Zo g (mX8_choice g 2) (fun b : Int32 × ZSt => (some (.int b.1), zw b.2)) (s_X8_choice_C131 t p0 k50 l2 l3 l4 l5 k_1 k_2 σ) 0 0 131 [some (.ref t), some (.ref p0), some (.int l2), some (.int l3), some (.int l4), some (.int l5), o6] [.int k_2, .int k_1, .ref (t + 9)] (zw σ) := by
  unfold s_X8_choice_C131
  refine Zo_iast (kW9 ht) dX8_choice_131 fun σ1 => ?_
  refine Zo_aload1 dX8_choice_132 ?_
  refine Zo_aload0 dX8_choice_133 ?_
  refine Zo_getr (j := (t + 9)) fl_X8_36 (kW0 ht) (rW9 ht) dX8_choice_134 ?_
  refine Zo_cVS1 lk_X8_127 (e_X4_worth g _ _ _ hp0 (kW9 ht)) (kL0 hp0) (zFit_rm (by decide)) (zle rfl) dX8_choice_137 fun r2 => ?_
  refine Zo_istore6 rfl (zlt rfl) dX8_choice_140 ?_
  refine Zo_iload6 dX8_choice_142 ?_
  show Zo g _ _ _ 0 0 144 _ _ _
  refine Zo_iload3 dX8_choice_144 ?_
  refine Zo_icmple 155 dX8_choice_145 (by decide) ?_ ?_
  · refine Zo_iinc5 rfl (1 : Int32) ic_1 (zlt rfl) dX8_choice_155 ?_
    refine Zo_goto 50 dX8_choice_158 (by decide) ?_
    exact hk50 _ _ _ _ _
  · refine Zo_iload6 dX8_choice_148 ?_
    refine Zo_istore3 rfl (zlt rfl) dX8_choice_150 ?_
    refine Zo_iload5 dX8_choice_151 ?_
    refine Zo_istore4 rfl (zlt rfl) dX8_choice_153 ?_
    refine Zo_iinc5 rfl (1 : Int32) ic_1 (zlt rfl) dX8_choice_155 ?_
    refine Zo_goto 50 dX8_choice_158 (by decide) ?_
    exact hk50 _ _ _ _ _
def s_X8_choice_L50 (t : Nat) (p0 : Nat) (l2 : Int32) : Nat → Int32 → Int32 → Int32 → ZSt → Option (Int32 × ZSt)
  | 0, _, _, _, _ => none
  | n + 1, l3, l4, l5, σ =>
    if (σ.1 t 11) ≤ l5 then (some (l4, σ))
      else ((s_X7_take l5 σ).bind fun r1 => (zSg (zIn (0 : Int32) 8) (zWD σ (t + 9) (0 : Int32).toNatClampNeg r1) fun σ2 => (zLd (zIn l5 6) (σ2.1 (t + 4) l5.toNatClampNeg) fun v3 => (zSg (zIn (2 : Int32) 8) (zWD σ2 (t + 9) (2 : Int32).toNatClampNeg v3) fun σ4 => (zLd (zIn l5 6) (σ4.1 (t + 3) l5.toNatClampNeg) fun v5 => (zSg (zIn (4 : Int32) 8) (zWD σ4 (t + 9) (4 : Int32).toNatClampNeg v5) fun σ6 => (zSg (zIn (6 : Int32) 8) (zWD σ6 (t + 9) (6 : Int32).toNatClampNeg l5) fun σ7 => (zLd (zIn l2 8) (σ7.1 (t + 6) l2.toNatClampNeg) fun v8 => (if v8 = l5 then (s_X8_choice_C131 t p0 (s_X8_choice_L50 t p0 l2 n) l2 l3 l4 l5 (7 : Int32) (1 : Int32) σ7)
        else (s_X8_choice_C131 t p0 (s_X8_choice_L50 t p0 l2 n) l2 l3 l4 l5 (7 : Int32) (0 : Int32) σ7))))))))))
set_option maxHeartbeats 4000000 in
set_option maxRecDepth 100000 in
theorem z_X8_choice_L50 (g : ZG) (t : Nat) (p0 : Nat) (ht : t = 19 ∨ t = 30) (hp0 : p0 = 62 ∨ p0 = 65) (l2 : Int32) : ∀ (n : Nat) (l3 : Int32) (l4 : Int32) (l5 : Int32) (σ : ZSt) (o6 : Option Value), Zo g (mX8_choice g 2) (fun b : Int32 × ZSt => (some (.int b.1), zw b.2)) (s_X8_choice_L50 t p0 l2 n l3 l4 l5 σ) 0 0 50 [some (.ref t), some (.ref p0), some (.int l2), some (.int l3), some (.int l4), some (.int l5), o6] [] (zw σ) := by
  intro n
  induction n with
  | zero => intros; exact Zo_none
  | succ n ih =>
    intro l3 l4 l5 σ o6
    rw [s_X8_choice_L50]
    refine Zo_iload5 dX8_choice_50 ?_
    refine Zo_aload0 dX8_choice_52 ?_
    refine Zo_geti fl_X8_62 (kW0 ht) dX8_choice_53 ?_
    refine Zo_icmpge 161 dX8_choice_56 (by decide) ?_ ?_
    · refine Zo_iload4 dX8_choice_161 ?_
      exact Zo_iret dX8_choice_163 rfl rfl (Nat.le_refl _) (Nat.le_refl _)
    · refine Zo_aload0 dX8_choice_59 ?_
      refine Zo_getr (j := (t + 9)) fl_X8_36 (kW0 ht) (rW9 ht) dX8_choice_60 ?_
      refine Zo_iconst (0 : Int32) dX8_choice_63 ic_0 ?_
      refine Zo_aload0 dX8_choice_64 ?_
      refine Zo_getr (j := 1) fl_X8_42 (kW0 ht) (rW0 ht) dX8_choice_65 ?_
      refine Zo_iload5 dX8_choice_68 ?_
      refine Zo_cVI1 lk_X8_124 (e_X7_take g _ _) kd_1 (zFit_rm (by decide)) (zle rfl) dX8_choice_70 fun r1 => ?_
      show Zo g _ _ _ 0 0 73 _ _ _
      refine Zo_iast (kW9 ht) dX8_choice_73 fun σ2 => ?_
      refine Zo_aload0 dX8_choice_74 ?_
      refine Zo_getr (j := (t + 9)) fl_X8_36 (kW0 ht) (rW9 ht) dX8_choice_75 ?_
      refine Zo_iconst (2 : Int32) dX8_choice_78 ic_2 ?_
      refine Zo_aload0 dX8_choice_79 ?_
      refine Zo_getr (j := (t + 4)) fl_X8_21 (kW0 ht) (rW4 ht) dX8_choice_80 ?_
      refine Zo_iload5 dX8_choice_83 ?_
      refine Zo_iald (kW4 ht) dX8_choice_85 fun v3 => ?_
      show Zo g _ _ _ 0 0 86 _ _ _
      refine Zo_iast (kW9 ht) dX8_choice_86 fun σ4 => ?_
      refine Zo_aload0 dX8_choice_87 ?_
      refine Zo_getr (j := (t + 9)) fl_X8_36 (kW0 ht) (rW9 ht) dX8_choice_88 ?_
      refine Zo_iconst (4 : Int32) dX8_choice_91 ic_4 ?_
      refine Zo_aload0 dX8_choice_92 ?_
      refine Zo_getr (j := (t + 3)) fl_X8_18 (kW0 ht) (rW3 ht) dX8_choice_93 ?_
      refine Zo_iload5 dX8_choice_96 ?_
      refine Zo_iald (kW3 ht) dX8_choice_98 fun v5 => ?_
      show Zo g _ _ _ 0 0 99 _ _ _
      refine Zo_iast (kW9 ht) dX8_choice_99 fun σ6 => ?_
      refine Zo_aload0 dX8_choice_100 ?_
      refine Zo_getr (j := (t + 9)) fl_X8_36 (kW0 ht) (rW9 ht) dX8_choice_101 ?_
      refine Zo_bipush (6 : Int32) dX8_choice_104 bp_6 ?_
      refine Zo_iload5 dX8_choice_106 ?_
      refine Zo_iast (kW9 ht) dX8_choice_108 fun σ7 => ?_
      refine Zo_aload0 dX8_choice_109 ?_
      refine Zo_getr (j := (t + 9)) fl_X8_36 (kW0 ht) (rW9 ht) dX8_choice_110 ?_
      show Zo g _ _ _ 0 0 113 _ _ _
      refine Zo_bipush (7 : Int32) dX8_choice_113 bp_7 ?_
      refine Zo_aload0 dX8_choice_115 ?_
      refine Zo_getr (j := (t + 6)) fl_X8_27 (kW0 ht) (rW6 ht) dX8_choice_116 ?_
      refine Zo_iload2 dX8_choice_119 ?_
      refine Zo_iald (kW6 ht) dX8_choice_120 fun v8 => ?_
      refine Zo_iload5 dX8_choice_121 ?_
      refine Zo_icmpne 130 dX8_choice_123 (by decide) ?_ ?_
      · refine Zo_iconst (0 : Int32) dX8_choice_130 ic_0 ?_
        exact z_X8_choice_C131 g t p0 ht hp0 (s_X8_choice_L50 t p0 l2 n) _ _ _ _ _ _ _ ih _
      · refine Zo_iconst (1 : Int32) dX8_choice_126 ic_1 ?_
        refine Zo_goto 131 dX8_choice_127 (by decide) ?_
        exact z_X8_choice_C131 g t p0 ht hp0 (s_X8_choice_L50 t p0 l2 n) _ _ _ _ _ _ _ ih _
def s_X8_choice (t : Nat) (p0 : Nat) (p1 : Int32) (σ : ZSt) : Option (Int32 × ZSt) :=
  (s_X7_cost p1 σ).bind fun r1 => (zSg (zIn (1 : Int32) 8) (zWD σ (t + 9) (1 : Int32).toNatClampNeg r1) fun σ2 => ((s_X7_hearing p1 σ2).bind fun r3 => (zSg (zIn (3 : Int32) 8) (zWD σ2 (t + 9) (3 : Int32).toNatClampNeg r3) fun σ4 => ((s_X7_goodOf p1 σ4).bind fun r5 => (zSg (zIn (5 : Int32) 8) (zWD σ4 (t + 9) (5 : Int32).toNatClampNeg r5) fun σ6 => (s_X8_choice_L50 t p0 p1 200 (0 : Int32) (-1 : Int32) (0 : Int32) σ6))))))
set_option maxHeartbeats 4000000 in
set_option maxRecDepth 100000 in
theorem z_X8_choice (g : ZG) (t : Nat) (p0 : Nat) (ht : t = 19 ∨ t = 30) (hp0 : p0 = 62 ∨ p0 = 65) (p1 : Int32) (σ : ZSt) : Zo g (mX8_choice g 2) (fun b : Int32 × ZSt => (some (.int b.1), zw b.2)) (s_X8_choice t p0 p1 σ) 0 0 0 [some (.ref t), some (.ref p0), some (.int p1), none, none, none, none] [] (zw σ) := by
  unfold s_X8_choice
  refine Zo_iconst (0 : Int32) dX8_choice_0 ic_0 ?_
  refine Zo_istore3 rfl (zlt rfl) dX8_choice_1 ?_
  refine Zo_iconst (-1 : Int32) dX8_choice_2 ic_m1 ?_
  refine Zo_istore4 rfl (zlt rfl) dX8_choice_3 ?_
  refine Zo_aload0 dX8_choice_5 ?_
  refine Zo_getr (j := (t + 9)) fl_X8_36 (kW0 ht) (rW9 ht) dX8_choice_6 ?_
  refine Zo_iconst (1 : Int32) dX8_choice_9 ic_1 ?_
  show Zo g _ _ _ 0 0 10 _ _ _
  refine Zo_aload0 dX8_choice_10 ?_
  refine Zo_getr (j := 1) fl_X8_42 (kW0 ht) (rW0 ht) dX8_choice_11 ?_
  refine Zo_iload2 dX8_choice_14 ?_
  refine Zo_cVI1 lk_X8_116 (e_X7_cost g _ _) kd_1 (zFit_rm (by decide)) (zle rfl) dX8_choice_15 fun r1 => ?_
  refine Zo_iast (kW9 ht) dX8_choice_18 fun σ2 => ?_
  refine Zo_aload0 dX8_choice_19 ?_
  refine Zo_getr (j := (t + 9)) fl_X8_36 (kW0 ht) (rW9 ht) dX8_choice_20 ?_
  refine Zo_iconst (3 : Int32) dX8_choice_23 ic_3 ?_
  show Zo g _ _ _ 0 0 24 _ _ _
  refine Zo_aload0 dX8_choice_24 ?_
  refine Zo_getr (j := 1) fl_X8_42 (kW0 ht) (rW0 ht) dX8_choice_25 ?_
  refine Zo_iload2 dX8_choice_28 ?_
  refine Zo_cVI1 lk_X8_118 (e_X7_hearing g _ _) kd_1 (zFit_rm (by decide)) (zle rfl) dX8_choice_29 fun r3 => ?_
  refine Zo_iast (kW9 ht) dX8_choice_32 fun σ4 => ?_
  refine Zo_aload0 dX8_choice_33 ?_
  refine Zo_getr (j := (t + 9)) fl_X8_36 (kW0 ht) (rW9 ht) dX8_choice_34 ?_
  refine Zo_iconst (5 : Int32) dX8_choice_37 ic_5 ?_
  show Zo g _ _ _ 0 0 38 _ _ _
  refine Zo_aload0 dX8_choice_38 ?_
  refine Zo_getr (j := 1) fl_X8_42 (kW0 ht) (rW0 ht) dX8_choice_39 ?_
  refine Zo_iload2 dX8_choice_42 ?_
  refine Zo_cVI1 lk_X8_121 (e_X7_goodOf g _ _) kd_1 (zFit_rm (by decide)) (zle rfl) dX8_choice_43 fun r5 => ?_
  refine Zo_iast (kW9 ht) dX8_choice_46 fun σ6 => ?_
  refine Zo_iconst (0 : Int32) dX8_choice_47 ic_0 ?_
  refine Zo_istore5 rfl (zlt rfl) dX8_choice_48 ?_
  exact z_X8_choice_L50 g t p0 ht hp0 _ _ _ _ _ _ _
theorem e_X8_choice (g : ZG) (t : Nat) (p0 : Nat) (p1 : Int32) (σ : ZSt) (ht : t = 19 ∨ t = 30) (hp0 : p0 = 62 ∨ p0 = 65) : zEvS g 2 yX8_choice cX8_choice 7 (some .int) [.ref t, .ref p0, .int p1] σ (s_X8_choice t p0 p1 σ) :=
  zEvS_of 4 rfl rfl (z_X8_choice g t p0 ht hp0 p1 σ)
abbrev mX8_allGo (g : ZG) (q : Nat) : ZM := (yX8_allGo, cX8_allGo, 3, none, zRm q 0 0, zTg g 0 0)
def s_X8_allGo_L30 (t : Nat) (p0 : Nat) : Nat → Int32 → ZSt → Option ZSt
  | 0, _, _ => none
  | n + 1, l2, σ =>
    if (σ.1 t 12) ≤ l2 then ((s_X8_countThere t σ).bind fun σ1 => (some σ1))
      else (zLd (zIn l2 8) (σ.1 (t + 7) l2.toNatClampNeg) fun v2 => (zSg (zIn l2 8) (zWD σ (t + 6) l2.toNatClampNeg v2) fun σ3 => (s_X8_allGo_L30 t p0 n (l2 + (1 : Int32)) σ3)))
set_option maxHeartbeats 4000000 in
set_option maxRecDepth 100000 in
theorem z_X8_allGo_L30 (g : ZG) (t : Nat) (p0 : Nat) (ht : t = 19 ∨ t = 30) (hp0 : p0 = 62 ∨ p0 = 65) : ∀ (n : Nat) (l2 : Int32) (σ : ZSt) (o1 : Option Value), Zo g (mX8_allGo g 3) (fun b : ZSt => (none, zw b)) (s_X8_allGo_L30 t p0 n l2 σ) 0 0 30 [some (.ref t), o1, some (.int l2)] [] (zw σ) := by
  intro n
  induction n with
  | zero => intros; exact Zo_none
  | succ n ih =>
    intro l2 σ o1
    rw [s_X8_allGo_L30]
    refine Zo_iload2 dX8_allGo_30 ?_
    refine Zo_aload0 dX8_allGo_31 ?_
    refine Zo_geti fl_X8_68 (kW0 ht) dX8_allGo_32 ?_
    refine Zo_icmpge 56 dX8_allGo_35 (by decide) ?_ ?_
    · refine Zo_aload0 dX8_allGo_56 ?_
      refine Zo_cVV0 lk_X8_105 (e_X8_countThere g _ _ ht) (kW0 ht) (zFit_rm (by decide)) (zle rfl) dX8_allGo_57 fun σ1 => ?_
      exact Zo_vret dX8_allGo_60 rfl rfl (Nat.le_refl _) (Nat.le_refl _)
    · refine Zo_aload0 dX8_allGo_38 ?_
      refine Zo_getr (j := (t + 6)) fl_X8_27 (kW0 ht) (rW6 ht) dX8_allGo_39 ?_
      refine Zo_iload2 dX8_allGo_42 ?_
      refine Zo_aload0 dX8_allGo_43 ?_
      refine Zo_getr (j := (t + 7)) fl_X8_30 (kW0 ht) (rW7 ht) dX8_allGo_44 ?_
      refine Zo_iload2 dX8_allGo_47 ?_
      refine Zo_iald (kW7 ht) dX8_allGo_48 fun v2 => ?_
      show Zo g _ _ _ 0 0 49 _ _ _
      refine Zo_iast (kW6 ht) dX8_allGo_49 fun σ3 => ?_
      refine Zo_drop1 ?_
      refine Zo_iinc2 rfl (1 : Int32) ic_1 (zlt rfl) dX8_allGo_50 ?_
      refine Zo_goto 30 dX8_allGo_53 (by decide) ?_
      exact ih _ _ _
def s_X8_allGo_L2 (t : Nat) (p0 : Nat) : Nat → Int32 → ZSt → Option ZSt
  | 0, _, _ => none
  | n + 1, l2, σ =>
    if (σ.1 t 12) ≤ l2 then (s_X8_allGo_L30 t p0 200 (0 : Int32) σ)
      else ((s_X8_choice t p0 l2 σ).bind fun r1 => (zSg (zIn l2 8) (zWD r1.2 (t + 7) l2.toNatClampNeg r1.1) fun σ2 => (s_X8_allGo_L2 t p0 n (l2 + (1 : Int32)) σ2)))
set_option maxHeartbeats 4000000 in
set_option maxRecDepth 100000 in
theorem z_X8_allGo_L2 (g : ZG) (t : Nat) (p0 : Nat) (ht : t = 19 ∨ t = 30) (hp0 : p0 = 62 ∨ p0 = 65) : ∀ (n : Nat) (l2 : Int32) (σ : ZSt), Zo g (mX8_allGo g 3) (fun b : ZSt => (none, zw b)) (s_X8_allGo_L2 t p0 n l2 σ) 0 0 2 [some (.ref t), some (.ref p0), some (.int l2)] [] (zw σ) := by
  intro n
  induction n with
  | zero => intros; exact Zo_none
  | succ n ih =>
    intro l2 σ
    rw [s_X8_allGo_L2]
    refine Zo_iload2 dX8_allGo_2 ?_
    refine Zo_aload0 dX8_allGo_3 ?_
    refine Zo_geti fl_X8_68 (kW0 ht) dX8_allGo_4 ?_
    refine Zo_icmpge 28 dX8_allGo_7 (by decide) ?_ ?_
    · refine Zo_iconst (0 : Int32) dX8_allGo_28 ic_0 ?_
      refine Zo_istore2 rfl (zlt rfl) dX8_allGo_29 ?_
      exact z_X8_allGo_L30 g t p0 ht hp0 _ _ _ _
    · refine Zo_aload0 dX8_allGo_10 ?_
      refine Zo_getr (j := (t + 7)) fl_X8_30 (kW0 ht) (rW7 ht) dX8_allGo_11 ?_
      refine Zo_iload2 dX8_allGo_14 ?_
      refine Zo_aload0 dX8_allGo_15 ?_
      refine Zo_aload1 dX8_allGo_16 ?_
      refine Zo_iload2 dX8_allGo_17 ?_
      refine Zo_cVS2 lk_X8_112 (e_X8_choice g _ _ _ _ ht hp0) (kW0 ht) (zFit_rm (by decide)) (zle rfl) dX8_allGo_18 fun r1 => ?_
      show Zo g _ _ _ 0 0 21 _ _ _
      refine Zo_iast (kW7 ht) dX8_allGo_21 fun σ2 => ?_
      refine Zo_iinc2 rfl (1 : Int32) ic_1 (zlt rfl) dX8_allGo_22 ?_
      refine Zo_goto 2 dX8_allGo_25 (by decide) ?_
      exact ih _ _
def s_X8_allGo (t : Nat) (p0 : Nat) (σ : ZSt) : Option ZSt :=
  s_X8_allGo_L2 t p0 200 (0 : Int32) σ
set_option maxHeartbeats 4000000 in
set_option maxRecDepth 100000 in
theorem z_X8_allGo (g : ZG) (t : Nat) (p0 : Nat) (ht : t = 19 ∨ t = 30) (hp0 : p0 = 62 ∨ p0 = 65) (σ : ZSt) : Zo g (mX8_allGo g 3) (fun b : ZSt => (none, zw b)) (s_X8_allGo t p0 σ) 0 0 0 [some (.ref t), some (.ref p0), none] [] (zw σ) := by
  unfold s_X8_allGo
  refine Zo_iconst (0 : Int32) dX8_allGo_0 ic_0 ?_
  refine Zo_istore2 rfl (zlt rfl) dX8_allGo_1 ?_
  exact z_X8_allGo_L2 g t p0 ht hp0 _ _ _
theorem e_X8_allGo (g : ZG) (t : Nat) (p0 : Nat) (σ : ZSt) (ht : t = 19 ∨ t = 30) (hp0 : p0 = 62 ∨ p0 = 65) : zEvV g 3 yX8_allGo cX8_allGo 3 none [.ref t, .ref p0] σ (s_X8_allGo t p0 σ) :=
  zEvV_of 1 rfl rfl (z_X8_allGo g t p0 ht hp0 σ)
abbrev mX8_payOut (g : ZG) (q : Nat) : ZM := (yX8_payOut, cX8_payOut, 4, none, zRm q 0 0, zTg g 0 0)
def s_X8_payOut_C35 (t : Nat) (k2 : Int32 → ZSt → Option ZSt) (l1 : Int32) (k_0 : Int32) (σ : ZSt) : Option ZSt :=
  if k_0 = (0 : Int32) then (zLd (zIn l1 6) (σ.1 (t + 1) l1.toNatClampNeg) fun v1 => (if v1 = (1 : Int32) then (zLd (zIn l1 6) (σ.1 (t + 3) l1.toNatClampNeg) fun v4 => (zLd (zIn l1 6) (σ.1 (t + 2) l1.toNatClampNeg) fun v5 => (zSg (zIn l1 6) (zWD σ (t + 4) l1.toNatClampNeg (v4 * v5)) fun σ6 => (k2 (l1 + (1 : Int32)) σ6))))
      else (zLd (zIn l1 6) (σ.1 (t + 2) l1.toNatClampNeg) fun v2 => (zSg (zIn l1 6) (zWD σ (t + 4) l1.toNatClampNeg ((0 : Int32) * v2)) fun σ3 => (k2 (l1 + (1 : Int32)) σ3)))))
    else (zLd (zIn l1 6) (σ.1 (t + 3) l1.toNatClampNeg) fun v7 => (zLd (zIn l1 6) (σ.1 (t + 2) l1.toNatClampNeg) fun v8 => (zSg (zIn l1 6) (zWD σ (t + 4) l1.toNatClampNeg ((if (1 : Int32) < v7 then (1 : Int32) else v7) * v8)) fun σ9 => (k2 (l1 + (1 : Int32)) σ9))))
set_option maxHeartbeats 4000000 in
set_option maxRecDepth 100000 in
theorem z_X8_payOut_C35 (g : ZG) (t : Nat) (ht : t = 19 ∨ t = 30) (k2 : Int32 → ZSt → Option ZSt) (l1 : Int32) (k_0 : Int32) (σ : ZSt) (hk2 : ∀ (x1 : Int32) (σx : ZSt) (d2 d3 : Option Value), Zo g (mX8_payOut g 1) (fun b : ZSt => (none, zw b)) (k2 x1 σx) 0 0 2 [some (.ref t), some (.int x1), d2, d3] [] (zw σx)) (o2 : Option Value) (o3 : Option Value) : Zo g (mX8_payOut g 1) (fun b : ZSt => (none, zw b)) (s_X8_payOut_C35 t k2 l1 k_0 σ) 0 0 35 [some (.ref t), some (.int l1), o2, o3] [.int k_0] (zw σ) := by
  unfold s_X8_payOut_C35
  refine Zo_istore2 rfl (zlt rfl) dX8_payOut_35 ?_
  refine Zo_iload2 dX8_payOut_36 ?_
  refine Zo_ifeq 53 dX8_payOut_37 (by decide) ?_ ?_
  · refine Zo_aload0 dX8_payOut_53 ?_
    refine Zo_getr (j := (t + 1)) fl_X8_9 (kW0 ht) (rW1 ht) dX8_payOut_54 ?_
    refine Zo_iload1 dX8_payOut_57 ?_
    refine Zo_iald (kW1 ht) dX8_payOut_58 fun v1 => ?_
    refine Zo_iconst (1 : Int32) dX8_payOut_59 ic_1 ?_
    refine Zo_icmpne 72 dX8_payOut_60 (by decide) ?_ ?_
    · refine Zo_iconst (0 : Int32) dX8_payOut_72 ic_0 ?_
      refine Zo_istore3 rfl (zlt rfl) dX8_payOut_73 ?_
      refine Zo_aload0 dX8_payOut_74 ?_
      refine Zo_getr (j := (t + 4)) fl_X8_21 (kW0 ht) (rW4 ht) dX8_payOut_75 ?_
      refine Zo_iload1 dX8_payOut_78 ?_
      refine Zo_iload3 dX8_payOut_79 ?_
      refine Zo_aload0 dX8_payOut_80 ?_
      show Zo g _ _ _ 0 0 81 _ _ _
      refine Zo_getr (j := (t + 2)) fl_X8_15 (kW0 ht) (rW2 ht) dX8_payOut_81 ?_
      refine Zo_iload1 dX8_payOut_84 ?_
      refine Zo_iald (kW2 ht) dX8_payOut_85 fun v2 => ?_
      refine Zo_imul dX8_payOut_86 ?_
      refine Zo_iast (kW4 ht) dX8_payOut_87 fun σ3 => ?_
      refine Zo_iinc1 rfl (1 : Int32) ic_1 (zlt rfl) dX8_payOut_88 ?_
      refine Zo_goto 2 dX8_payOut_91 (by decide) ?_
      exact hk2 _ _ _ _
    · refine Zo_aload0 dX8_payOut_63 ?_
      refine Zo_getr (j := (t + 3)) fl_X8_18 (kW0 ht) (rW3 ht) dX8_payOut_64 ?_
      refine Zo_iload1 dX8_payOut_67 ?_
      refine Zo_iald (kW3 ht) dX8_payOut_68 fun v4 => ?_
      refine Zo_goto 73 dX8_payOut_69 (by decide) ?_
      refine Zo_istore3 rfl (zlt rfl) dX8_payOut_73 ?_
      refine Zo_aload0 dX8_payOut_74 ?_
      show Zo g _ _ _ 0 0 75 _ _ _
      refine Zo_getr (j := (t + 4)) fl_X8_21 (kW0 ht) (rW4 ht) dX8_payOut_75 ?_
      refine Zo_iload1 dX8_payOut_78 ?_
      refine Zo_iload3 dX8_payOut_79 ?_
      refine Zo_aload0 dX8_payOut_80 ?_
      refine Zo_getr (j := (t + 2)) fl_X8_15 (kW0 ht) (rW2 ht) dX8_payOut_81 ?_
      refine Zo_iload1 dX8_payOut_84 ?_
      refine Zo_iald (kW2 ht) dX8_payOut_85 fun v5 => ?_
      refine Zo_imul dX8_payOut_86 ?_
      show Zo g _ _ _ 0 0 87 _ _ _
      refine Zo_iast (kW4 ht) dX8_payOut_87 fun σ6 => ?_
      refine Zo_iinc1 rfl (1 : Int32) ic_1 (zlt rfl) dX8_payOut_88 ?_
      refine Zo_goto 2 dX8_payOut_91 (by decide) ?_
      exact hk2 _ _ _ _
  · refine Zo_aload0 dX8_payOut_40 ?_
    refine Zo_getr (j := (t + 3)) fl_X8_18 (kW0 ht) (rW3 ht) dX8_payOut_41 ?_
    refine Zo_iload1 dX8_payOut_44 ?_
    refine Zo_iald (kW3 ht) dX8_payOut_45 fun v7 => ?_
    refine Zo_iconst (1 : Int32) dX8_payOut_46 ic_1 ?_
    refine Zo_mmin mm_X8_56 ms_min mi_Math mc_min (zle rfl) ⟨zle rfl, zle rfl, Nat.zero_le _, Nat.zero_le _⟩ dX8_payOut_47 ?_
    refine Zo_goto 73 dX8_payOut_50 (by decide) ?_
    show Zo g _ _ _ 0 0 73 _ _ _
    refine Zo_istore3 rfl (zlt rfl) dX8_payOut_73 ?_
    refine Zo_aload0 dX8_payOut_74 ?_
    refine Zo_getr (j := (t + 4)) fl_X8_21 (kW0 ht) (rW4 ht) dX8_payOut_75 ?_
    refine Zo_iload1 dX8_payOut_78 ?_
    refine Zo_iload3 dX8_payOut_79 ?_
    refine Zo_aload0 dX8_payOut_80 ?_
    refine Zo_getr (j := (t + 2)) fl_X8_15 (kW0 ht) (rW2 ht) dX8_payOut_81 ?_
    refine Zo_iload1 dX8_payOut_84 ?_
    show Zo g _ _ _ 0 0 85 _ _ _
    refine Zo_iald (kW2 ht) dX8_payOut_85 fun v8 => ?_
    refine Zo_imul dX8_payOut_86 ?_
    refine Zo_iast (kW4 ht) dX8_payOut_87 fun σ9 => ?_
    refine Zo_iinc1 rfl (1 : Int32) ic_1 (zlt rfl) dX8_payOut_88 ?_
    refine Zo_goto 2 dX8_payOut_91 (by decide) ?_
    exact hk2 _ _ _ _
def s_X8_payOut_L2 (t : Nat) : Nat → Int32 → ZSt → Option ZSt
  | 0, _, _ => none
  | n + 1, l1, σ =>
    if (σ.1 t 11) ≤ l1 then (some σ)
      else (zLd (zIn l1 6) (σ.1 (t + 1) l1.toNatClampNeg) fun v1 => (if v1 = (2 : Int32) then (s_X8_payOut_C35 t (s_X8_payOut_L2 t n) l1 (1 : Int32) σ)
        else (zLd (zIn l1 6) (σ.1 (t + 1) l1.toNatClampNeg) fun v2 => (if v2 = (4 : Int32) then (s_X8_payOut_C35 t (s_X8_payOut_L2 t n) l1 (1 : Int32) σ)
          else (s_X8_payOut_C35 t (s_X8_payOut_L2 t n) l1 (0 : Int32) σ)))))
set_option maxHeartbeats 4000000 in
set_option maxRecDepth 100000 in
theorem z_X8_payOut_L2 (g : ZG) (t : Nat) (ht : t = 19 ∨ t = 30) : ∀ (n : Nat) (l1 : Int32) (σ : ZSt) (o2 o3 : Option Value), Zo g (mX8_payOut g 1) (fun b : ZSt => (none, zw b)) (s_X8_payOut_L2 t n l1 σ) 0 0 2 [some (.ref t), some (.int l1), o2, o3] [] (zw σ) := by
  intro n
  induction n with
  | zero => intros; exact Zo_none
  | succ n ih =>
    intro l1 σ o2 o3
    rw [s_X8_payOut_L2]
    refine Zo_iload1 dX8_payOut_2 ?_
    refine Zo_aload0 dX8_payOut_3 ?_
    refine Zo_geti fl_X8_62 (kW0 ht) dX8_payOut_4 ?_
    refine Zo_icmpge 94 dX8_payOut_7 (by decide) ?_ ?_
    · exact Zo_vret dX8_payOut_94 rfl rfl (Nat.le_refl _) (Nat.le_refl _)
    · refine Zo_aload0 dX8_payOut_10 ?_
      refine Zo_getr (j := (t + 1)) fl_X8_9 (kW0 ht) (rW1 ht) dX8_payOut_11 ?_
      refine Zo_iload1 dX8_payOut_14 ?_
      refine Zo_iald (kW1 ht) dX8_payOut_15 fun v1 => ?_
      refine Zo_iconst (2 : Int32) dX8_payOut_16 ic_2 ?_
      refine Zo_icmpeq 30 dX8_payOut_17 (by decide) ?_ ?_
      · refine Zo_iconst (1 : Int32) dX8_payOut_30 ic_1 ?_
        refine Zo_goto 35 dX8_payOut_31 (by decide) ?_
        exact z_X8_payOut_C35 g t ht (s_X8_payOut_L2 t n) _ _ _ ih _ _
      · refine Zo_aload0 dX8_payOut_20 ?_
        refine Zo_getr (j := (t + 1)) fl_X8_9 (kW0 ht) (rW1 ht) dX8_payOut_21 ?_
        refine Zo_iload1 dX8_payOut_24 ?_
        refine Zo_iald (kW1 ht) dX8_payOut_25 fun v2 => ?_
        refine Zo_iconst (4 : Int32) dX8_payOut_26 ic_4 ?_
        refine Zo_icmpne 34 dX8_payOut_27 (by decide) ?_ ?_
        · refine Zo_iconst (0 : Int32) dX8_payOut_34 ic_0 ?_
          exact z_X8_payOut_C35 g t ht (s_X8_payOut_L2 t n) _ _ _ ih _ _
        · refine Zo_iconst (1 : Int32) dX8_payOut_30 ic_1 ?_
          refine Zo_goto 35 dX8_payOut_31 (by decide) ?_
          exact z_X8_payOut_C35 g t ht (s_X8_payOut_L2 t n) _ _ _ ih _ _
def s_X8_payOut (t : Nat) (σ : ZSt) : Option ZSt :=
  s_X8_payOut_L2 t 200 (0 : Int32) σ
set_option maxHeartbeats 4000000 in
set_option maxRecDepth 100000 in
theorem z_X8_payOut (g : ZG) (t : Nat) (ht : t = 19 ∨ t = 30) (σ : ZSt) : Zo g (mX8_payOut g 1) (fun b : ZSt => (none, zw b)) (s_X8_payOut t σ) 0 0 0 [some (.ref t), none, none, none] [] (zw σ) := by
  unfold s_X8_payOut
  refine Zo_iconst (0 : Int32) dX8_payOut_0 ic_0 ?_
  refine Zo_istore1 rfl (zlt rfl) dX8_payOut_1 ?_
  exact z_X8_payOut_L2 g t ht _ _ _ _ _
theorem e_X8_payOut (g : ZG) (t : Nat) (σ : ZSt) (ht : t = 19 ∨ t = 30) : zEvV g 1 yX8_payOut cX8_payOut 4 none [.ref t] σ (s_X8_payOut t σ) :=
  zEvV_of 3 rfl rfl (z_X8_payOut g t ht σ)
abbrev mX8_packed (g : ZG) (q : Nat) : ZM := (yX8_packed, cX8_packed, 3, (some .int), zRm q 0 0, zTg g 0 0)
def s_X8_packed_L4 (t : Nat) (σ : ZSt) : Nat → Int32 → Int32 → Option Int32
  | 0, _, _ => none
  | n + 1, l1, l2 =>
    if (σ.1 t 12) ≤ l2 then (some l1)
      else (zLd (zIn l2 8) (σ.1 (t + 6) l2.toNatClampNeg) fun v1 => (s_X8_packed_L4 t σ n (l1 ||| ((v1 + (1 : Int32)) <<< (((3 : Int32) * l2) &&& 31))) (l2 + (1 : Int32))))
set_option maxHeartbeats 4000000 in
set_option maxRecDepth 100000 in
theorem z_X8_packed_L4 (g : ZG) (t : Nat) (ht : t = 19 ∨ t = 30) (σ : ZSt) : ∀ (n : Nat) (l1 : Int32) (l2 : Int32), Zo g (mX8_packed g 0) (fun b : Int32 => (some (.int b), zw σ)) (s_X8_packed_L4 t σ n l1 l2) 0 0 4 [some (.ref t), some (.int l1), some (.int l2)] [] (zw σ) := by
  intro n
  induction n with
  | zero => intros; exact Zo_none
  | succ n ih =>
    intro l1 l2
    rw [s_X8_packed_L4]
    refine Zo_iload2 dX8_packed_4 ?_
    refine Zo_aload0 dX8_packed_5 ?_
    refine Zo_geti fl_X8_68 (kW0 ht) dX8_packed_6 ?_
    refine Zo_icmpge 33 dX8_packed_9 (by decide) ?_ ?_
    · refine Zo_iload1 dX8_packed_33 ?_
      exact Zo_iret dX8_packed_34 rfl rfl (Nat.le_refl _) (Nat.le_refl _)
    · refine Zo_iload1 dX8_packed_12 ?_
      refine Zo_aload0 dX8_packed_13 ?_
      refine Zo_getr (j := (t + 6)) fl_X8_27 (kW0 ht) (rW6 ht) dX8_packed_14 ?_
      refine Zo_iload2 dX8_packed_17 ?_
      refine Zo_iald (kW6 ht) dX8_packed_18 fun v1 => ?_
      refine Zo_iconst (1 : Int32) dX8_packed_19 ic_1 ?_
      refine Zo_iadd dX8_packed_20 ?_
      show Zo g _ _ _ 0 0 21 _ _ _
      refine Zo_iconst (3 : Int32) dX8_packed_21 ic_3 ?_
      refine Zo_iload2 dX8_packed_22 ?_
      refine Zo_imul dX8_packed_23 ?_
      refine Zo_ishl dX8_packed_24 ?_
      refine Zo_ior dX8_packed_25 ?_
      refine Zo_istore1 rfl (zlt rfl) dX8_packed_26 ?_
      refine Zo_iinc2 rfl (1 : Int32) ic_1 (zlt rfl) dX8_packed_27 ?_
      refine Zo_goto 4 dX8_packed_30 (by decide) ?_
      exact ih _ _
def s_X8_packed (t : Nat) (σ : ZSt) : Option Int32 :=
  s_X8_packed_L4 t σ 200 (0 : Int32) (0 : Int32)
set_option maxHeartbeats 4000000 in
set_option maxRecDepth 100000 in
theorem z_X8_packed (g : ZG) (t : Nat) (ht : t = 19 ∨ t = 30) (σ : ZSt) : Zo g (mX8_packed g 0) (fun b : Int32 => (some (.int b), zw σ)) (s_X8_packed t σ) 0 0 0 [some (.ref t), none, none] [] (zw σ) := by
  unfold s_X8_packed
  refine Zo_iconst (0 : Int32) dX8_packed_0 ic_0 ?_
  refine Zo_istore1 rfl (zlt rfl) dX8_packed_1 ?_
  refine Zo_iconst (0 : Int32) dX8_packed_2 ic_0 ?_
  refine Zo_istore2 rfl (zlt rfl) dX8_packed_3 ?_
  exact z_X8_packed_L4 g t ht _ _ _ _
theorem e_X8_packed (g : ZG) (t : Nat) (σ : ZSt) (ht : t = 19 ∨ t = 30) : zEvI g 0 yX8_packed cX8_packed 3 (some .int) [.ref t] σ (s_X8_packed t σ) :=
  zEvI_of 2 rfl rfl (z_X8_packed g t ht σ)
abbrev mX8_sinceLikeWeek (g : ZG) (q : Nat) : ZM := (yX8_sinceLikeWeek, cX8_sinceLikeWeek, 3, (some .int), zRm q 0 0, zTg g 0 0)
def s_X8_sinceLikeWeek_L2 (t : Nat) (l1 : Int32) (σ : ZSt) : Nat → Int32 → Option Int32
  | 0, _ => none
  | n + 1, l2 =>
    if l1 ≤ l2 then (some (0 : Int32))
      else (zLd (zIn l2 60) (σ.1 (t + 10) l2.toNatClampNeg) fun v1 => (zLd (zIn l1 60) (σ.1 (t + 10) l1.toNatClampNeg) fun v2 => (if v1 = v2 then (some (l1 - l2))
        else (s_X8_sinceLikeWeek_L2 t l1 σ n (l2 + (1 : Int32))))))
set_option maxHeartbeats 4000000 in
set_option maxRecDepth 100000 in
theorem z_X8_sinceLikeWeek_L2 (g : ZG) (t : Nat) (ht : t = 19 ∨ t = 30) (l1 : Int32) (σ : ZSt) : ∀ (n : Nat) (l2 : Int32), Zo g (mX8_sinceLikeWeek g 0) (fun b : Int32 => (some (.int b), zw σ)) (s_X8_sinceLikeWeek_L2 t l1 σ n l2) 0 0 2 [some (.ref t), some (.int l1), some (.int l2)] [] (zw σ) := by
  intro n
  induction n with
  | zero => intros; exact Zo_none
  | succ n ih =>
    intro l2
    rw [s_X8_sinceLikeWeek_L2]
    refine Zo_iload2 dX8_sinceLikeWeek_2 ?_
    refine Zo_iload1 dX8_sinceLikeWeek_3 ?_
    refine Zo_icmpge 32 dX8_sinceLikeWeek_4 (by decide) ?_ ?_
    · refine Zo_iconst (0 : Int32) dX8_sinceLikeWeek_32 ic_0 ?_
      exact Zo_iret dX8_sinceLikeWeek_33 rfl rfl (Nat.le_refl _) (Nat.le_refl _)
    · refine Zo_aload0 dX8_sinceLikeWeek_7 ?_
      refine Zo_getr (j := (t + 10)) fl_X8_39 (kW0 ht) (rW10 ht) dX8_sinceLikeWeek_8 ?_
      refine Zo_iload2 dX8_sinceLikeWeek_11 ?_
      refine Zo_iald (kW10 ht) dX8_sinceLikeWeek_12 fun v1 => ?_
      refine Zo_aload0 dX8_sinceLikeWeek_13 ?_
      refine Zo_getr (j := (t + 10)) fl_X8_39 (kW0 ht) (rW10 ht) dX8_sinceLikeWeek_14 ?_
      refine Zo_iload1 dX8_sinceLikeWeek_17 ?_
      show Zo g _ _ _ 0 0 18 _ _ _
      refine Zo_iald (kW10 ht) dX8_sinceLikeWeek_18 fun v2 => ?_
      refine Zo_icmpne 26 dX8_sinceLikeWeek_19 (by decide) ?_ ?_
      · refine Zo_iinc2 rfl (1 : Int32) ic_1 (zlt rfl) dX8_sinceLikeWeek_26 ?_
        refine Zo_goto 2 dX8_sinceLikeWeek_29 (by decide) ?_
        exact ih _
      · refine Zo_iload1 dX8_sinceLikeWeek_22 ?_
        refine Zo_iload2 dX8_sinceLikeWeek_23 ?_
        refine Zo_isub dX8_sinceLikeWeek_24 ?_
        exact Zo_iret dX8_sinceLikeWeek_25 rfl rfl (Nat.le_refl _) (Nat.le_refl _)
def s_X8_sinceLikeWeek (t : Nat) (p0 : Int32) (σ : ZSt) : Option Int32 :=
  s_X8_sinceLikeWeek_L2 t p0 σ 200 (0 : Int32)
set_option maxHeartbeats 4000000 in
set_option maxRecDepth 100000 in
theorem z_X8_sinceLikeWeek (g : ZG) (t : Nat) (ht : t = 19 ∨ t = 30) (p0 : Int32) (σ : ZSt) : Zo g (mX8_sinceLikeWeek g 0) (fun b : Int32 => (some (.int b), zw σ)) (s_X8_sinceLikeWeek t p0 σ) 0 0 0 [some (.ref t), some (.int p0), none] [] (zw σ) := by
  unfold s_X8_sinceLikeWeek
  refine Zo_iconst (0 : Int32) dX8_sinceLikeWeek_0 ic_0 ?_
  refine Zo_istore2 rfl (zlt rfl) dX8_sinceLikeWeek_1 ?_
  exact z_X8_sinceLikeWeek_L2 g t ht _ _ _ _
theorem e_X8_sinceLikeWeek (g : ZG) (t : Nat) (p0 : Int32) (σ : ZSt) (ht : t = 19 ∨ t = 30) : zEvI g 0 yX8_sinceLikeWeek cX8_sinceLikeWeek 3 (some .int) [.ref t, .int p0] σ (s_X8_sinceLikeWeek t p0 σ) :=
  zEvI_of 1 rfl rfl (z_X8_sinceLikeWeek g t ht p0 σ)
abbrev mX8_lastUnlike (g : ZG) (q : Nat) : ZM := (yX8_lastUnlike, cX8_lastUnlike, 3, (some .int), zRm q 0 0, zTg g 0 0)
def s_X8_lastUnlike (t : Nat) (σ : ZSt) : Option Int32 :=
  if (σ.1 t 15) ≤ (0 : Int32) then ((s_X9_isWithin ((σ.1 t 13) - (1 : Int32)) (0 : Int32) (59 : Int32) σ).bind fun r1 => (if r1 = (0 : Int32) then (some (0 : Int32))
      else (some ((σ.1 t 13) - (1 : Int32)))))
    else (if ((σ.1 t 13) - (1 : Int32)) < (σ.1 t 14) then ((s_X9_isWithin ((σ.1 t 13) - (1 : Int32)) (0 : Int32) (59 : Int32) σ).bind fun r2 => (if r2 = (0 : Int32) then (some (0 : Int32))
        else (some ((σ.1 t 13) - (1 : Int32)))))
      else (if (σ.1 t 15) = (0 : Int32) then none else ((s_X9_isWithin (((σ.1 t 14) - (σ.1 t 15)) + (zRem (((σ.1 t 13) - (1 : Int32)) - ((σ.1 t 14) - (σ.1 t 15))) (σ.1 t 15))) (0 : Int32) (59 : Int32) σ).bind fun r4 => (if r4 = (0 : Int32) then (some (0 : Int32))
        else (some (((σ.1 t 14) - (σ.1 t 15)) + (zRem (((σ.1 t 13) - (1 : Int32)) - ((σ.1 t 14) - (σ.1 t 15))) (σ.1 t 15))))))))
set_option maxHeartbeats 4000000 in
set_option maxRecDepth 100000 in
theorem z_X8_lastUnlike (g : ZG) (t : Nat) (ht : t = 19 ∨ t = 30) (σ : ZSt) : Zo g (mX8_lastUnlike g 1) (fun b : Int32 => (some (.int b), zw σ)) (s_X8_lastUnlike t σ) 0 0 0 [some (.ref t), none, none] [] (zw σ) := by
  unfold s_X8_lastUnlike
  refine Zo_aload0 dX8_lastUnlike_0 ?_
  refine Zo_geti fl_X8_70 (kW0 ht) dX8_lastUnlike_1 ?_
  refine Zo_iconst (1 : Int32) dX8_lastUnlike_4 ic_1 ?_
  refine Zo_isub dX8_lastUnlike_5 ?_
  refine Zo_istore1 rfl (zlt rfl) dX8_lastUnlike_6 ?_
  refine Zo_aload0 dX8_lastUnlike_7 ?_
  refine Zo_geti fl_X8_76 (kW0 ht) dX8_lastUnlike_8 ?_
  show Zo g _ _ _ 0 0 11 _ _ _
  refine Zo_ifle 43 dX8_lastUnlike_11 (by decide) ?_ ?_
  · refine Zo_iload1 dX8_lastUnlike_43 ?_
    refine Zo_iconst (0 : Int32) dX8_lastUnlike_44 ic_0 ?_
    refine Zo_bipush (59 : Int32) dX8_lastUnlike_45 bp_59 ?_
    refine Zo_cSI3 lk_X8_133 (e_X9_isWithin g _ _ _ _) (zFit_rm (by decide)) (zle rfl) dX8_lastUnlike_47 fun r1 => ?_
    refine Zo_ifeq 57 dX8_lastUnlike_50 (by decide) ?_ ?_
    · refine Zo_iconst (0 : Int32) dX8_lastUnlike_57 ic_0 ?_
      exact Zo_iret dX8_lastUnlike_58 rfl rfl (Nat.le_refl _) (Nat.le_refl _)
    · refine Zo_iload1 dX8_lastUnlike_53 ?_
      refine Zo_goto 58 dX8_lastUnlike_54 (by decide) ?_
      exact Zo_iret dX8_lastUnlike_58 rfl rfl (Nat.le_refl _) (Nat.le_refl _)
  · refine Zo_iload1 dX8_lastUnlike_14 ?_
    refine Zo_aload0 dX8_lastUnlike_15 ?_
    refine Zo_geti fl_X8_73 (kW0 ht) dX8_lastUnlike_16 ?_
    refine Zo_icmplt 43 dX8_lastUnlike_19 (by decide) ?_ ?_
    · refine Zo_iload1 dX8_lastUnlike_43 ?_
      refine Zo_iconst (0 : Int32) dX8_lastUnlike_44 ic_0 ?_
      refine Zo_bipush (59 : Int32) dX8_lastUnlike_45 bp_59 ?_
      refine Zo_cSI3 lk_X8_133 (e_X9_isWithin g _ _ _ _) (zFit_rm (by decide)) (zle rfl) dX8_lastUnlike_47 fun r2 => ?_
      refine Zo_ifeq 57 dX8_lastUnlike_50 (by decide) ?_ ?_
      · refine Zo_iconst (0 : Int32) dX8_lastUnlike_57 ic_0 ?_
        exact Zo_iret dX8_lastUnlike_58 rfl rfl (Nat.le_refl _) (Nat.le_refl _)
      · refine Zo_iload1 dX8_lastUnlike_53 ?_
        refine Zo_goto 58 dX8_lastUnlike_54 (by decide) ?_
        exact Zo_iret dX8_lastUnlike_58 rfl rfl (Nat.le_refl _) (Nat.le_refl _)
    · refine Zo_aload0 dX8_lastUnlike_22 ?_
      refine Zo_geti fl_X8_73 (kW0 ht) dX8_lastUnlike_23 ?_
      refine Zo_aload0 dX8_lastUnlike_26 ?_
      refine Zo_geti fl_X8_76 (kW0 ht) dX8_lastUnlike_27 ?_
      refine Zo_isub dX8_lastUnlike_30 ?_
      refine Zo_istore2 rfl (zlt rfl) dX8_lastUnlike_31 ?_
      refine Zo_iload2 dX8_lastUnlike_32 ?_
      show Zo g _ _ _ 0 0 33 _ _ _
      refine Zo_iload1 dX8_lastUnlike_33 ?_
      refine Zo_iload2 dX8_lastUnlike_34 ?_
      refine Zo_isub dX8_lastUnlike_35 ?_
      refine Zo_aload0 dX8_lastUnlike_36 ?_
      refine Zo_geti fl_X8_76 (kW0 ht) dX8_lastUnlike_37 ?_
      refine Zo_gn fun hn3 => ?_
      refine Zo_irem dX8_lastUnlike_40 hn3 ?_
      refine Zo_iadd dX8_lastUnlike_41 ?_
      refine Zo_istore1 rfl (zlt rfl) dX8_lastUnlike_42 ?_
      show Zo g _ _ _ 0 0 43 _ _ _
      refine Zo_iload1 dX8_lastUnlike_43 ?_
      refine Zo_iconst (0 : Int32) dX8_lastUnlike_44 ic_0 ?_
      refine Zo_bipush (59 : Int32) dX8_lastUnlike_45 bp_59 ?_
      refine Zo_cSI3 lk_X8_133 (e_X9_isWithin g _ _ _ _) (zFit_rm (by decide)) (zle rfl) dX8_lastUnlike_47 fun r4 => ?_
      refine Zo_ifeq 57 dX8_lastUnlike_50 (by decide) ?_ ?_
      · refine Zo_iconst (0 : Int32) dX8_lastUnlike_57 ic_0 ?_
        exact Zo_iret dX8_lastUnlike_58 rfl rfl (Nat.le_refl _) (Nat.le_refl _)
      · refine Zo_iload1 dX8_lastUnlike_53 ?_
        refine Zo_goto 58 dX8_lastUnlike_54 (by decide) ?_
        exact Zo_iret dX8_lastUnlike_58 rfl rfl (Nat.le_refl _) (Nat.le_refl _)
theorem e_X8_lastUnlike (g : ZG) (t : Nat) (σ : ZSt) (ht : t = 19 ∨ t = 30) : zEvI g 1 yX8_lastUnlike cX8_lastUnlike 3 (some .int) [.ref t] σ (s_X8_lastUnlike t σ) :=
  zEvI_of 2 rfl rfl (z_X8_lastUnlike g t ht σ)
abbrev mX8_unpack (g : ZG) (q : Nat) : ZM := (yX8_unpack, cX8_unpack, 3, none, zRm q 0 0, zTg g 0 0)
def s_X8_unpack_L2 (t : Nat) (l1 : Int32) : Nat → Int32 → ZSt → Option ZSt
  | 0, _, _ => none
  | n + 1, l2, σ =>
    if (σ.1 t 12) ≤ l2 then ((s_X8_countThere t σ).bind fun σ1 => (some σ1))
      else (zSg (zIn l2 8) (zWD σ (t + 6) l2.toNatClampNeg (((l1.toUInt32 >>> (((3 : Int32) * l2).toUInt32 &&& Int32.toUInt32 31)).toInt32 &&& (7 : Int32)) - (1 : Int32))) fun σ2 => (s_X8_unpack_L2 t l1 n (l2 + (1 : Int32)) σ2))
set_option maxHeartbeats 4000000 in
set_option maxRecDepth 100000 in
theorem z_X8_unpack_L2 (g : ZG) (t : Nat) (ht : t = 19 ∨ t = 30) (l1 : Int32) : ∀ (n : Nat) (l2 : Int32) (σ : ZSt), Zo g (mX8_unpack g 2) (fun b : ZSt => (none, zw b)) (s_X8_unpack_L2 t l1 n l2 σ) 0 0 2 [some (.ref t), some (.int l1), some (.int l2)] [] (zw σ) := by
  intro n
  induction n with
  | zero => intros; exact Zo_none
  | succ n ih =>
    intro l2 σ
    rw [s_X8_unpack_L2]
    refine Zo_iload2 dX8_unpack_2 ?_
    refine Zo_aload0 dX8_unpack_3 ?_
    refine Zo_geti fl_X8_68 (kW0 ht) dX8_unpack_4 ?_
    refine Zo_icmpge 32 dX8_unpack_7 (by decide) ?_ ?_
    · refine Zo_aload0 dX8_unpack_32 ?_
      refine Zo_cVV0 lk_X8_105 (e_X8_countThere g _ _ ht) (kW0 ht) (zFit_rm (by decide)) (zle rfl) dX8_unpack_33 fun σ1 => ?_
      exact Zo_vret dX8_unpack_36 rfl rfl (Nat.le_refl _) (Nat.le_refl _)
    · refine Zo_aload0 dX8_unpack_10 ?_
      refine Zo_getr (j := (t + 6)) fl_X8_27 (kW0 ht) (rW6 ht) dX8_unpack_11 ?_
      refine Zo_iload2 dX8_unpack_14 ?_
      refine Zo_iload1 dX8_unpack_15 ?_
      refine Zo_iconst (3 : Int32) dX8_unpack_16 ic_3 ?_
      refine Zo_iload2 dX8_unpack_17 ?_
      refine Zo_imul dX8_unpack_18 ?_
      show Zo g _ _ _ 0 0 19 _ _ _
      refine Zo_iushr dX8_unpack_19 ?_
      refine Zo_bipush (7 : Int32) dX8_unpack_20 bp_7 ?_
      refine Zo_iand dX8_unpack_22 ?_
      refine Zo_iconst (1 : Int32) dX8_unpack_23 ic_1 ?_
      refine Zo_isub dX8_unpack_24 ?_
      refine Zo_iast (kW6 ht) dX8_unpack_25 fun σ2 => ?_
      refine Zo_iinc2 rfl (1 : Int32) ic_1 (zlt rfl) dX8_unpack_26 ?_
      refine Zo_goto 2 dX8_unpack_29 (by decide) ?_
      exact ih _ _
def s_X8_unpack (t : Nat) (p0 : Int32) (σ : ZSt) : Option ZSt :=
  s_X8_unpack_L2 t p0 200 (0 : Int32) σ
set_option maxHeartbeats 4000000 in
set_option maxRecDepth 100000 in
theorem z_X8_unpack (g : ZG) (t : Nat) (ht : t = 19 ∨ t = 30) (p0 : Int32) (σ : ZSt) : Zo g (mX8_unpack g 2) (fun b : ZSt => (none, zw b)) (s_X8_unpack t p0 σ) 0 0 0 [some (.ref t), some (.int p0), none] [] (zw σ) := by
  unfold s_X8_unpack
  refine Zo_iconst (0 : Int32) dX8_unpack_0 ic_0 ?_
  refine Zo_istore2 rfl (zlt rfl) dX8_unpack_1 ?_
  exact z_X8_unpack_L2 g t ht _ _ _ _
theorem e_X8_unpack (g : ZG) (t : Nat) (p0 : Int32) (σ : ZSt) (ht : t = 19 ∨ t = 30) : zEvV g 2 yX8_unpack cX8_unpack 3 none [.ref t, .int p0] σ (s_X8_unpack t p0 σ) :=
  zEvV_of 1 rfl rfl (z_X8_unpack g t ht p0 σ)
abbrev mX8_follow (g : ZG) (q : Nat) : ZM := (yX8_follow, cX8_follow, 4, none, zRm q 0 0, zTg g 0 0)
def s_X8_follow_C119 (t : Nat) (p0 : Nat) (σ : ZSt) : Option ZSt :=
  (s_X8_lastUnlike t σ).bind fun r1 => (zLd (zIn r1 60) (σ.1 (t + 10) r1.toNatClampNeg) fun v2 => ((s_X8_unpack t v2 σ).bind fun σ3 => (some σ3)))
set_option maxHeartbeats 4000000 in
set_option maxRecDepth 100000 in
theorem z_X8_follow_C119 (g : ZG) (t : Nat) (p0 : Nat) (ht : t = 19 ∨ t = 30) (hp0 : p0 = 62 ∨ p0 = 65) (σ : ZSt) (o1 : Option Value) (o2 : Option Value) (o3 : Option Value) : Zo g (mX8_follow g 4) (fun b : ZSt => (none, zw b)) (s_X8_follow_C119 t p0 σ) 0 0 119 [some (.ref t), o1, o2, o3] [] (zw σ) := by
  unfold s_X8_follow_C119
  refine Zo_aload0 dX8_follow_119 ?_
  refine Zo_aload0 dX8_follow_120 ?_
  refine Zo_getr (j := (t + 10)) fl_X8_39 (kW0 ht) (rW10 ht) dX8_follow_121 ?_
  refine Zo_aload0 dX8_follow_124 ?_
  refine Zo_cVI0 lk_X8_95 (e_X8_lastUnlike g _ _ ht) (kW0 ht) (zFit_rm (by decide)) (zle rfl) dX8_follow_125 fun r1 => ?_
  refine Zo_iald (kW10 ht) dX8_follow_128 fun v2 => ?_
  refine Zo_cVV1 lk_X8_98 (e_X8_unpack g _ _ _ ht) (kW0 ht) (zFit_rm (by decide)) (zle rfl) dX8_follow_129 fun σ3 => ?_
  show Zo g _ _ _ 0 0 132 _ _ _
  exact Zo_vret dX8_follow_132 rfl rfl (Nat.le_refl _) (Nat.le_refl _)
def s_X8_follow_L53 (t : Nat) (p0 : Nat) (l2 : Int32) : Nat → Int32 → ZSt → Option ZSt
  | 0, _, _ => none
  | n + 1, l3, σ =>
    if l2 ≤ l3 then (s_X8_follow_C119 t p0 σ)
      else (if (60 : Int32) ≤ l3 then (s_X8_follow_C119 t p0 σ)
        else (if (σ.1 t 15) = (0 : Int32) then ((s_X8_allGo t p0 σ).bind fun σ1 => ((s_X8_payOut t σ1).bind fun σ2 => ((s_X8_packed t σ2).bind fun r3 => (zSg (zIn l3 60) (zWD σ2 (t + 10) l3.toNatClampNeg r3) fun σ4 => ((s_X8_sinceLikeWeek t l3 σ4).bind fun r5 => (zSt' (zWD σ4 t 15 r5) fun σ6 => (if (σ6.1 t 15) = (0 : Int32) then (zSt' (zWD σ6 t 14 (l3 + (1 : Int32))) fun σ7 => (s_X8_follow_L53 t p0 l2 n (l3 + (1 : Int32)) σ7))
            else (s_X8_follow_L53 t p0 l2 n (l3 + (1 : Int32)) σ6))))))))
          else (s_X8_follow_C119 t p0 σ)))
set_option maxHeartbeats 4000000 in
set_option maxRecDepth 100000 in
theorem z_X8_follow_L53 (g : ZG) (t : Nat) (p0 : Nat) (ht : t = 19 ∨ t = 30) (hp0 : p0 = 62 ∨ p0 = 65) (l2 : Int32) : ∀ (n : Nat) (l3 : Int32) (σ : ZSt), Zo g (mX8_follow g 4) (fun b : ZSt => (none, zw b)) (s_X8_follow_L53 t p0 l2 n l3 σ) 0 0 53 [some (.ref t), some (.ref p0), some (.int l2), some (.int l3)] [] (zw σ) := by
  intro n
  induction n with
  | zero => intros; exact Zo_none
  | succ n ih =>
    intro l3 σ
    rw [s_X8_follow_L53]
    refine Zo_iload3 dX8_follow_53 ?_
    refine Zo_iload2 dX8_follow_54 ?_
    refine Zo_icmpge 119 dX8_follow_55 (by decide) ?_ ?_
    · exact z_X8_follow_C119 g t p0 ht hp0 _ _ _ _
    · refine Zo_iload3 dX8_follow_58 ?_
      refine Zo_bipush (60 : Int32) dX8_follow_59 bp_60 ?_
      refine Zo_icmpge 119 dX8_follow_61 (by decide) ?_ ?_
      · exact z_X8_follow_C119 g t p0 ht hp0 _ _ _ _
      · refine Zo_aload0 dX8_follow_64 ?_
        refine Zo_geti fl_X8_76 (kW0 ht) dX8_follow_65 ?_
        refine Zo_ifne 119 dX8_follow_68 (by decide) ?_ ?_
        · exact z_X8_follow_C119 g t p0 ht hp0 _ _ _ _
        · refine Zo_aload0 dX8_follow_71 ?_
          refine Zo_aload1 dX8_follow_72 ?_
          refine Zo_cVV1 lk_X8_82 (e_X8_allGo g _ _ _ ht hp0) (kW0 ht) (zFit_rm (by decide)) (zle rfl) dX8_follow_73 fun σ1 => ?_
          refine Zo_aload0 dX8_follow_76 ?_
          refine Zo_cVV0 lk_X8_86 (e_X8_payOut g _ _ ht) (kW0 ht) (zFit_rm (by decide)) (zle rfl) dX8_follow_77 fun σ2 => ?_
          refine Zo_aload0 dX8_follow_80 ?_
          refine Zo_getr (j := (t + 10)) fl_X8_39 (kW0 ht) (rW10 ht) dX8_follow_81 ?_
          show Zo g _ _ _ 0 0 84 _ _ _
          refine Zo_iload3 dX8_follow_84 ?_
          refine Zo_aload0 dX8_follow_85 ?_
          refine Zo_cVI0 lk_X8_89 (e_X8_packed g _ _ ht) (kW0 ht) (zFit_rm (by decide)) (zle rfl) dX8_follow_86 fun r3 => ?_
          refine Zo_iast (kW10 ht) dX8_follow_89 fun σ4 => ?_
          refine Zo_aload0 dX8_follow_90 ?_
          refine Zo_aload0 dX8_follow_91 ?_
          refine Zo_iload3 dX8_follow_92 ?_
          refine Zo_cVI1 lk_X8_92 (e_X8_sinceLikeWeek g _ _ _ ht) (kW0 ht) (zFit_rm (by decide)) (zle rfl) dX8_follow_93 fun r5 => ?_
          show Zo g _ _ _ 0 0 96 _ _ _
          refine Zo_puti fl_X8_76 (kW0 ht) dX8_follow_96 fun σ6 => ?_
          refine Zo_aload0 dX8_follow_99 ?_
          refine Zo_geti fl_X8_76 (kW0 ht) dX8_follow_100 ?_
          refine Zo_ifne 113 dX8_follow_103 (by decide) ?_ ?_
          · refine Zo_iinc3 rfl (1 : Int32) ic_1 (zlt rfl) dX8_follow_113 ?_
            refine Zo_goto 53 dX8_follow_116 (by decide) ?_
            exact ih _ _
          · refine Zo_aload0 dX8_follow_106 ?_
            refine Zo_iload3 dX8_follow_107 ?_
            refine Zo_iconst (1 : Int32) dX8_follow_108 ic_1 ?_
            refine Zo_iadd dX8_follow_109 ?_
            refine Zo_puti fl_X8_73 (kW0 ht) dX8_follow_110 fun σ7 => ?_
            refine Zo_iinc3 rfl (1 : Int32) ic_1 (zlt rfl) dX8_follow_113 ?_
            refine Zo_goto 53 dX8_follow_116 (by decide) ?_
            exact ih _ _
def s_X8_follow (t : Nat) (p0 : Nat) (p1 : Int32) (σ : ZSt) : Option ZSt :=
  (s_X7_streets σ).bind fun r1 => (zSt' (zWD σ t 11 (if (6 : Int32) < r1 then (6 : Int32) else r1)) fun σ2 => ((s_X7_players σ2).bind fun r3 => (zSt' (zWD σ2 t 12 (if (8 : Int32) < r3 then (8 : Int32) else r3)) fun σ4 => (zSt' (zWD σ4 t 13 p1) fun σ5 => (zSt' (zWD σ5 t 14 (0 : Int32)) fun σ6 => (zSt' (zWD σ6 t 15 (0 : Int32)) fun σ7 => ((s_X8_begin t σ7).bind fun σ8 => (s_X8_follow_L53 t p0 p1 200 (0 : Int32) σ8))))))))
set_option maxHeartbeats 4000000 in
set_option maxRecDepth 100000 in
theorem z_X8_follow (g : ZG) (t : Nat) (p0 : Nat) (ht : t = 19 ∨ t = 30) (hp0 : p0 = 62 ∨ p0 = 65) (p1 : Int32) (σ : ZSt) : Zo g (mX8_follow g 4) (fun b : ZSt => (none, zw b)) (s_X8_follow t p0 p1 σ) 0 0 0 [some (.ref t), some (.ref p0), some (.int p1), none] [] (zw σ) := by
  unfold s_X8_follow
  refine Zo_aload0 dX8_follow_0 ?_
  refine Zo_aload0 dX8_follow_1 ?_
  refine Zo_getr (j := 1) fl_X8_42 (kW0 ht) (rW0 ht) dX8_follow_2 ?_
  refine Zo_cVI0 lk_X8_52 (e_X7_streets g _) kd_1 (zFit_rm (by decide)) (zle rfl) dX8_follow_5 fun r1 => ?_
  refine Zo_bipush (6 : Int32) dX8_follow_8 bp_6 ?_
  refine Zo_mmin mm_X8_56 ms_min mi_Math mc_min (zle rfl) ⟨zle rfl, zle rfl, Nat.zero_le _, Nat.zero_le _⟩ dX8_follow_10 ?_
  refine Zo_puti fl_X8_62 (kW0 ht) dX8_follow_13 fun σ2 => ?_
  show Zo g _ _ _ 0 0 16 _ _ _
  refine Zo_aload0 dX8_follow_16 ?_
  refine Zo_aload0 dX8_follow_17 ?_
  refine Zo_getr (j := 1) fl_X8_42 (kW0 ht) (rW0 ht) dX8_follow_18 ?_
  refine Zo_cVI0 lk_X8_65 (e_X7_players g _) kd_1 (zFit_rm (by decide)) (zle rfl) dX8_follow_21 fun r3 => ?_
  refine Zo_bipush (8 : Int32) dX8_follow_24 bp_8 ?_
  refine Zo_mmin mm_X8_56 ms_min mi_Math mc_min (zle rfl) ⟨zle rfl, zle rfl, Nat.zero_le _, Nat.zero_le _⟩ dX8_follow_26 ?_
  refine Zo_puti fl_X8_68 (kW0 ht) dX8_follow_29 fun σ4 => ?_
  refine Zo_aload0 dX8_follow_32 ?_
  show Zo g _ _ _ 0 0 33 _ _ _
  refine Zo_iload2 dX8_follow_33 ?_
  refine Zo_puti fl_X8_70 (kW0 ht) dX8_follow_34 fun σ5 => ?_
  refine Zo_aload0 dX8_follow_37 ?_
  refine Zo_iconst (0 : Int32) dX8_follow_38 ic_0 ?_
  refine Zo_puti fl_X8_73 (kW0 ht) dX8_follow_39 fun σ6 => ?_
  refine Zo_aload0 dX8_follow_42 ?_
  refine Zo_iconst (0 : Int32) dX8_follow_43 ic_0 ?_
  refine Zo_puti fl_X8_76 (kW0 ht) dX8_follow_44 fun σ7 => ?_
  show Zo g _ _ _ 0 0 47 _ _ _
  refine Zo_aload0 dX8_follow_47 ?_
  refine Zo_cVV0 lk_X8_79 (e_X8_begin g _ _ ht) (kW0 ht) (zFit_rm (by decide)) (zle rfl) dX8_follow_48 fun σ8 => ?_
  refine Zo_iconst (0 : Int32) dX8_follow_51 ic_0 ?_
  refine Zo_istore3 rfl (zlt rfl) dX8_follow_52 ?_
  exact z_X8_follow_L53 g t p0 ht hp0 _ _ _ _
theorem e_X8_follow (g : ZG) (t : Nat) (p0 : Nat) (p1 : Int32) (σ : ZSt) (ht : t = 19 ∨ t = 30) (hp0 : p0 = 62 ∨ p0 = 65) : zEvV g 4 yX8_follow cX8_follow 4 none [.ref t, .ref p0, .int p1] σ (s_X8_follow t p0 p1 σ) :=
  zEvV_of 1 rfl rfl (z_X8_follow g t p0 ht hp0 p1 σ)
abbrev mX8_howOften (g : ZG) (q : Nat) : ZM := (yX8_howOften, cX8_howOften, 2, (some .int), zRm q 0 0, zTg g 0 0)
def s_X8_howOften (t : Nat) (p0 : Int32) (σ : ZSt) : Option Int32 :=
  if (σ.1 t 15) ≤ (0 : Int32) then (some (1 : Int32))
    else (if ((σ.1 t 14) - (σ.1 t 15)) ≤ p0 then (if (σ.1 t 15) = (0 : Int32) then none else (some ((1 : Int32) + ((((σ.1 t 13) - (1 : Int32)) - p0) / (σ.1 t 15)))))
      else (some (1 : Int32)))
set_option maxHeartbeats 4000000 in
set_option maxRecDepth 100000 in
theorem z_X8_howOften (g : ZG) (t : Nat) (ht : t = 19 ∨ t = 30) (p0 : Int32) (σ : ZSt) : Zo g (mX8_howOften g 0) (fun b : Int32 => (some (.int b), zw σ)) (s_X8_howOften t p0 σ) 0 0 0 [some (.ref t), some (.int p0)] [] (zw σ) := by
  unfold s_X8_howOften
  refine Zo_aload0 dX8_howOften_0 ?_
  refine Zo_geti fl_X8_76 (kW0 ht) dX8_howOften_1 ?_
  refine Zo_ifle 20 dX8_howOften_4 (by decide) ?_ ?_
  · refine Zo_iconst (1 : Int32) dX8_howOften_20 ic_1 ?_
    exact Zo_iret dX8_howOften_21 rfl rfl (Nat.le_refl _) (Nat.le_refl _)
  · refine Zo_iload1 dX8_howOften_7 ?_
    refine Zo_aload0 dX8_howOften_8 ?_
    refine Zo_geti fl_X8_73 (kW0 ht) dX8_howOften_9 ?_
    refine Zo_aload0 dX8_howOften_12 ?_
    refine Zo_geti fl_X8_76 (kW0 ht) dX8_howOften_13 ?_
    refine Zo_isub dX8_howOften_16 ?_
    refine Zo_icmpge 22 dX8_howOften_17 (by decide) ?_ ?_
    · refine Zo_iconst (1 : Int32) dX8_howOften_22 ic_1 ?_
      refine Zo_aload0 dX8_howOften_23 ?_
      refine Zo_geti fl_X8_70 (kW0 ht) dX8_howOften_24 ?_
      refine Zo_iconst (1 : Int32) dX8_howOften_27 ic_1 ?_
      refine Zo_isub dX8_howOften_28 ?_
      refine Zo_iload1 dX8_howOften_29 ?_
      refine Zo_isub dX8_howOften_30 ?_
      show Zo g _ _ _ 0 0 31 _ _ _
      refine Zo_aload0 dX8_howOften_31 ?_
      refine Zo_geti fl_X8_76 (kW0 ht) dX8_howOften_32 ?_
      refine Zo_gn fun hn1 => ?_
      refine Zo_idiv dX8_howOften_35 hn1 ?_
      refine Zo_iadd dX8_howOften_36 ?_
      exact Zo_iret dX8_howOften_37 rfl rfl (Nat.le_refl _) (Nat.le_refl _)
    · refine Zo_iconst (1 : Int32) dX8_howOften_20 ic_1 ?_
      exact Zo_iret dX8_howOften_21 rfl rfl (Nat.le_refl _) (Nat.le_refl _)
theorem e_X8_howOften (g : ZG) (t : Nat) (p0 : Int32) (σ : ZSt) (ht : t = 19 ∨ t = 30) : zEvI g 0 yX8_howOften cX8_howOften 2 (some .int) [.ref t, .int p0] σ (s_X8_howOften t p0 σ) :=
  zEvI_of 0 rfl rfl (z_X8_howOften g t ht p0 σ)
abbrev mX8_aloneAt (g : ZG) (q : Nat) : ZM := (yX8_aloneAt, cX8_aloneAt, 4, (some .int), zRm q 0 0, zTg g 0 0)
def s_X8_aloneAt_L4 (t : Nat) (l1 : Int32) (σ : ZSt) : Nat → Int32 → Int32 → Option Int32
  | 0, _, _ => none
  | n + 1, l2, l3 =>
    if (σ.1 t 12) ≤ l3 then (some l2)
      else (zLd (zIn l3 8) (σ.1 (t + 6) l3.toNatClampNeg) fun v1 => (if v1 = l1 then (if l2 = (-1 : Int32) then (s_X8_aloneAt_L4 t l1 σ n l3 (l3 + (1 : Int32)))
          else (zLd (zIn l1 6) (σ.1 (t + 1) l1.toNatClampNeg) fun v2 => (if v2 = (4 : Int32) then ((s_X7_goodOf l3 σ).bind fun r3 => ((s_X7_goodOf l2 σ).bind fun r4 => (if r3 ≤ r4 then (s_X8_aloneAt_L4 t l1 σ n l2 (l3 + (1 : Int32)))
              else (s_X8_aloneAt_L4 t l1 σ n l3 (l3 + (1 : Int32))))))
            else (s_X8_aloneAt_L4 t l1 σ n l2 (l3 + (1 : Int32))))))
        else (s_X8_aloneAt_L4 t l1 σ n l2 (l3 + (1 : Int32)))))
set_option maxHeartbeats 4000000 in
set_option maxRecDepth 100000 in
theorem z_X8_aloneAt_L4 (g : ZG) (t : Nat) (ht : t = 19 ∨ t = 30) (l1 : Int32) (σ : ZSt) : ∀ (n : Nat) (l2 : Int32) (l3 : Int32), Zo g (mX8_aloneAt g 2) (fun b : Int32 => (some (.int b), zw σ)) (s_X8_aloneAt_L4 t l1 σ n l2 l3) 0 0 4 [some (.ref t), some (.int l1), some (.int l2), some (.int l3)] [] (zw σ) := by
  intro n
  induction n with
  | zero => intros; exact Zo_none
  | succ n ih =>
    intro l2 l3
    rw [s_X8_aloneAt_L4]
    refine Zo_iload3 dX8_aloneAt_4 ?_
    refine Zo_aload0 dX8_aloneAt_5 ?_
    refine Zo_geti fl_X8_68 (kW0 ht) dX8_aloneAt_6 ?_
    refine Zo_icmpge 72 dX8_aloneAt_9 (by decide) ?_ ?_
    · refine Zo_iload2 dX8_aloneAt_72 ?_
      exact Zo_iret dX8_aloneAt_73 rfl rfl (Nat.le_refl _) (Nat.le_refl _)
    · refine Zo_aload0 dX8_aloneAt_12 ?_
      refine Zo_getr (j := (t + 6)) fl_X8_27 (kW0 ht) (rW6 ht) dX8_aloneAt_13 ?_
      refine Zo_iload3 dX8_aloneAt_16 ?_
      refine Zo_iald (kW6 ht) dX8_aloneAt_17 fun v1 => ?_
      refine Zo_iload1 dX8_aloneAt_18 ?_
      refine Zo_icmpeq 25 dX8_aloneAt_19 (by decide) ?_ ?_
      · refine Zo_iload2 dX8_aloneAt_25 ?_
        refine Zo_iconst (-1 : Int32) dX8_aloneAt_26 ic_m1 ?_
        refine Zo_icmpne 35 dX8_aloneAt_27 (by decide) ?_ ?_
        · refine Zo_aload0 dX8_aloneAt_35 ?_
          refine Zo_getr (j := (t + 1)) fl_X8_9 (kW0 ht) (rW1 ht) dX8_aloneAt_36 ?_
          refine Zo_iload1 dX8_aloneAt_39 ?_
          refine Zo_iald (kW1 ht) dX8_aloneAt_40 fun v2 => ?_
          refine Zo_iconst (4 : Int32) dX8_aloneAt_41 ic_4 ?_
          refine Zo_icmpne 66 dX8_aloneAt_42 (by decide) ?_ ?_
          · refine Zo_iinc3 rfl (1 : Int32) ic_1 (zlt rfl) dX8_aloneAt_66 ?_
            refine Zo_goto 4 dX8_aloneAt_69 (by decide) ?_
            exact ih _ _
          · refine Zo_aload0 dX8_aloneAt_45 ?_
            refine Zo_getr (j := 1) fl_X8_42 (kW0 ht) (rW0 ht) dX8_aloneAt_46 ?_
            refine Zo_iload3 dX8_aloneAt_49 ?_
            refine Zo_cVI1 lk_X8_121 (e_X7_goodOf g _ _) kd_1 (zFit_rm (by decide)) (zle rfl) dX8_aloneAt_50 fun r3 => ?_
            refine Zo_aload0 dX8_aloneAt_53 ?_
            refine Zo_getr (j := 1) fl_X8_42 (kW0 ht) (rW0 ht) dX8_aloneAt_54 ?_
            refine Zo_iload2 dX8_aloneAt_57 ?_
            show Zo g _ _ _ 0 0 58 _ _ _
            refine Zo_cVI1 lk_X8_121 (e_X7_goodOf g _ _) kd_1 (zFit_rm (by decide)) (zle rfl) dX8_aloneAt_58 fun r4 => ?_
            refine Zo_icmple 66 dX8_aloneAt_61 (by decide) ?_ ?_
            · refine Zo_iinc3 rfl (1 : Int32) ic_1 (zlt rfl) dX8_aloneAt_66 ?_
              refine Zo_goto 4 dX8_aloneAt_69 (by decide) ?_
              exact ih _ _
            · refine Zo_iload3 dX8_aloneAt_64 ?_
              refine Zo_istore2 rfl (zlt rfl) dX8_aloneAt_65 ?_
              refine Zo_iinc3 rfl (1 : Int32) ic_1 (zlt rfl) dX8_aloneAt_66 ?_
              refine Zo_goto 4 dX8_aloneAt_69 (by decide) ?_
              exact ih _ _
        · refine Zo_iload3 dX8_aloneAt_30 ?_
          refine Zo_istore2 rfl (zlt rfl) dX8_aloneAt_31 ?_
          refine Zo_goto 66 dX8_aloneAt_32 (by decide) ?_
          refine Zo_iinc3 rfl (1 : Int32) ic_1 (zlt rfl) dX8_aloneAt_66 ?_
          refine Zo_goto 4 dX8_aloneAt_69 (by decide) ?_
          exact ih _ _
      · refine Zo_goto 66 dX8_aloneAt_22 (by decide) ?_
        refine Zo_iinc3 rfl (1 : Int32) ic_1 (zlt rfl) dX8_aloneAt_66 ?_
        refine Zo_goto 4 dX8_aloneAt_69 (by decide) ?_
        exact ih _ _
def s_X8_aloneAt (t : Nat) (p0 : Int32) (σ : ZSt) : Option Int32 :=
  s_X8_aloneAt_L4 t p0 σ 200 (-1 : Int32) (0 : Int32)
set_option maxHeartbeats 4000000 in
set_option maxRecDepth 100000 in
theorem z_X8_aloneAt (g : ZG) (t : Nat) (ht : t = 19 ∨ t = 30) (p0 : Int32) (σ : ZSt) : Zo g (mX8_aloneAt g 2) (fun b : Int32 => (some (.int b), zw σ)) (s_X8_aloneAt t p0 σ) 0 0 0 [some (.ref t), some (.int p0), none, none] [] (zw σ) := by
  unfold s_X8_aloneAt
  refine Zo_iconst (-1 : Int32) dX8_aloneAt_0 ic_m1 ?_
  refine Zo_istore2 rfl (zlt rfl) dX8_aloneAt_1 ?_
  refine Zo_iconst (0 : Int32) dX8_aloneAt_2 ic_0 ?_
  refine Zo_istore3 rfl (zlt rfl) dX8_aloneAt_3 ?_
  exact z_X8_aloneAt_L4 g t ht _ _ _ _ _
theorem e_X8_aloneAt (g : ZG) (t : Nat) (p0 : Int32) (σ : ZSt) (ht : t = 19 ∨ t = 30) : zEvI g 2 yX8_aloneAt cX8_aloneAt 4 (some .int) [.ref t, .int p0] σ (s_X8_aloneAt t p0 σ) :=
  zEvI_of 2 rfl rfl (z_X8_aloneAt g t ht p0 σ)
abbrev mX8_isPlaying (g : ZG) (q : Nat) : ZM := (yX8_isPlaying, cX8_isPlaying, 3, (some .boolean), zRm q 0 0, zTg g 0 0)
def s_X8_isPlaying (t : Nat) (p0 : Int32) (p1 : Int32) (σ : ZSt) : Option Int32 :=
  zLd (zIn p1 6) (σ.1 (t + 1) p1.toNatClampNeg) fun v1 => (if v1 = (0 : Int32) then (some (1 : Int32))
    else (if v1 = (1 : Int32) then (some (0 : Int32))
    else (if v1 = (2 : Int32) then ((s_X8_aloneAt t p1 σ).bind fun r2 => (if r2 = p0 then (some (1 : Int32))
      else (some (0 : Int32))))
    else (if v1 = (3 : Int32) then ((s_X7_lawOfQuiet p1 σ).bind fun r3 => (if r3 = (0 : Int32) then (some (1 : Int32))
      else (some (0 : Int32))))
    else ((s_X8_aloneAt t p1 σ).bind fun r4 => (if r4 = p0 then (some (1 : Int32))
      else (some (0 : Int32))))))))
set_option maxHeartbeats 4000000 in
set_option maxRecDepth 100000 in
theorem z_X8_isPlaying (g : ZG) (t : Nat) (ht : t = 19 ∨ t = 30) (p0 : Int32) (p1 : Int32) (σ : ZSt) : Zo g (mX8_isPlaying g 3) (fun b : Int32 => (some (.int b), zw σ)) (s_X8_isPlaying t p0 p1 σ) 0 0 0 [some (.ref t), some (.int p0), some (.int p1)] [] (zw σ) := by
  unfold s_X8_isPlaying
  refine Zo_aload0 dX8_isPlaying_0 ?_
  refine Zo_getr (j := (t + 1)) fl_X8_9 (kW0 ht) (rW1 ht) dX8_isPlaying_1 ?_
  refine Zo_iload2 dX8_isPlaying_4 ?_
  refine Zo_iald (kW1 ht) dX8_isPlaying_5 fun v1 => ?_
  refine Zo_ite (fun hc0 => ?_) (fun hc0 => ?_)
  · refine Zo_tswC (off := 30) (0 : Int32) 36 hc0 dX8_isPlaying_6 (by decide) (by decide) (by decide) (by decide) ?_
    refine Zo_iconst (1 : Int32) dX8_isPlaying_36 ic_1 ?_
    exact Zo_zret dX8_isPlaying_37 rfl rfl (Or.inr rfl) (Nat.le_refl _) (Nat.le_refl _)
  refine Zo_ite (fun hc1 => ?_) (fun hc1 => ?_)
  · refine Zo_tswC (off := 32) (1 : Int32) 38 hc1 dX8_isPlaying_6 (by decide) (by decide) (by decide) (by decide) ?_
    refine Zo_iconst (0 : Int32) dX8_isPlaying_38 ic_0 ?_
    exact Zo_zret dX8_isPlaying_39 rfl rfl (Or.inl rfl) (Nat.le_refl _) (Nat.le_refl _)
  refine Zo_ite (fun hc2 => ?_) (fun hc2 => ?_)
  · refine Zo_tswC (off := 51) (2 : Int32) 57 hc2 dX8_isPlaying_6 (by decide) (by decide) (by decide) (by decide) ?_
    refine Zo_aload0 dX8_isPlaying_57 ?_
    refine Zo_iload2 dX8_isPlaying_58 ?_
    refine Zo_cVI1 lk_X8_157 (e_X8_aloneAt g _ _ _ ht) (kW0 ht) (zFit_rm (by decide)) (zle rfl) dX8_isPlaying_59 fun r2 => ?_
    refine Zo_iload1 dX8_isPlaying_62 ?_
    refine Zo_icmpne 70 dX8_isPlaying_63 (by decide) ?_ ?_
    · refine Zo_iconst (0 : Int32) dX8_isPlaying_70 ic_0 ?_
      exact Zo_zret dX8_isPlaying_71 rfl rfl (Or.inl rfl) (Nat.le_refl _) (Nat.le_refl _)
    · refine Zo_iconst (1 : Int32) dX8_isPlaying_66 ic_1 ?_
      refine Zo_goto 71 dX8_isPlaying_67 (by decide) ?_
      exact Zo_zret dX8_isPlaying_71 rfl rfl (Or.inr rfl) (Nat.le_refl _) (Nat.le_refl _)
  refine Zo_ite (fun hc3 => ?_) (fun hc3 => ?_)
  · refine Zo_tswC (off := 34) (3 : Int32) 40 hc3 dX8_isPlaying_6 (by decide) (by decide) (by decide) (by decide) ?_
    refine Zo_aload0 dX8_isPlaying_40 ?_
    refine Zo_getr (j := 1) fl_X8_42 (kW0 ht) (rW0 ht) dX8_isPlaying_41 ?_
    refine Zo_iload2 dX8_isPlaying_44 ?_
    refine Zo_cVI1 lk_X8_151 (e_X7_lawOfQuiet g _ _) kd_1 (zFit_rm (by decide)) (zle rfl) dX8_isPlaying_45 fun r3 => ?_
    refine Zo_ifne 55 dX8_isPlaying_48 (by decide) ?_ ?_
    · refine Zo_iconst (0 : Int32) dX8_isPlaying_55 ic_0 ?_
      exact Zo_zret dX8_isPlaying_56 rfl rfl (Or.inl rfl) (Nat.le_refl _) (Nat.le_refl _)
    · refine Zo_iconst (1 : Int32) dX8_isPlaying_51 ic_1 ?_
      refine Zo_goto 56 dX8_isPlaying_52 (by decide) ?_
      exact Zo_zret dX8_isPlaying_56 rfl rfl (Or.inr rfl) (Nat.le_refl _) (Nat.le_refl _)
  refine Zo_tswOut 57 dX8_isPlaying_6 (by have a0 := zne_0 hc0; have a1 := zne_1 hc1; have a2 := zne_2 hc2; have a3 := zne_3 hc3; omega) (by decide) ?_
  refine Zo_aload0 dX8_isPlaying_57 ?_
  refine Zo_iload2 dX8_isPlaying_58 ?_
  refine Zo_cVI1 lk_X8_157 (e_X8_aloneAt g _ _ _ ht) (kW0 ht) (zFit_rm (by decide)) (zle rfl) dX8_isPlaying_59 fun r4 => ?_
  refine Zo_iload1 dX8_isPlaying_62 ?_
  refine Zo_icmpne 70 dX8_isPlaying_63 (by decide) ?_ ?_
  · refine Zo_iconst (0 : Int32) dX8_isPlaying_70 ic_0 ?_
    exact Zo_zret dX8_isPlaying_71 rfl rfl (Or.inl rfl) (Nat.le_refl _) (Nat.le_refl _)
  · refine Zo_iconst (1 : Int32) dX8_isPlaying_66 ic_1 ?_
    refine Zo_goto 71 dX8_isPlaying_67 (by decide) ?_
    exact Zo_zret dX8_isPlaying_71 rfl rfl (Or.inr rfl) (Nat.le_refl _) (Nat.le_refl _)
theorem e_X8_isPlaying (g : ZG) (t : Nat) (p0 : Int32) (p1 : Int32) (σ : ZSt) (ht : t = 19 ∨ t = 30) : zEvI g 3 yX8_isPlaying cX8_isPlaying 3 (some .boolean) [.ref t, .int p0, .int p1] σ (s_X8_isPlaying t p0 p1 σ) :=
  zEvI_of 0 rfl rfl (z_X8_isPlaying g t ht p0 p1 σ)
abbrev mX8_getsPaid (g : ZG) (q : Nat) : ZM := (yX8_getsPaid, cX8_getsPaid, 3, (some .int), zRm q 0 0, zTg g 0 0)
def s_X8_getsPaid (t : Nat) (p0 : Int32) (p1 : Int32) (σ : ZSt) : Option Int32 :=
  zLd (zIn p1 6) (σ.1 (t + 1) p1.toNatClampNeg) fun v1 => (if v1 = (1 : Int32) then (zLd (zIn p1 6) (σ.1 (t + 2) p1.toNatClampNeg) fun v2 => (some v2))
    else (if v1 = (2 : Int32) then ((s_X8_aloneAt t p1 σ).bind fun r3 => (if r3 = p0 then (zLd (zIn p1 6) (σ.1 (t + 2) p1.toNatClampNeg) fun v4 => (some v4))
      else (some (0 : Int32))))
    else (if v1 = (3 : Int32) then (some (0 : Int32))
    else (if v1 = (4 : Int32) then ((s_X8_aloneAt t p1 σ).bind fun r5 => (if r5 = p0 then (zLd (zIn p1 6) (σ.1 (t + 2) p1.toNatClampNeg) fun v6 => (some v6))
      else (some (0 : Int32))))
    else (some (0 : Int32))))))
set_option maxHeartbeats 4000000 in
set_option maxRecDepth 100000 in
theorem z_X8_getsPaid (g : ZG) (t : Nat) (ht : t = 19 ∨ t = 30) (p0 : Int32) (p1 : Int32) (σ : ZSt) : Zo g (mX8_getsPaid g 3) (fun b : Int32 => (some (.int b), zw σ)) (s_X8_getsPaid t p0 p1 σ) 0 0 0 [some (.ref t), some (.int p0), some (.int p1)] [] (zw σ) := by
  unfold s_X8_getsPaid
  refine Zo_aload0 dX8_getsPaid_0 ?_
  refine Zo_getr (j := (t + 1)) fl_X8_9 (kW0 ht) (rW1 ht) dX8_getsPaid_1 ?_
  refine Zo_iload2 dX8_getsPaid_4 ?_
  refine Zo_iald (kW1 ht) dX8_getsPaid_5 fun v1 => ?_
  refine Zo_ite (fun hc1 => ?_) (fun hc1 => ?_)
  · refine Zo_tswC (off := 30) (1 : Int32) 36 hc1 dX8_getsPaid_6 (by decide) (by decide) (by decide) (by decide) ?_
    refine Zo_aload0 dX8_getsPaid_36 ?_
    refine Zo_getr (j := (t + 2)) fl_X8_15 (kW0 ht) (rW2 ht) dX8_getsPaid_37 ?_
    refine Zo_iload2 dX8_getsPaid_40 ?_
    refine Zo_iald (kW2 ht) dX8_getsPaid_41 fun v2 => ?_
    exact Zo_iret dX8_getsPaid_42 rfl rfl (Nat.le_refl _) (Nat.le_refl _)
  refine Zo_ite (fun hc2 => ?_) (fun hc2 => ?_)
  · refine Zo_tswC (off := 37) (2 : Int32) 43 hc2 dX8_getsPaid_6 (by decide) (by decide) (by decide) (by decide) ?_
    refine Zo_aload0 dX8_getsPaid_43 ?_
    refine Zo_iload2 dX8_getsPaid_44 ?_
    refine Zo_cVI1 lk_X8_157 (e_X8_aloneAt g _ _ _ ht) (kW0 ht) (zFit_rm (by decide)) (zle rfl) dX8_getsPaid_45 fun r3 => ?_
    refine Zo_iload1 dX8_getsPaid_48 ?_
    refine Zo_icmpne 61 dX8_getsPaid_49 (by decide) ?_ ?_
    · refine Zo_iconst (0 : Int32) dX8_getsPaid_61 ic_0 ?_
      exact Zo_iret dX8_getsPaid_62 rfl rfl (Nat.le_refl _) (Nat.le_refl _)
    · refine Zo_aload0 dX8_getsPaid_52 ?_
      refine Zo_getr (j := (t + 2)) fl_X8_15 (kW0 ht) (rW2 ht) dX8_getsPaid_53 ?_
      refine Zo_iload2 dX8_getsPaid_56 ?_
      refine Zo_iald (kW2 ht) dX8_getsPaid_57 fun v4 => ?_
      refine Zo_goto 62 dX8_getsPaid_58 (by decide) ?_
      exact Zo_iret dX8_getsPaid_62 rfl rfl (Nat.le_refl _) (Nat.le_refl _)
  refine Zo_ite (fun hc3 => ?_) (fun hc3 => ?_)
  · refine Zo_tswC (off := 57) (3 : Int32) 63 hc3 dX8_getsPaid_6 (by decide) (by decide) (by decide) (by decide) ?_
    refine Zo_iconst (0 : Int32) dX8_getsPaid_63 ic_0 ?_
    exact Zo_iret dX8_getsPaid_64 rfl rfl (Nat.le_refl _) (Nat.le_refl _)
  refine Zo_ite (fun hc4 => ?_) (fun hc4 => ?_)
  · refine Zo_tswC (off := 37) (4 : Int32) 43 hc4 dX8_getsPaid_6 (by decide) (by decide) (by decide) (by decide) ?_
    refine Zo_aload0 dX8_getsPaid_43 ?_
    refine Zo_iload2 dX8_getsPaid_44 ?_
    refine Zo_cVI1 lk_X8_157 (e_X8_aloneAt g _ _ _ ht) (kW0 ht) (zFit_rm (by decide)) (zle rfl) dX8_getsPaid_45 fun r5 => ?_
    refine Zo_iload1 dX8_getsPaid_48 ?_
    refine Zo_icmpne 61 dX8_getsPaid_49 (by decide) ?_ ?_
    · refine Zo_iconst (0 : Int32) dX8_getsPaid_61 ic_0 ?_
      exact Zo_iret dX8_getsPaid_62 rfl rfl (Nat.le_refl _) (Nat.le_refl _)
    · refine Zo_aload0 dX8_getsPaid_52 ?_
      refine Zo_getr (j := (t + 2)) fl_X8_15 (kW0 ht) (rW2 ht) dX8_getsPaid_53 ?_
      refine Zo_iload2 dX8_getsPaid_56 ?_
      refine Zo_iald (kW2 ht) dX8_getsPaid_57 fun v6 => ?_
      refine Zo_goto 62 dX8_getsPaid_58 (by decide) ?_
      exact Zo_iret dX8_getsPaid_62 rfl rfl (Nat.le_refl _) (Nat.le_refl _)
  refine Zo_tswOut 63 dX8_getsPaid_6 (by have a0 := zne_1 hc1; have a1 := zne_2 hc2; have a2 := zne_3 hc3; have a3 := zne_4 hc4; omega) (by decide) ?_
  refine Zo_iconst (0 : Int32) dX8_getsPaid_63 ic_0 ?_
  exact Zo_iret dX8_getsPaid_64 rfl rfl (Nat.le_refl _) (Nat.le_refl _)
theorem e_X8_getsPaid (g : ZG) (t : Nat) (p0 : Int32) (p1 : Int32) (σ : ZSt) (ht : t = 19 ∨ t = 30) : zEvI g 3 yX8_getsPaid cX8_getsPaid 3 (some .int) [.ref t, .int p0, .int p1] σ (s_X8_getsPaid t p0 p1 σ) :=
  zEvI_of 0 rfl rfl (z_X8_getsPaid g t ht p0 p1 σ)
abbrev mX8_settle (g : ZG) (q : Nat) : ZM := (yX8_settle, cX8_settle, 10, none, zRm q 0 0, zTg g 0 0)
def s_X8_settle_C88 (t : Nat) (l1 : Int32) (l2 : Int32) (l3 : Int32) (l5 : Int32) (l7 : Int32) (l8 : Int32) (k_0 : Int32) (σ : ZSt) : Option ZSt :=
  zLd (zIn l2 6) (σ.1 (t + 5) l2.toNatClampNeg) fun v1 => (zSg (zIn l2 6) (zWD σ (t + 5) l2.toNatClampNeg (v1 + (l3 * ((l7 + l5) + l8)))) fun σ2 => (zLd (zIn l1 8) (σ2.1 (t + 8) l1.toNatClampNeg) fun v3 => ((s_X7_cost l1 σ2).bind fun r4 => (zSg (zIn l1 8) (zWD σ2 (t + 8) l1.toNatClampNeg (v3 + (l3 * ((k_0 + l5) - r4)))) fun σ5 => (some σ5)))))
set_option maxHeartbeats 4000000 in
set_option maxRecDepth 100000 in
theorem z_X8_settle_C88 (g : ZG) (t : Nat) (ht : t = 19 ∨ t = 30) (l1 : Int32) (l2 : Int32) (l3 : Int32) (l5 : Int32) (l7 : Int32) (l8 : Int32) (k_0 : Int32) (σ : ZSt) (o4 : Option Value) (o6 : Option Value) (o9 : Option Value) : Zo g (mX8_settle g 4) (fun b : ZSt => (none, zw b)) (s_X8_settle_C88 t l1 l2 l3 l5 l7 l8 k_0 σ) 0 0 88 [some (.ref t), some (.int l1), some (.int l2), some (.int l3), o4, some (.int l5), o6, some (.int l7), some (.int l8), o9] [.int k_0] (zw σ) := by
  unfold s_X8_settle_C88
  refine Zo_istore9 rfl (zlt rfl) dX8_settle_88 ?_
  refine Zo_aload0 dX8_settle_90 ?_
  refine Zo_getr (j := (t + 5)) fl_X8_24 (kW0 ht) (rW5 ht) dX8_settle_91 ?_
  refine Zo_iload2 dX8_settle_94 ?_
  refine Zo_dup2 dX8_settle_95 rfl rfl ?_
  refine Zo_iald (kW5 ht) dX8_settle_96 fun v1 => ?_
  refine Zo_iload3 dX8_settle_97 ?_
  show Zo g _ _ _ 0 0 98 _ _ _
  refine Zo_iload7 dX8_settle_98 ?_
  refine Zo_iload5 dX8_settle_100 ?_
  refine Zo_iadd dX8_settle_102 ?_
  refine Zo_iload8 dX8_settle_103 ?_
  refine Zo_iadd dX8_settle_105 ?_
  refine Zo_imul dX8_settle_106 ?_
  refine Zo_iadd dX8_settle_107 ?_
  refine Zo_iast (kW5 ht) dX8_settle_108 fun σ2 => ?_
  show Zo g _ _ _ 0 0 109 _ _ _
  refine Zo_aload0 dX8_settle_109 ?_
  refine Zo_getr (j := (t + 8)) fl_X8_33 (kW0 ht) (rW8 ht) dX8_settle_110 ?_
  refine Zo_iload1 dX8_settle_113 ?_
  refine Zo_dup2 dX8_settle_114 rfl rfl ?_
  refine Zo_iald (kW8 ht) dX8_settle_115 fun v3 => ?_
  refine Zo_iload3 dX8_settle_116 ?_
  refine Zo_iload9 dX8_settle_117 ?_
  refine Zo_iload5 dX8_settle_119 ?_
  show Zo g _ _ _ 0 0 121 _ _ _
  refine Zo_iadd dX8_settle_121 ?_
  refine Zo_aload0 dX8_settle_122 ?_
  refine Zo_getr (j := 1) fl_X8_42 (kW0 ht) (rW0 ht) dX8_settle_123 ?_
  refine Zo_iload1 dX8_settle_126 ?_
  refine Zo_cVI1 lk_X8_116 (e_X7_cost g _ _) kd_1 (zFit_rm (by decide)) (zle rfl) dX8_settle_127 fun r4 => ?_
  refine Zo_isub dX8_settle_130 ?_
  refine Zo_imul dX8_settle_131 ?_
  refine Zo_iadd dX8_settle_132 ?_
  show Zo g _ _ _ 0 0 133 _ _ _
  refine Zo_iast (kW8 ht) dX8_settle_133 fun σ5 => ?_
  exact Zo_vret dX8_settle_134 rfl rfl (Nat.le_refl _) (Nat.le_refl _)
def s_X8_settle_C51 (t : Nat) (l1 : Int32) (l2 : Int32) (l3 : Int32) (l4 : Int32) (l5 : Int32) (l6 : Int32) (k_0 : Int32) (σ : ZSt) : Option ZSt :=
  zLd (zIn l2 6) (σ.1 (t + 1) l2.toNatClampNeg) fun v1 => (if v1 = (3 : Int32) then (if l4 = (0 : Int32) then (s_X8_settle_C88 t l1 l2 l3 l5 k_0 l6 (0 : Int32) σ)
      else ((s_X7_take l2 σ).bind fun r3 => (s_X8_settle_C88 t l1 l2 l3 l5 k_0 l6 r3 σ)))
    else (if l4 = (0 : Int32) then (s_X8_settle_C88 t l1 l2 l3 l5 k_0 (0 : Int32) (0 : Int32) σ)
      else ((s_X7_take l2 σ).bind fun r2 => (s_X8_settle_C88 t l1 l2 l3 l5 k_0 (0 : Int32) r2 σ))))
set_option maxHeartbeats 4000000 in
set_option maxRecDepth 100000 in
theorem z_X8_settle_C51 (g : ZG) (t : Nat) (ht : t = 19 ∨ t = 30) (l1 : Int32) (l2 : Int32) (l3 : Int32) (l4 : Int32) (l5 : Int32) (l6 : Int32) (k_0 : Int32) (σ : ZSt) (o7 : Option Value) (o8 : Option Value) (o9 : Option Value) : Zo g (mX8_settle g 4) (fun b : ZSt => (none, zw b)) (s_X8_settle_C51 t l1 l2 l3 l4 l5 l6 k_0 σ) 0 0 51 [some (.ref t), some (.int l1), some (.int l2), some (.int l3), some (.int l4), some (.int l5), some (.int l6), o7, o8, o9] [.int k_0] (zw σ) := by
  unfold s_X8_settle_C51
  refine Zo_istore7 rfl (zlt rfl) dX8_settle_51 ?_
  refine Zo_aload0 dX8_settle_53 ?_
  refine Zo_getr (j := (t + 1)) fl_X8_9 (kW0 ht) (rW1 ht) dX8_settle_54 ?_
  refine Zo_iload2 dX8_settle_57 ?_
  refine Zo_iald (kW1 ht) dX8_settle_58 fun v1 => ?_
  refine Zo_iconst (3 : Int32) dX8_settle_59 ic_3 ?_
  refine Zo_icmpne 68 dX8_settle_60 (by decide) ?_ ?_
  · refine Zo_iconst (0 : Int32) dX8_settle_68 ic_0 ?_
    refine Zo_istore8 rfl (zlt rfl) dX8_settle_69 ?_
    refine Zo_iload4 dX8_settle_71 ?_
    refine Zo_ifeq 87 dX8_settle_73 (by decide) ?_ ?_
    · refine Zo_iconst (0 : Int32) dX8_settle_87 ic_0 ?_
      exact z_X8_settle_C88 g t ht _ _ _ _ _ _ _ _ _ _ _
    · refine Zo_aload0 dX8_settle_76 ?_
      refine Zo_getr (j := 1) fl_X8_42 (kW0 ht) (rW0 ht) dX8_settle_77 ?_
      refine Zo_iload2 dX8_settle_80 ?_
      refine Zo_cVI1 lk_X8_124 (e_X7_take g _ _) kd_1 (zFit_rm (by decide)) (zle rfl) dX8_settle_81 fun r2 => ?_
      refine Zo_goto 88 dX8_settle_84 (by decide) ?_
      exact z_X8_settle_C88 g t ht _ _ _ _ _ _ _ _ _ _ _
  · refine Zo_iload6 dX8_settle_63 ?_
    refine Zo_goto 69 dX8_settle_65 (by decide) ?_
    refine Zo_istore8 rfl (zlt rfl) dX8_settle_69 ?_
    refine Zo_iload4 dX8_settle_71 ?_
    refine Zo_ifeq 87 dX8_settle_73 (by decide) ?_ ?_
    · refine Zo_iconst (0 : Int32) dX8_settle_87 ic_0 ?_
      exact z_X8_settle_C88 g t ht _ _ _ _ _ _ _ _ _ _ _
    · refine Zo_aload0 dX8_settle_76 ?_
      refine Zo_getr (j := 1) fl_X8_42 (kW0 ht) (rW0 ht) dX8_settle_77 ?_
      refine Zo_iload2 dX8_settle_80 ?_
      refine Zo_cVI1 lk_X8_124 (e_X7_take g _ _) kd_1 (zFit_rm (by decide)) (zle rfl) dX8_settle_81 fun r3 => ?_
      refine Zo_goto 88 dX8_settle_84 (by decide) ?_
      exact z_X8_settle_C88 g t ht _ _ _ _ _ _ _ _ _ _ _
def s_X8_settle (t : Nat) (p0 : Int32) (p1 : Int32) (p2 : Int32) (σ : ZSt) : Option ZSt :=
  (s_X8_isPlaying t p0 p1 σ).bind fun r1 => ((s_X8_getsPaid t p0 p1 σ).bind fun r2 => ((s_X7_lawOfQuiet p1 σ).bind fun r3 => (if r1 = (0 : Int32) then (s_X8_settle_C51 t p0 p1 p2 r1 r2 r3 (0 : Int32) σ)
    else ((s_X7_goodOf p0 σ).bind fun r4 => ((s_X7_harmOfStreet p1 r4 σ).bind fun r5 => (s_X8_settle_C51 t p0 p1 p2 r1 r2 r3 r5 σ))))))
set_option maxHeartbeats 4000000 in
set_option maxRecDepth 100000 in
theorem z_X8_settle (g : ZG) (t : Nat) (ht : t = 19 ∨ t = 30) (p0 : Int32) (p1 : Int32) (p2 : Int32) (σ : ZSt) : Zo g (mX8_settle g 4) (fun b : ZSt => (none, zw b)) (s_X8_settle t p0 p1 p2 σ) 0 0 0 [some (.ref t), some (.int p0), some (.int p1), some (.int p2), none, none, none, none, none, none] [] (zw σ) := by
  unfold s_X8_settle
  refine Zo_aload0 dX8_settle_0 ?_
  refine Zo_iload1 dX8_settle_1 ?_
  refine Zo_iload2 dX8_settle_2 ?_
  refine Zo_cVI2 lk_X8_144 (e_X8_isPlaying g _ _ _ _ ht) (kW0 ht) (zFit_rm (by decide)) (zle rfl) dX8_settle_3 fun r1 => ?_
  refine Zo_istore4 rfl (zlt rfl) dX8_settle_6 ?_
  refine Zo_aload0 dX8_settle_8 ?_
  refine Zo_iload1 dX8_settle_9 ?_
  show Zo g _ _ _ 0 0 10 _ _ _
  refine Zo_iload2 dX8_settle_10 ?_
  refine Zo_cVI2 lk_X8_148 (e_X8_getsPaid g _ _ _ _ ht) (kW0 ht) (zFit_rm (by decide)) (zle rfl) dX8_settle_11 fun r2 => ?_
  refine Zo_istore5 rfl (zlt rfl) dX8_settle_14 ?_
  refine Zo_aload0 dX8_settle_16 ?_
  refine Zo_getr (j := 1) fl_X8_42 (kW0 ht) (rW0 ht) dX8_settle_17 ?_
  refine Zo_iload2 dX8_settle_20 ?_
  refine Zo_cVI1 lk_X8_151 (e_X7_lawOfQuiet g _ _) kd_1 (zFit_rm (by decide)) (zle rfl) dX8_settle_21 fun r3 => ?_
  refine Zo_istore6 rfl (zlt rfl) dX8_settle_24 ?_
  show Zo g _ _ _ 0 0 26 _ _ _
  refine Zo_iload4 dX8_settle_26 ?_
  refine Zo_ifeq 50 dX8_settle_28 (by decide) ?_ ?_
  · refine Zo_iconst (0 : Int32) dX8_settle_50 ic_0 ?_
    exact z_X8_settle_C51 g t ht _ _ _ _ _ _ _ _ _ _ _
  · refine Zo_aload0 dX8_settle_31 ?_
    refine Zo_getr (j := 1) fl_X8_42 (kW0 ht) (rW0 ht) dX8_settle_32 ?_
    refine Zo_iload2 dX8_settle_35 ?_
    refine Zo_aload0 dX8_settle_36 ?_
    refine Zo_getr (j := 1) fl_X8_42 (kW0 ht) (rW0 ht) dX8_settle_37 ?_
    refine Zo_iload1 dX8_settle_40 ?_
    refine Zo_cVI1 lk_X8_121 (e_X7_goodOf g _ _) kd_1 (zFit_rm (by decide)) (zle rfl) dX8_settle_41 fun r4 => ?_
    show Zo g _ _ _ 0 0 44 _ _ _
    refine Zo_cVI2 lk_X8_154 (e_X7_harmOfStreet g _ _ _) kd_1 (zFit_rm (by decide)) (zle rfl) dX8_settle_44 fun r5 => ?_
    refine Zo_goto 51 dX8_settle_47 (by decide) ?_
    exact z_X8_settle_C51 g t ht _ _ _ _ _ _ _ _ _ _ _
theorem e_X8_settle (g : ZG) (t : Nat) (p0 : Int32) (p1 : Int32) (p2 : Int32) (σ : ZSt) (ht : t = 19 ∨ t = 30) : zEvV g 4 yX8_settle cX8_settle 10 none [.ref t, .int p0, .int p1, .int p2] σ (s_X8_settle t p0 p1 p2 σ) :=
  zEvV_of 6 rfl rfl (z_X8_settle g t ht p0 p1 p2 σ)
abbrev mX8_settleAll (g : ZG) (q : Nat) : ZM := (yX8_settleAll, cX8_settleAll, 3, none, zRm q 0 0, zTg g 0 0)
def s_X8_settleAll_L64 (t : Nat) (k44 : Int32 → ZSt → Option ZSt) (l1 : Int32) : Nat → Int32 → ZSt → Option ZSt
  | 0, _, _ => none
  | n + 1, l2, σ =>
    if (σ.1 t 12) ≤ l2 then (k44 (l1 + (1 : Int32)) σ)
      else ((s_X8_isSomewhere t l2 σ).bind fun r1 => (if r1 = (0 : Int32) then (s_X8_settleAll_L64 t k44 l1 n (l2 + (1 : Int32)) σ)
        else (zLd (zIn l2 8) (σ.1 (t + 6) l2.toNatClampNeg) fun v2 => ((s_X8_howOften t l1 σ).bind fun r3 => ((s_X8_settle t l2 v2 r3 σ).bind fun σ4 => (s_X8_settleAll_L64 t k44 l1 n (l2 + (1 : Int32)) σ4))))))
set_option maxHeartbeats 4000000 in
set_option maxRecDepth 100000 in
theorem z_X8_settleAll_L64 (g : ZG) (t : Nat) (ht : t = 19 ∨ t = 30) (k44 : Int32 → ZSt → Option ZSt) (l1 : Int32) (hk44 : ∀ (x1 : Int32) (σx : ZSt) (d2 : Option Value), Zo g (mX8_settleAll g 5) (fun b : ZSt => (none, zw b)) (k44 x1 σx) 0 0 44 [some (.ref t), some (.int x1), d2] [] (zw σx)) : ∀ (n : Nat) (l2 : Int32) (σ : ZSt), Zo g (mX8_settleAll g 5) (fun b : ZSt => (none, zw b)) (s_X8_settleAll_L64 t k44 l1 n l2 σ) 0 0 64 [some (.ref t), some (.int l1), some (.int l2)] [] (zw σ) := by
  intro n
  induction n with
  | zero => intros; exact Zo_none
  | succ n ih =>
    intro l2 σ
    rw [s_X8_settleAll_L64]
    refine Zo_iload2 dX8_settleAll_64 ?_
    refine Zo_aload0 dX8_settleAll_65 ?_
    refine Zo_geti fl_X8_68 (kW0 ht) dX8_settleAll_66 ?_
    refine Zo_icmpge 102 dX8_settleAll_69 (by decide) ?_ ?_
    · refine Zo_iinc1 rfl (1 : Int32) ic_1 (zlt rfl) dX8_settleAll_102 ?_
      refine Zo_goto 44 dX8_settleAll_105 (by decide) ?_
      exact hk44 _ _ _
    · refine Zo_aload0 dX8_settleAll_72 ?_
      refine Zo_iload2 dX8_settleAll_73 ?_
      refine Zo_cVI1 lk_X8_108 (e_X8_isSomewhere g _ _ _ ht) (kW0 ht) (zFit_rm (by decide)) (zle rfl) dX8_settleAll_74 fun r1 => ?_
      refine Zo_ifeq 96 dX8_settleAll_77 (by decide) ?_ ?_
      · refine Zo_iinc2 rfl (1 : Int32) ic_1 (zlt rfl) dX8_settleAll_96 ?_
        refine Zo_goto 64 dX8_settleAll_99 (by decide) ?_
        exact ih _ _
      · refine Zo_aload0 dX8_settleAll_80 ?_
        refine Zo_iload2 dX8_settleAll_81 ?_
        refine Zo_aload0 dX8_settleAll_82 ?_
        refine Zo_getr (j := (t + 6)) fl_X8_27 (kW0 ht) (rW6 ht) dX8_settleAll_83 ?_
        refine Zo_iload2 dX8_settleAll_86 ?_
        refine Zo_iald (kW6 ht) dX8_settleAll_87 fun v2 => ?_
        refine Zo_aload0 dX8_settleAll_88 ?_
        show Zo g _ _ _ 0 0 89 _ _ _
        refine Zo_iload1 dX8_settleAll_89 ?_
        refine Zo_cVI1 lk_X8_137 (e_X8_howOften g _ _ _ ht) (kW0 ht) (zFit_rm (by decide)) (zle rfl) dX8_settleAll_90 fun r3 => ?_
        refine Zo_cVV3 lk_X8_140 (e_X8_settle g _ _ _ _ _ ht) (kW0 ht) (zFit_rm (by decide)) (zle rfl) dX8_settleAll_93 fun σ4 => ?_
        refine Zo_iinc2 rfl (1 : Int32) ic_1 (zlt rfl) dX8_settleAll_96 ?_
        refine Zo_goto 64 dX8_settleAll_99 (by decide) ?_
        exact ih _ _
def s_X8_settleAll_C108 (t : Nat) (σ : ZSt) : Option ZSt :=
  (s_X8_lastUnlike t σ).bind fun r1 => (zLd (zIn r1 60) (σ.1 (t + 10) r1.toNatClampNeg) fun v2 => ((s_X8_unpack t v2 σ).bind fun σ3 => (some σ3)))
set_option maxHeartbeats 4000000 in
set_option maxRecDepth 100000 in
theorem z_X8_settleAll_C108 (g : ZG) (t : Nat) (ht : t = 19 ∨ t = 30) (σ : ZSt) (o1 : Option Value) (o2 : Option Value) : Zo g (mX8_settleAll g 5) (fun b : ZSt => (none, zw b)) (s_X8_settleAll_C108 t σ) 0 0 108 [some (.ref t), o1, o2] [] (zw σ) := by
  unfold s_X8_settleAll_C108
  refine Zo_aload0 dX8_settleAll_108 ?_
  refine Zo_aload0 dX8_settleAll_109 ?_
  refine Zo_getr (j := (t + 10)) fl_X8_39 (kW0 ht) (rW10 ht) dX8_settleAll_110 ?_
  refine Zo_aload0 dX8_settleAll_113 ?_
  refine Zo_cVI0 lk_X8_95 (e_X8_lastUnlike g _ _ ht) (kW0 ht) (zFit_rm (by decide)) (zle rfl) dX8_settleAll_114 fun r1 => ?_
  refine Zo_iald (kW10 ht) dX8_settleAll_117 fun v2 => ?_
  refine Zo_cVV1 lk_X8_98 (e_X8_unpack g _ _ _ ht) (kW0 ht) (zFit_rm (by decide)) (zle rfl) dX8_settleAll_118 fun σ3 => ?_
  show Zo g _ _ _ 0 0 121 _ _ _
  exact Zo_vret dX8_settleAll_121 rfl rfl (Nat.le_refl _) (Nat.le_refl _)
def s_X8_settleAll_L44 (t : Nat) : Nat → Int32 → ZSt → Option ZSt
  | 0, _, _ => none
  | n + 1, l1, σ =>
    if (σ.1 t 14) ≤ l1 then (s_X8_settleAll_C108 t σ)
      else (zLd (zIn l1 60) (σ.1 (t + 10) l1.toNatClampNeg) fun v1 => ((s_X8_unpack t v1 σ).bind fun σ2 => (s_X8_settleAll_L64 t (s_X8_settleAll_L44 t n) l1 200 (0 : Int32) σ2)))
set_option maxHeartbeats 4000000 in
set_option maxRecDepth 100000 in
theorem z_X8_settleAll_L44 (g : ZG) (t : Nat) (ht : t = 19 ∨ t = 30) : ∀ (n : Nat) (l1 : Int32) (σ : ZSt) (o2 : Option Value), Zo g (mX8_settleAll g 5) (fun b : ZSt => (none, zw b)) (s_X8_settleAll_L44 t n l1 σ) 0 0 44 [some (.ref t), some (.int l1), o2] [] (zw σ) := by
  intro n
  induction n with
  | zero => intros; exact Zo_none
  | succ n ih =>
    intro l1 σ o2
    rw [s_X8_settleAll_L44]
    refine Zo_iload1 dX8_settleAll_44 ?_
    refine Zo_aload0 dX8_settleAll_45 ?_
    refine Zo_geti fl_X8_73 (kW0 ht) dX8_settleAll_46 ?_
    refine Zo_icmpge 108 dX8_settleAll_49 (by decide) ?_ ?_
    · exact z_X8_settleAll_C108 g t ht _ _ _
    · refine Zo_aload0 dX8_settleAll_52 ?_
      refine Zo_aload0 dX8_settleAll_53 ?_
      refine Zo_getr (j := (t + 10)) fl_X8_39 (kW0 ht) (rW10 ht) dX8_settleAll_54 ?_
      refine Zo_iload1 dX8_settleAll_57 ?_
      refine Zo_iald (kW10 ht) dX8_settleAll_58 fun v1 => ?_
      refine Zo_cVV1 lk_X8_98 (e_X8_unpack g _ _ _ ht) (kW0 ht) (zFit_rm (by decide)) (zle rfl) dX8_settleAll_59 fun σ2 => ?_
      refine Zo_iconst (0 : Int32) dX8_settleAll_62 ic_0 ?_
      show Zo g _ _ _ 0 0 63 _ _ _
      refine Zo_istore2 rfl (zlt rfl) dX8_settleAll_63 ?_
      exact z_X8_settleAll_L64 g t ht (s_X8_settleAll_L44 t n) _ ih _ _ _
def s_X8_settleAll_L23 (t : Nat) : Nat → Int32 → ZSt → Option ZSt
  | 0, _, _ => none
  | n + 1, l1, σ =>
    if (8 : Int32) ≤ l1 then (s_X8_settleAll_L44 t 200 (0 : Int32) σ)
      else (zSg (zIn l1 8) (zWD σ (t + 8) l1.toNatClampNeg (0 : Int32)) fun σ1 => (s_X8_settleAll_L23 t n (l1 + (1 : Int32)) σ1))
set_option maxHeartbeats 4000000 in
set_option maxRecDepth 100000 in
theorem z_X8_settleAll_L23 (g : ZG) (t : Nat) (ht : t = 19 ∨ t = 30) : ∀ (n : Nat) (l1 : Int32) (σ : ZSt) (o2 : Option Value), Zo g (mX8_settleAll g 5) (fun b : ZSt => (none, zw b)) (s_X8_settleAll_L23 t n l1 σ) 0 0 23 [some (.ref t), some (.int l1), o2] [] (zw σ) := by
  intro n
  induction n with
  | zero => intros; exact Zo_none
  | succ n ih =>
    intro l1 σ o2
    rw [s_X8_settleAll_L23]
    refine Zo_iload1 dX8_settleAll_23 ?_
    refine Zo_bipush (8 : Int32) dX8_settleAll_24 bp_8 ?_
    refine Zo_icmpge 42 dX8_settleAll_26 (by decide) ?_ ?_
    · refine Zo_iconst (0 : Int32) dX8_settleAll_42 ic_0 ?_
      refine Zo_istore1 rfl (zlt rfl) dX8_settleAll_43 ?_
      exact z_X8_settleAll_L44 g t ht _ _ _ _
    · refine Zo_aload0 dX8_settleAll_29 ?_
      refine Zo_getr (j := (t + 8)) fl_X8_33 (kW0 ht) (rW8 ht) dX8_settleAll_30 ?_
      refine Zo_iload1 dX8_settleAll_33 ?_
      refine Zo_iconst (0 : Int32) dX8_settleAll_34 ic_0 ?_
      refine Zo_iast (kW8 ht) dX8_settleAll_35 fun σ1 => ?_
      refine Zo_iinc1 rfl (1 : Int32) ic_1 (zlt rfl) dX8_settleAll_36 ?_
      refine Zo_goto 23 dX8_settleAll_39 (by decide) ?_
      exact ih _ _ _
def s_X8_settleAll_L2 (t : Nat) : Nat → Int32 → ZSt → Option ZSt
  | 0, _, _ => none
  | n + 1, l1, σ =>
    if (6 : Int32) ≤ l1 then (s_X8_settleAll_L23 t 200 (0 : Int32) σ)
      else (zSg (zIn l1 6) (zWD σ (t + 5) l1.toNatClampNeg (0 : Int32)) fun σ1 => (s_X8_settleAll_L2 t n (l1 + (1 : Int32)) σ1))
set_option maxHeartbeats 4000000 in
set_option maxRecDepth 100000 in
theorem z_X8_settleAll_L2 (g : ZG) (t : Nat) (ht : t = 19 ∨ t = 30) : ∀ (n : Nat) (l1 : Int32) (σ : ZSt) (o2 : Option Value), Zo g (mX8_settleAll g 5) (fun b : ZSt => (none, zw b)) (s_X8_settleAll_L2 t n l1 σ) 0 0 2 [some (.ref t), some (.int l1), o2] [] (zw σ) := by
  intro n
  induction n with
  | zero => intros; exact Zo_none
  | succ n ih =>
    intro l1 σ o2
    rw [s_X8_settleAll_L2]
    refine Zo_iload1 dX8_settleAll_2 ?_
    refine Zo_bipush (6 : Int32) dX8_settleAll_3 bp_6 ?_
    refine Zo_icmpge 21 dX8_settleAll_5 (by decide) ?_ ?_
    · refine Zo_iconst (0 : Int32) dX8_settleAll_21 ic_0 ?_
      refine Zo_istore1 rfl (zlt rfl) dX8_settleAll_22 ?_
      exact z_X8_settleAll_L23 g t ht _ _ _ _
    · refine Zo_aload0 dX8_settleAll_8 ?_
      refine Zo_getr (j := (t + 5)) fl_X8_24 (kW0 ht) (rW5 ht) dX8_settleAll_9 ?_
      refine Zo_iload1 dX8_settleAll_12 ?_
      refine Zo_iconst (0 : Int32) dX8_settleAll_13 ic_0 ?_
      refine Zo_iast (kW5 ht) dX8_settleAll_14 fun σ1 => ?_
      refine Zo_iinc1 rfl (1 : Int32) ic_1 (zlt rfl) dX8_settleAll_15 ?_
      refine Zo_goto 2 dX8_settleAll_18 (by decide) ?_
      exact ih _ _ _
def s_X8_settleAll (t : Nat) (σ : ZSt) : Option ZSt :=
  s_X8_settleAll_L2 t 200 (0 : Int32) σ
set_option maxHeartbeats 4000000 in
set_option maxRecDepth 100000 in
theorem z_X8_settleAll (g : ZG) (t : Nat) (ht : t = 19 ∨ t = 30) (σ : ZSt) : Zo g (mX8_settleAll g 5) (fun b : ZSt => (none, zw b)) (s_X8_settleAll t σ) 0 0 0 [some (.ref t), none, none] [] (zw σ) := by
  unfold s_X8_settleAll
  refine Zo_iconst (0 : Int32) dX8_settleAll_0 ic_0 ?_
  refine Zo_istore1 rfl (zlt rfl) dX8_settleAll_1 ?_
  exact z_X8_settleAll_L2 g t ht _ _ _ _
theorem e_X8_settleAll (g : ZG) (t : Nat) (σ : ZSt) (ht : t = 19 ∨ t = 30) : zEvV g 5 yX8_settleAll cX8_settleAll 3 none [.ref t] σ (s_X8_settleAll t σ) :=
  zEvV_of 2 rfl rfl (z_X8_settleAll g t ht σ)
abbrev mX8_leaveThemThere (g : ZG) (q : Nat) : ZM := (yX8_leaveThemThere, cX8_leaveThemThere, 2, none, zRm q 0 0, zTg g 0 0)
def s_X8_leaveThemThere_L2 (t : Nat) : Nat → Int32 → ZSt → Option ZSt
  | 0, _, _ => none
  | n + 1, l1, σ =>
    if (σ.1 t 12) ≤ l1 then (some σ)
      else (zLd (zIn l1 8) (σ.1 (t + 6) l1.toNatClampNeg) fun v1 => ((s_X7_setPlace l1 v1 σ).bind fun σ2 => (s_X8_leaveThemThere_L2 t n (l1 + (1 : Int32)) σ2)))
set_option maxHeartbeats 4000000 in
set_option maxRecDepth 100000 in
theorem z_X8_leaveThemThere_L2 (g : ZG) (t : Nat) (ht : t = 19 ∨ t = 30) : ∀ (n : Nat) (l1 : Int32) (σ : ZSt), Zo g (mX8_leaveThemThere g 2) (fun b : ZSt => (none, zw b)) (s_X8_leaveThemThere_L2 t n l1 σ) 0 0 2 [some (.ref t), some (.int l1)] [] (zw σ) := by
  intro n
  induction n with
  | zero => intros; exact Zo_none
  | succ n ih =>
    intro l1 σ
    rw [s_X8_leaveThemThere_L2]
    refine Zo_iload1 dX8_leaveThemThere_2 ?_
    refine Zo_aload0 dX8_leaveThemThere_3 ?_
    refine Zo_geti fl_X8_68 (kW0 ht) dX8_leaveThemThere_4 ?_
    refine Zo_icmpge 30 dX8_leaveThemThere_7 (by decide) ?_ ?_
    · exact Zo_vret dX8_leaveThemThere_30 rfl rfl (Nat.le_refl _) (Nat.le_refl _)
    · refine Zo_aload0 dX8_leaveThemThere_10 ?_
      refine Zo_getr (j := 1) fl_X8_42 (kW0 ht) (rW0 ht) dX8_leaveThemThere_11 ?_
      refine Zo_iload1 dX8_leaveThemThere_14 ?_
      refine Zo_aload0 dX8_leaveThemThere_15 ?_
      refine Zo_getr (j := (t + 6)) fl_X8_27 (kW0 ht) (rW6 ht) dX8_leaveThemThere_16 ?_
      refine Zo_iload1 dX8_leaveThemThere_19 ?_
      refine Zo_iald (kW6 ht) dX8_leaveThemThere_20 fun v1 => ?_
      show Zo g _ _ _ 0 0 21 _ _ _
      refine Zo_cVV2 lk_X8_160 (e_X7_setPlace g _ _ _) kd_1 (zFit_rm (by decide)) (zle rfl) dX8_leaveThemThere_21 fun σ2 => ?_
      refine Zo_iinc1 rfl (1 : Int32) ic_1 (zlt rfl) dX8_leaveThemThere_24 ?_
      refine Zo_goto 2 dX8_leaveThemThere_27 (by decide) ?_
      exact ih _ _
def s_X8_leaveThemThere (t : Nat) (σ : ZSt) : Option ZSt :=
  s_X8_leaveThemThere_L2 t 200 (0 : Int32) σ
set_option maxHeartbeats 4000000 in
set_option maxRecDepth 100000 in
theorem z_X8_leaveThemThere (g : ZG) (t : Nat) (ht : t = 19 ∨ t = 30) (σ : ZSt) : Zo g (mX8_leaveThemThere g 2) (fun b : ZSt => (none, zw b)) (s_X8_leaveThemThere t σ) 0 0 0 [some (.ref t), none] [] (zw σ) := by
  unfold s_X8_leaveThemThere
  refine Zo_iconst (0 : Int32) dX8_leaveThemThere_0 ic_0 ?_
  refine Zo_istore1 rfl (zlt rfl) dX8_leaveThemThere_1 ?_
  exact z_X8_leaveThemThere_L2 g t ht _ _ _
theorem e_X8_leaveThemThere (g : ZG) (t : Nat) (σ : ZSt) (ht : t = 19 ∨ t = 30) : zEvV g 2 yX8_leaveThemThere cX8_leaveThemThere 2 none [.ref t] σ (s_X8_leaveThemThere t σ) :=
  zEvV_of 1 rfl rfl (z_X8_leaveThemThere g t ht σ)
abbrev mX8_somewhere (g : ZG) (q : Nat) : ZM := (yX8_somewhere, cX8_somewhere, 3, (some .int), zRm q 0 0, zTg g 0 0)
def s_X8_somewhere_L4 (t : Nat) (σ : ZSt) : Nat → Int32 → Int32 → Option Int32
  | 0, _, _ => none
  | n + 1, l1, l2 =>
    if (σ.1 t 12) ≤ l2 then (some l1)
      else ((s_X8_isSomewhere t l2 σ).bind fun r1 => (if r1 = (0 : Int32) then (s_X8_somewhere_L4 t σ n l1 (l2 + (1 : Int32)))
        else (s_X8_somewhere_L4 t σ n (l1 + (1 : Int32)) (l2 + (1 : Int32)))))
set_option maxHeartbeats 4000000 in
set_option maxRecDepth 100000 in
theorem z_X8_somewhere_L4 (g : ZG) (t : Nat) (ht : t = 19 ∨ t = 30) (σ : ZSt) : ∀ (n : Nat) (l1 : Int32) (l2 : Int32), Zo g (mX8_somewhere g 1) (fun b : Int32 => (some (.int b), zw σ)) (s_X8_somewhere_L4 t σ n l1 l2) 0 0 4 [some (.ref t), some (.int l1), some (.int l2)] [] (zw σ) := by
  intro n
  induction n with
  | zero => intros; exact Zo_none
  | succ n ih =>
    intro l1 l2
    rw [s_X8_somewhere_L4]
    refine Zo_iload2 dX8_somewhere_4 ?_
    refine Zo_aload0 dX8_somewhere_5 ?_
    refine Zo_geti fl_X8_68 (kW0 ht) dX8_somewhere_6 ?_
    refine Zo_icmpge 29 dX8_somewhere_9 (by decide) ?_ ?_
    · refine Zo_iload1 dX8_somewhere_29 ?_
      exact Zo_iret dX8_somewhere_30 rfl rfl (Nat.le_refl _) (Nat.le_refl _)
    · refine Zo_aload0 dX8_somewhere_12 ?_
      refine Zo_iload2 dX8_somewhere_13 ?_
      refine Zo_cVI1 lk_X8_108 (e_X8_isSomewhere g _ _ _ ht) (kW0 ht) (zFit_rm (by decide)) (zle rfl) dX8_somewhere_14 fun r1 => ?_
      refine Zo_ifeq 23 dX8_somewhere_17 (by decide) ?_ ?_
      · refine Zo_iinc2 rfl (1 : Int32) ic_1 (zlt rfl) dX8_somewhere_23 ?_
        refine Zo_goto 4 dX8_somewhere_26 (by decide) ?_
        exact ih _ _
      · refine Zo_iinc1 rfl (1 : Int32) ic_1 (zlt rfl) dX8_somewhere_20 ?_
        refine Zo_iinc2 rfl (1 : Int32) ic_1 (zlt rfl) dX8_somewhere_23 ?_
        refine Zo_goto 4 dX8_somewhere_26 (by decide) ?_
        exact ih _ _
def s_X8_somewhere (t : Nat) (σ : ZSt) : Option Int32 :=
  s_X8_somewhere_L4 t σ 200 (0 : Int32) (0 : Int32)
set_option maxHeartbeats 4000000 in
set_option maxRecDepth 100000 in
theorem z_X8_somewhere (g : ZG) (t : Nat) (ht : t = 19 ∨ t = 30) (σ : ZSt) : Zo g (mX8_somewhere g 1) (fun b : Int32 => (some (.int b), zw σ)) (s_X8_somewhere t σ) 0 0 0 [some (.ref t), none, none] [] (zw σ) := by
  unfold s_X8_somewhere
  refine Zo_iconst (0 : Int32) dX8_somewhere_0 ic_0 ?_
  refine Zo_istore1 rfl (zlt rfl) dX8_somewhere_1 ?_
  refine Zo_iconst (0 : Int32) dX8_somewhere_2 ic_0 ?_
  refine Zo_istore2 rfl (zlt rfl) dX8_somewhere_3 ?_
  exact z_X8_somewhere_L4 g t ht _ _ _ _
theorem e_X8_somewhere (g : ZG) (t : Nat) (σ : ZSt) (ht : t = 19 ∨ t = 30) : zEvI g 1 yX8_somewhere cX8_somewhere 3 (some .int) [.ref t] σ (s_X8_somewhere t σ) :=
  zEvI_of 2 rfl rfl (z_X8_somewhere g t ht σ)
abbrev mX8_knowsPlayer (g : ZG) (q : Nat) : ZM := (yX8_knowsPlayer, cX8_knowsPlayer, 2, (some .boolean), zRm q 0 0, zTg g 0 0)
def s_X8_knowsPlayer (t : Nat) (p0 : Int32) (σ : ZSt) : Option Int32 :=
  if p0 < (0 : Int32) then (some (0 : Int32))
    else (if (σ.1 t 12) ≤ p0 then (some (0 : Int32))
      else (if (8 : Int32) ≤ p0 then (some (0 : Int32))
        else (some (1 : Int32))))
set_option maxHeartbeats 4000000 in
set_option maxRecDepth 100000 in
theorem z_X8_knowsPlayer (g : ZG) (t : Nat) (ht : t = 19 ∨ t = 30) (p0 : Int32) (σ : ZSt) : Zo g (mX8_knowsPlayer g 0) (fun b : Int32 => (some (.int b), zw σ)) (s_X8_knowsPlayer t p0 σ) 0 0 0 [some (.ref t), some (.int p0)] [] (zw σ) := by
  unfold s_X8_knowsPlayer
  refine Zo_iload1 dX8_knowsPlayer_0 ?_
  refine Zo_iflt 22 dX8_knowsPlayer_1 (by decide) ?_ ?_
  · refine Zo_iconst (0 : Int32) dX8_knowsPlayer_22 ic_0 ?_
    exact Zo_zret dX8_knowsPlayer_23 rfl rfl (Or.inl rfl) (Nat.le_refl _) (Nat.le_refl _)
  · refine Zo_iload1 dX8_knowsPlayer_4 ?_
    refine Zo_aload0 dX8_knowsPlayer_5 ?_
    refine Zo_geti fl_X8_68 (kW0 ht) dX8_knowsPlayer_6 ?_
    refine Zo_icmpge 22 dX8_knowsPlayer_9 (by decide) ?_ ?_
    · refine Zo_iconst (0 : Int32) dX8_knowsPlayer_22 ic_0 ?_
      exact Zo_zret dX8_knowsPlayer_23 rfl rfl (Or.inl rfl) (Nat.le_refl _) (Nat.le_refl _)
    · refine Zo_iload1 dX8_knowsPlayer_12 ?_
      refine Zo_bipush (8 : Int32) dX8_knowsPlayer_13 bp_8 ?_
      refine Zo_icmpge 22 dX8_knowsPlayer_15 (by decide) ?_ ?_
      · refine Zo_iconst (0 : Int32) dX8_knowsPlayer_22 ic_0 ?_
        exact Zo_zret dX8_knowsPlayer_23 rfl rfl (Or.inl rfl) (Nat.le_refl _) (Nat.le_refl _)
      · refine Zo_iconst (1 : Int32) dX8_knowsPlayer_18 ic_1 ?_
        refine Zo_goto 23 dX8_knowsPlayer_19 (by decide) ?_
        exact Zo_zret dX8_knowsPlayer_23 rfl rfl (Or.inr rfl) (Nat.le_refl _) (Nat.le_refl _)
theorem e_X8_knowsPlayer (g : ZG) (t : Nat) (p0 : Int32) (σ : ZSt) (ht : t = 19 ∨ t = 30) : zEvI g 0 yX8_knowsPlayer cX8_knowsPlayer 2 (some .boolean) [.ref t, .int p0] σ (s_X8_knowsPlayer t p0 σ) :=
  zEvI_of 0 rfl rfl (z_X8_knowsPlayer g t ht p0 σ)
abbrev mX8_whereIs (g : ZG) (q : Nat) : ZM := (yX8_whereIs, cX8_whereIs, 2, (some .int), zRm q 0 0, zTg g 0 0)
def s_X8_whereIs (t : Nat) (p0 : Int32) (σ : ZSt) : Option Int32 :=
  (s_X8_knowsPlayer t p0 σ).bind fun r1 => (if r1 = (0 : Int32) then (some (-2000000000 : Int32))
    else (zLd (zIn p0 8) (σ.1 (t + 6) p0.toNatClampNeg) fun v2 => (some v2)))
set_option maxHeartbeats 4000000 in
set_option maxRecDepth 100000 in
theorem z_X8_whereIs (g : ZG) (t : Nat) (ht : t = 19 ∨ t = 30) (p0 : Int32) (σ : ZSt) : Zo g (mX8_whereIs g 1) (fun b : Int32 => (some (.int b), zw σ)) (s_X8_whereIs t p0 σ) 0 0 0 [some (.ref t), some (.int p0)] [] (zw σ) := by
  unfold s_X8_whereIs
  refine Zo_aload0 dX8_whereIs_0 ?_
  refine Zo_iload1 dX8_whereIs_1 ?_
  refine Zo_cVI1 lk_X8_164 (e_X8_knowsPlayer g _ _ _ ht) (kW0 ht) (zFit_rm (by decide)) (zle rfl) dX8_whereIs_2 fun r1 => ?_
  refine Zo_ifeq 17 dX8_whereIs_5 (by decide) ?_ ?_
  · refine Zo_ldc rfl cw_X8_167 dX8_whereIs_17 ?_
    exact Zo_iret dX8_whereIs_19 rfl rfl (Nat.le_refl _) (Nat.le_refl _)
  · refine Zo_aload0 dX8_whereIs_8 ?_
    refine Zo_getr (j := (t + 6)) fl_X8_27 (kW0 ht) (rW6 ht) dX8_whereIs_9 ?_
    refine Zo_iload1 dX8_whereIs_12 ?_
    refine Zo_iald (kW6 ht) dX8_whereIs_13 fun v2 => ?_
    refine Zo_goto 19 dX8_whereIs_14 (by decide) ?_
    exact Zo_iret dX8_whereIs_19 rfl rfl (Nat.le_refl _) (Nat.le_refl _)
theorem e_X8_whereIs (g : ZG) (t : Nat) (p0 : Int32) (σ : ZSt) (ht : t = 19 ∨ t = 30) : zEvI g 1 yX8_whereIs cX8_whereIs 2 (some .int) [.ref t, .int p0] σ (s_X8_whereIs t p0 σ) :=
  zEvI_of 0 rfl rfl (z_X8_whereIs g t ht p0 σ)
abbrev mX8_earnedBy (g : ZG) (q : Nat) : ZM := (yX8_earnedBy, cX8_earnedBy, 2, (some .int), zRm q 0 0, zTg g 0 0)
def s_X8_earnedBy (t : Nat) (p0 : Int32) (σ : ZSt) : Option Int32 :=
  (s_X8_knowsPlayer t p0 σ).bind fun r1 => (if r1 = (0 : Int32) then (some (-2000000000 : Int32))
    else (zLd (zIn p0 8) (σ.1 (t + 8) p0.toNatClampNeg) fun v2 => (some v2)))
set_option maxHeartbeats 4000000 in
set_option maxRecDepth 100000 in
theorem z_X8_earnedBy (g : ZG) (t : Nat) (ht : t = 19 ∨ t = 30) (p0 : Int32) (σ : ZSt) : Zo g (mX8_earnedBy g 1) (fun b : Int32 => (some (.int b), zw σ)) (s_X8_earnedBy t p0 σ) 0 0 0 [some (.ref t), some (.int p0)] [] (zw σ) := by
  unfold s_X8_earnedBy
  refine Zo_aload0 dX8_earnedBy_0 ?_
  refine Zo_iload1 dX8_earnedBy_1 ?_
  refine Zo_cVI1 lk_X8_164 (e_X8_knowsPlayer g _ _ _ ht) (kW0 ht) (zFit_rm (by decide)) (zle rfl) dX8_earnedBy_2 fun r1 => ?_
  refine Zo_ifeq 17 dX8_earnedBy_5 (by decide) ?_ ?_
  · refine Zo_ldc rfl cw_X8_167 dX8_earnedBy_17 ?_
    exact Zo_iret dX8_earnedBy_19 rfl rfl (Nat.le_refl _) (Nat.le_refl _)
  · refine Zo_aload0 dX8_earnedBy_8 ?_
    refine Zo_getr (j := (t + 8)) fl_X8_33 (kW0 ht) (rW8 ht) dX8_earnedBy_9 ?_
    refine Zo_iload1 dX8_earnedBy_12 ?_
    refine Zo_iald (kW8 ht) dX8_earnedBy_13 fun v2 => ?_
    refine Zo_goto 19 dX8_earnedBy_14 (by decide) ?_
    exact Zo_iret dX8_earnedBy_19 rfl rfl (Nat.le_refl _) (Nat.le_refl _)
theorem e_X8_earnedBy (g : ZG) (t : Nat) (p0 : Int32) (σ : ZSt) (ht : t = 19 ∨ t = 30) : zEvI g 1 yX8_earnedBy cX8_earnedBy 2 (some .int) [.ref t, .int p0] σ (s_X8_earnedBy t p0 σ) :=
  zEvI_of 0 rfl rfl (z_X8_earnedBy g t ht p0 σ)
abbrev mX8_knowsStreet (g : ZG) (q : Nat) : ZM := (yX8_knowsStreet, cX8_knowsStreet, 2, (some .boolean), zRm q 0 0, zTg g 0 0)
def s_X8_knowsStreet (t : Nat) (p0 : Int32) (σ : ZSt) : Option Int32 :=
  if p0 < (0 : Int32) then (some (0 : Int32))
    else (if (σ.1 t 11) ≤ p0 then (some (0 : Int32))
      else (if (6 : Int32) ≤ p0 then (some (0 : Int32))
        else (some (1 : Int32))))
set_option maxHeartbeats 4000000 in
set_option maxRecDepth 100000 in
theorem z_X8_knowsStreet (g : ZG) (t : Nat) (ht : t = 19 ∨ t = 30) (p0 : Int32) (σ : ZSt) : Zo g (mX8_knowsStreet g 0) (fun b : Int32 => (some (.int b), zw σ)) (s_X8_knowsStreet t p0 σ) 0 0 0 [some (.ref t), some (.int p0)] [] (zw σ) := by
  unfold s_X8_knowsStreet
  refine Zo_iload1 dX8_knowsStreet_0 ?_
  refine Zo_iflt 22 dX8_knowsStreet_1 (by decide) ?_ ?_
  · refine Zo_iconst (0 : Int32) dX8_knowsStreet_22 ic_0 ?_
    exact Zo_zret dX8_knowsStreet_23 rfl rfl (Or.inl rfl) (Nat.le_refl _) (Nat.le_refl _)
  · refine Zo_iload1 dX8_knowsStreet_4 ?_
    refine Zo_aload0 dX8_knowsStreet_5 ?_
    refine Zo_geti fl_X8_62 (kW0 ht) dX8_knowsStreet_6 ?_
    refine Zo_icmpge 22 dX8_knowsStreet_9 (by decide) ?_ ?_
    · refine Zo_iconst (0 : Int32) dX8_knowsStreet_22 ic_0 ?_
      exact Zo_zret dX8_knowsStreet_23 rfl rfl (Or.inl rfl) (Nat.le_refl _) (Nat.le_refl _)
    · refine Zo_iload1 dX8_knowsStreet_12 ?_
      refine Zo_bipush (6 : Int32) dX8_knowsStreet_13 bp_6 ?_
      refine Zo_icmpge 22 dX8_knowsStreet_15 (by decide) ?_ ?_
      · refine Zo_iconst (0 : Int32) dX8_knowsStreet_22 ic_0 ?_
        exact Zo_zret dX8_knowsStreet_23 rfl rfl (Or.inl rfl) (Nat.le_refl _) (Nat.le_refl _)
      · refine Zo_iconst (1 : Int32) dX8_knowsStreet_18 ic_1 ?_
        refine Zo_goto 23 dX8_knowsStreet_19 (by decide) ?_
        exact Zo_zret dX8_knowsStreet_23 rfl rfl (Or.inr rfl) (Nat.le_refl _) (Nat.le_refl _)
theorem e_X8_knowsStreet (g : ZG) (t : Nat) (p0 : Int32) (σ : ZSt) (ht : t = 19 ∨ t = 30) : zEvI g 0 yX8_knowsStreet cX8_knowsStreet 2 (some .boolean) [.ref t, .int p0] σ (s_X8_knowsStreet t p0 σ) :=
  zEvI_of 0 rfl rfl (z_X8_knowsStreet g t ht p0 σ)
abbrev mX8_costOf (g : ZG) (q : Nat) : ZM := (yX8_costOf, cX8_costOf, 2, (some .int), zRm q 0 0, zTg g 0 0)
def s_X8_costOf (t : Nat) (p0 : Int32) (σ : ZSt) : Option Int32 :=
  (s_X8_knowsStreet t p0 σ).bind fun r1 => (if r1 = (0 : Int32) then (some (-2000000000 : Int32))
    else (zLd (zIn p0 6) (σ.1 (t + 5) p0.toNatClampNeg) fun v2 => (some v2)))
set_option maxHeartbeats 4000000 in
set_option maxRecDepth 100000 in
theorem z_X8_costOf (g : ZG) (t : Nat) (ht : t = 19 ∨ t = 30) (p0 : Int32) (σ : ZSt) : Zo g (mX8_costOf g 1) (fun b : Int32 => (some (.int b), zw σ)) (s_X8_costOf t p0 σ) 0 0 0 [some (.ref t), some (.int p0)] [] (zw σ) := by
  unfold s_X8_costOf
  refine Zo_aload0 dX8_costOf_0 ?_
  refine Zo_iload1 dX8_costOf_1 ?_
  refine Zo_cVI1 lk_X8_168 (e_X8_knowsStreet g _ _ _ ht) (kW0 ht) (zFit_rm (by decide)) (zle rfl) dX8_costOf_2 fun r1 => ?_
  refine Zo_ifeq 17 dX8_costOf_5 (by decide) ?_ ?_
  · refine Zo_ldc rfl cw_X8_167 dX8_costOf_17 ?_
    exact Zo_iret dX8_costOf_19 rfl rfl (Nat.le_refl _) (Nat.le_refl _)
  · refine Zo_aload0 dX8_costOf_8 ?_
    refine Zo_getr (j := (t + 5)) fl_X8_24 (kW0 ht) (rW5 ht) dX8_costOf_9 ?_
    refine Zo_iload1 dX8_costOf_12 ?_
    refine Zo_iald (kW5 ht) dX8_costOf_13 fun v2 => ?_
    refine Zo_goto 19 dX8_costOf_14 (by decide) ?_
    exact Zo_iret dX8_costOf_19 rfl rfl (Nat.le_refl _) (Nat.le_refl _)
theorem e_X8_costOf (g : ZG) (t : Nat) (p0 : Int32) (σ : ZSt) (ht : t = 19 ∨ t = 30) : zEvI g 1 yX8_costOf cX8_costOf 2 (some .int) [.ref t, .int p0] σ (s_X8_costOf t p0 σ) :=
  zEvI_of 0 rfl rfl (z_X8_costOf g t ht p0 σ)
abbrev mX8_thereAt (g : ZG) (q : Nat) : ZM := (yX8_thereAt, cX8_thereAt, 2, (some .int), zRm q 0 0, zTg g 0 0)
def s_X8_thereAt (t : Nat) (p0 : Int32) (σ : ZSt) : Option Int32 :=
  (s_X8_knowsStreet t p0 σ).bind fun r1 => (if r1 = (0 : Int32) then (some (-2000000000 : Int32))
    else (zLd (zIn p0 6) (σ.1 (t + 3) p0.toNatClampNeg) fun v2 => (some v2)))
set_option maxHeartbeats 4000000 in
set_option maxRecDepth 100000 in
theorem z_X8_thereAt (g : ZG) (t : Nat) (ht : t = 19 ∨ t = 30) (p0 : Int32) (σ : ZSt) : Zo g (mX8_thereAt g 1) (fun b : Int32 => (some (.int b), zw σ)) (s_X8_thereAt t p0 σ) 0 0 0 [some (.ref t), some (.int p0)] [] (zw σ) := by
  unfold s_X8_thereAt
  refine Zo_aload0 dX8_thereAt_0 ?_
  refine Zo_iload1 dX8_thereAt_1 ?_
  refine Zo_cVI1 lk_X8_168 (e_X8_knowsStreet g _ _ _ ht) (kW0 ht) (zFit_rm (by decide)) (zle rfl) dX8_thereAt_2 fun r1 => ?_
  refine Zo_ifeq 17 dX8_thereAt_5 (by decide) ?_ ?_
  · refine Zo_ldc rfl cw_X8_167 dX8_thereAt_17 ?_
    exact Zo_iret dX8_thereAt_19 rfl rfl (Nat.le_refl _) (Nat.le_refl _)
  · refine Zo_aload0 dX8_thereAt_8 ?_
    refine Zo_getr (j := (t + 3)) fl_X8_18 (kW0 ht) (rW3 ht) dX8_thereAt_9 ?_
    refine Zo_iload1 dX8_thereAt_12 ?_
    refine Zo_iald (kW3 ht) dX8_thereAt_13 fun v2 => ?_
    refine Zo_goto 19 dX8_thereAt_14 (by decide) ?_
    exact Zo_iret dX8_thereAt_19 rfl rfl (Nat.le_refl _) (Nat.le_refl _)
theorem e_X8_thereAt (g : ZG) (t : Nat) (p0 : Int32) (σ : ZSt) (ht : t = 19 ∨ t = 30) : zEvI g 1 yX8_thereAt cX8_thereAt 2 (some .int) [.ref t, .int p0] σ (s_X8_thereAt t p0 σ) :=
  zEvI_of 0 rfl rfl (z_X8_thereAt g t ht p0 σ)
abbrev mX8_ledAt (g : ZG) (q : Nat) : ZM := (yX8_ledAt, cX8_ledAt, 4, (some .int), zRm q 0 0, zTg g 0 0)
def s_X8_ledAt_L4 (t : Nat) (l1 : Int32) (σ : ZSt) : Nat → Int32 → Int32 → Option Int32
  | 0, _, _ => none
  | n + 1, l2, l3 =>
    if (σ.1 t 12) ≤ l3 then (some l2)
      else (zLd (zIn l3 8) (σ.1 (t + 6) l3.toNatClampNeg) fun v1 => (if v1 = l1 then (if l2 = (-1 : Int32) then (s_X8_ledAt_L4 t l1 σ n l3 (l3 + (1 : Int32)))
          else (zLd (zIn l3 8) (σ.1 (t + 8) l3.toNatClampNeg) fun v2 => (zLd (zIn l2 8) (σ.1 (t + 8) l2.toNatClampNeg) fun v3 => (if v2 ≤ v3 then (s_X8_ledAt_L4 t l1 σ n l2 (l3 + (1 : Int32)))
            else (s_X8_ledAt_L4 t l1 σ n l3 (l3 + (1 : Int32)))))))
        else (s_X8_ledAt_L4 t l1 σ n l2 (l3 + (1 : Int32)))))
set_option maxHeartbeats 4000000 in
set_option maxRecDepth 100000 in
theorem z_X8_ledAt_L4 (g : ZG) (t : Nat) (ht : t = 19 ∨ t = 30) (l1 : Int32) (σ : ZSt) : ∀ (n : Nat) (l2 : Int32) (l3 : Int32), Zo g (mX8_ledAt g 0) (fun b : Int32 => (some (.int b), zw σ)) (s_X8_ledAt_L4 t l1 σ n l2 l3) 0 0 4 [some (.ref t), some (.int l1), some (.int l2), some (.int l3)] [] (zw σ) := by
  intro n
  induction n with
  | zero => intros; exact Zo_none
  | succ n ih =>
    intro l2 l3
    rw [s_X8_ledAt_L4]
    refine Zo_iload3 dX8_ledAt_4 ?_
    refine Zo_aload0 dX8_ledAt_5 ?_
    refine Zo_geti fl_X8_68 (kW0 ht) dX8_ledAt_6 ?_
    refine Zo_icmpge 50 dX8_ledAt_9 (by decide) ?_ ?_
    · refine Zo_iload2 dX8_ledAt_50 ?_
      exact Zo_iret dX8_ledAt_51 rfl rfl (Nat.le_refl _) (Nat.le_refl _)
    · refine Zo_aload0 dX8_ledAt_12 ?_
      refine Zo_getr (j := (t + 6)) fl_X8_27 (kW0 ht) (rW6 ht) dX8_ledAt_13 ?_
      refine Zo_iload3 dX8_ledAt_16 ?_
      refine Zo_iald (kW6 ht) dX8_ledAt_17 fun v1 => ?_
      refine Zo_iload1 dX8_ledAt_18 ?_
      refine Zo_icmpne 44 dX8_ledAt_19 (by decide) ?_ ?_
      · refine Zo_iinc3 rfl (1 : Int32) ic_1 (zlt rfl) dX8_ledAt_44 ?_
        refine Zo_goto 4 dX8_ledAt_47 (by decide) ?_
        exact ih _ _
      · refine Zo_iload2 dX8_ledAt_22 ?_
        refine Zo_iconst (-1 : Int32) dX8_ledAt_23 ic_m1 ?_
        refine Zo_icmpeq 42 dX8_ledAt_24 (by decide) ?_ ?_
        · refine Zo_iload3 dX8_ledAt_42 ?_
          refine Zo_istore2 rfl (zlt rfl) dX8_ledAt_43 ?_
          refine Zo_iinc3 rfl (1 : Int32) ic_1 (zlt rfl) dX8_ledAt_44 ?_
          refine Zo_goto 4 dX8_ledAt_47 (by decide) ?_
          exact ih _ _
        · refine Zo_aload0 dX8_ledAt_27 ?_
          refine Zo_getr (j := (t + 8)) fl_X8_33 (kW0 ht) (rW8 ht) dX8_ledAt_28 ?_
          refine Zo_iload3 dX8_ledAt_31 ?_
          refine Zo_iald (kW8 ht) dX8_ledAt_32 fun v2 => ?_
          refine Zo_aload0 dX8_ledAt_33 ?_
          refine Zo_getr (j := (t + 8)) fl_X8_33 (kW0 ht) (rW8 ht) dX8_ledAt_34 ?_
          refine Zo_iload2 dX8_ledAt_37 ?_
          show Zo g _ _ _ 0 0 38 _ _ _
          refine Zo_iald (kW8 ht) dX8_ledAt_38 fun v3 => ?_
          refine Zo_icmple 44 dX8_ledAt_39 (by decide) ?_ ?_
          · refine Zo_iinc3 rfl (1 : Int32) ic_1 (zlt rfl) dX8_ledAt_44 ?_
            refine Zo_goto 4 dX8_ledAt_47 (by decide) ?_
            exact ih _ _
          · refine Zo_iload3 dX8_ledAt_42 ?_
            refine Zo_istore2 rfl (zlt rfl) dX8_ledAt_43 ?_
            refine Zo_iinc3 rfl (1 : Int32) ic_1 (zlt rfl) dX8_ledAt_44 ?_
            refine Zo_goto 4 dX8_ledAt_47 (by decide) ?_
            exact ih _ _
def s_X8_ledAt (t : Nat) (p0 : Int32) (σ : ZSt) : Option Int32 :=
  s_X8_ledAt_L4 t p0 σ 200 (-1 : Int32) (0 : Int32)
set_option maxHeartbeats 4000000 in
set_option maxRecDepth 100000 in
theorem z_X8_ledAt (g : ZG) (t : Nat) (ht : t = 19 ∨ t = 30) (p0 : Int32) (σ : ZSt) : Zo g (mX8_ledAt g 0) (fun b : Int32 => (some (.int b), zw σ)) (s_X8_ledAt t p0 σ) 0 0 0 [some (.ref t), some (.int p0), none, none] [] (zw σ) := by
  unfold s_X8_ledAt
  refine Zo_iconst (-1 : Int32) dX8_ledAt_0 ic_m1 ?_
  refine Zo_istore2 rfl (zlt rfl) dX8_ledAt_1 ?_
  refine Zo_iconst (0 : Int32) dX8_ledAt_2 ic_0 ?_
  refine Zo_istore3 rfl (zlt rfl) dX8_ledAt_3 ?_
  exact z_X8_ledAt_L4 g t ht _ _ _ _ _
theorem e_X8_ledAt (g : ZG) (t : Nat) (p0 : Int32) (σ : ZSt) (ht : t = 19 ∨ t = 30) : zEvI g 0 yX8_ledAt cX8_ledAt 4 (some .int) [.ref t, .int p0] σ (s_X8_ledAt t p0 σ) :=
  zEvI_of 2 rfl rfl (z_X8_ledAt g t ht p0 σ)
abbrev mX8_supposeWay (g : ZG) (q : Nat) : ZM := (yX8_supposeWay, cX8_supposeWay, 4, none, zRm q 0 0, zTg g 0 0)
def s_X8_supposeWay (t : Nat) (p0 : Int32) (p1 : Int32) (p2 : Int32) (σ : ZSt) : Option ZSt :=
  if p0 < (0 : Int32) then (some σ)
    else (if p0 < (6 : Int32) then (zSg (zIn p0 6) (zWD σ (t + 1) p0.toNatClampNeg p1) fun σ1 => (zSg (zIn p0 6) (zWD σ1 (t + 2) p0.toNatClampNeg p2) fun σ2 => (some σ2)))
      else (some σ))
set_option maxHeartbeats 4000000 in
set_option maxRecDepth 100000 in
theorem z_X8_supposeWay (g : ZG) (t : Nat) (ht : t = 19 ∨ t = 30) (p0 : Int32) (p1 : Int32) (p2 : Int32) (σ : ZSt) : Zo g (mX8_supposeWay g 0) (fun b : ZSt => (none, zw b)) (s_X8_supposeWay t p0 p1 p2 σ) 0 0 0 [some (.ref t), some (.int p0), some (.int p1), some (.int p2)] [] (zw σ) := by
  unfold s_X8_supposeWay
  refine Zo_iload1 dX8_supposeWay_0 ?_
  refine Zo_iflt 10 dX8_supposeWay_1 (by decide) ?_ ?_
  · exact Zo_vret dX8_supposeWay_10 rfl rfl (Nat.le_refl _) (Nat.le_refl _)
  · refine Zo_iload1 dX8_supposeWay_4 ?_
    refine Zo_bipush (6 : Int32) dX8_supposeWay_5 bp_6 ?_
    refine Zo_icmplt 11 dX8_supposeWay_7 (by decide) ?_ ?_
    · refine Zo_aload0 dX8_supposeWay_11 ?_
      refine Zo_getr (j := (t + 1)) fl_X8_9 (kW0 ht) (rW1 ht) dX8_supposeWay_12 ?_
      refine Zo_iload1 dX8_supposeWay_15 ?_
      refine Zo_iload2 dX8_supposeWay_16 ?_
      refine Zo_iast (kW1 ht) dX8_supposeWay_17 fun σ1 => ?_
      refine Zo_aload0 dX8_supposeWay_18 ?_
      refine Zo_getr (j := (t + 2)) fl_X8_15 (kW0 ht) (rW2 ht) dX8_supposeWay_19 ?_
      show Zo g _ _ _ 0 0 22 _ _ _
      refine Zo_iload1 dX8_supposeWay_22 ?_
      refine Zo_iload3 dX8_supposeWay_23 ?_
      refine Zo_iast (kW2 ht) dX8_supposeWay_24 fun σ2 => ?_
      exact Zo_vret dX8_supposeWay_25 rfl rfl (Nat.le_refl _) (Nat.le_refl _)
    · exact Zo_vret dX8_supposeWay_10 rfl rfl (Nat.le_refl _) (Nat.le_refl _)
theorem e_X8_supposeWay (g : ZG) (t : Nat) (p0 : Int32) (p1 : Int32) (p2 : Int32) (σ : ZSt) (ht : t = 19 ∨ t = 30) : zEvV g 0 yX8_supposeWay cX8_supposeWay 4 none [.ref t, .int p0, .int p1, .int p2] σ (s_X8_supposeWay t p0 p1 p2 σ) :=
  zEvV_of 0 rfl rfl (z_X8_supposeWay g t ht p0 p1 p2 σ)
