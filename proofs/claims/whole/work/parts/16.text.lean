abbrev mX4_clearSteps (g : ZG) (q : Nat) : ZM := (yX4_clearSteps, cX4_clearSteps, 1, none, zRm q 0 0, zTg g 0 0)
def s_X4_clearSteps (t : Nat) (σ : ZSt) : Option ZSt :=
  zSt' (zWD σ t 2 (0 : Int32)) fun σ1 => (some σ1)
set_option maxHeartbeats 4000000 in
set_option maxRecDepth 100000 in
theorem z_X4_clearSteps (g : ZG) (t : Nat) (ht : t = 62 ∨ t = 65) (σ : ZSt) : Zo g (mX4_clearSteps g 0) (fun b : ZSt => (none, zw b)) (s_X4_clearSteps t σ) 0 0 0 [some (.ref t)] [] (zw σ) := by
  unfold s_X4_clearSteps
  refine Zo_aload0 dX4_clearSteps_0 ?_
  refine Zo_iconst (0 : Int32) dX4_clearSteps_1 ic_0 ?_
  refine Zo_puti fl_X4_18 (kL0 ht) dX4_clearSteps_2 fun σ1 => ?_
  exact Zo_vret dX4_clearSteps_5 rfl rfl (Nat.le_refl _) (Nat.le_refl _)
theorem e_X4_clearSteps (g : ZG) (t : Nat) (σ : ZSt) (ht : t = 62 ∨ t = 65) : zEvV g 0 yX4_clearSteps cX4_clearSteps 1 none [.ref t] σ (s_X4_clearSteps t σ) :=
  zEvV_of 0 rfl rfl (z_X4_clearSteps g t ht σ)
abbrev mX4_addStep (g : ZG) (q : Nat) : ZM := (yX4_addStep, cX4_addStep, 2, none, zRm q 0 0, zTg g 0 0)
def s_X4_addStep (t : Nat) (p0 : Int32) (σ : ZSt) : Option ZSt :=
  if (128 : Int32) ≤ (σ.1 t 2) then (some σ)
    else (zSt' (zWD σ t 2 ((σ.1 t 2) + (1 : Int32))) fun σ1 => (zSg (zIn (σ.1 t 2) 128) (zWD σ1 (t + 1) (σ.1 t 2).toNatClampNeg p0) fun σ2 => (some σ2)))
set_option maxHeartbeats 4000000 in
set_option maxRecDepth 100000 in
theorem z_X4_addStep (g : ZG) (t : Nat) (ht : t = 62 ∨ t = 65) (p0 : Int32) (σ : ZSt) : Zo g (mX4_addStep g 0) (fun b : ZSt => (none, zw b)) (s_X4_addStep t p0 σ) 0 0 0 [some (.ref t), some (.int p0)] [] (zw σ) := by
  unfold s_X4_addStep
  refine Zo_aload0 dX4_addStep_0 ?_
  refine Zo_geti fl_X4_18 (kL0 ht) dX4_addStep_1 ?_
  refine Zo_sipush (128 : Int32) dX4_addStep_4 sp_128 ?_
  refine Zo_icmpge 27 dX4_addStep_7 (by decide) ?_ ?_
  · exact Zo_vret dX4_addStep_27 rfl rfl (Nat.le_refl _) (Nat.le_refl _)
  · refine Zo_aload0 dX4_addStep_10 ?_
    refine Zo_getr (j := (t + 1)) fl_X4_11 (kL0 ht) (rL0 ht) dX4_addStep_11 ?_
    refine Zo_aload0 dX4_addStep_14 ?_
    refine Zo_dup dX4_addStep_15 rfl ?_
    refine Zo_geti fl_X4_18 (kL0 ht) dX4_addStep_16 ?_
    refine Zo_dup_x1 dX4_addStep_19 rfl rfl ?_
    refine Zo_iconst (1 : Int32) dX4_addStep_20 ic_1 ?_
    show Zo g _ _ _ 0 0 21 _ _ _
    refine Zo_iadd dX4_addStep_21 ?_
    refine Zo_puti fl_X4_18 (kL0 ht) dX4_addStep_22 fun σ1 => ?_
    refine Zo_iload1 dX4_addStep_25 ?_
    refine Zo_iast (kL1 ht) dX4_addStep_26 fun σ2 => ?_
    exact Zo_vret dX4_addStep_27 rfl rfl (Nat.le_refl _) (Nat.le_refl _)
theorem e_X4_addStep (g : ZG) (t : Nat) (p0 : Int32) (σ : ZSt) (ht : t = 62 ∨ t = 65) : zEvV g 0 yX4_addStep cX4_addStep 2 none [.ref t, .int p0] σ (s_X4_addStep t p0 σ) :=
  zEvV_of 0 rfl rfl (z_X4_addStep g t ht p0 σ)
abbrev mX4_factAt (g : ZG) (q : Nat) : ZM := (yX4_factAt, cX4_factAt, 2, (some .int), zRm q 0 0, zTg g 0 0)
def s_X4_factAt (p0 : Nat) (p1 : Int32) (σ : ZSt) : Option Int32 :=
  if p1 < (0 : Int32) then (some (0 : Int32))
    else (if (8 : Int32) ≤ p1 then (some (0 : Int32))
      else (zLd (zIn p1 8) (σ.1 p0 p1.toNatClampNeg) fun v1 => (some v1)))
set_option maxHeartbeats 4000000 in
set_option maxRecDepth 100000 in
theorem z_X4_factAt (g : ZG) (p0 : Nat) (hp0 : zKd p0 = (1, 8)) (p1 : Int32) (σ : ZSt) : Zo g (mX4_factAt g 0) (fun b : Int32 => (some (.int b), zw σ)) (s_X4_factAt p0 p1 σ) 0 0 0 [some (.ref p0), some (.int p1)] [] (zw σ) := by
  unfold s_X4_factAt
  refine Zo_iload1 dX4_factAt_0 ?_
  refine Zo_iflt 16 dX4_factAt_1 (by decide) ?_ ?_
  · refine Zo_iconst (0 : Int32) dX4_factAt_16 ic_0 ?_
    exact Zo_iret dX4_factAt_17 rfl rfl (Nat.le_refl _) (Nat.le_refl _)
  · refine Zo_iload1 dX4_factAt_4 ?_
    refine Zo_aload0 dX4_factAt_5 ?_
    refine Zo_alen (8 : Int32) hp0 (by decide) dX4_factAt_6 ?_
    refine Zo_icmpge 16 dX4_factAt_7 (by decide) ?_ ?_
    · refine Zo_iconst (0 : Int32) dX4_factAt_16 ic_0 ?_
      exact Zo_iret dX4_factAt_17 rfl rfl (Nat.le_refl _) (Nat.le_refl _)
    · refine Zo_aload0 dX4_factAt_10 ?_
      refine Zo_iload1 dX4_factAt_11 ?_
      refine Zo_iald hp0 dX4_factAt_12 fun v1 => ?_
      refine Zo_goto 17 dX4_factAt_13 (by decide) ?_
      exact Zo_iret dX4_factAt_17 rfl rfl (Nat.le_refl _) (Nat.le_refl _)
theorem e_X4_factAt (g : ZG) (p0 : Nat) (p1 : Int32) (σ : ZSt) (hp0 : zKd p0 = (1, 8)) : zEvI g 0 yX4_factAt cX4_factAt 2 (some .int) [.ref p0, .int p1] σ (s_X4_factAt p0 p1 σ) :=
  zEvI_of 0 rfl rfl (z_X4_factAt g p0 hp0 p1 σ)
abbrev mX4_push (g : ZG) (q : Nat) : ZM := (yX4_push, cX4_push, 2, none, zRm q 0 0, zTg g 0 0)
def s_X4_push (t : Nat) (p0 : Int32) (σ : ZSt) : Option ZSt :=
  if (σ.1 t 3) < (0 : Int32) then (some σ)
    else (if (128 : Int32) ≤ (σ.1 t 3) then (some σ)
      else (zSt' (zWD σ t 3 ((σ.1 t 3) + (1 : Int32))) fun σ1 => (zSg (zIn (σ.1 t 3) 128) (zWD σ1 (t + 2) (σ.1 t 3).toNatClampNeg p0) fun σ2 => (some σ2))))
set_option maxHeartbeats 4000000 in
set_option maxRecDepth 100000 in
theorem z_X4_push (g : ZG) (t : Nat) (ht : t = 62 ∨ t = 65) (p0 : Int32) (σ : ZSt) : Zo g (mX4_push g 0) (fun b : ZSt => (none, zw b)) (s_X4_push t p0 σ) 0 0 0 [some (.ref t), some (.int p0)] [] (zw σ) := by
  unfold s_X4_push
  refine Zo_aload0 dX4_push_0 ?_
  refine Zo_geti fl_X4_22 (kL0 ht) dX4_push_1 ?_
  refine Zo_iflt 34 dX4_push_4 (by decide) ?_ ?_
  · exact Zo_vret dX4_push_34 rfl rfl (Nat.le_refl _) (Nat.le_refl _)
  · refine Zo_aload0 dX4_push_7 ?_
    refine Zo_geti fl_X4_22 (kL0 ht) dX4_push_8 ?_
    refine Zo_sipush (128 : Int32) dX4_push_11 sp_128 ?_
    refine Zo_icmpge 34 dX4_push_14 (by decide) ?_ ?_
    · exact Zo_vret dX4_push_34 rfl rfl (Nat.le_refl _) (Nat.le_refl _)
    · refine Zo_aload0 dX4_push_17 ?_
      refine Zo_getr (j := (t + 2)) fl_X4_15 (kL0 ht) (rL1 ht) dX4_push_18 ?_
      refine Zo_aload0 dX4_push_21 ?_
      refine Zo_dup dX4_push_22 rfl ?_
      refine Zo_geti fl_X4_22 (kL0 ht) dX4_push_23 ?_
      refine Zo_dup_x1 dX4_push_26 rfl rfl ?_
      refine Zo_iconst (1 : Int32) dX4_push_27 ic_1 ?_
      show Zo g _ _ _ 0 0 28 _ _ _
      refine Zo_iadd dX4_push_28 ?_
      refine Zo_puti fl_X4_22 (kL0 ht) dX4_push_29 fun σ1 => ?_
      refine Zo_iload1 dX4_push_32 ?_
      refine Zo_iast (kL2 ht) dX4_push_33 fun σ2 => ?_
      exact Zo_vret dX4_push_34 rfl rfl (Nat.le_refl _) (Nat.le_refl _)
theorem e_X4_push (g : ZG) (t : Nat) (p0 : Int32) (σ : ZSt) (ht : t = 62 ∨ t = 65) : zEvV g 0 yX4_push cX4_push 2 none [.ref t, .int p0] σ (s_X4_push t p0 σ) :=
  zEvV_of 0 rfl rfl (z_X4_push g t ht p0 σ)
abbrev mX4_pop (g : ZG) (q : Nat) : ZM := (yX4_pop, cX4_pop, 1, (some .int), zRm q 0 0, zTg g 0 0)
def s_X4_pop (t : Nat) (σ : ZSt) : Option (Int32 × ZSt) :=
  if (σ.1 t 3) ≤ (0 : Int32) then (some ((0 : Int32), σ))
    else (if (128 : Int32) < (σ.1 t 3) then (some ((0 : Int32), σ))
      else (zSt' (zWD σ t 3 ((σ.1 t 3) - (1 : Int32))) fun σ1 => (zLd (zIn ((σ.1 t 3) - (1 : Int32)) 128) (σ1.1 (t + 2) ((σ.1 t 3) - (1 : Int32)).toNatClampNeg) fun v2 => (some (v2, σ1)))))
set_option maxHeartbeats 4000000 in
set_option maxRecDepth 100000 in
theorem z_X4_pop (g : ZG) (t : Nat) (ht : t = 62 ∨ t = 65) (σ : ZSt) : Zo g (mX4_pop g 0) (fun b : Int32 × ZSt => (some (.int b.1), zw b.2)) (s_X4_pop t σ) 0 0 0 [some (.ref t)] [] (zw σ) := by
  unfold s_X4_pop
  refine Zo_aload0 dX4_pop_0 ?_
  refine Zo_geti fl_X4_22 (kL0 ht) dX4_pop_1 ?_
  refine Zo_ifle 36 dX4_pop_4 (by decide) ?_ ?_
  · refine Zo_iconst (0 : Int32) dX4_pop_36 ic_0 ?_
    exact Zo_iret dX4_pop_37 rfl rfl (Nat.le_refl _) (Nat.le_refl _)
  · refine Zo_aload0 dX4_pop_7 ?_
    refine Zo_geti fl_X4_22 (kL0 ht) dX4_pop_8 ?_
    refine Zo_sipush (128 : Int32) dX4_pop_11 sp_128 ?_
    refine Zo_icmpgt 36 dX4_pop_14 (by decide) ?_ ?_
    · refine Zo_iconst (0 : Int32) dX4_pop_36 ic_0 ?_
      exact Zo_iret dX4_pop_37 rfl rfl (Nat.le_refl _) (Nat.le_refl _)
    · refine Zo_aload0 dX4_pop_17 ?_
      refine Zo_getr (j := (t + 2)) fl_X4_15 (kL0 ht) (rL1 ht) dX4_pop_18 ?_
      refine Zo_aload0 dX4_pop_21 ?_
      refine Zo_dup dX4_pop_22 rfl ?_
      refine Zo_geti fl_X4_22 (kL0 ht) dX4_pop_23 ?_
      refine Zo_iconst (1 : Int32) dX4_pop_26 ic_1 ?_
      refine Zo_isub dX4_pop_27 ?_
      show Zo g _ _ _ 0 0 28 _ _ _
      refine Zo_dup_x1 dX4_pop_28 rfl rfl ?_
      refine Zo_puti fl_X4_22 (kL0 ht) dX4_pop_29 fun σ1 => ?_
      refine Zo_iald (kL2 ht) dX4_pop_32 fun v2 => ?_
      refine Zo_goto 37 dX4_pop_33 (by decide) ?_
      exact Zo_iret dX4_pop_37 rfl rfl (Nat.le_refl _) (Nat.le_refl _)
theorem e_X4_pop (g : ZG) (t : Nat) (σ : ZSt) (ht : t = 62 ∨ t = 65) : zEvS g 0 yX4_pop cX4_pop 1 (some .int) [.ref t] σ (s_X4_pop t σ) :=
  zEvS_of 0 rfl rfl (z_X4_pop g t ht σ)
abbrev mX4_joined (g : ZG) (q : Nat) : ZM := (yX4_joined, cX4_joined, 3, (some .int), zRm q 0 0, zTg g 0 0)
def s_X4_joined (p0 : Int32) (p1 : Int32) (p2 : Int32) (σ : ZSt) : Option Int32 :=
  if p0 = (33 : Int32) then (if p2 = (0 : Int32) then (some (1 : Int32))
      else (some (0 : Int32)))
    else (if p0 = (37 : Int32) then (if p2 = (0 : Int32) then (some (0 : Int32))
      else (if p2 = (0 : Int32) then none else (some (zRem p1 p2))))
    else (if p0 = (38 : Int32) then (if p1 = (0 : Int32) then (some (0 : Int32))
      else (if p2 = (0 : Int32) then (some (0 : Int32))
        else (some (1 : Int32))))
    else (if p0 = (42 : Int32) then (some (p1 * p2))
    else (if p0 = (43 : Int32) then (some (p1 + p2))
    else (if p0 = (45 : Int32) then (some (p1 - p2))
    else (if p0 = (47 : Int32) then (if p2 = (0 : Int32) then (some (0 : Int32))
      else (if p2 = (0 : Int32) then none else (some (p1 / p2))))
    else (if p0 = (60 : Int32) then (if p2 ≤ p1 then (some (0 : Int32))
      else (some (1 : Int32)))
    else (if p0 = (61 : Int32) then (if p1 = p2 then (some (1 : Int32))
      else (some (0 : Int32)))
    else (if p0 = (62 : Int32) then (if p1 ≤ p2 then (some (0 : Int32))
      else (some (1 : Int32)))
    else (if p0 = (124 : Int32) then (if p1 = (0 : Int32) then (if p2 = (0 : Int32) then (some (0 : Int32))
        else (some (1 : Int32)))
      else (some (1 : Int32)))
    else (if p0 = (126 : Int32) then (some (-p2))
    else (some (0 : Int32)))))))))))))
set_option maxHeartbeats 4000000 in
set_option maxRecDepth 100000 in
theorem z_X4_joined (g : ZG) (p0 : Int32) (p1 : Int32) (p2 : Int32) (σ : ZSt) : Zo g (mX4_joined g 0) (fun b : Int32 => (some (.int b), zw σ)) (s_X4_joined p0 p1 p2 σ) 0 0 0 [some (.int p0), some (.int p1), some (.int p2)] [] (zw σ) := by
  unfold s_X4_joined
  refine Zo_iload0 dX4_joined_0 ?_
  refine Zo_ite (fun hc33 => ?_) (fun hc33 => ?_)
  · refine Zo_lswC (off := 204) (33 : Int32) 205 hc33 dX4_joined_1 (by decide) (by decide) (by decide) ?_
    refine Zo_iload2 dX4_joined_205 ?_
    refine Zo_ifne 213 dX4_joined_206 (by decide) ?_ ?_
    · refine Zo_iconst (0 : Int32) dX4_joined_213 ic_0 ?_
      exact Zo_iret dX4_joined_214 rfl rfl (Nat.le_refl _) (Nat.le_refl _)
    · refine Zo_iconst (1 : Int32) dX4_joined_209 ic_1 ?_
      refine Zo_goto 214 dX4_joined_210 (by decide) ?_
      exact Zo_iret dX4_joined_214 rfl rfl (Nat.le_refl _) (Nat.le_refl _)
  refine Zo_ite (fun hc37 => ?_) (fun hc37 => ?_)
  · refine Zo_lswC (off := 192) (37 : Int32) 193 hc37 dX4_joined_1 (by decide) (by decide) (by decide) ?_
    refine Zo_iload2 dX4_joined_193 ?_
    refine Zo_ifne 201 dX4_joined_194 (by decide) ?_ ?_
    · refine Zo_iload1 dX4_joined_201 ?_
      refine Zo_iload2 dX4_joined_202 ?_
      refine Zo_gn fun hn1 => ?_
      refine Zo_irem dX4_joined_203 hn1 ?_
      exact Zo_iret dX4_joined_204 rfl rfl (Nat.le_refl _) (Nat.le_refl _)
    · refine Zo_iconst (0 : Int32) dX4_joined_197 ic_0 ?_
      refine Zo_goto 204 dX4_joined_198 (by decide) ?_
      exact Zo_iret dX4_joined_204 rfl rfl (Nat.le_refl _) (Nat.le_refl _)
  refine Zo_ite (fun hc38 => ?_) (fun hc38 => ?_)
  · refine Zo_lswC (off := 121) (38 : Int32) 122 hc38 dX4_joined_1 (by decide) (by decide) (by decide) ?_
    refine Zo_iload1 dX4_joined_122 ?_
    refine Zo_ifeq 134 dX4_joined_123 (by decide) ?_ ?_
    · refine Zo_iconst (0 : Int32) dX4_joined_134 ic_0 ?_
      exact Zo_iret dX4_joined_135 rfl rfl (Nat.le_refl _) (Nat.le_refl _)
    · refine Zo_iload2 dX4_joined_126 ?_
      refine Zo_ifeq 134 dX4_joined_127 (by decide) ?_ ?_
      · refine Zo_iconst (0 : Int32) dX4_joined_134 ic_0 ?_
        exact Zo_iret dX4_joined_135 rfl rfl (Nat.le_refl _) (Nat.le_refl _)
      · refine Zo_iconst (1 : Int32) dX4_joined_130 ic_1 ?_
        refine Zo_goto 135 dX4_joined_131 (by decide) ?_
        exact Zo_iret dX4_joined_135 rfl rfl (Nat.le_refl _) (Nat.le_refl _)
  refine Zo_ite (fun hc42 => ?_) (fun hc42 => ?_)
  · refine Zo_lswC (off := 176) (42 : Int32) 177 hc42 dX4_joined_1 (by decide) (by decide) (by decide) ?_
    refine Zo_iload1 dX4_joined_177 ?_
    refine Zo_iload2 dX4_joined_178 ?_
    refine Zo_imul dX4_joined_179 ?_
    exact Zo_iret dX4_joined_180 rfl rfl (Nat.le_refl _) (Nat.le_refl _)
  refine Zo_ite (fun hc43 => ?_) (fun hc43 => ?_)
  · refine Zo_lswC (off := 168) (43 : Int32) 169 hc43 dX4_joined_1 (by decide) (by decide) (by decide) ?_
    refine Zo_iload1 dX4_joined_169 ?_
    refine Zo_iload2 dX4_joined_170 ?_
    refine Zo_iadd dX4_joined_171 ?_
    exact Zo_iret dX4_joined_172 rfl rfl (Nat.le_refl _) (Nat.le_refl _)
  refine Zo_ite (fun hc45 => ?_) (fun hc45 => ?_)
  · refine Zo_lswC (off := 172) (45 : Int32) 173 hc45 dX4_joined_1 (by decide) (by decide) (by decide) ?_
    refine Zo_iload1 dX4_joined_173 ?_
    refine Zo_iload2 dX4_joined_174 ?_
    refine Zo_isub dX4_joined_175 ?_
    exact Zo_iret dX4_joined_176 rfl rfl (Nat.le_refl _) (Nat.le_refl _)
  refine Zo_ite (fun hc47 => ?_) (fun hc47 => ?_)
  · refine Zo_lswC (off := 180) (47 : Int32) 181 hc47 dX4_joined_1 (by decide) (by decide) (by decide) ?_
    refine Zo_iload2 dX4_joined_181 ?_
    refine Zo_ifne 189 dX4_joined_182 (by decide) ?_ ?_
    · refine Zo_iload1 dX4_joined_189 ?_
      refine Zo_iload2 dX4_joined_190 ?_
      refine Zo_gn fun hn2 => ?_
      refine Zo_idiv dX4_joined_191 hn2 ?_
      exact Zo_iret dX4_joined_192 rfl rfl (Nat.le_refl _) (Nat.le_refl _)
    · refine Zo_iconst (0 : Int32) dX4_joined_185 ic_0 ?_
      refine Zo_goto 192 dX4_joined_186 (by decide) ?_
      exact Zo_iret dX4_joined_192 rfl rfl (Nat.le_refl _) (Nat.le_refl _)
  refine Zo_ite (fun hc60 => ?_) (fun hc60 => ?_)
  · refine Zo_lswC (off := 135) (60 : Int32) 136 hc60 dX4_joined_1 (by decide) (by decide) (by decide) ?_
    refine Zo_iload1 dX4_joined_136 ?_
    refine Zo_iload2 dX4_joined_137 ?_
    refine Zo_icmpge 145 dX4_joined_138 (by decide) ?_ ?_
    · refine Zo_iconst (0 : Int32) dX4_joined_145 ic_0 ?_
      exact Zo_iret dX4_joined_146 rfl rfl (Nat.le_refl _) (Nat.le_refl _)
    · refine Zo_iconst (1 : Int32) dX4_joined_141 ic_1 ?_
      refine Zo_goto 146 dX4_joined_142 (by decide) ?_
      exact Zo_iret dX4_joined_146 rfl rfl (Nat.le_refl _) (Nat.le_refl _)
  refine Zo_ite (fun hc61 => ?_) (fun hc61 => ?_)
  · refine Zo_lswC (off := 146) (61 : Int32) 147 hc61 dX4_joined_1 (by decide) (by decide) (by decide) ?_
    refine Zo_iload1 dX4_joined_147 ?_
    refine Zo_iload2 dX4_joined_148 ?_
    refine Zo_icmpne 156 dX4_joined_149 (by decide) ?_ ?_
    · refine Zo_iconst (0 : Int32) dX4_joined_156 ic_0 ?_
      exact Zo_iret dX4_joined_157 rfl rfl (Nat.le_refl _) (Nat.le_refl _)
    · refine Zo_iconst (1 : Int32) dX4_joined_152 ic_1 ?_
      refine Zo_goto 157 dX4_joined_153 (by decide) ?_
      exact Zo_iret dX4_joined_157 rfl rfl (Nat.le_refl _) (Nat.le_refl _)
  refine Zo_ite (fun hc62 => ?_) (fun hc62 => ?_)
  · refine Zo_lswC (off := 157) (62 : Int32) 158 hc62 dX4_joined_1 (by decide) (by decide) (by decide) ?_
    refine Zo_iload1 dX4_joined_158 ?_
    refine Zo_iload2 dX4_joined_159 ?_
    refine Zo_icmple 167 dX4_joined_160 (by decide) ?_ ?_
    · refine Zo_iconst (0 : Int32) dX4_joined_167 ic_0 ?_
      exact Zo_iret dX4_joined_168 rfl rfl (Nat.le_refl _) (Nat.le_refl _)
    · refine Zo_iconst (1 : Int32) dX4_joined_163 ic_1 ?_
      refine Zo_goto 168 dX4_joined_164 (by decide) ?_
      exact Zo_iret dX4_joined_168 rfl rfl (Nat.le_refl _) (Nat.le_refl _)
  refine Zo_ite (fun hc124 => ?_) (fun hc124 => ?_)
  · refine Zo_lswC (off := 107) (124 : Int32) 108 hc124 dX4_joined_1 (by decide) (by decide) (by decide) ?_
    refine Zo_iload1 dX4_joined_108 ?_
    refine Zo_ifne 116 dX4_joined_109 (by decide) ?_ ?_
    · refine Zo_iconst (1 : Int32) dX4_joined_116 ic_1 ?_
      refine Zo_goto 121 dX4_joined_117 (by decide) ?_
      exact Zo_iret dX4_joined_121 rfl rfl (Nat.le_refl _) (Nat.le_refl _)
    · refine Zo_iload2 dX4_joined_112 ?_
      refine Zo_ifeq 120 dX4_joined_113 (by decide) ?_ ?_
      · refine Zo_iconst (0 : Int32) dX4_joined_120 ic_0 ?_
        exact Zo_iret dX4_joined_121 rfl rfl (Nat.le_refl _) (Nat.le_refl _)
      · refine Zo_iconst (1 : Int32) dX4_joined_116 ic_1 ?_
        refine Zo_goto 121 dX4_joined_117 (by decide) ?_
        exact Zo_iret dX4_joined_121 rfl rfl (Nat.le_refl _) (Nat.le_refl _)
  refine Zo_ite (fun hc126 => ?_) (fun hc126 => ?_)
  · refine Zo_lswC (off := 214) (126 : Int32) 215 hc126 dX4_joined_1 (by decide) (by decide) (by decide) ?_
    refine Zo_iload2 dX4_joined_215 ?_
    refine Zo_ineg dX4_joined_216 ?_
    exact Zo_iret dX4_joined_217 rfl rfl (Nat.le_refl _) (Nat.le_refl _)
  refine Zo_lsw 218 dX4_joined_1 (by decide) (zlsw_out ⟨zne_33 hc33, zne_37 hc37, zne_38 hc38, zne_42 hc42, zne_43 hc43, zne_45 hc45, zne_47 hc47, zne_60 hc60, zne_61 hc61, zne_62 hc62, zne_124 hc124, zne_126 hc126, trivial⟩) (by decide) ?_
  refine Zo_iconst (0 : Int32) dX4_joined_218 ic_0 ?_
  exact Zo_iret dX4_joined_219 rfl rfl (Nat.le_refl _) (Nat.le_refl _)
theorem e_X4_joined (g : ZG) (p0 : Int32) (p1 : Int32) (p2 : Int32) (σ : ZSt) : zEvI g 0 yX4_joined cX4_joined 3 (some .int) [.int p0, .int p1, .int p2] σ (s_X4_joined p0 p1 p2 σ) :=
  zEvI_of 0 rfl rfl (z_X4_joined g p0 p1 p2 σ)
abbrev mX4_worth (g : ZG) (q : Nat) : ZM := (yX4_worth, cX4_worth, 8, (some .int), zRm q 0 0, zTg g 0 0)
def s_X4_worth_L31 (t : Nat) (p0 : Nat) : Nat → Int32 → Int32 → ZSt → Option (Int32 × ZSt)
  | 0, _, _, _ => none
  | n + 1, l2, l3, σ =>
    if (σ.1 t 2) ≤ l3 then (some ((0 : Int32), σ))
      else (zLd (zIn l3 128) (σ.1 (t + 1) l3.toNatClampNeg) fun v1 => (if (0 : Int32) ≤ ((-100 : Int32) - v1) then (if ((-100 : Int32) - v1) = (63 : Int32) then ((s_X4_pop t σ).bind fun r12 => (if r12.1 = (0 : Int32) then (s_X4_worth_L31 t p0 n (0 : Int32) (l3 + (1 : Int32)) r12.2)
            else (s_X4_worth_L31 t p0 n (1 : Int32) (l3 + (1 : Int32)) r12.2)))
          else (if ((-100 : Int32) - v1) = (59 : Int32) then (if l2 = (0 : Int32) then (zSt' (zWD σ t 3 (0 : Int32)) fun σ2 => (s_X4_worth_L31 t p0 n (1 : Int32) (l3 + (1 : Int32)) σ2))
              else ((s_X4_pop t σ).bind fun r3 => (some (r3.1, r3.2))))
            else ((s_X4_pop t σ).bind fun r4 => (if ((-100 : Int32) - v1) = (33 : Int32) then ((s_X4_joined ((-100 : Int32) - v1) (0 : Int32) r4.1 r4.2).bind fun r5 => ((s_X4_push t r5 r4.2).bind fun σ6 => (s_X4_worth_L31 t p0 n l2 (l3 + (1 : Int32)) σ6)))
              else (if ((-100 : Int32) - v1) = (126 : Int32) then ((s_X4_joined ((-100 : Int32) - v1) (0 : Int32) r4.1 r4.2).bind fun r10 => ((s_X4_push t r10 r4.2).bind fun σ11 => (s_X4_worth_L31 t p0 n l2 (l3 + (1 : Int32)) σ11)))
                else ((s_X4_pop t r4.2).bind fun r7 => ((s_X4_joined ((-100 : Int32) - v1) r7.1 r4.1 r7.2).bind fun r8 => ((s_X4_push t r8 r7.2).bind fun σ9 => (s_X4_worth_L31 t p0 n l2 (l3 + (1 : Int32)) σ9)))))))))
        else (if v1 < (0 : Int32) then ((s_X4_factAt p0 ((-1 : Int32) - v1) σ).bind fun r13 => ((s_X4_push t r13 σ).bind fun σ14 => (s_X4_worth_L31 t p0 n l2 (l3 + (1 : Int32)) σ14)))
          else ((s_X4_push t v1 σ).bind fun σ15 => (s_X4_worth_L31 t p0 n l2 (l3 + (1 : Int32)) σ15)))))
set_option maxHeartbeats 4000000 in
set_option maxRecDepth 100000 in
theorem z_X4_worth_L31 (g : ZG) (t : Nat) (p0 : Nat) (ht : t = 62 ∨ t = 65) (hp0 : zKd p0 = (1, 8)) : ∀ (n : Nat) (l2 : Int32) (l3 : Int32) (σ : ZSt) (o4 o5 o6 o7 : Option Value), Zo g (mX4_worth g 1) (fun b : Int32 × ZSt => (some (.int b.1), zw b.2)) (s_X4_worth_L31 t p0 n l2 l3 σ) 0 0 31 [some (.ref t), some (.ref p0), some (.int l2), some (.int l3), o4, o5, o6, o7] [] (zw σ) := by
  intro n
  induction n with
  | zero => intros; exact Zo_none
  | succ n ih =>
    intro l2 l3 σ o4 o5 o6 o7
    rw [s_X4_worth_L31]
    refine Zo_iload3 dX4_worth_31 ?_
    refine Zo_aload0 dX4_worth_32 ?_
    refine Zo_geti fl_X4_18 (kL0 ht) dX4_worth_33 ?_
    refine Zo_icmpge 182 dX4_worth_36 (by decide) ?_ ?_
    · refine Zo_iconst (0 : Int32) dX4_worth_182 ic_0 ?_
      exact Zo_iret dX4_worth_183 rfl rfl (Nat.le_refl _) (Nat.le_refl _)
    · refine Zo_aload0 dX4_worth_39 ?_
      refine Zo_getr (j := (t + 1)) fl_X4_11 (kL0 ht) (rL0 ht) dX4_worth_40 ?_
      refine Zo_iload3 dX4_worth_43 ?_
      refine Zo_iald (kL1 ht) dX4_worth_44 fun v1 => ?_
      refine Zo_istore4 rfl (zlt rfl) dX4_worth_45 ?_
      refine Zo_bipush (-100 : Int32) dX4_worth_47 bp_m100 ?_
      refine Zo_iload4 dX4_worth_49 ?_
      show Zo g _ _ _ 0 0 51 _ _ _
      refine Zo_isub dX4_worth_51 ?_
      refine Zo_istore5 rfl (zlt rfl) dX4_worth_52 ?_
      refine Zo_iload5 dX4_worth_54 ?_
      refine Zo_ifge 84 dX4_worth_56 (by decide) ?_ ?_
      · refine Zo_iload5 dX4_worth_84 ?_
        refine Zo_bipush (63 : Int32) dX4_worth_86 bp_63 ?_
        refine Zo_icmpne 107 dX4_worth_88 (by decide) ?_ ?_
        · refine Zo_iload5 dX4_worth_107 ?_
          refine Zo_bipush (59 : Int32) dX4_worth_109 bp_59 ?_
          refine Zo_icmpeq 160 dX4_worth_111 (by decide) ?_ ?_
          · refine Zo_iload2 dX4_worth_160 ?_
            refine Zo_ifeq 169 dX4_worth_161 (by decide) ?_ ?_
            · refine Zo_aload0 dX4_worth_169 ?_
              refine Zo_iconst (0 : Int32) dX4_worth_170 ic_0 ?_
              refine Zo_puti fl_X4_22 (kL0 ht) dX4_worth_171 fun σ2 => ?_
              refine Zo_iconst (1 : Int32) dX4_worth_174 ic_1 ?_
              refine Zo_istore2 rfl (zlt rfl) dX4_worth_175 ?_
              refine Zo_iinc3 rfl (1 : Int32) ic_1 (zlt rfl) dX4_worth_176 ?_
              refine Zo_goto 31 dX4_worth_179 (by decide) ?_
              exact ih _ _ _ _ _ _ _
            · refine Zo_aload0 dX4_worth_164 ?_
              refine Zo_cVS0 lk_X4_35 (e_X4_pop g _ _ ht) (kL0 ht) (zFit_rm (by decide)) (zle rfl) dX4_worth_165 fun r3 => ?_
              exact Zo_iret dX4_worth_168 rfl rfl (Nat.le_refl _) (Nat.le_refl _)
          · refine Zo_aload0 dX4_worth_114 ?_
            refine Zo_cVS0 lk_X4_35 (e_X4_pop g _ _ ht) (kL0 ht) (zFit_rm (by decide)) (zle rfl) dX4_worth_115 fun r4 => ?_
            refine Zo_istore6 rfl (zlt rfl) dX4_worth_118 ?_
            refine Zo_iload5 dX4_worth_120 ?_
            refine Zo_bipush (33 : Int32) dX4_worth_122 bp_33 ?_
            refine Zo_icmpeq 134 dX4_worth_124 (by decide) ?_ ?_
            · refine Zo_iconst (0 : Int32) dX4_worth_134 ic_0 ?_
              refine Zo_goto 142 dX4_worth_135 (by decide) ?_
              refine Zo_istore7 rfl (zlt rfl) dX4_worth_142 ?_
              refine Zo_aload0 dX4_worth_144 ?_
              refine Zo_iload5 dX4_worth_145 ?_
              refine Zo_iload7 dX4_worth_147 ?_
              refine Zo_iload6 dX4_worth_149 ?_
              show Zo g _ _ _ 0 0 151 _ _ _
              refine Zo_cSI3 lk_X4_39 (e_X4_joined g _ _ _ _) (zFit_rm (by decide)) (zle rfl) dX4_worth_151 fun r5 => ?_
              refine Zo_cVV1 lk_X4_31 (e_X4_push g _ _ _ ht) (kL0 ht) (zFit_rm (by decide)) (zle rfl) dX4_worth_154 fun σ6 => ?_
              refine Zo_goto 176 dX4_worth_157 (by decide) ?_
              refine Zo_iinc3 rfl (1 : Int32) ic_1 (zlt rfl) dX4_worth_176 ?_
              refine Zo_goto 31 dX4_worth_179 (by decide) ?_
              exact ih _ _ _ _ _ _ _
            · refine Zo_iload5 dX4_worth_127 ?_
              refine Zo_bipush (126 : Int32) dX4_worth_129 bp_126 ?_
              refine Zo_icmpne 138 dX4_worth_131 (by decide) ?_ ?_
              · refine Zo_aload0 dX4_worth_138 ?_
                refine Zo_cVS0 lk_X4_35 (e_X4_pop g _ _ ht) (kL0 ht) (zFit_rm (by decide)) (zle rfl) dX4_worth_139 fun r7 => ?_
                refine Zo_istore7 rfl (zlt rfl) dX4_worth_142 ?_
                refine Zo_aload0 dX4_worth_144 ?_
                refine Zo_iload5 dX4_worth_145 ?_
                refine Zo_iload7 dX4_worth_147 ?_
                refine Zo_iload6 dX4_worth_149 ?_
                show Zo g _ _ _ 0 0 151 _ _ _
                refine Zo_cSI3 lk_X4_39 (e_X4_joined g _ _ _ _) (zFit_rm (by decide)) (zle rfl) dX4_worth_151 fun r8 => ?_
                refine Zo_cVV1 lk_X4_31 (e_X4_push g _ _ _ ht) (kL0 ht) (zFit_rm (by decide)) (zle rfl) dX4_worth_154 fun σ9 => ?_
                refine Zo_goto 176 dX4_worth_157 (by decide) ?_
                refine Zo_iinc3 rfl (1 : Int32) ic_1 (zlt rfl) dX4_worth_176 ?_
                refine Zo_goto 31 dX4_worth_179 (by decide) ?_
                exact ih _ _ _ _ _ _ _
              · refine Zo_iconst (0 : Int32) dX4_worth_134 ic_0 ?_
                refine Zo_goto 142 dX4_worth_135 (by decide) ?_
                refine Zo_istore7 rfl (zlt rfl) dX4_worth_142 ?_
                refine Zo_aload0 dX4_worth_144 ?_
                refine Zo_iload5 dX4_worth_145 ?_
                refine Zo_iload7 dX4_worth_147 ?_
                refine Zo_iload6 dX4_worth_149 ?_
                show Zo g _ _ _ 0 0 151 _ _ _
                refine Zo_cSI3 lk_X4_39 (e_X4_joined g _ _ _ _) (zFit_rm (by decide)) (zle rfl) dX4_worth_151 fun r10 => ?_
                refine Zo_cVV1 lk_X4_31 (e_X4_push g _ _ _ ht) (kL0 ht) (zFit_rm (by decide)) (zle rfl) dX4_worth_154 fun σ11 => ?_
                refine Zo_goto 176 dX4_worth_157 (by decide) ?_
                refine Zo_iinc3 rfl (1 : Int32) ic_1 (zlt rfl) dX4_worth_176 ?_
                refine Zo_goto 31 dX4_worth_179 (by decide) ?_
                exact ih _ _ _ _ _ _ _
        · refine Zo_aload0 dX4_worth_91 ?_
          refine Zo_cVS0 lk_X4_35 (e_X4_pop g _ _ ht) (kL0 ht) (zFit_rm (by decide)) (zle rfl) dX4_worth_92 fun r12 => ?_
          refine Zo_ifeq 102 dX4_worth_95 (by decide) ?_ ?_
          · refine Zo_iconst (0 : Int32) dX4_worth_102 ic_0 ?_
            refine Zo_istore2 rfl (zlt rfl) dX4_worth_103 ?_
            refine Zo_goto 176 dX4_worth_104 (by decide) ?_
            refine Zo_iinc3 rfl (1 : Int32) ic_1 (zlt rfl) dX4_worth_176 ?_
            refine Zo_goto 31 dX4_worth_179 (by decide) ?_
            exact ih _ _ _ _ _ _ _
          · refine Zo_iconst (1 : Int32) dX4_worth_98 ic_1 ?_
            refine Zo_goto 103 dX4_worth_99 (by decide) ?_
            refine Zo_istore2 rfl (zlt rfl) dX4_worth_103 ?_
            refine Zo_goto 176 dX4_worth_104 (by decide) ?_
            refine Zo_iinc3 rfl (1 : Int32) ic_1 (zlt rfl) dX4_worth_176 ?_
            refine Zo_goto 31 dX4_worth_179 (by decide) ?_
            exact ih _ _ _ _ _ _ _
      · refine Zo_aload0 dX4_worth_59 ?_
        refine Zo_iload4 dX4_worth_60 ?_
        refine Zo_iflt 70 dX4_worth_62 (by decide) ?_ ?_
        · refine Zo_aload1 dX4_worth_70 ?_
          refine Zo_iconst (-1 : Int32) dX4_worth_71 ic_m1 ?_
          refine Zo_iload4 dX4_worth_72 ?_
          refine Zo_isub dX4_worth_74 ?_
          refine Zo_cSI2 lk_X4_27 (e_X4_factAt g _ _ _ hp0) (zFit_rm (by decide)) (zle rfl) dX4_worth_75 fun r13 => ?_
          refine Zo_cVV1 lk_X4_31 (e_X4_push g _ _ _ ht) (kL0 ht) (zFit_rm (by decide)) (zle rfl) dX4_worth_78 fun σ14 => ?_
          refine Zo_goto 176 dX4_worth_81 (by decide) ?_
          show Zo g _ _ _ 0 0 176 _ _ _
          refine Zo_iinc3 rfl (1 : Int32) ic_1 (zlt rfl) dX4_worth_176 ?_
          refine Zo_goto 31 dX4_worth_179 (by decide) ?_
          exact ih _ _ _ _ _ _ _
        · refine Zo_iload4 dX4_worth_65 ?_
          refine Zo_goto 78 dX4_worth_67 (by decide) ?_
          refine Zo_cVV1 lk_X4_31 (e_X4_push g _ _ _ ht) (kL0 ht) (zFit_rm (by decide)) (zle rfl) dX4_worth_78 fun σ15 => ?_
          refine Zo_goto 176 dX4_worth_81 (by decide) ?_
          refine Zo_iinc3 rfl (1 : Int32) ic_1 (zlt rfl) dX4_worth_176 ?_
          refine Zo_goto 31 dX4_worth_179 (by decide) ?_
          exact ih _ _ _ _ _ _ _
def s_X4_worth (t : Nat) (p0 : Nat) (σ : ZSt) : Option (Int32 × ZSt) :=
  if (σ.1 t 2) = (0 : Int32) then (zLd (zIn (0 : Int32) 8) (σ.1 p0 (0 : Int32).toNatClampNeg) fun v2 => (zLd (zIn (1 : Int32) 8) (σ.1 p0 (1 : Int32).toNatClampNeg) fun v3 => (zLd (zIn (4 : Int32) 8) (σ.1 p0 (4 : Int32).toNatClampNeg) fun v4 => (some (((v2 - v3) - ((10 : Int32) * v4)), σ)))))
    else (zSt' (zWD σ t 3 (0 : Int32)) fun σ1 => (s_X4_worth_L31 t p0 200 (1 : Int32) (0 : Int32) σ1))
set_option maxHeartbeats 4000000 in
set_option maxRecDepth 100000 in
theorem z_X4_worth (g : ZG) (t : Nat) (p0 : Nat) (ht : t = 62 ∨ t = 65) (hp0 : zKd p0 = (1, 8)) (σ : ZSt) : Zo g (mX4_worth g 1) (fun b : Int32 × ZSt => (some (.int b.1), zw b.2)) (s_X4_worth t p0 σ) 0 0 0 [some (.ref t), some (.ref p0), none, none, none, none, none, none] [] (zw σ) := by
  unfold s_X4_worth
  refine Zo_aload0 dX4_worth_0 ?_
  refine Zo_geti fl_X4_18 (kL0 ht) dX4_worth_1 ?_
  refine Zo_ifne 22 dX4_worth_4 (by decide) ?_ ?_
  · refine Zo_iconst (1 : Int32) dX4_worth_22 ic_1 ?_
    refine Zo_istore2 rfl (zlt rfl) dX4_worth_23 ?_
    refine Zo_aload0 dX4_worth_24 ?_
    refine Zo_iconst (0 : Int32) dX4_worth_25 ic_0 ?_
    refine Zo_puti fl_X4_22 (kL0 ht) dX4_worth_26 fun σ1 => ?_
    refine Zo_iconst (0 : Int32) dX4_worth_29 ic_0 ?_
    refine Zo_istore3 rfl (zlt rfl) dX4_worth_30 ?_
    exact z_X4_worth_L31 g t p0 ht hp0 _ _ _ _ _ _ _ _
  · refine Zo_aload1 dX4_worth_7 ?_
    refine Zo_iconst (0 : Int32) dX4_worth_8 ic_0 ?_
    refine Zo_iald hp0 dX4_worth_9 fun v2 => ?_
    refine Zo_aload1 dX4_worth_10 ?_
    refine Zo_iconst (1 : Int32) dX4_worth_11 ic_1 ?_
    refine Zo_iald hp0 dX4_worth_12 fun v3 => ?_
    refine Zo_isub dX4_worth_13 ?_
    show Zo g _ _ _ 0 0 14 _ _ _
    refine Zo_bipush (10 : Int32) dX4_worth_14 bp_10 ?_
    refine Zo_aload1 dX4_worth_16 ?_
    refine Zo_iconst (4 : Int32) dX4_worth_17 ic_4 ?_
    refine Zo_iald hp0 dX4_worth_18 fun v4 => ?_
    refine Zo_imul dX4_worth_19 ?_
    refine Zo_isub dX4_worth_20 ?_
    exact Zo_iret dX4_worth_21 rfl rfl (Nat.le_refl _) (Nat.le_refl _)
theorem e_X4_worth (g : ZG) (t : Nat) (p0 : Nat) (σ : ZSt) (ht : t = 62 ∨ t = 65) (hp0 : zKd p0 = (1, 8)) : zEvS g 1 yX4_worth cX4_worth 8 (some .int) [.ref t, .ref p0] σ (s_X4_worth t p0 σ) :=
  zEvS_of 6 rfl rfl (z_X4_worth g t p0 ht hp0 σ)
