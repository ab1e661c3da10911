abbrev mX6_isShelf (g : ZG) (q : Nat) : ZM := (yX6_isShelf, cX6_isShelf, 2, (some .boolean), zRm q 0 0, zTg g 0 0)
def s_X6_isShelf (p0 : Int32) (σ : ZSt) : Option Int32 :=
  if p0 < (0 : Int32) then (some (0 : Int32))
    else (if (6 : Int32) ≤ p0 then (some (0 : Int32))
      else (some (1 : Int32)))
set_option maxHeartbeats 4000000 in
set_option maxRecDepth 100000 in
theorem z_X6_isShelf (g : ZG) (p0 : Int32) (σ : ZSt) : Zo g (mX6_isShelf g 0) (fun b : Int32 => (some (.int b), zw σ)) (s_X6_isShelf p0 σ) 0 0 0 [some (.ref 51), some (.int p0)] [] (zw σ) := by
  unfold s_X6_isShelf
  refine Zo_iload1 dX6_isShelf_0 ?_
  refine Zo_iflt 14 dX6_isShelf_1 (by decide) ?_ ?_
  · refine Zo_iconst (0 : Int32) dX6_isShelf_14 ic_0 ?_
    exact Zo_zret dX6_isShelf_15 rfl rfl (Or.inl rfl) (Nat.le_refl _) (Nat.le_refl _)
  · refine Zo_iload1 dX6_isShelf_4 ?_
    refine Zo_bipush (6 : Int32) dX6_isShelf_5 bp_6 ?_
    refine Zo_icmpge 14 dX6_isShelf_7 (by decide) ?_ ?_
    · refine Zo_iconst (0 : Int32) dX6_isShelf_14 ic_0 ?_
      exact Zo_zret dX6_isShelf_15 rfl rfl (Or.inl rfl) (Nat.le_refl _) (Nat.le_refl _)
    · refine Zo_iconst (1 : Int32) dX6_isShelf_10 ic_1 ?_
      refine Zo_goto 15 dX6_isShelf_11 (by decide) ?_
      exact Zo_zret dX6_isShelf_15 rfl rfl (Or.inr rfl) (Nat.le_refl _) (Nat.le_refl _)
theorem e_X6_isShelf (g : ZG) (p0 : Int32) (σ : ZSt) : zEvI g 0 yX6_isShelf cX6_isShelf 2 (some .boolean) [.ref 51, .int p0] σ (s_X6_isShelf p0 σ) :=
  zEvI_of 0 rfl rfl (z_X6_isShelf g p0 σ)
abbrev mX6_isEmpty (g : ZG) (q : Nat) : ZM := (yX6_isEmpty, cX6_isEmpty, 2, (some .boolean), zRm q 0 0, zTg g 0 0)
def s_X6_isEmpty (p0 : Int32) (σ : ZSt) : Option Int32 :=
  (s_X6_isShelf p0 σ).bind fun r1 => (if r1 = (0 : Int32) then (some (1 : Int32))
    else (zLd (zIn p0 6) (σ.1 52 p0.toNatClampNeg) fun v2 => (if v2 = (-1 : Int32) then (some (1 : Int32))
      else (some (0 : Int32)))))
set_option maxHeartbeats 4000000 in
set_option maxRecDepth 100000 in
theorem z_X6_isEmpty (g : ZG) (p0 : Int32) (σ : ZSt) : Zo g (mX6_isEmpty g 1) (fun b : Int32 => (some (.int b), zw σ)) (s_X6_isEmpty p0 σ) 0 0 0 [some (.ref 51), some (.int p0)] [] (zw σ) := by
  unfold s_X6_isEmpty
  refine Zo_aload0 dX6_isEmpty_0 ?_
  refine Zo_iload1 dX6_isEmpty_1 ?_
  refine Zo_cVI1 lk_X6_26 (e_X6_isShelf g _ _) kd_51 (zFit_rm (by decide)) (zle rfl) dX6_isEmpty_2 fun r1 => ?_
  refine Zo_ifeq 18 dX6_isEmpty_5 (by decide) ?_ ?_
  · refine Zo_iconst (1 : Int32) dX6_isEmpty_18 ic_1 ?_
    refine Zo_goto 23 dX6_isEmpty_19 (by decide) ?_
    exact Zo_zret dX6_isEmpty_23 rfl rfl (Or.inr rfl) (Nat.le_refl _) (Nat.le_refl _)
  · refine Zo_aload0 dX6_isEmpty_8 ?_
    refine Zo_getr (j := 52) fl_X6_11 kd_51 rfl dX6_isEmpty_9 ?_
    refine Zo_iload1 dX6_isEmpty_12 ?_
    refine Zo_iald kd_52 dX6_isEmpty_13 fun v2 => ?_
    refine Zo_iconst (-1 : Int32) dX6_isEmpty_14 ic_m1 ?_
    refine Zo_icmpne 22 dX6_isEmpty_15 (by decide) ?_ ?_
    · refine Zo_iconst (0 : Int32) dX6_isEmpty_22 ic_0 ?_
      exact Zo_zret dX6_isEmpty_23 rfl rfl (Or.inl rfl) (Nat.le_refl _) (Nat.le_refl _)
    · refine Zo_iconst (1 : Int32) dX6_isEmpty_18 ic_1 ?_
      refine Zo_goto 23 dX6_isEmpty_19 (by decide) ?_
      exact Zo_zret dX6_isEmpty_23 rfl rfl (Or.inr rfl) (Nat.le_refl _) (Nat.le_refl _)
theorem e_X6_isEmpty (g : ZG) (p0 : Int32) (σ : ZSt) : zEvI g 1 yX6_isEmpty cX6_isEmpty 2 (some .boolean) [.ref 51, .int p0] σ (s_X6_isEmpty p0 σ) :=
  zEvI_of 0 rfl rfl (z_X6_isEmpty g p0 σ)
abbrev mX6_isRowOfShorts (g : ZG) (q : Nat) : ZM := (yX6_isRowOfShorts, cX6_isRowOfShorts, 2, (some .boolean), zRm q 0 0, zTg g 0 0)
def s_X6_isRowOfShorts (p0 : Int32) (σ : ZSt) : Option Int32 :=
  (s_X6_isShelf p0 σ).bind fun r1 => (if r1 = (0 : Int32) then (some (0 : Int32))
    else (zLd (zIn p0 6) (σ.1 52 p0.toNatClampNeg) fun v2 => (if v2 = (1 : Int32) then (some (1 : Int32))
      else (some (0 : Int32)))))
set_option maxHeartbeats 4000000 in
set_option maxRecDepth 100000 in
theorem z_X6_isRowOfShorts (g : ZG) (p0 : Int32) (σ : ZSt) : Zo g (mX6_isRowOfShorts g 1) (fun b : Int32 => (some (.int b), zw σ)) (s_X6_isRowOfShorts p0 σ) 0 0 0 [some (.ref 51), some (.int p0)] [] (zw σ) := by
  unfold s_X6_isRowOfShorts
  refine Zo_aload0 dX6_isRowOfShorts_0 ?_
  refine Zo_iload1 dX6_isRowOfShorts_1 ?_
  refine Zo_cVI1 lk_X6_26 (e_X6_isShelf g _ _) kd_51 (zFit_rm (by decide)) (zle rfl) dX6_isRowOfShorts_2 fun r1 => ?_
  refine Zo_ifeq 22 dX6_isRowOfShorts_5 (by decide) ?_ ?_
  · refine Zo_iconst (0 : Int32) dX6_isRowOfShorts_22 ic_0 ?_
    exact Zo_zret dX6_isRowOfShorts_23 rfl rfl (Or.inl rfl) (Nat.le_refl _) (Nat.le_refl _)
  · refine Zo_aload0 dX6_isRowOfShorts_8 ?_
    refine Zo_getr (j := 52) fl_X6_11 kd_51 rfl dX6_isRowOfShorts_9 ?_
    refine Zo_iload1 dX6_isRowOfShorts_12 ?_
    refine Zo_iald kd_52 dX6_isRowOfShorts_13 fun v2 => ?_
    refine Zo_iconst (1 : Int32) dX6_isRowOfShorts_14 ic_1 ?_
    refine Zo_icmpne 22 dX6_isRowOfShorts_15 (by decide) ?_ ?_
    · refine Zo_iconst (0 : Int32) dX6_isRowOfShorts_22 ic_0 ?_
      exact Zo_zret dX6_isRowOfShorts_23 rfl rfl (Or.inl rfl) (Nat.le_refl _) (Nat.le_refl _)
    · refine Zo_iconst (1 : Int32) dX6_isRowOfShorts_18 ic_1 ?_
      refine Zo_goto 23 dX6_isRowOfShorts_19 (by decide) ?_
      exact Zo_zret dX6_isRowOfShorts_23 rfl rfl (Or.inr rfl) (Nat.le_refl _) (Nat.le_refl _)
theorem e_X6_isRowOfShorts (g : ZG) (p0 : Int32) (σ : ZSt) : zEvI g 1 yX6_isRowOfShorts cX6_isRowOfShorts 2 (some .boolean) [.ref 51, .int p0] σ (s_X6_isRowOfShorts p0 σ) :=
  zEvI_of 0 rfl rfl (z_X6_isRowOfShorts g p0 σ)
abbrev mX6_isSort (g : ZG) (q : Nat) : ZM := (yX6_isSort, cX6_isSort, 2, (some .boolean), zRm q 0 0, zTg g 0 0)
def s_X6_isSort (p0 : Int32) (σ : ZSt) : Option Int32 :=
  if p0 < (0 : Int32) then (some (0 : Int32))
    else (if (4 : Int32) < p0 then (some (0 : Int32))
      else (some (1 : Int32)))
set_option maxHeartbeats 4000000 in
set_option maxRecDepth 100000 in
theorem z_X6_isSort (g : ZG) (p0 : Int32) (σ : ZSt) : Zo g (mX6_isSort g 0) (fun b : Int32 => (some (.int b), zw σ)) (s_X6_isSort p0 σ) 0 0 0 [some (.ref 51), some (.int p0)] [] (zw σ) := by
  unfold s_X6_isSort
  refine Zo_iload1 dX6_isSort_0 ?_
  refine Zo_iflt 13 dX6_isSort_1 (by decide) ?_ ?_
  · refine Zo_iconst (0 : Int32) dX6_isSort_13 ic_0 ?_
    exact Zo_zret dX6_isSort_14 rfl rfl (Or.inl rfl) (Nat.le_refl _) (Nat.le_refl _)
  · refine Zo_iload1 dX6_isSort_4 ?_
    refine Zo_iconst (4 : Int32) dX6_isSort_5 ic_4 ?_
    refine Zo_icmpgt 13 dX6_isSort_6 (by decide) ?_ ?_
    · refine Zo_iconst (0 : Int32) dX6_isSort_13 ic_0 ?_
      exact Zo_zret dX6_isSort_14 rfl rfl (Or.inl rfl) (Nat.le_refl _) (Nat.le_refl _)
    · refine Zo_iconst (1 : Int32) dX6_isSort_9 ic_1 ?_
      refine Zo_goto 14 dX6_isSort_10 (by decide) ?_
      exact Zo_zret dX6_isSort_14 rfl rfl (Or.inr rfl) (Nat.le_refl _) (Nat.le_refl _)
theorem e_X6_isSort (g : ZG) (p0 : Int32) (σ : ZSt) : zEvI g 0 yX6_isSort cX6_isSort 2 (some .boolean) [.ref 51, .int p0] σ (s_X6_isSort p0 σ) :=
  zEvI_of 0 rfl rfl (z_X6_isSort g p0 σ)
abbrev mX6_isRow (g : ZG) (q : Nat) : ZM := (yX6_isRow, cX6_isRow, 2, (some .boolean), zRm q 0 0, zTg g 0 0)
def s_X6_isRow (p0 : Int32) (σ : ZSt) : Option Int32 :=
  (s_X6_isShelf p0 σ).bind fun r1 => (if r1 = (0 : Int32) then (some (0 : Int32))
    else (zLd (zIn p0 6) (σ.1 52 p0.toNatClampNeg) fun v2 => ((s_X6_isSort v2 σ).bind fun r3 => (if r3 = (0 : Int32) then (some (0 : Int32))
      else (some (1 : Int32))))))
set_option maxHeartbeats 4000000 in
set_option maxRecDepth 100000 in
theorem z_X6_isRow (g : ZG) (p0 : Int32) (σ : ZSt) : Zo g (mX6_isRow g 1) (fun b : Int32 => (some (.int b), zw σ)) (s_X6_isRow p0 σ) 0 0 0 [some (.ref 51), some (.int p0)] [] (zw σ) := by
  unfold s_X6_isRow
  refine Zo_aload0 dX6_isRow_0 ?_
  refine Zo_iload1 dX6_isRow_1 ?_
  refine Zo_cVI1 lk_X6_26 (e_X6_isShelf g _ _) kd_51 (zFit_rm (by decide)) (zle rfl) dX6_isRow_2 fun r1 => ?_
  refine Zo_ifeq 25 dX6_isRow_5 (by decide) ?_ ?_
  · refine Zo_iconst (0 : Int32) dX6_isRow_25 ic_0 ?_
    exact Zo_zret dX6_isRow_26 rfl rfl (Or.inl rfl) (Nat.le_refl _) (Nat.le_refl _)
  · refine Zo_aload0 dX6_isRow_8 ?_
    refine Zo_aload0 dX6_isRow_9 ?_
    refine Zo_getr (j := 52) fl_X6_11 kd_51 rfl dX6_isRow_10 ?_
    refine Zo_iload1 dX6_isRow_13 ?_
    refine Zo_iald kd_52 dX6_isRow_14 fun v2 => ?_
    refine Zo_cVI1 lk_X6_30 (e_X6_isSort g _ _) kd_51 (zFit_rm (by decide)) (zle rfl) dX6_isRow_15 fun r3 => ?_
    refine Zo_ifeq 25 dX6_isRow_18 (by decide) ?_ ?_
    · refine Zo_iconst (0 : Int32) dX6_isRow_25 ic_0 ?_
      exact Zo_zret dX6_isRow_26 rfl rfl (Or.inl rfl) (Nat.le_refl _) (Nat.le_refl _)
    · refine Zo_iconst (1 : Int32) dX6_isRow_21 ic_1 ?_
      refine Zo_goto 26 dX6_isRow_22 (by decide) ?_
      exact Zo_zret dX6_isRow_26 rfl rfl (Or.inr rfl) (Nat.le_refl _) (Nat.le_refl _)
theorem e_X6_isRow (g : ZG) (p0 : Int32) (σ : ZSt) : zEvI g 1 yX6_isRow cX6_isRow 2 (some .boolean) [.ref 51, .int p0] σ (s_X6_isRow p0 σ) :=
  zEvI_of 0 rfl rfl (z_X6_isRow g p0 σ)
abbrev mX6_hasPlaces (g : ZG) (q : Nat) : ZM := (yX6_hasPlaces, cX6_hasPlaces, 4, (some .boolean), zRm q 0 0, zTg g 0 0)
def s_X6_hasPlaces (p0 : Int32) (p1 : Int32) (p2 : Int32) (σ : ZSt) : Option Int32 :=
  (s_X6_isRow p0 σ).bind fun r1 => (if r1 = (0 : Int32) then (some (0 : Int32))
    else (if p1 < (0 : Int32) then (some (0 : Int32))
      else (if p2 < (0 : Int32) then (some (0 : Int32))
        else (zLd (zIn p0 6) (σ.1 54 p0.toNatClampNeg) fun v2 => (if v2 < p2 then (some (0 : Int32))
          else (zLd (zIn p0 6) (σ.1 54 p0.toNatClampNeg) fun v3 => (if (v3 - p2) < p1 then (some (0 : Int32))
            else (some (1 : Int32)))))))))
set_option maxHeartbeats 4000000 in
set_option maxRecDepth 100000 in
theorem z_X6_hasPlaces (g : ZG) (p0 : Int32) (p1 : Int32) (p2 : Int32) (σ : ZSt) : Zo g (mX6_hasPlaces g 2) (fun b : Int32 => (some (.int b), zw σ)) (s_X6_hasPlaces p0 p1 p2 σ) 0 0 0 [some (.ref 51), some (.int p0), some (.int p1), some (.int p2)] [] (zw σ) := by
  unfold s_X6_hasPlaces
  refine Zo_aload0 dX6_hasPlaces_0 ?_
  refine Zo_iload1 dX6_hasPlaces_1 ?_
  refine Zo_cVI1 lk_X6_33 (e_X6_isRow g _ _) kd_51 (zFit_rm (by decide)) (zle rfl) dX6_hasPlaces_2 fun r1 => ?_
  refine Zo_ifeq 42 dX6_hasPlaces_5 (by decide) ?_ ?_
  · refine Zo_iconst (0 : Int32) dX6_hasPlaces_42 ic_0 ?_
    exact Zo_zret dX6_hasPlaces_43 rfl rfl (Or.inl rfl) (Nat.le_refl _) (Nat.le_refl _)
  · refine Zo_iload2 dX6_hasPlaces_8 ?_
    refine Zo_iflt 42 dX6_hasPlaces_9 (by decide) ?_ ?_
    · refine Zo_iconst (0 : Int32) dX6_hasPlaces_42 ic_0 ?_
      exact Zo_zret dX6_hasPlaces_43 rfl rfl (Or.inl rfl) (Nat.le_refl _) (Nat.le_refl _)
    · refine Zo_iload3 dX6_hasPlaces_12 ?_
      refine Zo_iflt 42 dX6_hasPlaces_13 (by decide) ?_ ?_
      · refine Zo_iconst (0 : Int32) dX6_hasPlaces_42 ic_0 ?_
        exact Zo_zret dX6_hasPlaces_43 rfl rfl (Or.inl rfl) (Nat.le_refl _) (Nat.le_refl _)
      · refine Zo_iload3 dX6_hasPlaces_16 ?_
        refine Zo_aload0 dX6_hasPlaces_17 ?_
        refine Zo_getr (j := 54) fl_X6_18 kd_51 rfl dX6_hasPlaces_18 ?_
        refine Zo_iload1 dX6_hasPlaces_21 ?_
        refine Zo_iald kd_54 dX6_hasPlaces_22 fun v2 => ?_
        refine Zo_icmpgt 42 dX6_hasPlaces_23 (by decide) ?_ ?_
        · refine Zo_iconst (0 : Int32) dX6_hasPlaces_42 ic_0 ?_
          exact Zo_zret dX6_hasPlaces_43 rfl rfl (Or.inl rfl) (Nat.le_refl _) (Nat.le_refl _)
        · refine Zo_iload2 dX6_hasPlaces_26 ?_
          refine Zo_aload0 dX6_hasPlaces_27 ?_
          refine Zo_getr (j := 54) fl_X6_18 kd_51 rfl dX6_hasPlaces_28 ?_
          refine Zo_iload1 dX6_hasPlaces_31 ?_
          refine Zo_iald kd_54 dX6_hasPlaces_32 fun v3 => ?_
          refine Zo_iload3 dX6_hasPlaces_33 ?_
          refine Zo_isub dX6_hasPlaces_34 ?_
          show Zo g _ _ _ 0 0 35 _ _ _
          refine Zo_icmpgt 42 dX6_hasPlaces_35 (by decide) ?_ ?_
          · refine Zo_iconst (0 : Int32) dX6_hasPlaces_42 ic_0 ?_
            exact Zo_zret dX6_hasPlaces_43 rfl rfl (Or.inl rfl) (Nat.le_refl _) (Nat.le_refl _)
          · refine Zo_iconst (1 : Int32) dX6_hasPlaces_38 ic_1 ?_
            refine Zo_goto 43 dX6_hasPlaces_39 (by decide) ?_
            exact Zo_zret dX6_hasPlaces_43 rfl rfl (Or.inr rfl) (Nat.le_refl _) (Nat.le_refl _)
theorem e_X6_hasPlaces (g : ZG) (p0 : Int32) (p1 : Int32) (p2 : Int32) (σ : ZSt) : zEvI g 2 yX6_hasPlaces cX6_hasPlaces 4 (some .boolean) [.ref 51, .int p0, .int p1, .int p2] σ (s_X6_hasPlaces p0 p1 p2 σ) :=
  zEvI_of 0 rfl rfl (z_X6_hasPlaces g p0 p1 p2 σ)
abbrev mX6_elementAt (g : ZG) (q : Nat) : ZM := (yX6_elementAt, cX6_elementAt, 3, (some .long), zRm q 0 0, zTg g 0 0)
def s_X6_elementAt (p0 : Int32) (p1 : Int32) (σ : ZSt) : Option Int64 :=
  (s_X6_hasPlaces p0 p1 (1 : Int32) σ).bind fun r1 => (if r1 = (0 : Int32) then (some (0 : Int64))
    else (zLd (zIn p0 6) (56 + p0.toNatClampNeg) fun j3 => (zLd (zIn p1 60) (σ.2 j3 p1.toNatClampNeg) fun v4 => (some v4))))
set_option maxHeartbeats 4000000 in
set_option maxRecDepth 100000 in
theorem z_X6_elementAt (g : ZG) (p0 : Int32) (p1 : Int32) (σ : ZSt) : Zo g (mX6_elementAt g 3) (fun b : Int64 => (some (.long b), zw σ)) (s_X6_elementAt p0 p1 σ) 0 0 0 [some (.ref 51), some (.int p0), some (.int p1)] [] (zw σ) := by
  unfold s_X6_elementAt
  refine Zo_aload0 dX6_elementAt_0 ?_
  refine Zo_iload1 dX6_elementAt_1 ?_
  refine Zo_iload2 dX6_elementAt_2 ?_
  refine Zo_iconst (1 : Int32) dX6_elementAt_3 ic_1 ?_
  refine Zo_cVI3 lk_X6_39 (e_X6_hasPlaces g _ _ _ _) kd_51 (zFit_rm (by decide)) (zle rfl) dX6_elementAt_4 fun r1 => ?_
  refine Zo_ifeq 21 dX6_elementAt_7 (by decide) ?_ ?_
  · refine Zo_lconst (0 : Int64) dX6_elementAt_21 lc_0 ?_
    exact Zo_lret dX6_elementAt_22 rfl rfl (Nat.le_refl _) (Nat.le_refl _)
  · refine Zo_aload0 dX6_elementAt_10 ?_
    refine Zo_getr (j := 55) fl_X6_23 kd_51 rfl dX6_elementAt_11 ?_
    refine Zo_iload1 dX6_elementAt_14 ?_
    refine Zo_aald55 dX6_elementAt_15 fun j3 hj3 => ?_
    refine Zo_iload2 dX6_elementAt_16 ?_
    refine Zo_lald hj3 dX6_elementAt_17 fun v4 => ?_
    refine Zo_goto 22 dX6_elementAt_18 (by decide) ?_
    show Zo g _ _ _ 0 0 22 _ _ _
    exact Zo_lret dX6_elementAt_22 rfl rfl (Nat.le_refl _) (Nat.le_refl _)
theorem e_X6_elementAt (g : ZG) (p0 : Int32) (p1 : Int32) (σ : ZSt) : zEvJ g 3 yX6_elementAt cX6_elementAt 3 (some .long) [.ref 51, .int p0, .int p1] σ (s_X6_elementAt p0 p1 σ) :=
  zEvJ_of 0 rfl rfl (z_X6_elementAt g p0 p1 σ)
abbrev mX6_clearShelf (g : ZG) (q : Nat) : ZM := (yX6_clearShelf, cX6_clearShelf, 2, none, zRm q 0 0, zTg g 0 0)
def s_X6_clearShelf (p0 : Int32) (σ : ZSt) : Option ZSt :=
  (s_X6_isShelf p0 σ).bind fun r1 => (if r1 = (0 : Int32) then (some σ)
    else (zSg (zIn p0 6) (zWD σ 52 p0.toNatClampNeg (-1 : Int32)) fun σ2 => (some σ2)))
set_option maxHeartbeats 4000000 in
set_option maxRecDepth 100000 in
theorem z_X6_clearShelf (g : ZG) (p0 : Int32) (σ : ZSt) : Zo g (mX6_clearShelf g 1) (fun b : ZSt => (none, zw b)) (s_X6_clearShelf p0 σ) 0 0 0 [some (.ref 51), some (.int p0)] [] (zw σ) := by
  unfold s_X6_clearShelf
  refine Zo_aload0 dX6_clearShelf_0 ?_
  refine Zo_iload1 dX6_clearShelf_1 ?_
  refine Zo_cVI1 lk_X6_26 (e_X6_isShelf g _ _) kd_51 (zFit_rm (by decide)) (zle rfl) dX6_clearShelf_2 fun r1 => ?_
  refine Zo_ifeq 15 dX6_clearShelf_5 (by decide) ?_ ?_
  · exact Zo_vret dX6_clearShelf_15 rfl rfl (Nat.le_refl _) (Nat.le_refl _)
  · refine Zo_aload0 dX6_clearShelf_8 ?_
    refine Zo_getr (j := 52) fl_X6_11 kd_51 rfl dX6_clearShelf_9 ?_
    refine Zo_iload1 dX6_clearShelf_12 ?_
    refine Zo_iconst (-1 : Int32) dX6_clearShelf_13 ic_m1 ?_
    refine Zo_iast kd_52 dX6_clearShelf_14 fun σ2 => ?_
    exact Zo_vret dX6_clearShelf_15 rfl rfl (Nat.le_refl _) (Nat.le_refl _)
theorem e_X6_clearShelf (g : ZG) (p0 : Int32) (σ : ZSt) : zEvV g 1 yX6_clearShelf cX6_clearShelf 2 none [.ref 51, .int p0] σ (s_X6_clearShelf p0 σ) :=
  zEvV_of 0 rfl rfl (z_X6_clearShelf g p0 σ)
abbrev mX6_holdBody (g : ZG) (q : Nat) : ZM := (yX6_holdBody, cX6_holdBody, 3, none, zRm q 0 0, zTg g 0 0)
def s_X6_holdBody (p0 : Int32) (p1 : Int32) (σ : ZSt) : Option ZSt :=
  (s_X6_isShelf p0 σ).bind fun r1 => (if r1 = (0 : Int32) then (some σ)
    else (zSg (zIn p0 6) (zWD σ 52 p0.toNatClampNeg (-2 : Int32)) fun σ2 => (zSg (zIn p0 6) (zWD σ2 53 p0.toNatClampNeg p1) fun σ3 => (some σ3))))
set_option maxHeartbeats 4000000 in
set_option maxRecDepth 100000 in
theorem z_X6_holdBody (g : ZG) (p0 : Int32) (p1 : Int32) (σ : ZSt) : Zo g (mX6_holdBody g 1) (fun b : ZSt => (none, zw b)) (s_X6_holdBody p0 p1 σ) 0 0 0 [some (.ref 51), some (.int p0), some (.int p1)] [] (zw σ) := by
  unfold s_X6_holdBody
  refine Zo_aload0 dX6_holdBody_0 ?_
  refine Zo_iload1 dX6_holdBody_1 ?_
  refine Zo_cVI1 lk_X6_26 (e_X6_isShelf g _ _) kd_51 (zFit_rm (by decide)) (zle rfl) dX6_holdBody_2 fun r1 => ?_
  refine Zo_ifne 9 dX6_holdBody_5 (by decide) ?_ ?_
  · refine Zo_aload0 dX6_holdBody_9 ?_
    refine Zo_getr (j := 52) fl_X6_11 kd_51 rfl dX6_holdBody_10 ?_
    refine Zo_iload1 dX6_holdBody_13 ?_
    refine Zo_bipush (-2 : Int32) dX6_holdBody_14 bp_m2 ?_
    refine Zo_iast kd_52 dX6_holdBody_16 fun σ2 => ?_
    refine Zo_aload0 dX6_holdBody_17 ?_
    refine Zo_getr (j := 53) fl_X6_15 kd_51 rfl dX6_holdBody_18 ?_
    show Zo g _ _ _ 0 0 21 _ _ _
    refine Zo_iload1 dX6_holdBody_21 ?_
    refine Zo_iload2 dX6_holdBody_22 ?_
    refine Zo_iast kd_53 dX6_holdBody_23 fun σ3 => ?_
    exact Zo_vret dX6_holdBody_24 rfl rfl (Nat.le_refl _) (Nat.le_refl _)
  · exact Zo_vret dX6_holdBody_8 rfl rfl (Nat.le_refl _) (Nat.le_refl _)
theorem e_X6_holdBody (g : ZG) (p0 : Int32) (p1 : Int32) (σ : ZSt) : zEvV g 1 yX6_holdBody cX6_holdBody 3 none [.ref 51, .int p0, .int p1] σ (s_X6_holdBody p0 p1 σ) :=
  zEvV_of 0 rfl rfl (z_X6_holdBody g p0 p1 σ)
abbrev mX6_holdRow (g : ZG) (q : Nat) : ZM := (yX6_holdRow, cX6_holdRow, 5, none, zRm q 0 0, zTg g 0 0)
def s_X6_holdRow_L26 (l1 : Int32) : Nat → Int32 → ZSt → Option ZSt
  | 0, _, _ => none
  | n + 1, l4, σ =>
    if (60 : Int32) ≤ l4 then (some σ)
      else (zLd (zIn l1 6) (56 + l1.toNatClampNeg) fun j2 => (zSg (zIn l4 60) (zWE σ j2 l4.toNatClampNeg (0 : Int64)) fun σ3 => (s_X6_holdRow_L26 l1 n (l4 + (1 : Int32)) σ3)))
set_option maxHeartbeats 4000000 in
set_option maxRecDepth 100000 in
theorem z_X6_holdRow_L26 (g : ZG) (l1 : Int32) : ∀ (n : Nat) (l4 : Int32) (σ : ZSt) (o2 o3 : Option Value), Zo g (mX6_holdRow g 1) (fun b : ZSt => (none, zw b)) (s_X6_holdRow_L26 l1 n l4 σ) 0 0 26 [some (.ref 51), some (.int l1), o2, o3, some (.int l4)] [] (zw σ) := by
  intro n
  induction n with
  | zero => intros; exact Zo_none
  | succ n ih =>
    intro l4 σ o2 o3
    rw [s_X6_holdRow_L26]
    refine Zo_iload4 dX6_holdRow_26 ?_
    refine Zo_bipush (60 : Int32) dX6_holdRow_28 bp_60 ?_
    refine Zo_icmpge 49 dX6_holdRow_30 (by decide) ?_ ?_
    · exact Zo_vret dX6_holdRow_49 rfl rfl (Nat.le_refl _) (Nat.le_refl _)
    · refine Zo_aload0 dX6_holdRow_33 ?_
      refine Zo_getr (j := 55) fl_X6_23 kd_51 rfl dX6_holdRow_34 ?_
      refine Zo_iload1 dX6_holdRow_37 ?_
      refine Zo_aald55 dX6_holdRow_38 fun j2 hj2 => ?_
      refine Zo_iload4 dX6_holdRow_39 ?_
      refine Zo_lconst (0 : Int64) dX6_holdRow_41 lc_0 ?_
      refine Zo_last hj2 dX6_holdRow_42 fun σ3 => ?_
      show Zo g _ _ _ 0 0 43 _ _ _
      refine Zo_drop3 ?_
      refine Zo_iinc4 rfl (1 : Int32) ic_1 (zlt rfl) dX6_holdRow_43 ?_
      refine Zo_goto 26 dX6_holdRow_46 (by decide) ?_
      exact ih _ _ _ _
def s_X6_holdRow (p0 : Int32) (p1 : Int32) (p2 : Int32) (σ : ZSt) : Option ZSt :=
  (s_X6_isShelf p0 σ).bind fun r1 => (if r1 = (0 : Int32) then (some σ)
    else (zSg (zIn p0 6) (zWD σ 52 p0.toNatClampNeg p1) fun σ2 => (zSg (zIn p0 6) (zWD σ2 54 p0.toNatClampNeg p2) fun σ3 => (s_X6_holdRow_L26 p0 200 (0 : Int32) σ3))))
set_option maxHeartbeats 4000000 in
set_option maxRecDepth 100000 in
theorem z_X6_holdRow (g : ZG) (p0 : Int32) (p1 : Int32) (p2 : Int32) (σ : ZSt) : Zo g (mX6_holdRow g 1) (fun b : ZSt => (none, zw b)) (s_X6_holdRow p0 p1 p2 σ) 0 0 0 [some (.ref 51), some (.int p0), some (.int p1), some (.int p2), none] [] (zw σ) := by
  unfold s_X6_holdRow
  refine Zo_aload0 dX6_holdRow_0 ?_
  refine Zo_iload1 dX6_holdRow_1 ?_
  refine Zo_cVI1 lk_X6_26 (e_X6_isShelf g _ _) kd_51 (zFit_rm (by decide)) (zle rfl) dX6_holdRow_2 fun r1 => ?_
  refine Zo_ifne 9 dX6_holdRow_5 (by decide) ?_ ?_
  · refine Zo_aload0 dX6_holdRow_9 ?_
    refine Zo_getr (j := 52) fl_X6_11 kd_51 rfl dX6_holdRow_10 ?_
    refine Zo_iload1 dX6_holdRow_13 ?_
    refine Zo_iload2 dX6_holdRow_14 ?_
    refine Zo_iast kd_52 dX6_holdRow_15 fun σ2 => ?_
    refine Zo_aload0 dX6_holdRow_16 ?_
    refine Zo_getr (j := 54) fl_X6_18 kd_51 rfl dX6_holdRow_17 ?_
    show Zo g _ _ _ 0 0 20 _ _ _
    refine Zo_iload1 dX6_holdRow_20 ?_
    refine Zo_iload3 dX6_holdRow_21 ?_
    refine Zo_iast kd_54 dX6_holdRow_22 fun σ3 => ?_
    refine Zo_iconst (0 : Int32) dX6_holdRow_23 ic_0 ?_
    refine Zo_istore4 rfl (zlt rfl) dX6_holdRow_24 ?_
    exact z_X6_holdRow_L26 g _ _ _ _ _ _
  · exact Zo_vret dX6_holdRow_8 rfl rfl (Nat.le_refl _) (Nat.le_refl _)
theorem e_X6_holdRow (g : ZG) (p0 : Int32) (p1 : Int32) (p2 : Int32) (σ : ZSt) : zEvV g 1 yX6_holdRow cX6_holdRow 5 none [.ref 51, .int p0, .int p1, .int p2] σ (s_X6_holdRow p0 p1 p2 σ) :=
  zEvV_of 1 rfl rfl (z_X6_holdRow g p0 p1 p2 σ)
abbrev mX6_refusalOf (g : ZG) (q : Nat) : ZM := (yX6_refusalOf, cX6_refusalOf, 3, (some .int), zRm q 0 0, zTg g 0 0)
def s_X6_refusalOf (p0 : Int32) (p1 : Int32) (σ : ZSt) : Option Int32 :=
  (s_X6_isShelf p0 σ).bind fun r1 => (if r1 = (0 : Int32) then (some (-1 : Int32))
    else ((s_X6_isEmpty p0 σ).bind fun r2 => (if r2 = (0 : Int32) then ((s_X6_isRow p0 σ).bind fun r3 => (if r3 = (0 : Int32) then (some (-12 : Int32))
        else ((s_X6_hasPlaces p0 p1 (1 : Int32) σ).bind fun r4 => (if r4 = (0 : Int32) then (some (-13 : Int32))
          else (some (0 : Int32))))))
      else (some (-11 : Int32)))))
set_option maxHeartbeats 4000000 in
set_option maxRecDepth 100000 in
theorem z_X6_refusalOf (g : ZG) (p0 : Int32) (p1 : Int32) (σ : ZSt) : Zo g (mX6_refusalOf g 3) (fun b : Int32 => (some (.int b), zw σ)) (s_X6_refusalOf p0 p1 σ) 0 0 0 [some (.ref 51), some (.int p0), some (.int p1)] [] (zw σ) := by
  unfold s_X6_refusalOf
  refine Zo_aload0 dX6_refusalOf_0 ?_
  refine Zo_iload1 dX6_refusalOf_1 ?_
  refine Zo_cVI1 lk_X6_26 (e_X6_isShelf g _ _) kd_51 (zFit_rm (by decide)) (zle rfl) dX6_refusalOf_2 fun r1 => ?_
  refine Zo_ifne 10 dX6_refusalOf_5 (by decide) ?_ ?_
  · refine Zo_aload0 dX6_refusalOf_10 ?_
    refine Zo_iload1 dX6_refusalOf_11 ?_
    refine Zo_cVI1 lk_X6_36 (e_X6_isEmpty g _ _) kd_51 (zFit_rm (by decide)) (zle rfl) dX6_refusalOf_12 fun r2 => ?_
    refine Zo_ifeq 21 dX6_refusalOf_15 (by decide) ?_ ?_
    · refine Zo_aload0 dX6_refusalOf_21 ?_
      refine Zo_iload1 dX6_refusalOf_22 ?_
      refine Zo_cVI1 lk_X6_33 (e_X6_isRow g _ _) kd_51 (zFit_rm (by decide)) (zle rfl) dX6_refusalOf_23 fun r3 => ?_
      refine Zo_ifne 32 dX6_refusalOf_26 (by decide) ?_ ?_
      · refine Zo_aload0 dX6_refusalOf_32 ?_
        refine Zo_iload1 dX6_refusalOf_33 ?_
        refine Zo_iload2 dX6_refusalOf_34 ?_
        refine Zo_iconst (1 : Int32) dX6_refusalOf_35 ic_1 ?_
        refine Zo_cVI3 lk_X6_39 (e_X6_hasPlaces g _ _ _ _) kd_51 (zFit_rm (by decide)) (zle rfl) dX6_refusalOf_36 fun r4 => ?_
        refine Zo_ifeq 46 dX6_refusalOf_39 (by decide) ?_ ?_
        · refine Zo_bipush (-13 : Int32) dX6_refusalOf_46 bp_m13 ?_
          exact Zo_iret dX6_refusalOf_48 rfl rfl (Nat.le_refl _) (Nat.le_refl _)
        · refine Zo_iconst (0 : Int32) dX6_refusalOf_42 ic_0 ?_
          refine Zo_goto 48 dX6_refusalOf_43 (by decide) ?_
          exact Zo_iret dX6_refusalOf_48 rfl rfl (Nat.le_refl _) (Nat.le_refl _)
      · refine Zo_bipush (-12 : Int32) dX6_refusalOf_29 bp_m12 ?_
        exact Zo_iret dX6_refusalOf_31 rfl rfl (Nat.le_refl _) (Nat.le_refl _)
    · refine Zo_bipush (-11 : Int32) dX6_refusalOf_18 bp_m11 ?_
      exact Zo_iret dX6_refusalOf_20 rfl rfl (Nat.le_refl _) (Nat.le_refl _)
  · refine Zo_iconst (-1 : Int32) dX6_refusalOf_8 ic_m1 ?_
    exact Zo_iret dX6_refusalOf_9 rfl rfl (Nat.le_refl _) (Nat.le_refl _)
theorem e_X6_refusalOf (g : ZG) (p0 : Int32) (p1 : Int32) (σ : ZSt) : zEvI g 3 yX6_refusalOf cX6_refusalOf 3 (some .int) [.ref 51, .int p0, .int p1] σ (s_X6_refusalOf p0 p1 σ) :=
  zEvI_of 0 rfl rfl (z_X6_refusalOf g p0 p1 σ)
abbrev mX6_lowestBits (g : ZG) (q : Nat) : ZM := (yX6_lowestBits, cX6_lowestBits, 3, (some .long), zRm q 0 0, zTg g 0 0)
def s_X6_lowestBits (p0 : Int32) (p1 : Int64) (σ : ZSt) : Option Int64 :=
  if p0 = (0 : Int32) then (some (((p1.toInt32).toInt8.toInt32).toInt64))
    else (if p0 = (1 : Int32) then (some (((p1.toInt32).toInt16.toInt32).toInt64))
    else (if p0 = (2 : Int32) then (some ((p1.toInt32).toInt64))
    else (if p0 = (3 : Int32) then (some p1)
    else (if p0 = (4 : Int32) then (if (lg_cmp p1 (0 : Int64)) = (0 : Int32) then (some (0 : Int64))
      else (some (1 : Int64)))
    else (some p1)))))
set_option maxHeartbeats 4000000 in
set_option maxRecDepth 100000 in
theorem z_X6_lowestBits (g : ZG) (p0 : Int32) (p1 : Int64) (σ : ZSt) : Zo g (mX6_lowestBits g 0) (fun b : Int64 => (some (.long b), zw σ)) (s_X6_lowestBits p0 p1 σ) 0 0 0 [some (.int p0), some (.long p1), none] [] (zw σ) := by
  unfold s_X6_lowestBits
  refine Zo_iload0 dX6_lowestBits_0 ?_
  refine Zo_ite (fun hc0 => ?_) (fun hc0 => ?_)
  · refine Zo_tswC (off := 35) (0 : Int32) 36 hc0 dX6_lowestBits_1 (by decide) (by decide) (by decide) (by decide) ?_
    refine Zo_lload1 dX6_lowestBits_36 ?_
    refine Zo_l2i dX6_lowestBits_37 ?_
    refine Zo_i2b dX6_lowestBits_38 ?_
    refine Zo_i2l dX6_lowestBits_39 ?_
    exact Zo_lret dX6_lowestBits_40 rfl rfl (Nat.le_refl _) (Nat.le_refl _)
  refine Zo_ite (fun hc1 => ?_) (fun hc1 => ?_)
  · refine Zo_tswC (off := 40) (1 : Int32) 41 hc1 dX6_lowestBits_1 (by decide) (by decide) (by decide) (by decide) ?_
    refine Zo_lload1 dX6_lowestBits_41 ?_
    refine Zo_l2i dX6_lowestBits_42 ?_
    refine Zo_i2s dX6_lowestBits_43 ?_
    refine Zo_i2l dX6_lowestBits_44 ?_
    exact Zo_lret dX6_lowestBits_45 rfl rfl (Nat.le_refl _) (Nat.le_refl _)
  refine Zo_ite (fun hc2 => ?_) (fun hc2 => ?_)
  · refine Zo_tswC (off := 45) (2 : Int32) 46 hc2 dX6_lowestBits_1 (by decide) (by decide) (by decide) (by decide) ?_
    refine Zo_lload1 dX6_lowestBits_46 ?_
    refine Zo_l2i dX6_lowestBits_47 ?_
    refine Zo_i2l dX6_lowestBits_48 ?_
    exact Zo_lret dX6_lowestBits_49 rfl rfl (Nat.le_refl _) (Nat.le_refl _)
  refine Zo_ite (fun hc3 => ?_) (fun hc3 => ?_)
  · refine Zo_tswC (off := 61) (3 : Int32) 62 hc3 dX6_lowestBits_1 (by decide) (by decide) (by decide) (by decide) ?_
    refine Zo_lload1 dX6_lowestBits_62 ?_
    exact Zo_lret dX6_lowestBits_63 rfl rfl (Nat.le_refl _) (Nat.le_refl _)
  refine Zo_ite (fun hc4 => ?_) (fun hc4 => ?_)
  · refine Zo_tswC (off := 49) (4 : Int32) 50 hc4 dX6_lowestBits_1 (by decide) (by decide) (by decide) (by decide) ?_
    refine Zo_lload1 dX6_lowestBits_50 ?_
    refine Zo_lconst (0 : Int64) dX6_lowestBits_51 lc_0 ?_
    refine Zo_lcmp dX6_lowestBits_52 ?_
    refine Zo_ifeq 60 dX6_lowestBits_53 (by decide) ?_ ?_
    · refine Zo_lconst (0 : Int64) dX6_lowestBits_60 lc_0 ?_
      exact Zo_lret dX6_lowestBits_61 rfl rfl (Nat.le_refl _) (Nat.le_refl _)
    · refine Zo_lconst (1 : Int64) dX6_lowestBits_56 lc_1 ?_
      refine Zo_goto 61 dX6_lowestBits_57 (by decide) ?_
      exact Zo_lret dX6_lowestBits_61 rfl rfl (Nat.le_refl _) (Nat.le_refl _)
  refine Zo_tswOut 62 dX6_lowestBits_1 (by have a0 := zne_0 hc0; have a1 := zne_1 hc1; have a2 := zne_2 hc2; have a3 := zne_3 hc3; have a4 := zne_4 hc4; omega) (by decide) ?_
  refine Zo_lload1 dX6_lowestBits_62 ?_
  exact Zo_lret dX6_lowestBits_63 rfl rfl (Nat.le_refl _) (Nat.le_refl _)
theorem e_X6_lowestBits (g : ZG) (p0 : Int32) (p1 : Int64) (σ : ZSt) : zEvJ g 0 yX6_lowestBits cX6_lowestBits 3 (some .long) [.int p0, .long p1] σ (s_X6_lowestBits p0 p1 σ) :=
  zEvJ_of 0 rfl rfl (z_X6_lowestBits g p0 p1 σ)
abbrev mX6_set (g : ZG) (q : Nat) : ZM := (yX6_set, cX6_set, 5, none, zRm q 0 0, zTg g 0 0)
def s_X6_set (p0 : Int32) (p1 : Int32) (p2 : Int64) (σ : ZSt) : Option ZSt :=
  (s_X6_hasPlaces p0 p1 (1 : Int32) σ).bind fun r1 => (if r1 = (0 : Int32) then (some σ)
    else (zLd (zIn p0 6) (56 + p0.toNatClampNeg) fun j3 => (zLd (zIn p0 6) (σ.1 52 p0.toNatClampNeg) fun v4 => ((s_X6_lowestBits v4 p2 σ).bind fun r5 => (zSg (zIn p1 60) (zWE σ j3 p1.toNatClampNeg r5) fun σ6 => (some σ6))))))
set_option maxHeartbeats 4000000 in
set_option maxRecDepth 100000 in
theorem z_X6_set (g : ZG) (p0 : Int32) (p1 : Int32) (p2 : Int64) (σ : ZSt) : Zo g (mX6_set g 3) (fun b : ZSt => (none, zw b)) (s_X6_set p0 p1 p2 σ) 0 0 0 [some (.ref 51), some (.int p0), some (.int p1), some (.long p2), none] [] (zw σ) := by
  unfold s_X6_set
  refine Zo_aload0 dX6_set_0 ?_
  refine Zo_iload1 dX6_set_1 ?_
  refine Zo_iload2 dX6_set_2 ?_
  refine Zo_iconst (1 : Int32) dX6_set_3 ic_1 ?_
  refine Zo_cVI3 lk_X6_39 (e_X6_hasPlaces g _ _ _ _) kd_51 (zFit_rm (by decide)) (zle rfl) dX6_set_4 fun r1 => ?_
  refine Zo_ifeq 28 dX6_set_7 (by decide) ?_ ?_
  · exact Zo_vret dX6_set_28 rfl rfl (Nat.le_refl _) (Nat.le_refl _)
  · refine Zo_aload0 dX6_set_10 ?_
    refine Zo_getr (j := 55) fl_X6_23 kd_51 rfl dX6_set_11 ?_
    refine Zo_iload1 dX6_set_14 ?_
    refine Zo_aald55 dX6_set_15 fun j3 hj3 => ?_
    refine Zo_iload2 dX6_set_16 ?_
    refine Zo_aload0 dX6_set_17 ?_
    refine Zo_getr (j := 52) fl_X6_11 kd_51 rfl dX6_set_18 ?_
    show Zo g _ _ _ 0 0 21 _ _ _
    refine Zo_iload1 dX6_set_21 ?_
    refine Zo_iald kd_52 dX6_set_22 fun v4 => ?_
    refine Zo_lload3 dX6_set_23 ?_
    refine Zo_cSJ2 lk_X6_43 (e_X6_lowestBits g _ _ _) (zFit_rm (by decide)) (zle rfl) dX6_set_24 fun r5 => ?_
    refine Zo_last hj3 dX6_set_27 fun σ6 => ?_
    exact Zo_vret dX6_set_28 rfl rfl (Nat.le_refl _) (Nat.le_refl _)
theorem e_X6_set (g : ZG) (p0 : Int32) (p1 : Int32) (p2 : Int64) (σ : ZSt) : zEvV g 3 yX6_set cX6_set 5 none [.ref 51, .int p0, .int p1, .long p2] σ (s_X6_set p0 p1 p2 σ) :=
  zEvV_of 0 rfl rfl (z_X6_set g p0 p1 p2 σ)
abbrev mX6_areLikeRows (g : ZG) (q : Nat) : ZM := (yX6_areLikeRows, cX6_areLikeRows, 3, (some .boolean), zRm q 0 0, zTg g 0 0)
def s_X6_areLikeRows (p0 : Int32) (p1 : Int32) (σ : ZSt) : Option Int32 :=
  (s_X6_isRow p0 σ).bind fun r1 => (if r1 = (0 : Int32) then (some (0 : Int32))
    else ((s_X6_isRow p1 σ).bind fun r2 => (if r2 = (0 : Int32) then (some (0 : Int32))
      else (zLd (zIn p0 6) (σ.1 52 p0.toNatClampNeg) fun v3 => (zLd (zIn p1 6) (σ.1 52 p1.toNatClampNeg) fun v4 => (if v3 = v4 then (some (1 : Int32))
        else (some (0 : Int32))))))))
set_option maxHeartbeats 4000000 in
set_option maxRecDepth 100000 in
theorem z_X6_areLikeRows (g : ZG) (p0 : Int32) (p1 : Int32) (σ : ZSt) : Zo g (mX6_areLikeRows g 2) (fun b : Int32 => (some (.int b), zw σ)) (s_X6_areLikeRows p0 p1 σ) 0 0 0 [some (.ref 51), some (.int p0), some (.int p1)] [] (zw σ) := by
  unfold s_X6_areLikeRows
  refine Zo_aload0 dX6_areLikeRows_0 ?_
  refine Zo_iload1 dX6_areLikeRows_1 ?_
  refine Zo_cVI1 lk_X6_33 (e_X6_isRow g _ _) kd_51 (zFit_rm (by decide)) (zle rfl) dX6_areLikeRows_2 fun r1 => ?_
  refine Zo_ifeq 35 dX6_areLikeRows_5 (by decide) ?_ ?_
  · refine Zo_iconst (0 : Int32) dX6_areLikeRows_35 ic_0 ?_
    exact Zo_zret dX6_areLikeRows_36 rfl rfl (Or.inl rfl) (Nat.le_refl _) (Nat.le_refl _)
  · refine Zo_aload0 dX6_areLikeRows_8 ?_
    refine Zo_iload2 dX6_areLikeRows_9 ?_
    refine Zo_cVI1 lk_X6_33 (e_X6_isRow g _ _) kd_51 (zFit_rm (by decide)) (zle rfl) dX6_areLikeRows_10 fun r2 => ?_
    refine Zo_ifeq 35 dX6_areLikeRows_13 (by decide) ?_ ?_
    · refine Zo_iconst (0 : Int32) dX6_areLikeRows_35 ic_0 ?_
      exact Zo_zret dX6_areLikeRows_36 rfl rfl (Or.inl rfl) (Nat.le_refl _) (Nat.le_refl _)
    · refine Zo_aload0 dX6_areLikeRows_16 ?_
      refine Zo_getr (j := 52) fl_X6_11 kd_51 rfl dX6_areLikeRows_17 ?_
      refine Zo_iload1 dX6_areLikeRows_20 ?_
      refine Zo_iald kd_52 dX6_areLikeRows_21 fun v3 => ?_
      refine Zo_aload0 dX6_areLikeRows_22 ?_
      refine Zo_getr (j := 52) fl_X6_11 kd_51 rfl dX6_areLikeRows_23 ?_
      refine Zo_iload2 dX6_areLikeRows_26 ?_
      show Zo g _ _ _ 0 0 27 _ _ _
      refine Zo_iald kd_52 dX6_areLikeRows_27 fun v4 => ?_
      refine Zo_icmpne 35 dX6_areLikeRows_28 (by decide) ?_ ?_
      · refine Zo_iconst (0 : Int32) dX6_areLikeRows_35 ic_0 ?_
        exact Zo_zret dX6_areLikeRows_36 rfl rfl (Or.inl rfl) (Nat.le_refl _) (Nat.le_refl _)
      · refine Zo_iconst (1 : Int32) dX6_areLikeRows_31 ic_1 ?_
        refine Zo_goto 36 dX6_areLikeRows_32 (by decide) ?_
        exact Zo_zret dX6_areLikeRows_36 rfl rfl (Or.inr rfl) (Nat.le_refl _) (Nat.le_refl _)
theorem e_X6_areLikeRows (g : ZG) (p0 : Int32) (p1 : Int32) (σ : ZSt) : zEvI g 2 yX6_areLikeRows cX6_areLikeRows 3 (some .boolean) [.ref 51, .int p0, .int p1] σ (s_X6_areLikeRows p0 p1 σ) :=
  zEvI_of 0 rfl rfl (z_X6_areLikeRows g p0 p1 σ)
abbrev mX6_copy (g : ZG) (q : Nat) : ZM := (yX6_copy, cX6_copy, 6, none, zRm q 0 0, zTg g 0 0)
def s_X6_copy (p0 : Int32) (p1 : Int32) (p2 : Int32) (p3 : Int32) (p4 : Int32) (σ : ZSt) : Option ZSt :=
  (s_X6_hasPlaces p0 p1 p4 σ).bind fun r1 => (if r1 = (0 : Int32) then (some σ)
    else ((s_X6_hasPlaces p2 p3 p4 σ).bind fun r2 => (if r2 = (0 : Int32) then (some σ)
      else (zLd (zIn p0 6) (56 + p0.toNatClampNeg) fun j4 => (zLd (zIn p2 6) (56 + p2.toNatClampNeg) fun j6 => (zSg (zCpOk p1 p3 p4) (zCp σ j4 p1 j6 p3 p4) fun σ7 => (some σ7)))))))
set_option maxHeartbeats 4000000 in
set_option maxRecDepth 100000 in
theorem z_X6_copy (g : ZG) (p0 : Int32) (p1 : Int32) (p2 : Int32) (p3 : Int32) (p4 : Int32) (σ : ZSt) : Zo g (mX6_copy g 3) (fun b : ZSt => (none, zw b)) (s_X6_copy p0 p1 p2 p3 p4 σ) 0 0 0 [some (.ref 51), some (.int p0), some (.int p1), some (.int p2), some (.int p3), some (.int p4)] [] (zw σ) := by
  unfold s_X6_copy
  refine Zo_aload0 dX6_copy_0 ?_
  refine Zo_iload1 dX6_copy_1 ?_
  refine Zo_iload2 dX6_copy_2 ?_
  refine Zo_iload5 dX6_copy_3 ?_
  refine Zo_cVI3 lk_X6_39 (e_X6_hasPlaces g _ _ _ _) kd_51 (zFit_rm (by decide)) (zle rfl) dX6_copy_5 fun r1 => ?_
  refine Zo_ifeq 23 dX6_copy_8 (by decide) ?_ ?_
  · exact Zo_vret dX6_copy_23 rfl rfl (Nat.le_refl _) (Nat.le_refl _)
  · refine Zo_aload0 dX6_copy_11 ?_
    refine Zo_iload3 dX6_copy_12 ?_
    refine Zo_iload4 dX6_copy_13 ?_
    refine Zo_iload5 dX6_copy_15 ?_
    refine Zo_cVI3 lk_X6_39 (e_X6_hasPlaces g _ _ _ _) kd_51 (zFit_rm (by decide)) (zle rfl) dX6_copy_17 fun r2 => ?_
    refine Zo_ifne 24 dX6_copy_20 (by decide) ?_ ?_
    · refine Zo_aload0 dX6_copy_24 ?_
      refine Zo_getr (j := 55) fl_X6_23 kd_51 rfl dX6_copy_25 ?_
      refine Zo_iload1 dX6_copy_28 ?_
      refine Zo_aald55 dX6_copy_29 fun j4 hj4 => ?_
      refine Zo_iload2 dX6_copy_30 ?_
      refine Zo_aload0 dX6_copy_31 ?_
      refine Zo_getr (j := 55) fl_X6_23 kd_51 rfl dX6_copy_32 ?_
      show Zo g _ _ _ 0 0 35 _ _ _
      refine Zo_iload3 dX6_copy_35 ?_
      refine Zo_aald55 dX6_copy_36 fun j6 hj6 => ?_
      refine Zo_iload4 dX6_copy_37 ?_
      refine Zo_iload5 dX6_copy_39 ?_
      refine Zo_acopy hj4 hj6 dX6_copy_41 fun σ7 => ?_
      exact Zo_vret dX6_copy_44 rfl rfl (Nat.le_refl _) (Nat.le_refl _)
    · exact Zo_vret dX6_copy_23 rfl rfl (Nat.le_refl _) (Nat.le_refl _)
theorem e_X6_copy (g : ZG) (p0 : Int32) (p1 : Int32) (p2 : Int32) (p3 : Int32) (p4 : Int32) (σ : ZSt) : zEvV g 3 yX6_copy cX6_copy 6 none [.ref 51, .int p0, .int p1, .int p2, .int p3, .int p4] σ (s_X6_copy p0 p1 p2 p3 p4 σ) :=
  zEvV_of 0 rfl rfl (z_X6_copy g p0 p1 p2 p3 p4 σ)
abbrev mX6_bodyOn (g : ZG) (q : Nat) : ZM := (yX6_bodyOn, cX6_bodyOn, 2, (some .int), zRm q 0 0, zTg g 0 0)
def s_X6_bodyOn (p0 : Int32) (σ : ZSt) : Option Int32 :=
  (s_X6_isShelf p0 σ).bind fun r1 => (if r1 = (0 : Int32) then (some (-1 : Int32))
    else (zLd (zIn p0 6) (σ.1 52 p0.toNatClampNeg) fun v2 => (if v2 = (-2 : Int32) then (zLd (zIn p0 6) (σ.1 53 p0.toNatClampNeg) fun v3 => (some v3))
      else (some (-1 : Int32)))))
set_option maxHeartbeats 4000000 in
set_option maxRecDepth 100000 in
theorem z_X6_bodyOn (g : ZG) (p0 : Int32) (σ : ZSt) : Zo g (mX6_bodyOn g 1) (fun b : Int32 => (some (.int b), zw σ)) (s_X6_bodyOn p0 σ) 0 0 0 [some (.ref 51), some (.int p0)] [] (zw σ) := by
  unfold s_X6_bodyOn
  refine Zo_aload0 dX6_bodyOn_0 ?_
  refine Zo_iload1 dX6_bodyOn_1 ?_
  refine Zo_cVI1 lk_X6_26 (e_X6_isShelf g _ _) kd_51 (zFit_rm (by decide)) (zle rfl) dX6_bodyOn_2 fun r1 => ?_
  refine Zo_ifeq 28 dX6_bodyOn_5 (by decide) ?_ ?_
  · refine Zo_iconst (-1 : Int32) dX6_bodyOn_28 ic_m1 ?_
    exact Zo_iret dX6_bodyOn_29 rfl rfl (Nat.le_refl _) (Nat.le_refl _)
  · refine Zo_aload0 dX6_bodyOn_8 ?_
    refine Zo_getr (j := 52) fl_X6_11 kd_51 rfl dX6_bodyOn_9 ?_
    refine Zo_iload1 dX6_bodyOn_12 ?_
    refine Zo_iald kd_52 dX6_bodyOn_13 fun v2 => ?_
    refine Zo_bipush (-2 : Int32) dX6_bodyOn_14 bp_m2 ?_
    refine Zo_icmpne 28 dX6_bodyOn_16 (by decide) ?_ ?_
    · refine Zo_iconst (-1 : Int32) dX6_bodyOn_28 ic_m1 ?_
      exact Zo_iret dX6_bodyOn_29 rfl rfl (Nat.le_refl _) (Nat.le_refl _)
    · refine Zo_aload0 dX6_bodyOn_19 ?_
      refine Zo_getr (j := 53) fl_X6_15 kd_51 rfl dX6_bodyOn_20 ?_
      refine Zo_iload1 dX6_bodyOn_23 ?_
      refine Zo_iald kd_53 dX6_bodyOn_24 fun v3 => ?_
      refine Zo_goto 29 dX6_bodyOn_25 (by decide) ?_
      exact Zo_iret dX6_bodyOn_29 rfl rfl (Nat.le_refl _) (Nat.le_refl _)
theorem e_X6_bodyOn (g : ZG) (p0 : Int32) (σ : ZSt) : zEvI g 1 yX6_bodyOn cX6_bodyOn 2 (some .int) [.ref 51, .int p0] σ (s_X6_bodyOn p0 σ) :=
  zEvI_of 0 rfl rfl (z_X6_bodyOn g p0 σ)
