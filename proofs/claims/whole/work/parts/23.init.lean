theorem Zo_oeq {α : Type} {g : ZG} {M : ZM} {fin : α → Option Value × ZW} {o o' : Option α} {k n pc : Nat} {l : List (Option Value)} {st : List Value} {w : ZW} (h : o' = o) (kk : Zo g M fin o' k n pc l st w) : Zo g M fin o k n pc l st w := h ▸ kk
theorem bp_66 : (Int8.ofInt 66).toInt32 = (66 : Int32) := by decide
theorem sp_360 : (Int16.ofInt 360).toInt32 = (360 : Int32) := by decide
theorem oi_X9_1 : Cond.methodLink RX9 1 Lib.objectInit ∈ lw_tbl := List.mem_of_getElem? (i := 103) (by decide +kernel)
theorem cn_X9_7 : zCN RX9 7 7 15 := ⟨RX7, TX7, tyX7, rfl, rfl, zin_X7, List.mem_of_getElem? (i := 106) (by decide +kernel), List.mem_of_getElem? (i := 107) (by decide +kernel), List.mem_of_getElem? (i := 81) (by decide +kernel), tyX7_ok, by unfold zDf; decide +kernel⟩
theorem oi_X7_3 : Cond.methodLink RX7 3 Lib.objectInit ∈ lw_tbl := List.mem_of_getElem? (i := 111) (by decide +kernel)
theorem lki_X9_9 : zLkI RX9 9 yX7_init cX7_init 1 0 := ⟨⟨Or.inr ⟨"PaidElsewhere", List.mem_of_getElem? (i := 108) (by decide +kernel)⟩, List.mem_of_getElem? (i := 81) (by decide +kernel), List.mem_of_getElem? (i := 110) (by decide +kernel), ⟨by decide, by decide⟩, by decide +kernel, by decide⟩, List.mem_of_getElem? (i := 109) (by decide +kernel), rfl⟩
theorem cn_X9_16 : zCN RX9 16 5 1 := ⟨RX5, TX5, tyX5, rfl, rfl, zin_X5, List.mem_of_getElem? (i := 159) (by decide +kernel), List.mem_of_getElem? (i := 160) (by decide +kernel), List.mem_of_getElem? (i := 82) (by decide +kernel), tyX5_ok, by unfold zDf; decide +kernel⟩
theorem oi_X5_3 : Cond.methodLink RX5 3 Lib.objectInit ∈ lw_tbl := List.mem_of_getElem? (i := 164) (by decide +kernel)
theorem lki_X9_18 : zLkI RX9 18 yX5_init cX5_init 2 1 := ⟨⟨Or.inl (List.mem_of_getElem? (i := 161) (by decide +kernel)), List.mem_of_getElem? (i := 82) (by decide +kernel), List.mem_of_getElem? (i := 163) (by decide +kernel), ⟨by decide, by decide⟩, by decide +kernel, by decide⟩, List.mem_of_getElem? (i := 162) (by decide +kernel), rfl⟩
theorem cn_X9_25 : zCN RX9 25 2 5 := ⟨RX2, TX2, tyX2, rfl, rfl, zin_X2, List.mem_of_getElem? (i := 169) (by decide +kernel), List.mem_of_getElem? (i := 170) (by decide +kernel), List.mem_of_getElem? (i := 83) (by decide +kernel), tyX2_ok, by unfold zDf; decide +kernel⟩
theorem oi_X2_3 : Cond.methodLink RX2 3 Lib.objectInit ∈ lw_tbl := List.mem_of_getElem? (i := 174) (by decide +kernel)
theorem lki_X9_27 : zLkI RX9 27 yX2_init cX2_init 2 1 := ⟨⟨Or.inl (List.mem_of_getElem? (i := 171) (by decide +kernel)), List.mem_of_getElem? (i := 83) (by decide +kernel), List.mem_of_getElem? (i := 173) (by decide +kernel), ⟨by decide, by decide⟩, by decide +kernel, by decide⟩, List.mem_of_getElem? (i := 172) (by decide +kernel), rfl⟩
theorem cn_X9_32 : zCN RX9 32 8 16 := ⟨RX8, TX8, tyX8, rfl, rfl, zin_X8, List.mem_of_getElem? (i := 191) (by decide +kernel), List.mem_of_getElem? (i := 192) (by decide +kernel), List.mem_of_getElem? (i := 84) (by decide +kernel), tyX8_ok, by unfold zDf; decide +kernel⟩
theorem oi_X8_3 : Cond.methodLink RX8 3 Lib.objectInit ∈ lw_tbl := List.mem_of_getElem? (i := 196) (by decide +kernel)
theorem lki_X9_34 : zLkI RX9 34 yX8_init cX8_init 2 1 := ⟨⟨Or.inl (List.mem_of_getElem? (i := 193) (by decide +kernel)), List.mem_of_getElem? (i := 84) (by decide +kernel), List.mem_of_getElem? (i := 195) (by decide +kernel), ⟨by decide, by decide⟩, by decide +kernel, by decide⟩, List.mem_of_getElem? (i := 194) (by decide +kernel), rfl⟩
theorem cn_X9_42 : zCN RX9 42 1 6 := ⟨RX1, TX1, tyX1, rfl, rfl, zin_X1, List.mem_of_getElem? (i := 246) (by decide +kernel), List.mem_of_getElem? (i := 247) (by decide +kernel), List.mem_of_getElem? (i := 85) (by decide +kernel), tyX1_ok, by unfold zDf; decide +kernel⟩
theorem oi_X1_1 : Cond.methodLink RX1 1 Lib.objectInit ∈ lw_tbl := List.mem_of_getElem? (i := 251) (by decide +kernel)
theorem lki_X9_44 : zLkI RX9 44 yX1_init cX1_init 1 0 := ⟨⟨Or.inr ⟨"PaidElsewhere", List.mem_of_getElem? (i := 248) (by decide +kernel)⟩, List.mem_of_getElem? (i := 85) (by decide +kernel), List.mem_of_getElem? (i := 250) (by decide +kernel), ⟨by decide, by decide⟩, by decide +kernel, by decide⟩, List.mem_of_getElem? (i := 249) (by decide +kernel), rfl⟩
theorem cn_X9_49 : zCN RX9 49 3 4 := ⟨RX3, TX3, tyX3, rfl, rfl, zin_X3, List.mem_of_getElem? (i := 271) (by decide +kernel), List.mem_of_getElem? (i := 272) (by decide +kernel), List.mem_of_getElem? (i := 86) (by decide +kernel), tyX3_ok, by unfold zDf; decide +kernel⟩
theorem oi_X3_3 : Cond.methodLink RX3 3 Lib.objectInit ∈ lw_tbl := List.mem_of_getElem? (i := 276) (by decide +kernel)
theorem lki_X9_51 : zLkI RX9 51 yX3_init cX3_init 1 0 := ⟨⟨Or.inr ⟨"PaidElsewhere", List.mem_of_getElem? (i := 273) (by decide +kernel)⟩, List.mem_of_getElem? (i := 86) (by decide +kernel), List.mem_of_getElem? (i := 275) (by decide +kernel), ⟨by decide, by decide⟩, by decide +kernel, by decide⟩, List.mem_of_getElem? (i := 274) (by decide +kernel), rfl⟩
theorem cn_X9_56 : zCN RX9 56 0 5 := ⟨RX0, TX0, tyX0, rfl, rfl, zin_X0, List.mem_of_getElem? (i := 290) (by decide +kernel), List.mem_of_getElem? (i := 291) (by decide +kernel), List.mem_of_getElem? (i := 87) (by decide +kernel), tyX0_ok, by unfold zDf; decide +kernel⟩
theorem oi_X0_3 : Cond.methodLink RX0 3 Lib.objectInit ∈ lw_tbl := List.mem_of_getElem? (i := 295) (by decide +kernel)
theorem lki_X9_58 : zLkI RX9 58 yX0_init cX0_init 1 0 := ⟨⟨Or.inr ⟨"PaidElsewhere", List.mem_of_getElem? (i := 292) (by decide +kernel)⟩, List.mem_of_getElem? (i := 87) (by decide +kernel), List.mem_of_getElem? (i := 294) (by decide +kernel), ⟨by decide, by decide⟩, by decide +kernel, by decide⟩, List.mem_of_getElem? (i := 293) (by decide +kernel), rfl⟩
theorem cn_X9_63 : zCN RX9 63 6 4 := ⟨RX6, TX6, tyX6, rfl, rfl, zin_X6, List.mem_of_getElem? (i := 312) (by decide +kernel), List.mem_of_getElem? (i := 313) (by decide +kernel), List.mem_of_getElem? (i := 88) (by decide +kernel), tyX6_ok, by unfold zDf; decide +kernel⟩
theorem oi_X6_3 : Cond.methodLink RX6 3 Lib.objectInit ∈ lw_tbl := List.mem_of_getElem? (i := 317) (by decide +kernel)
theorem lki_X9_65 : zLkI RX9 65 yX6_init cX6_init 1 0 := ⟨⟨Or.inr ⟨"PaidElsewhere", List.mem_of_getElem? (i := 314) (by decide +kernel)⟩, List.mem_of_getElem? (i := 88) (by decide +kernel), List.mem_of_getElem? (i := 316) (by decide +kernel), ⟨by decide, by decide⟩, by decide +kernel, by decide⟩, List.mem_of_getElem? (i := 315) (by decide +kernel), rfl⟩
theorem cn_X9_70 : zCN RX9 70 4 4 := ⟨RX4, TX4, tyX4, rfl, rfl, zin_X4, List.mem_of_getElem? (i := 334) (by decide +kernel), List.mem_of_getElem? (i := 335) (by decide +kernel), List.mem_of_getElem? (i := 89) (by decide +kernel), tyX4_ok, by unfold zDf; decide +kernel⟩
theorem oi_X4_3 : Cond.methodLink RX4 3 Lib.objectInit ∈ lw_tbl := List.mem_of_getElem? (i := 339) (by decide +kernel)
theorem lki_X9_72 : zLkI RX9 72 yX4_init cX4_init 1 0 := ⟨⟨Or.inr ⟨"PaidElsewhere", List.mem_of_getElem? (i := 336) (by decide +kernel)⟩, List.mem_of_getElem? (i := 89) (by decide +kernel), List.mem_of_getElem? (i := 338) (by decide +kernel), ⟨by decide, by decide⟩, by decide +kernel, by decide⟩, List.mem_of_getElem? (i := 337) (by decide +kernel), rfl⟩
theorem oi_X10_3 : Cond.methodLink RX10 3 Lib.objectInit ∈ lw_tbl := List.mem_of_getElem? (i := 1210) (by decide +kernel)
def cR1 (R : ZRf) : ZRf := (zWR (zWR (zWR (zWR (zWR (zWR (zWR (zWR (zWR (zWR (zWR (zWR R 1 1 (some 2)) 1 2 (some 3)) 1 3 (some 4)) 1 4 (some 5)) 1 6 (some 6)) 1 7 (some 7)) 1 8 (some 8)) 1 9 (some 9)) 1 11 (some 10)) 1 12 (some 11)) 1 13 (some 12)) 1 14 (some 13))
def cS1 (σ : ZSt) : ZSt := σ
theorem fr_1 {R : ZRf} {σ : ZSt} (hz : zFr 2 R σ) : zFr 14 (cR1 R) (cS1 σ) := by
  have hz := hz.up (N' := 3) (by decide)
  have hz := hz.wr (k := 1) (f := 1) (v := some 2) (by decide)
  have hz := hz.up (N' := 4) (by decide)
  have hz := hz.wr (k := 1) (f := 2) (v := some 3) (by decide)
  have hz := hz.up (N' := 5) (by decide)
  have hz := hz.wr (k := 1) (f := 3) (v := some 4) (by decide)
  have hz := hz.up (N' := 6) (by decide)
  have hz := hz.wr (k := 1) (f := 4) (v := some 5) (by decide)
  have hz := hz.up (N' := 7) (by decide)
  have hz := hz.wr (k := 1) (f := 6) (v := some 6) (by decide)
  have hz := hz.up (N' := 8) (by decide)
  have hz := hz.wr (k := 1) (f := 7) (v := some 7) (by decide)
  have hz := hz.up (N' := 9) (by decide)
  have hz := hz.wr (k := 1) (f := 8) (v := some 8) (by decide)
  have hz := hz.up (N' := 10) (by decide)
  have hz := hz.wr (k := 1) (f := 9) (v := some 9) (by decide)
  have hz := hz.up (N' := 11) (by decide)
  have hz := hz.wr (k := 1) (f := 11) (v := some 10) (by decide)
  have hz := hz.up (N' := 12) (by decide)
  have hz := hz.wr (k := 1) (f := 12) (v := some 11) (by decide)
  have hz := hz.up (N' := 13) (by decide)
  have hz := hz.wr (k := 1) (f := 13) (v := some 12) (by decide)
  have hz := hz.up (N' := 14) (by decide)
  have hz := hz.wr (k := 1) (f := 14) (v := some 13) (by decide)
  exact hz
set_option maxHeartbeats 8000000 in
set_option maxRecDepth 100000 in
theorem c_1 (g : ZG) (R : ZRf) (σ : ZSt) (hz : zFr 2 R σ) : zEv g 0 12 176 yX7_init cX7_init 1 none [.ref 1] (2, R, σ) (none, (14, cR1 R, cS1 σ)) := by
  refine zEv_of 0 rfl rfl ?_
  have key : Zo g (yX7_init, cX7_init, 1, none, zRm 0 12 176, zTg g 12 176) (fun _ : Unit => (none, (14, cR1 R, cS1 σ))) (some ()) 0 0 0 [some (.ref 1)] [] (2, R, σ) := by
    refine Zo_aload0 dX7_init_0 ?_
    refine Zo_objInit oi_X7_3 (zle rfl) ⟨zle rfl, zle rfl⟩ dX7_init_1 ?_
    refine Zo_aload0 dX7_init_4 ?_
    refine Zo_bipush (6 : Int32) dX7_init_5 bp_6 ?_
    refine Zo_newi 6 (by decide) (by decide) kd_2 hz (fun f => by unfold z0; simp) (by decide) ⟨zle rfl, zle rfl⟩ dX7_init_7 ?_
    have hz := hz.up (N' := 3) (by decide)
    show Zo g _ _ _ 1 6 9 _ _ (3, _, _)
    refine Zo_putR fl_X7_9 rfl rfl (fun C T n h => by cases h; rfl) kd_1 (by decide) (by decide) dX7_init_9 ?_
    have hz := hz.wr (k := 1) (f := 1) (v := some 2) (by decide)
    show Zo g _ _ _ 1 6 12 _ _ (3, _, _)
    refine Zo_aload0 dX7_init_12 ?_
    refine Zo_bipush (6 : Int32) dX7_init_13 bp_6 ?_
    refine Zo_newi 6 (by decide) (by decide) kd_3 hz (fun f => by unfold z0; simp) (by decide) ⟨zle rfl, zle rfl⟩ dX7_init_15 ?_
    have hz := hz.up (N' := 4) (by decide)
    show Zo g _ _ _ 2 12 17 _ _ (4, _, _)
    refine Zo_putR fl_X7_15 rfl rfl (fun C T n h => by cases h; rfl) kd_1 (by decide) (by decide) dX7_init_17 ?_
    have hz := hz.wr (k := 1) (f := 2) (v := some 3) (by decide)
    show Zo g _ _ _ 2 12 20 _ _ (4, _, _)
    refine Zo_aload0 dX7_init_20 ?_
    refine Zo_bipush (6 : Int32) dX7_init_21 bp_6 ?_
    refine Zo_newi 6 (by decide) (by decide) kd_4 hz (fun f => by unfold z0; simp) (by decide) ⟨zle rfl, zle rfl⟩ dX7_init_23 ?_
    have hz := hz.up (N' := 5) (by decide)
    show Zo g _ _ _ 3 18 25 _ _ (5, _, _)
    refine Zo_putR fl_X7_18 rfl rfl (fun C T n h => by cases h; rfl) kd_1 (by decide) (by decide) dX7_init_25 ?_
    have hz := hz.wr (k := 1) (f := 3) (v := some 4) (by decide)
    show Zo g _ _ _ 3 18 28 _ _ (5, _, _)
    refine Zo_aload0 dX7_init_28 ?_
    refine Zo_bipush (6 : Int32) dX7_init_29 bp_6 ?_
    refine Zo_newi 6 (by decide) (by decide) kd_5 hz (fun f => by unfold z0; simp) (by decide) ⟨zle rfl, zle rfl⟩ dX7_init_31 ?_
    have hz := hz.up (N' := 6) (by decide)
    show Zo g _ _ _ 4 24 33 _ _ (6, _, _)
    refine Zo_putR fl_X7_21 rfl rfl (fun C T n h => by cases h; rfl) kd_1 (by decide) (by decide) dX7_init_33 ?_
    have hz := hz.wr (k := 1) (f := 4) (v := some 5) (by decide)
    show Zo g _ _ _ 4 24 36 _ _ (6, _, _)
    refine Zo_aload0 dX7_init_36 ?_
    refine Zo_bipush (30 : Int32) dX7_init_37 bp_30 ?_
    refine Zo_newi 30 (by decide) (by decide) kd_6 hz (fun f => by unfold z0; simp) (by decide) ⟨zle rfl, zle rfl⟩ dX7_init_39 ?_
    have hz := hz.up (N' := 7) (by decide)
    show Zo g _ _ _ 5 54 41 _ _ (7, _, _)
    refine Zo_putR fl_X7_24 rfl rfl (fun C T n h => by cases h; rfl) kd_1 (by decide) (by decide) dX7_init_41 ?_
    have hz := hz.wr (k := 1) (f := 6) (v := some 6) (by decide)
    show Zo g _ _ _ 5 54 44 _ _ (7, _, _)
    refine Zo_aload0 dX7_init_44 ?_
    refine Zo_bipush (30 : Int32) dX7_init_45 bp_30 ?_
    refine Zo_newi 30 (by decide) (by decide) kd_7 hz (fun f => by unfold z0; simp) (by decide) ⟨zle rfl, zle rfl⟩ dX7_init_47 ?_
    have hz := hz.up (N' := 8) (by decide)
    show Zo g _ _ _ 6 84 49 _ _ (8, _, _)
    refine Zo_putR fl_X7_27 rfl rfl (fun C T n h => by cases h; rfl) kd_1 (by decide) (by decide) dX7_init_49 ?_
    have hz := hz.wr (k := 1) (f := 7) (v := some 7) (by decide)
    show Zo g _ _ _ 6 84 52 _ _ (8, _, _)
    refine Zo_aload0 dX7_init_52 ?_
    refine Zo_bipush (30 : Int32) dX7_init_53 bp_30 ?_
    refine Zo_newi 30 (by decide) (by decide) kd_8 hz (fun f => by unfold z0; simp) (by decide) ⟨zle rfl, zle rfl⟩ dX7_init_55 ?_
    have hz := hz.up (N' := 9) (by decide)
    show Zo g _ _ _ 7 114 57 _ _ (9, _, _)
    refine Zo_putR fl_X7_30 rfl rfl (fun C T n h => by cases h; rfl) kd_1 (by decide) (by decide) dX7_init_57 ?_
    have hz := hz.wr (k := 1) (f := 8) (v := some 8) (by decide)
    show Zo g _ _ _ 7 114 60 _ _ (9, _, _)
    refine Zo_aload0 dX7_init_60 ?_
    refine Zo_bipush (30 : Int32) dX7_init_61 bp_30 ?_
    refine Zo_newi 30 (by decide) (by decide) kd_9 hz (fun f => by unfold z0; simp) (by decide) ⟨zle rfl, zle rfl⟩ dX7_init_63 ?_
    have hz := hz.up (N' := 10) (by decide)
    show Zo g _ _ _ 8 144 65 _ _ (10, _, _)
    refine Zo_putR fl_X7_33 rfl rfl (fun C T n h => by cases h; rfl) kd_1 (by decide) (by decide) dX7_init_65 ?_
    have hz := hz.wr (k := 1) (f := 9) (v := some 9) (by decide)
    show Zo g _ _ _ 8 144 68 _ _ (10, _, _)
    refine Zo_aload0 dX7_init_68 ?_
    refine Zo_bipush (8 : Int32) dX7_init_69 bp_8 ?_
    refine Zo_newi 8 (by decide) (by decide) kd_10 hz (fun f => by unfold z0; simp) (by decide) ⟨zle rfl, zle rfl⟩ dX7_init_71 ?_
    have hz := hz.up (N' := 11) (by decide)
    show Zo g _ _ _ 9 152 73 _ _ (11, _, _)
    refine Zo_putR fl_X7_36 rfl rfl (fun C T n h => by cases h; rfl) kd_1 (by decide) (by decide) dX7_init_73 ?_
    have hz := hz.wr (k := 1) (f := 11) (v := some 10) (by decide)
    show Zo g _ _ _ 9 152 76 _ _ (11, _, _)
    refine Zo_aload0 dX7_init_76 ?_
    refine Zo_bipush (8 : Int32) dX7_init_77 bp_8 ?_
    refine Zo_newi 8 (by decide) (by decide) kd_11 hz (fun f => by unfold z0; simp) (by decide) ⟨zle rfl, zle rfl⟩ dX7_init_79 ?_
    have hz := hz.up (N' := 12) (by decide)
    show Zo g _ _ _ 10 160 81 _ _ (12, _, _)
    refine Zo_putR fl_X7_39 rfl rfl (fun C T n h => by cases h; rfl) kd_1 (by decide) (by decide) dX7_init_81 ?_
    have hz := hz.wr (k := 1) (f := 12) (v := some 11) (by decide)
    show Zo g _ _ _ 10 160 84 _ _ (12, _, _)
    refine Zo_aload0 dX7_init_84 ?_
    refine Zo_bipush (8 : Int32) dX7_init_85 bp_8 ?_
    refine Zo_newi 8 (by decide) (by decide) kd_12 hz (fun f => by unfold z0; simp) (by decide) ⟨zle rfl, zle rfl⟩ dX7_init_87 ?_
    have hz := hz.up (N' := 13) (by decide)
    show Zo g _ _ _ 11 168 89 _ _ (13, _, _)
    refine Zo_putR fl_X7_42 rfl rfl (fun C T n h => by cases h; rfl) kd_1 (by decide) (by decide) dX7_init_89 ?_
    have hz := hz.wr (k := 1) (f := 13) (v := some 12) (by decide)
    show Zo g _ _ _ 11 168 92 _ _ (13, _, _)
    refine Zo_aload0 dX7_init_92 ?_
    refine Zo_bipush (8 : Int32) dX7_init_93 bp_8 ?_
    refine Zo_newi 8 (by decide) (by decide) kd_13 hz (fun f => by unfold z0; simp) (by decide) ⟨zle rfl, zle rfl⟩ dX7_init_95 ?_
    have hz := hz.up (N' := 14) (by decide)
    show Zo g _ _ _ 12 176 97 _ _ (14, _, _)
    refine Zo_putR fl_X7_45 rfl rfl (fun C T n h => by cases h; rfl) kd_1 (by decide) (by decide) dX7_init_97 ?_
    have hz := hz.wr (k := 1) (f := 14) (v := some 13) (by decide)
    show Zo g _ _ _ 12 176 100 _ _ (14, _, _)
    exact Zo_vret dX7_init_100 rfl rfl (Nat.le_refl _) (Nat.le_refl _)
  exact key () rfl
def cR14 (R : ZRf) : ZRf := (zWR R 14 0 (some 1))
def cS14 (σ : ZSt) : ZSt := σ
theorem fr_14 {R : ZRf} {σ : ZSt} (hz : zFr 15 R σ) : zFr 15 (cR14 R) (cS14 σ) := by
  have hz := hz.wr (k := 14) (f := 0) (v := some 1) (by decide)
  exact hz
set_option maxHeartbeats 8000000 in
set_option maxRecDepth 100000 in
theorem c_14 (g : ZG) (R : ZRf) (σ : ZSt) (hz : zFr 15 R σ) : zEv g 0 0 0 yX5_init cX5_init 2 none [.ref 14, .ref 1] (15, R, σ) (none, (15, cR14 R, cS14 σ)) := by
  refine zEv_of 0 rfl rfl ?_
  have key : Zo g (yX5_init, cX5_init, 2, none, zRm 0 0 0, zTg g 0 0) (fun _ : Unit => (none, (15, cR14 R, cS14 σ))) (some ()) 0 0 0 [some (.ref 14), some (.ref 1)] [] (15, R, σ) := by
    refine Zo_aload0 dX5_init_0 ?_
    refine Zo_objInit oi_X5_3 (zle rfl) ⟨zle rfl, zle rfl⟩ dX5_init_1 ?_
    refine Zo_aload0 dX5_init_4 ?_
    refine Zo_aload1 dX5_init_5 ?_
    refine Zo_putR fl_X5_9 rfl rfl (fun C T n h => by cases h; rfl) kd_14 (by decide) (by decide) dX5_init_6 ?_
    have hz := hz.wr (k := 14) (f := 0) (v := some 1) (by decide)
    show Zo g _ _ _ 0 0 9 _ _ (15, _, _)
    exact Zo_vret dX5_init_9 rfl rfl (Nat.le_refl _) (Nat.le_refl _)
  exact key () rfl
def cR15 (R : ZRf) : ZRf := (zWR (zWR (zWR (zWR R 15 1 (some 16)) 15 2 (some 17)) 15 3 (some 18)) 15 0 (some 1))
def cS15 (σ : ZSt) : ZSt := σ
theorem fr_15 {R : ZRf} {σ : ZSt} (hz : zFr 16 R σ) : zFr 19 (cR15 R) (cS15 σ) := by
  have hz := hz.up (N' := 17) (by decide)
  have hz := hz.wr (k := 15) (f := 1) (v := some 16) (by decide)
  have hz := hz.up (N' := 18) (by decide)
  have hz := hz.wr (k := 15) (f := 2) (v := some 17) (by decide)
  have hz := hz.up (N' := 19) (by decide)
  have hz := hz.wr (k := 15) (f := 3) (v := some 18) (by decide)
  have hz := hz.wr (k := 15) (f := 0) (v := some 1) (by decide)
  exact hz
set_option maxHeartbeats 8000000 in
set_option maxRecDepth 100000 in
theorem c_15 (g : ZG) (R : ZRf) (σ : ZSt) (hz : zFr 16 R σ) : zEv g 0 3 90 yX2_init cX2_init 2 none [.ref 15, .ref 1] (16, R, σ) (none, (19, cR15 R, cS15 σ)) := by
  refine zEv_of 0 rfl rfl ?_
  have key : Zo g (yX2_init, cX2_init, 2, none, zRm 0 3 90, zTg g 3 90) (fun _ : Unit => (none, (19, cR15 R, cS15 σ))) (some ()) 0 0 0 [some (.ref 15), some (.ref 1)] [] (16, R, σ) := by
    refine Zo_aload0 dX2_init_0 ?_
    refine Zo_objInit oi_X2_3 (zle rfl) ⟨zle rfl, zle rfl⟩ dX2_init_1 ?_
    refine Zo_aload0 dX2_init_4 ?_
    refine Zo_bipush (30 : Int32) dX2_init_5 bp_30 ?_
    refine Zo_newi 30 (by decide) (by decide) kd_16 hz (fun f => by unfold z0; simp) (by decide) ⟨zle rfl, zle rfl⟩ dX2_init_7 ?_
    have hz := hz.up (N' := 17) (by decide)
    show Zo g _ _ _ 1 30 9 _ _ (17, _, _)
    refine Zo_putR fl_X2_9 rfl rfl (fun C T n h => by cases h; rfl) kd_15 (by decide) (by decide) dX2_init_9 ?_
    have hz := hz.wr (k := 15) (f := 1) (v := some 16) (by decide)
    show Zo g _ _ _ 1 30 12 _ _ (17, _, _)
    refine Zo_aload0 dX2_init_12 ?_
    refine Zo_bipush (30 : Int32) dX2_init_13 bp_30 ?_
    refine Zo_newi 30 (by decide) (by decide) kd_17 hz (fun f => by unfold z0; simp) (by decide) ⟨zle rfl, zle rfl⟩ dX2_init_15 ?_
    have hz := hz.up (N' := 18) (by decide)
    show Zo g _ _ _ 2 60 17 _ _ (18, _, _)
    refine Zo_putR fl_X2_15 rfl rfl (fun C T n h => by cases h; rfl) kd_15 (by decide) (by decide) dX2_init_17 ?_
    have hz := hz.wr (k := 15) (f := 2) (v := some 17) (by decide)
    show Zo g _ _ _ 2 60 20 _ _ (18, _, _)
    refine Zo_aload0 dX2_init_20 ?_
    refine Zo_bipush (30 : Int32) dX2_init_21 bp_30 ?_
    refine Zo_newi 30 (by decide) (by decide) kd_18 hz (fun f => by unfold z0; simp) (by decide) ⟨zle rfl, zle rfl⟩ dX2_init_23 ?_
    have hz := hz.up (N' := 19) (by decide)
    show Zo g _ _ _ 3 90 25 _ _ (19, _, _)
    refine Zo_putR fl_X2_18 rfl rfl (fun C T n h => by cases h; rfl) kd_15 (by decide) (by decide) dX2_init_25 ?_
    have hz := hz.wr (k := 15) (f := 3) (v := some 18) (by decide)
    show Zo g _ _ _ 3 90 28 _ _ (19, _, _)
    refine Zo_aload0 dX2_init_28 ?_
    refine Zo_aload1 dX2_init_29 ?_
    refine Zo_putR fl_X2_21 rfl rfl (fun C T n h => by cases h; rfl) kd_15 (by decide) (by decide) dX2_init_30 ?_
    have hz := hz.wr (k := 15) (f := 0) (v := some 1) (by decide)
    show Zo g _ _ _ 3 90 33 _ _ (19, _, _)
    exact Zo_vret dX2_init_33 rfl rfl (Nat.le_refl _) (Nat.le_refl _)
  exact key () rfl
def cR19 (R : ZRf) : ZRf := (zWR (zWR (zWR (zWR (zWR (zWR (zWR (zWR (zWR (zWR (zWR R 19 1 (some 20)) 19 2 (some 21)) 19 3 (some 22)) 19 4 (some 23)) 19 5 (some 24)) 19 6 (some 25)) 19 7 (some 26)) 19 8 (some 27)) 19 9 (some 28)) 19 10 (some 29)) 19 0 (some 1))
def cS19 (σ : ZSt) : ZSt := σ
theorem fr_19 {R : ZRf} {σ : ZSt} (hz : zFr 20 R σ) : zFr 30 (cR19 R) (cS19 σ) := by
  have hz := hz.up (N' := 21) (by decide)
  have hz := hz.wr (k := 19) (f := 1) (v := some 20) (by decide)
  have hz := hz.up (N' := 22) (by decide)
  have hz := hz.wr (k := 19) (f := 2) (v := some 21) (by decide)
  have hz := hz.up (N' := 23) (by decide)
  have hz := hz.wr (k := 19) (f := 3) (v := some 22) (by decide)
  have hz := hz.up (N' := 24) (by decide)
  have hz := hz.wr (k := 19) (f := 4) (v := some 23) (by decide)
  have hz := hz.up (N' := 25) (by decide)
  have hz := hz.wr (k := 19) (f := 5) (v := some 24) (by decide)
  have hz := hz.up (N' := 26) (by decide)
  have hz := hz.wr (k := 19) (f := 6) (v := some 25) (by decide)
  have hz := hz.up (N' := 27) (by decide)
  have hz := hz.wr (k := 19) (f := 7) (v := some 26) (by decide)
  have hz := hz.up (N' := 28) (by decide)
  have hz := hz.wr (k := 19) (f := 8) (v := some 27) (by decide)
  have hz := hz.up (N' := 29) (by decide)
  have hz := hz.wr (k := 19) (f := 9) (v := some 28) (by decide)
  have hz := hz.up (N' := 30) (by decide)
  have hz := hz.wr (k := 19) (f := 10) (v := some 29) (by decide)
  have hz := hz.wr (k := 19) (f := 0) (v := some 1) (by decide)
  exact hz
set_option maxHeartbeats 8000000 in
set_option maxRecDepth 100000 in
theorem c_19 (g : ZG) (R : ZRf) (σ : ZSt) (hz : zFr 20 R σ) : zEv g 0 10 122 yX8_init cX8_init 2 none [.ref 19, .ref 1] (20, R, σ) (none, (30, cR19 R, cS19 σ)) := by
  refine zEv_of 0 rfl rfl ?_
  have key : Zo g (yX8_init, cX8_init, 2, none, zRm 0 10 122, zTg g 10 122) (fun _ : Unit => (none, (30, cR19 R, cS19 σ))) (some ()) 0 0 0 [some (.ref 19), some (.ref 1)] [] (20, R, σ) := by
    refine Zo_aload0 dX8_init_0 ?_
    refine Zo_objInit oi_X8_3 (zle rfl) ⟨zle rfl, zle rfl⟩ dX8_init_1 ?_
    refine Zo_aload0 dX8_init_4 ?_
    refine Zo_bipush (6 : Int32) dX8_init_5 bp_6 ?_
    refine Zo_newi 6 (by decide) (by decide) kd_20 hz (fun f => by unfold z0; simp) (by decide) ⟨zle rfl, zle rfl⟩ dX8_init_7 ?_
    have hz := hz.up (N' := 21) (by decide)
    show Zo g _ _ _ 1 6 9 _ _ (21, _, _)
    refine Zo_putR fl_X8_9 rfl rfl (fun C T n h => by cases h; rfl) kd_19 (by decide) (by decide) dX8_init_9 ?_
    have hz := hz.wr (k := 19) (f := 1) (v := some 20) (by decide)
    show Zo g _ _ _ 1 6 12 _ _ (21, _, _)
    refine Zo_aload0 dX8_init_12 ?_
    refine Zo_bipush (6 : Int32) dX8_init_13 bp_6 ?_
    refine Zo_newi 6 (by decide) (by decide) kd_21 hz (fun f => by unfold z0; simp) (by decide) ⟨zle rfl, zle rfl⟩ dX8_init_15 ?_
    have hz := hz.up (N' := 22) (by decide)
    show Zo g _ _ _ 2 12 17 _ _ (22, _, _)
    refine Zo_putR fl_X8_15 rfl rfl (fun C T n h => by cases h; rfl) kd_19 (by decide) (by decide) dX8_init_17 ?_
    have hz := hz.wr (k := 19) (f := 2) (v := some 21) (by decide)
    show Zo g _ _ _ 2 12 20 _ _ (22, _, _)
    refine Zo_aload0 dX8_init_20 ?_
    refine Zo_bipush (6 : Int32) dX8_init_21 bp_6 ?_
    refine Zo_newi 6 (by decide) (by decide) kd_22 hz (fun f => by unfold z0; simp) (by decide) ⟨zle rfl, zle rfl⟩ dX8_init_23 ?_
    have hz := hz.up (N' := 23) (by decide)
    show Zo g _ _ _ 3 18 25 _ _ (23, _, _)
    refine Zo_putR fl_X8_18 rfl rfl (fun C T n h => by cases h; rfl) kd_19 (by decide) (by decide) dX8_init_25 ?_
    have hz := hz.wr (k := 19) (f := 3) (v := some 22) (by decide)
    show Zo g _ _ _ 3 18 28 _ _ (23, _, _)
    refine Zo_aload0 dX8_init_28 ?_
    refine Zo_bipush (6 : Int32) dX8_init_29 bp_6 ?_
    refine Zo_newi 6 (by decide) (by decide) kd_23 hz (fun f => by unfold z0; simp) (by decide) ⟨zle rfl, zle rfl⟩ dX8_init_31 ?_
    have hz := hz.up (N' := 24) (by decide)
    show Zo g _ _ _ 4 24 33 _ _ (24, _, _)
    refine Zo_putR fl_X8_21 rfl rfl (fun C T n h => by cases h; rfl) kd_19 (by decide) (by decide) dX8_init_33 ?_
    have hz := hz.wr (k := 19) (f := 4) (v := some 23) (by decide)
    show Zo g _ _ _ 4 24 36 _ _ (24, _, _)
    refine Zo_aload0 dX8_init_36 ?_
    refine Zo_bipush (6 : Int32) dX8_init_37 bp_6 ?_
    refine Zo_newi 6 (by decide) (by decide) kd_24 hz (fun f => by unfold z0; simp) (by decide) ⟨zle rfl, zle rfl⟩ dX8_init_39 ?_
    have hz := hz.up (N' := 25) (by decide)
    show Zo g _ _ _ 5 30 41 _ _ (25, _, _)
    refine Zo_putR fl_X8_24 rfl rfl (fun C T n h => by cases h; rfl) kd_19 (by decide) (by decide) dX8_init_41 ?_
    have hz := hz.wr (k := 19) (f := 5) (v := some 24) (by decide)
    show Zo g _ _ _ 5 30 44 _ _ (25, _, _)
    refine Zo_aload0 dX8_init_44 ?_
    refine Zo_bipush (8 : Int32) dX8_init_45 bp_8 ?_
    refine Zo_newi 8 (by decide) (by decide) kd_25 hz (fun f => by unfold z0; simp) (by decide) ⟨zle rfl, zle rfl⟩ dX8_init_47 ?_
    have hz := hz.up (N' := 26) (by decide)
    show Zo g _ _ _ 6 38 49 _ _ (26, _, _)
    refine Zo_putR fl_X8_27 rfl rfl (fun C T n h => by cases h; rfl) kd_19 (by decide) (by decide) dX8_init_49 ?_
    have hz := hz.wr (k := 19) (f := 6) (v := some 25) (by decide)
    show Zo g _ _ _ 6 38 52 _ _ (26, _, _)
    refine Zo_aload0 dX8_init_52 ?_
    refine Zo_bipush (8 : Int32) dX8_init_53 bp_8 ?_
    refine Zo_newi 8 (by decide) (by decide) kd_26 hz (fun f => by unfold z0; simp) (by decide) ⟨zle rfl, zle rfl⟩ dX8_init_55 ?_
    have hz := hz.up (N' := 27) (by decide)
    show Zo g _ _ _ 7 46 57 _ _ (27, _, _)
    refine Zo_putR fl_X8_30 rfl rfl (fun C T n h => by cases h; rfl) kd_19 (by decide) (by decide) dX8_init_57 ?_
    have hz := hz.wr (k := 19) (f := 7) (v := some 26) (by decide)
    show Zo g _ _ _ 7 46 60 _ _ (27, _, _)
    refine Zo_aload0 dX8_init_60 ?_
    refine Zo_bipush (8 : Int32) dX8_init_61 bp_8 ?_
    refine Zo_newi 8 (by decide) (by decide) kd_27 hz (fun f => by unfold z0; simp) (by decide) ⟨zle rfl, zle rfl⟩ dX8_init_63 ?_
    have hz := hz.up (N' := 28) (by decide)
    show Zo g _ _ _ 8 54 65 _ _ (28, _, _)
    refine Zo_putR fl_X8_33 rfl rfl (fun C T n h => by cases h; rfl) kd_19 (by decide) (by decide) dX8_init_65 ?_
    have hz := hz.wr (k := 19) (f := 8) (v := some 27) (by decide)
    show Zo g _ _ _ 8 54 68 _ _ (28, _, _)
    refine Zo_aload0 dX8_init_68 ?_
    refine Zo_bipush (8 : Int32) dX8_init_69 bp_8 ?_
    refine Zo_newi 8 (by decide) (by decide) kd_28 hz (fun f => by unfold z0; simp) (by decide) ⟨zle rfl, zle rfl⟩ dX8_init_71 ?_
    have hz := hz.up (N' := 29) (by decide)
    show Zo g _ _ _ 9 62 73 _ _ (29, _, _)
    refine Zo_putR fl_X8_36 rfl rfl (fun C T n h => by cases h; rfl) kd_19 (by decide) (by decide) dX8_init_73 ?_
    have hz := hz.wr (k := 19) (f := 9) (v := some 28) (by decide)
    show Zo g _ _ _ 9 62 76 _ _ (29, _, _)
    refine Zo_aload0 dX8_init_76 ?_
    refine Zo_bipush (60 : Int32) dX8_init_77 bp_60 ?_
    refine Zo_newi 60 (by decide) (by decide) kd_29 hz (fun f => by unfold z0; simp) (by decide) ⟨zle rfl, zle rfl⟩ dX8_init_79 ?_
    have hz := hz.up (N' := 30) (by decide)
    show Zo g _ _ _ 10 122 81 _ _ (30, _, _)
    refine Zo_putR fl_X8_39 rfl rfl (fun C T n h => by cases h; rfl) kd_19 (by decide) (by decide) dX8_init_81 ?_
    have hz := hz.wr (k := 19) (f := 10) (v := some 29) (by decide)
    show Zo g _ _ _ 10 122 84 _ _ (30, _, _)
    refine Zo_aload0 dX8_init_84 ?_
    refine Zo_aload1 dX8_init_85 ?_
    refine Zo_putR fl_X8_42 rfl rfl (fun C T n h => by cases h; rfl) kd_19 (by decide) (by decide) dX8_init_86 ?_
    have hz := hz.wr (k := 19) (f := 0) (v := some 1) (by decide)
    show Zo g _ _ _ 10 122 89 _ _ (30, _, _)
    exact Zo_vret dX8_init_89 rfl rfl (Nat.le_refl _) (Nat.le_refl _)
  exact key () rfl
def cR30 (R : ZRf) : ZRf := (zWR (zWR (zWR (zWR (zWR (zWR (zWR (zWR (zWR (zWR (zWR R 30 1 (some 31)) 30 2 (some 32)) 30 3 (some 33)) 30 4 (some 34)) 30 5 (some 35)) 30 6 (some 36)) 30 7 (some 37)) 30 8 (some 38)) 30 9 (some 39)) 30 10 (some 40)) 30 0 (some 1))
def cS30 (σ : ZSt) : ZSt := σ
theorem fr_30 {R : ZRf} {σ : ZSt} (hz : zFr 31 R σ) : zFr 41 (cR30 R) (cS30 σ) := by
  have hz := hz.up (N' := 32) (by decide)
  have hz := hz.wr (k := 30) (f := 1) (v := some 31) (by decide)
  have hz := hz.up (N' := 33) (by decide)
  have hz := hz.wr (k := 30) (f := 2) (v := some 32) (by decide)
  have hz := hz.up (N' := 34) (by decide)
  have hz := hz.wr (k := 30) (f := 3) (v := some 33) (by decide)
  have hz := hz.up (N' := 35) (by decide)
  have hz := hz.wr (k := 30) (f := 4) (v := some 34) (by decide)
  have hz := hz.up (N' := 36) (by decide)
  have hz := hz.wr (k := 30) (f := 5) (v := some 35) (by decide)
  have hz := hz.up (N' := 37) (by decide)
  have hz := hz.wr (k := 30) (f := 6) (v := some 36) (by decide)
  have hz := hz.up (N' := 38) (by decide)
  have hz := hz.wr (k := 30) (f := 7) (v := some 37) (by decide)
  have hz := hz.up (N' := 39) (by decide)
  have hz := hz.wr (k := 30) (f := 8) (v := some 38) (by decide)
  have hz := hz.up (N' := 40) (by decide)
  have hz := hz.wr (k := 30) (f := 9) (v := some 39) (by decide)
  have hz := hz.up (N' := 41) (by decide)
  have hz := hz.wr (k := 30) (f := 10) (v := some 40) (by decide)
  have hz := hz.wr (k := 30) (f := 0) (v := some 1) (by decide)
  exact hz
set_option maxHeartbeats 8000000 in
set_option maxRecDepth 100000 in
theorem c_30 (g : ZG) (R : ZRf) (σ : ZSt) (hz : zFr 31 R σ) : zEv g 0 10 122 yX8_init cX8_init 2 none [.ref 30, .ref 1] (31, R, σ) (none, (41, cR30 R, cS30 σ)) := by
  refine zEv_of 0 rfl rfl ?_
  have key : Zo g (yX8_init, cX8_init, 2, none, zRm 0 10 122, zTg g 10 122) (fun _ : Unit => (none, (41, cR30 R, cS30 σ))) (some ()) 0 0 0 [some (.ref 30), some (.ref 1)] [] (31, R, σ) := by
    refine Zo_aload0 dX8_init_0 ?_
    refine Zo_objInit oi_X8_3 (zle rfl) ⟨zle rfl, zle rfl⟩ dX8_init_1 ?_
    refine Zo_aload0 dX8_init_4 ?_
    refine Zo_bipush (6 : Int32) dX8_init_5 bp_6 ?_
    refine Zo_newi 6 (by decide) (by decide) kd_31 hz (fun f => by unfold z0; simp) (by decide) ⟨zle rfl, zle rfl⟩ dX8_init_7 ?_
    have hz := hz.up (N' := 32) (by decide)
    show Zo g _ _ _ 1 6 9 _ _ (32, _, _)
    refine Zo_putR fl_X8_9 rfl rfl (fun C T n h => by cases h; rfl) kd_30 (by decide) (by decide) dX8_init_9 ?_
    have hz := hz.wr (k := 30) (f := 1) (v := some 31) (by decide)
    show Zo g _ _ _ 1 6 12 _ _ (32, _, _)
    refine Zo_aload0 dX8_init_12 ?_
    refine Zo_bipush (6 : Int32) dX8_init_13 bp_6 ?_
    refine Zo_newi 6 (by decide) (by decide) kd_32 hz (fun f => by unfold z0; simp) (by decide) ⟨zle rfl, zle rfl⟩ dX8_init_15 ?_
    have hz := hz.up (N' := 33) (by decide)
    show Zo g _ _ _ 2 12 17 _ _ (33, _, _)
    refine Zo_putR fl_X8_15 rfl rfl (fun C T n h => by cases h; rfl) kd_30 (by decide) (by decide) dX8_init_17 ?_
    have hz := hz.wr (k := 30) (f := 2) (v := some 32) (by decide)
    show Zo g _ _ _ 2 12 20 _ _ (33, _, _)
    refine Zo_aload0 dX8_init_20 ?_
    refine Zo_bipush (6 : Int32) dX8_init_21 bp_6 ?_
    refine Zo_newi 6 (by decide) (by decide) kd_33 hz (fun f => by unfold z0; simp) (by decide) ⟨zle rfl, zle rfl⟩ dX8_init_23 ?_
    have hz := hz.up (N' := 34) (by decide)
    show Zo g _ _ _ 3 18 25 _ _ (34, _, _)
    refine Zo_putR fl_X8_18 rfl rfl (fun C T n h => by cases h; rfl) kd_30 (by decide) (by decide) dX8_init_25 ?_
    have hz := hz.wr (k := 30) (f := 3) (v := some 33) (by decide)
    show Zo g _ _ _ 3 18 28 _ _ (34, _, _)
    refine Zo_aload0 dX8_init_28 ?_
    refine Zo_bipush (6 : Int32) dX8_init_29 bp_6 ?_
    refine Zo_newi 6 (by decide) (by decide) kd_34 hz (fun f => by unfold z0; simp) (by decide) ⟨zle rfl, zle rfl⟩ dX8_init_31 ?_
    have hz := hz.up (N' := 35) (by decide)
    show Zo g _ _ _ 4 24 33 _ _ (35, _, _)
    refine Zo_putR fl_X8_21 rfl rfl (fun C T n h => by cases h; rfl) kd_30 (by decide) (by decide) dX8_init_33 ?_
    have hz := hz.wr (k := 30) (f := 4) (v := some 34) (by decide)
    show Zo g _ _ _ 4 24 36 _ _ (35, _, _)
    refine Zo_aload0 dX8_init_36 ?_
    refine Zo_bipush (6 : Int32) dX8_init_37 bp_6 ?_
    refine Zo_newi 6 (by decide) (by decide) kd_35 hz (fun f => by unfold z0; simp) (by decide) ⟨zle rfl, zle rfl⟩ dX8_init_39 ?_
    have hz := hz.up (N' := 36) (by decide)
    show Zo g _ _ _ 5 30 41 _ _ (36, _, _)
    refine Zo_putR fl_X8_24 rfl rfl (fun C T n h => by cases h; rfl) kd_30 (by decide) (by decide) dX8_init_41 ?_
    have hz := hz.wr (k := 30) (f := 5) (v := some 35) (by decide)
    show Zo g _ _ _ 5 30 44 _ _ (36, _, _)
    refine Zo_aload0 dX8_init_44 ?_
    refine Zo_bipush (8 : Int32) dX8_init_45 bp_8 ?_
    refine Zo_newi 8 (by decide) (by decide) kd_36 hz (fun f => by unfold z0; simp) (by decide) ⟨zle rfl, zle rfl⟩ dX8_init_47 ?_
    have hz := hz.up (N' := 37) (by decide)
    show Zo g _ _ _ 6 38 49 _ _ (37, _, _)
    refine Zo_putR fl_X8_27 rfl rfl (fun C T n h => by cases h; rfl) kd_30 (by decide) (by decide) dX8_init_49 ?_
    have hz := hz.wr (k := 30) (f := 6) (v := some 36) (by decide)
    show Zo g _ _ _ 6 38 52 _ _ (37, _, _)
    refine Zo_aload0 dX8_init_52 ?_
    refine Zo_bipush (8 : Int32) dX8_init_53 bp_8 ?_
    refine Zo_newi 8 (by decide) (by decide) kd_37 hz (fun f => by unfold z0; simp) (by decide) ⟨zle rfl, zle rfl⟩ dX8_init_55 ?_
    have hz := hz.up (N' := 38) (by decide)
    show Zo g _ _ _ 7 46 57 _ _ (38, _, _)
    refine Zo_putR fl_X8_30 rfl rfl (fun C T n h => by cases h; rfl) kd_30 (by decide) (by decide) dX8_init_57 ?_
    have hz := hz.wr (k := 30) (f := 7) (v := some 37) (by decide)
    show Zo g _ _ _ 7 46 60 _ _ (38, _, _)
    refine Zo_aload0 dX8_init_60 ?_
    refine Zo_bipush (8 : Int32) dX8_init_61 bp_8 ?_
    refine Zo_newi 8 (by decide) (by decide) kd_38 hz (fun f => by unfold z0; simp) (by decide) ⟨zle rfl, zle rfl⟩ dX8_init_63 ?_
    have hz := hz.up (N' := 39) (by decide)
    show Zo g _ _ _ 8 54 65 _ _ (39, _, _)
    refine Zo_putR fl_X8_33 rfl rfl (fun C T n h => by cases h; rfl) kd_30 (by decide) (by decide) dX8_init_65 ?_
    have hz := hz.wr (k := 30) (f := 8) (v := some 38) (by decide)
    show Zo g _ _ _ 8 54 68 _ _ (39, _, _)
    refine Zo_aload0 dX8_init_68 ?_
    refine Zo_bipush (8 : Int32) dX8_init_69 bp_8 ?_
    refine Zo_newi 8 (by decide) (by decide) kd_39 hz (fun f => by unfold z0; simp) (by decide) ⟨zle rfl, zle rfl⟩ dX8_init_71 ?_
    have hz := hz.up (N' := 40) (by decide)
    show Zo g _ _ _ 9 62 73 _ _ (40, _, _)
    refine Zo_putR fl_X8_36 rfl rfl (fun C T n h => by cases h; rfl) kd_30 (by decide) (by decide) dX8_init_73 ?_
    have hz := hz.wr (k := 30) (f := 9) (v := some 39) (by decide)
    show Zo g _ _ _ 9 62 76 _ _ (40, _, _)
    refine Zo_aload0 dX8_init_76 ?_
    refine Zo_bipush (60 : Int32) dX8_init_77 bp_60 ?_
    refine Zo_newi 60 (by decide) (by decide) kd_40 hz (fun f => by unfold z0; simp) (by decide) ⟨zle rfl, zle rfl⟩ dX8_init_79 ?_
    have hz := hz.up (N' := 41) (by decide)
    show Zo g _ _ _ 10 122 81 _ _ (41, _, _)
    refine Zo_putR fl_X8_39 rfl rfl (fun C T n h => by cases h; rfl) kd_30 (by decide) (by decide) dX8_init_81 ?_
    have hz := hz.wr (k := 30) (f := 10) (v := some 40) (by decide)
    show Zo g _ _ _ 10 122 84 _ _ (41, _, _)
    refine Zo_aload0 dX8_init_84 ?_
    refine Zo_aload1 dX8_init_85 ?_
    refine Zo_putR fl_X8_42 rfl rfl (fun C T n h => by cases h; rfl) kd_30 (by decide) (by decide) dX8_init_86 ?_
    have hz := hz.wr (k := 30) (f := 0) (v := some 1) (by decide)
    show Zo g _ _ _ 10 122 89 _ _ (41, _, _)
    exact Zo_vret dX8_init_89 rfl rfl (Nat.le_refl _) (Nat.le_refl _)
  exact key () rfl
def cR41 (R : ZRf) : ZRf := (zWR (zWR (zWR (zWR R 41 0 (some 42)) 41 1 (some 43)) 41 2 (some 44)) 41 3 (some 45))
def cS41 (σ : ZSt) : ZSt := σ
theorem fr_41 {R : ZRf} {σ : ZSt} (hz : zFr 42 R σ) : zFr 46 (cR41 R) (cS41 σ) := by
  have hz := hz.up (N' := 43) (by decide)
  have hz := hz.wr (k := 41) (f := 0) (v := some 42) (by decide)
  have hz := hz.up (N' := 44) (by decide)
  have hz := hz.wr (k := 41) (f := 1) (v := some 43) (by decide)
  have hz := hz.up (N' := 45) (by decide)
  have hz := hz.wr (k := 41) (f := 2) (v := some 44) (by decide)
  have hz := hz.up (N' := 46) (by decide)
  have hz := hz.wr (k := 41) (f := 3) (v := some 45) (by decide)
  exact hz
set_option maxHeartbeats 8000000 in
set_option maxRecDepth 100000 in
theorem c_41 (g : ZG) (R : ZRf) (σ : ZSt) (hz : zFr 42 R σ) : zEv g 0 4 160 yX1_init cX1_init 1 none [.ref 41] (42, R, σ) (none, (46, cR41 R, cS41 σ)) := by
  refine zEv_of 0 rfl rfl ?_
  have key : Zo g (yX1_init, cX1_init, 1, none, zRm 0 4 160, zTg g 4 160) (fun _ : Unit => (none, (46, cR41 R, cS41 σ))) (some ()) 0 0 0 [some (.ref 41)] [] (42, R, σ) := by
    refine Zo_aload0 dX1_init_0 ?_
    refine Zo_objInit oi_X1_1 (zle rfl) ⟨zle rfl, zle rfl⟩ dX1_init_1 ?_
    refine Zo_aload0 dX1_init_4 ?_
    refine Zo_bipush (40 : Int32) dX1_init_5 bp_40 ?_
    refine Zo_newi 40 (by decide) (by decide) kd_42 hz (fun f => by unfold z0; simp) (by decide) ⟨zle rfl, zle rfl⟩ dX1_init_7 ?_
    have hz := hz.up (N' := 43) (by decide)
    show Zo g _ _ _ 1 40 9 _ _ (43, _, _)
    refine Zo_putR fl_X1_9 rfl rfl (fun C T n h => by cases h; rfl) kd_41 (by decide) (by decide) dX1_init_9 ?_
    have hz := hz.wr (k := 41) (f := 0) (v := some 42) (by decide)
    show Zo g _ _ _ 1 40 12 _ _ (43, _, _)
    refine Zo_aload0 dX1_init_12 ?_
    refine Zo_bipush (40 : Int32) dX1_init_13 bp_40 ?_
    refine Zo_newi 40 (by decide) (by decide) kd_43 hz (fun f => by unfold z0; simp) (by decide) ⟨zle rfl, zle rfl⟩ dX1_init_15 ?_
    have hz := hz.up (N' := 44) (by decide)
    show Zo g _ _ _ 2 80 17 _ _ (44, _, _)
    refine Zo_putR fl_X1_13 rfl rfl (fun C T n h => by cases h; rfl) kd_41 (by decide) (by decide) dX1_init_17 ?_
    have hz := hz.wr (k := 41) (f := 1) (v := some 43) (by decide)
    show Zo g _ _ _ 2 80 20 _ _ (44, _, _)
    refine Zo_aload0 dX1_init_20 ?_
    refine Zo_bipush (40 : Int32) dX1_init_21 bp_40 ?_
    refine Zo_newi 40 (by decide) (by decide) kd_44 hz (fun f => by unfold z0; simp) (by decide) ⟨zle rfl, zle rfl⟩ dX1_init_23 ?_
    have hz := hz.up (N' := 45) (by decide)
    show Zo g _ _ _ 3 120 25 _ _ (45, _, _)
    refine Zo_putR fl_X1_16 rfl rfl (fun C T n h => by cases h; rfl) kd_41 (by decide) (by decide) dX1_init_25 ?_
    have hz := hz.wr (k := 41) (f := 2) (v := some 44) (by decide)
    show Zo g _ _ _ 3 120 28 _ _ (45, _, _)
    refine Zo_aload0 dX1_init_28 ?_
    refine Zo_bipush (40 : Int32) dX1_init_29 bp_40 ?_
    refine Zo_newi 40 (by decide) (by decide) kd_45 hz (fun f => by unfold z0; simp) (by decide) ⟨zle rfl, zle rfl⟩ dX1_init_31 ?_
    have hz := hz.up (N' := 46) (by decide)
    show Zo g _ _ _ 4 160 33 _ _ (46, _, _)
    refine Zo_putR fl_X1_19 rfl rfl (fun C T n h => by cases h; rfl) kd_41 (by decide) (by decide) dX1_init_33 ?_
    have hz := hz.wr (k := 41) (f := 3) (v := some 45) (by decide)
    show Zo g _ _ _ 4 160 36 _ _ (46, _, _)
    exact Zo_vret dX1_init_36 rfl rfl (Nat.le_refl _) (Nat.le_refl _)
  exact key () rfl
def cR46 (R : ZRf) : ZRf := (zWR R 46 0 (some 47))
def cS46 (σ : ZSt) : ZSt := σ
theorem fr_46 {R : ZRf} {σ : ZSt} (hz : zFr 47 R σ) : zFr 48 (cR46 R) (cS46 σ) := by
  have hz := hz.up (N' := 48) (by decide)
  have hz := hz.wr (k := 46) (f := 0) (v := some 47) (by decide)
  exact hz
set_option maxHeartbeats 8000000 in
set_option maxRecDepth 100000 in
theorem c_46 (g : ZG) (R : ZRf) (σ : ZSt) (hz : zFr 47 R σ) : zEv g 0 1 120 yX3_init cX3_init 1 none [.ref 46] (47, R, σ) (none, (48, cR46 R, cS46 σ)) := by
  refine zEv_of 0 rfl rfl ?_
  have key : Zo g (yX3_init, cX3_init, 1, none, zRm 0 1 120, zTg g 1 120) (fun _ : Unit => (none, (48, cR46 R, cS46 σ))) (some ()) 0 0 0 [some (.ref 46)] [] (47, R, σ) := by
    refine Zo_aload0 dX3_init_0 ?_
    refine Zo_objInit oi_X3_3 (zle rfl) ⟨zle rfl, zle rfl⟩ dX3_init_1 ?_
    refine Zo_aload0 dX3_init_4 ?_
    refine Zo_bipush (120 : Int32) dX3_init_5 bp_120 ?_
    refine Zo_newi 120 (by decide) (by decide) kd_47 hz (fun f => by unfold z0; simp) (by decide) ⟨zle rfl, zle rfl⟩ dX3_init_7 ?_
    have hz := hz.up (N' := 48) (by decide)
    show Zo g _ _ _ 1 120 9 _ _ (48, _, _)
    refine Zo_putR fl_X3_9 rfl rfl (fun C T n h => by cases h; rfl) kd_46 (by decide) (by decide) dX3_init_9 ?_
    have hz := hz.wr (k := 46) (f := 0) (v := some 47) (by decide)
    show Zo g _ _ _ 1 120 12 _ _ (48, _, _)
    exact Zo_vret dX3_init_12 rfl rfl (Nat.le_refl _) (Nat.le_refl _)
  exact key () rfl
def cR48 (R : ZRf) : ZRf := (zWR (zWR R 48 0 (some 49)) 48 1 (some 50))
def cS48 (σ : ZSt) : ZSt := σ
theorem fr_48 {R : ZRf} {σ : ZSt} (hz : zFr 49 R σ) : zFr 51 (cR48 R) (cS48 σ) := by
  have hz := hz.up (N' := 50) (by decide)
  have hz := hz.wr (k := 48) (f := 0) (v := some 49) (by decide)
  have hz := hz.up (N' := 51) (by decide)
  have hz := hz.wr (k := 48) (f := 1) (v := some 50) (by decide)
  exact hz
set_option maxHeartbeats 8000000 in
set_option maxRecDepth 100000 in
theorem c_48 (g : ZG) (R : ZRf) (σ : ZSt) (hz : zFr 49 R σ) : zEv g 0 2 74 yX0_init cX0_init 1 none [.ref 48] (49, R, σ) (none, (51, cR48 R, cS48 σ)) := by
  refine zEv_of 0 rfl rfl ?_
  have key : Zo g (yX0_init, cX0_init, 1, none, zRm 0 2 74, zTg g 2 74) (fun _ : Unit => (none, (51, cR48 R, cS48 σ))) (some ()) 0 0 0 [some (.ref 48)] [] (49, R, σ) := by
    refine Zo_aload0 dX0_init_0 ?_
    refine Zo_objInit oi_X0_3 (zle rfl) ⟨zle rfl, zle rfl⟩ dX0_init_1 ?_
    refine Zo_aload0 dX0_init_4 ?_
    refine Zo_bipush (50 : Int32) dX0_init_5 bp_50 ?_
    refine Zo_newi 50 (by decide) (by decide) kd_49 hz (fun f => by unfold z0; simp) (by decide) ⟨zle rfl, zle rfl⟩ dX0_init_7 ?_
    have hz := hz.up (N' := 50) (by decide)
    show Zo g _ _ _ 1 50 9 _ _ (50, _, _)
    refine Zo_putR fl_X0_11 rfl rfl (fun C T n h => by cases h; rfl) kd_48 (by decide) (by decide) dX0_init_9 ?_
    have hz := hz.wr (k := 48) (f := 0) (v := some 49) (by decide)
    show Zo g _ _ _ 1 50 12 _ _ (50, _, _)
    refine Zo_aload0 dX0_init_12 ?_
    refine Zo_bipush (24 : Int32) dX0_init_13 bp_24 ?_
    refine Zo_newi 24 (by decide) (by decide) kd_50 hz (fun f => by unfold z0; simp) (by decide) ⟨zle rfl, zle rfl⟩ dX0_init_15 ?_
    have hz := hz.up (N' := 51) (by decide)
    show Zo g _ _ _ 2 74 17 _ _ (51, _, _)
    refine Zo_putR fl_X0_15 rfl rfl (fun C T n h => by cases h; rfl) kd_48 (by decide) (by decide) dX0_init_17 ?_
    have hz := hz.wr (k := 48) (f := 1) (v := some 50) (by decide)
    show Zo g _ _ _ 2 74 20 _ _ (51, _, _)
    exact Zo_vret dX0_init_20 rfl rfl (Nat.le_refl _) (Nat.le_refl _)
  exact key () rfl
def cR51 (R : ZRf) : ZRf := (zWR (zMna (zWR (zWR (zWR R 51 0 (some 52)) 51 1 (some 53)) 51 2 (some 54))) 51 3 (some 55))
def cS51 (σ : ZSt) : ZSt := (zWD (zWD (zWD (zWD (zWD (zWD σ 52 (0 : Int32).toNatClampNeg (-1 : Int32)) 52 (1 : Int32).toNatClampNeg (-1 : Int32)) 52 (2 : Int32).toNatClampNeg (-1 : Int32)) 52 (3 : Int32).toNatClampNeg (-1 : Int32)) 52 (4 : Int32).toNatClampNeg (-1 : Int32)) 52 (5 : Int32).toNatClampNeg (-1 : Int32))
theorem fr_51 {R : ZRf} {σ : ZSt} (hz : zFr 52 R σ) : zFr 62 (cR51 R) (cS51 σ) := by
  have hz := hz.up (N' := 53) (by decide)
  have hz := hz.wd (k := 52) (f := (0 : Int32).toNatClampNeg) (v := (-1 : Int32)) (by decide)
  have hz := hz.wd (k := 52) (f := (1 : Int32).toNatClampNeg) (v := (-1 : Int32)) (by decide)
  have hz := hz.wd (k := 52) (f := (2 : Int32).toNatClampNeg) (v := (-1 : Int32)) (by decide)
  have hz := hz.wd (k := 52) (f := (3 : Int32).toNatClampNeg) (v := (-1 : Int32)) (by decide)
  have hz := hz.wd (k := 52) (f := (4 : Int32).toNatClampNeg) (v := (-1 : Int32)) (by decide)
  have hz := hz.wd (k := 52) (f := (5 : Int32).toNatClampNeg) (v := (-1 : Int32)) (by decide)
  have hz := hz.wr (k := 51) (f := 0) (v := some 52) (by decide)
  have hz := hz.up (N' := 54) (by decide)
  have hz := hz.wr (k := 51) (f := 1) (v := some 53) (by decide)
  have hz := hz.up (N' := 55) (by decide)
  have hz := hz.wr (k := 51) (f := 2) (v := some 54) (by decide)
  have hz := zFr_mna hz
  have hz := hz.wr (k := 51) (f := 3) (v := some 55) (by decide)
  exact hz
set_option maxHeartbeats 8000000 in
set_option maxRecDepth 100000 in
theorem c_51 (g : ZG) (R : ZRf) (σ : ZSt) (hz : zFr 52 R σ) : zEv g 0 10 384 yX6_init cX6_init 1 none [.ref 51] (52, R, σ) (none, (62, cR51 R, cS51 σ)) := by
  refine zEv_of 0 rfl rfl ?_
  have key : Zo g (yX6_init, cX6_init, 1, none, zRm 0 10 384, zTg g 10 384) (fun _ : Unit => (none, (62, cR51 R, cS51 σ))) (some ()) 0 0 0 [some (.ref 51)] [] (52, R, σ) := by
    refine Zo_aload0 dX6_init_0 ?_
    refine Zo_objInit oi_X6_3 (zle rfl) ⟨zle rfl, zle rfl⟩ dX6_init_1 ?_
    refine Zo_aload0 dX6_init_4 ?_
    refine Zo_bipush (6 : Int32) dX6_init_5 bp_6 ?_
    refine Zo_newi 6 (by decide) (by decide) kd_52 hz (fun f => by unfold z0; simp) (by decide) ⟨zle rfl, zle rfl⟩ dX6_init_7 ?_
    have hz := hz.up (N' := 53) (by decide)
    show Zo g _ _ _ 1 6 9 _ _ (53, _, _)
    refine Zo_dup dX6_init_9 rfl ?_
    refine Zo_iconst (0 : Int32) dX6_init_10 ic_0 ?_
    refine Zo_iconst (-1 : Int32) dX6_init_11 ic_m1 ?_
    refine Zo_iastN kd_52 (by decide) (by decide) (by decide) dX6_init_12 ?_
    have hz := hz.wd (k := 52) (f := (0 : Int32).toNatClampNeg) (v := (-1 : Int32)) (by decide)
    show Zo g _ _ _ 1 6 13 _ _ (53, _, _)
    refine Zo_dup dX6_init_13 rfl ?_
    refine Zo_iconst (1 : Int32) dX6_init_14 ic_1 ?_
    refine Zo_iconst (-1 : Int32) dX6_init_15 ic_m1 ?_
    refine Zo_iastN kd_52 (by decide) (by decide) (by decide) dX6_init_16 ?_
    have hz := hz.wd (k := 52) (f := (1 : Int32).toNatClampNeg) (v := (-1 : Int32)) (by decide)
    show Zo g _ _ _ 1 6 17 _ _ (53, _, _)
    refine Zo_dup dX6_init_17 rfl ?_
    refine Zo_iconst (2 : Int32) dX6_init_18 ic_2 ?_
    refine Zo_iconst (-1 : Int32) dX6_init_19 ic_m1 ?_
    refine Zo_iastN kd_52 (by decide) (by decide) (by decide) dX6_init_20 ?_
    have hz := hz.wd (k := 52) (f := (2 : Int32).toNatClampNeg) (v := (-1 : Int32)) (by decide)
    show Zo g _ _ _ 1 6 21 _ _ (53, _, _)
    refine Zo_dup dX6_init_21 rfl ?_
    refine Zo_iconst (3 : Int32) dX6_init_22 ic_3 ?_
    refine Zo_iconst (-1 : Int32) dX6_init_23 ic_m1 ?_
    refine Zo_iastN kd_52 (by decide) (by decide) (by decide) dX6_init_24 ?_
    have hz := hz.wd (k := 52) (f := (3 : Int32).toNatClampNeg) (v := (-1 : Int32)) (by decide)
    show Zo g _ _ _ 1 6 25 _ _ (53, _, _)
    refine Zo_dup dX6_init_25 rfl ?_
    refine Zo_iconst (4 : Int32) dX6_init_26 ic_4 ?_
    refine Zo_iconst (-1 : Int32) dX6_init_27 ic_m1 ?_
    refine Zo_iastN kd_52 (by decide) (by decide) (by decide) dX6_init_28 ?_
    have hz := hz.wd (k := 52) (f := (4 : Int32).toNatClampNeg) (v := (-1 : Int32)) (by decide)
    show Zo g _ _ _ 1 6 29 _ _ (53, _, _)
    refine Zo_dup dX6_init_29 rfl ?_
    refine Zo_iconst (5 : Int32) dX6_init_30 ic_5 ?_
    refine Zo_iconst (-1 : Int32) dX6_init_31 ic_m1 ?_
    refine Zo_iastN kd_52 (by decide) (by decide) (by decide) dX6_init_32 ?_
    have hz := hz.wd (k := 52) (f := (5 : Int32).toNatClampNeg) (v := (-1 : Int32)) (by decide)
    show Zo g _ _ _ 1 6 33 _ _ (53, _, _)
    refine Zo_putR fl_X6_11 rfl rfl (fun C T n h => by cases h; rfl) kd_51 (by decide) (by decide) dX6_init_33 ?_
    have hz := hz.wr (k := 51) (f := 0) (v := some 52) (by decide)
    show Zo g _ _ _ 1 6 36 _ _ (53, _, _)
    refine Zo_aload0 dX6_init_36 ?_
    refine Zo_bipush (6 : Int32) dX6_init_37 bp_6 ?_
    refine Zo_newi 6 (by decide) (by decide) kd_53 hz (fun f => by unfold z0; simp) (by decide) ⟨zle rfl, zle rfl⟩ dX6_init_39 ?_
    have hz := hz.up (N' := 54) (by decide)
    show Zo g _ _ _ 2 12 41 _ _ (54, _, _)
    refine Zo_putR fl_X6_15 rfl rfl (fun C T n h => by cases h; rfl) kd_51 (by decide) (by decide) dX6_init_41 ?_
    have hz := hz.wr (k := 51) (f := 1) (v := some 53) (by decide)
    show Zo g _ _ _ 2 12 44 _ _ (54, _, _)
    refine Zo_aload0 dX6_init_44 ?_
    refine Zo_bipush (6 : Int32) dX6_init_45 bp_6 ?_
    refine Zo_newi 6 (by decide) (by decide) kd_54 hz (fun f => by unfold z0; simp) (by decide) ⟨zle rfl, zle rfl⟩ dX6_init_47 ?_
    have hz := hz.up (N' := 55) (by decide)
    show Zo g _ _ _ 3 18 49 _ _ (55, _, _)
    refine Zo_putR fl_X6_18 rfl rfl (fun C T n h => by cases h; rfl) kd_51 (by decide) (by decide) dX6_init_49 ?_
    have hz := hz.wr (k := 51) (f := 2) (v := some 54) (by decide)
    show Zo g _ _ _ 3 18 52 _ _ (55, _, _)
    refine Zo_aload0 dX6_init_52 ?_
    refine Zo_bipush (6 : Int32) dX6_init_53 bp_6 ?_
    refine Zo_bipush (60 : Int32) dX6_init_55 bp_60 ?_
    refine Zo_mna hz ⟨zle rfl, zle rfl⟩ dX6_init_57 ?_
    have hz := zFr_mna hz
    show Zo g _ _ _ 10 384 61 _ _ (62, _, _)
    refine Zo_putR fl_X6_23 rfl rfl (fun C T n h => by cases h; rfl) kd_51 (by decide) (by decide) dX6_init_61 ?_
    have hz := hz.wr (k := 51) (f := 3) (v := some 55) (by decide)
    show Zo g _ _ _ 10 384 64 _ _ (62, _, _)
    exact Zo_vret dX6_init_64 rfl rfl (Nat.le_refl _) (Nat.le_refl _)
  exact key () rfl
def cR62 (R : ZRf) : ZRf := (zWR (zWR R 62 0 (some 63)) 62 1 (some 64))
def cS62 (σ : ZSt) : ZSt := σ
theorem fr_62 {R : ZRf} {σ : ZSt} (hz : zFr 63 R σ) : zFr 65 (cR62 R) (cS62 σ) := by
  have hz := hz.up (N' := 64) (by decide)
  have hz := hz.wr (k := 62) (f := 0) (v := some 63) (by decide)
  have hz := hz.up (N' := 65) (by decide)
  have hz := hz.wr (k := 62) (f := 1) (v := some 64) (by decide)
  exact hz
set_option maxHeartbeats 8000000 in
set_option maxRecDepth 100000 in
theorem c_62 (g : ZG) (R : ZRf) (σ : ZSt) (hz : zFr 63 R σ) : zEv g 0 2 256 yX4_init cX4_init 1 none [.ref 62] (63, R, σ) (none, (65, cR62 R, cS62 σ)) := by
  refine zEv_of 0 rfl rfl ?_
  have key : Zo g (yX4_init, cX4_init, 1, none, zRm 0 2 256, zTg g 2 256) (fun _ : Unit => (none, (65, cR62 R, cS62 σ))) (some ()) 0 0 0 [some (.ref 62)] [] (63, R, σ) := by
    refine Zo_aload0 dX4_init_0 ?_
    refine Zo_objInit oi_X4_3 (zle rfl) ⟨zle rfl, zle rfl⟩ dX4_init_1 ?_
    refine Zo_aload0 dX4_init_4 ?_
    refine Zo_sipush (128 : Int32) dX4_init_5 sp_128 ?_
    refine Zo_newi 128 (by decide) (by decide) kd_63 hz (fun f => by unfold z0; simp) (by decide) ⟨zle rfl, zle rfl⟩ dX4_init_8 ?_
    have hz := hz.up (N' := 64) (by decide)
    show Zo g _ _ _ 1 128 10 _ _ (64, _, _)
    refine Zo_putR fl_X4_11 rfl rfl (fun C T n h => by cases h; rfl) kd_62 (by decide) (by decide) dX4_init_10 ?_
    have hz := hz.wr (k := 62) (f := 0) (v := some 63) (by decide)
    show Zo g _ _ _ 1 128 13 _ _ (64, _, _)
    refine Zo_aload0 dX4_init_13 ?_
    refine Zo_sipush (128 : Int32) dX4_init_14 sp_128 ?_
    refine Zo_newi 128 (by decide) (by decide) kd_64 hz (fun f => by unfold z0; simp) (by decide) ⟨zle rfl, zle rfl⟩ dX4_init_17 ?_
    have hz := hz.up (N' := 65) (by decide)
    show Zo g _ _ _ 2 256 19 _ _ (65, _, _)
    refine Zo_putR fl_X4_15 rfl rfl (fun C T n h => by cases h; rfl) kd_62 (by decide) (by decide) dX4_init_19 ?_
    have hz := hz.wr (k := 62) (f := 1) (v := some 64) (by decide)
    show Zo g _ _ _ 2 256 22 _ _ (65, _, _)
    exact Zo_vret dX4_init_22 rfl rfl (Nat.le_refl _) (Nat.le_refl _)
  exact key () rfl
def cR65 (R : ZRf) : ZRf := (zWR (zWR R 65 0 (some 66)) 65 1 (some 67))
def cS65 (σ : ZSt) : ZSt := σ
theorem fr_65 {R : ZRf} {σ : ZSt} (hz : zFr 66 R σ) : zFr 68 (cR65 R) (cS65 σ) := by
  have hz := hz.up (N' := 67) (by decide)
  have hz := hz.wr (k := 65) (f := 0) (v := some 66) (by decide)
  have hz := hz.up (N' := 68) (by decide)
  have hz := hz.wr (k := 65) (f := 1) (v := some 67) (by decide)
  exact hz
set_option maxHeartbeats 8000000 in
set_option maxRecDepth 100000 in
theorem c_65 (g : ZG) (R : ZRf) (σ : ZSt) (hz : zFr 66 R σ) : zEv g 0 2 256 yX4_init cX4_init 1 none [.ref 65] (66, R, σ) (none, (68, cR65 R, cS65 σ)) := by
  refine zEv_of 0 rfl rfl ?_
  have key : Zo g (yX4_init, cX4_init, 1, none, zRm 0 2 256, zTg g 2 256) (fun _ : Unit => (none, (68, cR65 R, cS65 σ))) (some ()) 0 0 0 [some (.ref 65)] [] (66, R, σ) := by
    refine Zo_aload0 dX4_init_0 ?_
    refine Zo_objInit oi_X4_3 (zle rfl) ⟨zle rfl, zle rfl⟩ dX4_init_1 ?_
    refine Zo_aload0 dX4_init_4 ?_
    refine Zo_sipush (128 : Int32) dX4_init_5 sp_128 ?_
    refine Zo_newi 128 (by decide) (by decide) kd_66 hz (fun f => by unfold z0; simp) (by decide) ⟨zle rfl, zle rfl⟩ dX4_init_8 ?_
    have hz := hz.up (N' := 67) (by decide)
    show Zo g _ _ _ 1 128 10 _ _ (67, _, _)
    refine Zo_putR fl_X4_11 rfl rfl (fun C T n h => by cases h; rfl) kd_65 (by decide) (by decide) dX4_init_10 ?_
    have hz := hz.wr (k := 65) (f := 0) (v := some 66) (by decide)
    show Zo g _ _ _ 1 128 13 _ _ (67, _, _)
    refine Zo_aload0 dX4_init_13 ?_
    refine Zo_sipush (128 : Int32) dX4_init_14 sp_128 ?_
    refine Zo_newi 128 (by decide) (by decide) kd_67 hz (fun f => by unfold z0; simp) (by decide) ⟨zle rfl, zle rfl⟩ dX4_init_17 ?_
    have hz := hz.up (N' := 68) (by decide)
    show Zo g _ _ _ 2 256 19 _ _ (68, _, _)
    refine Zo_putR fl_X4_15 rfl rfl (fun C T n h => by cases h; rfl) kd_65 (by decide) (by decide) dX4_init_19 ?_
    have hz := hz.wr (k := 65) (f := 1) (v := some 67) (by decide)
    show Zo g _ _ _ 2 256 22 _ _ (68, _, _)
    exact Zo_vret dX4_init_22 rfl rfl (Nat.le_refl _) (Nat.le_refl _)
  exact key () rfl
def cR0 (R : ZRf) : ZRf := (cR65 (cR62 (zWR (cR51 (zWR (cR48 (zWR (cR46 (zWR (cR41 (zWR (cR30 (zWR (cR19 (zWR (cR15 (zWR (cR14 (zWR (cR1 R) 0 0 (some 1))) 0 1 (some 14))) 0 2 (some 15))) 0 3 (some 19))) 0 4 (some 30))) 0 5 (some 41))) 0 6 (some 46))) 0 7 (some 48))) 0 8 (some 51))))
def cS0 (σ : ZSt) : ZSt := (zWD (cS65 (zWD (cS62 (cS51 (cS48 (cS46 (cS41 (cS30 (cS19 (cS15 (cS14 (cS1 σ)))))))))) 0 9 (Int32.ofNat 62))) 0 10 (Int32.ofNat 65))
theorem fr_0 {R : ZRf} {σ : ZSt} (hz : zFr 1 R σ) : zFr 68 (cR0 R) (cS0 σ) := by
  have hz := hz.up (N' := 2) (by decide)
  have hz := fr_1 hz
  have hz := hz.wr (k := 0) (f := 0) (v := some 1) (by decide)
  have hz := hz.up (N' := 15) (by decide)
  have hz := fr_14 hz
  have hz := hz.wr (k := 0) (f := 1) (v := some 14) (by decide)
  have hz := hz.up (N' := 16) (by decide)
  have hz := fr_15 hz
  have hz := hz.wr (k := 0) (f := 2) (v := some 15) (by decide)
  have hz := hz.up (N' := 20) (by decide)
  have hz := fr_19 hz
  have hz := hz.wr (k := 0) (f := 3) (v := some 19) (by decide)
  have hz := hz.up (N' := 31) (by decide)
  have hz := fr_30 hz
  have hz := hz.wr (k := 0) (f := 4) (v := some 30) (by decide)
  have hz := hz.up (N' := 42) (by decide)
  have hz := fr_41 hz
  have hz := hz.wr (k := 0) (f := 5) (v := some 41) (by decide)
  have hz := hz.up (N' := 47) (by decide)
  have hz := fr_46 hz
  have hz := hz.wr (k := 0) (f := 6) (v := some 46) (by decide)
  have hz := hz.up (N' := 49) (by decide)
  have hz := fr_48 hz
  have hz := hz.wr (k := 0) (f := 7) (v := some 48) (by decide)
  have hz := hz.up (N' := 52) (by decide)
  have hz := fr_51 hz
  have hz := hz.wr (k := 0) (f := 8) (v := some 51) (by decide)
  have hz := hz.up (N' := 63) (by decide)
  have hz := fr_62 hz
  have hz := hz.wd (k := 0) (f := 9) (v := Int32.ofNat 62) (by decide)
  have hz := hz.up (N' := 66) (by decide)
  have hz := fr_65 hz
  have hz := hz.wd (k := 0) (f := 10) (v := Int32.ofNat 65) (by decide)
  exact hz
set_option maxHeartbeats 8000000 in
set_option maxRecDepth 100000 in
theorem c_0 (g : ZG) (R : ZRf) (σ : ZSt) (hz : zFr 1 R σ) : zEv g 1 67 1840 yX9_init cX9_init 1 none [.ref 0] (1, R, σ) (none, (68, cR0 R, cS0 σ)) := by
  refine zEv_of 0 rfl rfl ?_
  have key : Zo g (yX9_init, cX9_init, 1, none, zRm 1 67 1840, zTg g 67 1840) (fun _ : Unit => (none, (68, cR0 R, cS0 σ))) (some ()) 0 0 0 [some (.ref 0)] [] (1, R, σ) := by
    refine Zo_aload0 dX9_init_0 ?_
    refine Zo_objInit oi_X9_1 (zle rfl) ⟨zle rfl, zle rfl⟩ dX9_init_1 ?_
    refine Zo_aload0 dX9_init_4 ?_
    refine Zo_new cn_X9_7 kd_1 hz ⟨zle rfl, zle rfl⟩ dX9_init_5 ?_
    have hz := hz.up (N' := 2) (by decide)
    show Zo g _ _ _ 1 15 8 _ _ (2, _, _)
    refine Zo_dup dX9_init_8 rfl ?_
    refine Zo_callI (K := 12) (S := 176) (finc := fun _ : Unit => (none, (14, cR1 R, cS1 σ))) (oc := some ()) (Kf := fun _ => some ()) [] 1 lki_X9_9 (fun _ _ => c_1 g R σ hz) (by decide) (zFit_rm (by decide)) ⟨zle rfl, zle rfl⟩ (zle rfl) dX9_init_9 (fun _ => ?_)
    have hz := fr_1 hz
    show Zo g _ _ _ 13 191 12 _ _ (14, _, _)
    refine Zo_putR fl_X9_10 rfl rfl (fun C T n h => by cases h; rfl) kd_0 (by decide) (by decide) dX9_init_12 ?_
    have hz := hz.wr (k := 0) (f := 0) (v := some 1) (by decide)
    show Zo g _ _ _ 13 191 15 _ _ (14, _, _)
    refine Zo_aload0 dX9_init_15 ?_
    refine Zo_new cn_X9_16 kd_14 hz ⟨zle rfl, zle rfl⟩ dX9_init_16 ?_
    have hz := hz.up (N' := 15) (by decide)
    show Zo g _ _ _ 14 192 19 _ _ (15, _, _)
    refine Zo_dup dX9_init_19 rfl ?_
    refine Zo_aload0 dX9_init_20 ?_
    refine Zo_getR (j := 1) fl_X9_10 kd_0 (by decide) (by decide) (by rfl) dX9_init_21 ?_
    refine Zo_callI (K := 0) (S := 0) (finc := fun _ : Unit => (none, (15, cR14 (zWR (cR1 R) 0 0 (some 1)), cS14 (cS1 σ)))) (oc := some ()) (Kf := fun _ => some ()) [.ref 1] 14 lki_X9_18 (fun _ _ => c_14 g (zWR (cR1 R) 0 0 (some 1)) (cS1 σ) hz) (by decide) (zFit_rm (by decide)) ⟨zle rfl, zle rfl⟩ (zle rfl) dX9_init_24 (fun _ => ?_)
    have hz := fr_14 hz
    show Zo g _ _ _ 14 192 27 _ _ (15, _, _)
    refine Zo_putR fl_X9_21 rfl rfl (fun C T n h => by cases h; rfl) kd_0 (by decide) (by decide) dX9_init_27 ?_
    have hz := hz.wr (k := 0) (f := 1) (v := some 14) (by decide)
    show Zo g _ _ _ 14 192 30 _ _ (15, _, _)
    refine Zo_aload0 dX9_init_30 ?_
    refine Zo_new cn_X9_25 kd_15 hz ⟨zle rfl, zle rfl⟩ dX9_init_31 ?_
    have hz := hz.up (N' := 16) (by decide)
    show Zo g _ _ _ 15 197 34 _ _ (16, _, _)
    refine Zo_dup dX9_init_34 rfl ?_
    refine Zo_aload0 dX9_init_35 ?_
    refine Zo_getR (j := 1) fl_X9_10 kd_0 (by decide) (by decide) (by rfl) dX9_init_36 ?_
    refine Zo_callI (K := 3) (S := 90) (finc := fun _ : Unit => (none, (19, cR15 (zWR (cR14 (zWR (cR1 R) 0 0 (some 1))) 0 1 (some 14)), cS15 (cS14 (cS1 σ))))) (oc := some ()) (Kf := fun _ => some ()) [.ref 1] 15 lki_X9_27 (fun _ _ => c_15 g (zWR (cR14 (zWR (cR1 R) 0 0 (some 1))) 0 1 (some 14)) (cS14 (cS1 σ)) hz) (by decide) (zFit_rm (by decide)) ⟨zle rfl, zle rfl⟩ (zle rfl) dX9_init_39 (fun _ => ?_)
    have hz := fr_15 hz
    show Zo g _ _ _ 18 287 42 _ _ (19, _, _)
    refine Zo_putR fl_X9_28 rfl rfl (fun C T n h => by cases h; rfl) kd_0 (by decide) (by decide) dX9_init_42 ?_
    have hz := hz.wr (k := 0) (f := 2) (v := some 15) (by decide)
    show Zo g _ _ _ 18 287 45 _ _ (19, _, _)
    refine Zo_aload0 dX9_init_45 ?_
    refine Zo_new cn_X9_32 kd_19 hz ⟨zle rfl, zle rfl⟩ dX9_init_46 ?_
    have hz := hz.up (N' := 20) (by decide)
    show Zo g _ _ _ 19 303 49 _ _ (20, _, _)
    refine Zo_dup dX9_init_49 rfl ?_
    refine Zo_aload0 dX9_init_50 ?_
    refine Zo_getR (j := 1) fl_X9_10 kd_0 (by decide) (by decide) (by rfl) dX9_init_51 ?_
    refine Zo_callI (K := 10) (S := 122) (finc := fun _ : Unit => (none, (30, cR19 (zWR (cR15 (zWR (cR14 (zWR (cR1 R) 0 0 (some 1))) 0 1 (some 14))) 0 2 (some 15)), cS19 (cS15 (cS14 (cS1 σ)))))) (oc := some ()) (Kf := fun _ => some ()) [.ref 1] 19 lki_X9_34 (fun _ _ => c_19 g (zWR (cR15 (zWR (cR14 (zWR (cR1 R) 0 0 (some 1))) 0 1 (some 14))) 0 2 (some 15)) (cS15 (cS14 (cS1 σ))) hz) (by decide) (zFit_rm (by decide)) ⟨zle rfl, zle rfl⟩ (zle rfl) dX9_init_54 (fun _ => ?_)
    have hz := fr_19 hz
    show Zo g _ _ _ 29 425 57 _ _ (30, _, _)
    refine Zo_putR fl_X9_35 rfl rfl (fun C T n h => by cases h; rfl) kd_0 (by decide) (by decide) dX9_init_57 ?_
    have hz := hz.wr (k := 0) (f := 3) (v := some 19) (by decide)
    show Zo g _ _ _ 29 425 60 _ _ (30, _, _)
    refine Zo_aload0 dX9_init_60 ?_
    refine Zo_new cn_X9_32 kd_30 hz ⟨zle rfl, zle rfl⟩ dX9_init_61 ?_
    have hz := hz.up (N' := 31) (by decide)
    show Zo g _ _ _ 30 441 64 _ _ (31, _, _)
    refine Zo_dup dX9_init_64 rfl ?_
    refine Zo_aload0 dX9_init_65 ?_
    refine Zo_getR (j := 1) fl_X9_10 kd_0 (by decide) (by decide) (by rfl) dX9_init_66 ?_
    refine Zo_callI (K := 10) (S := 122) (finc := fun _ : Unit => (none, (41, cR30 (zWR (cR19 (zWR (cR15 (zWR (cR14 (zWR (cR1 R) 0 0 (some 1))) 0 1 (some 14))) 0 2 (some 15))) 0 3 (some 19)), cS30 (cS19 (cS15 (cS14 (cS1 σ))))))) (oc := some ()) (Kf := fun _ => some ()) [.ref 1] 30 lki_X9_34 (fun _ _ => c_30 g (zWR (cR19 (zWR (cR15 (zWR (cR14 (zWR (cR1 R) 0 0 (some 1))) 0 1 (some 14))) 0 2 (some 15))) 0 3 (some 19)) (cS19 (cS15 (cS14 (cS1 σ)))) hz) (by decide) (zFit_rm (by decide)) ⟨zle rfl, zle rfl⟩ (zle rfl) dX9_init_69 (fun _ => ?_)
    have hz := fr_30 hz
    show Zo g _ _ _ 40 563 72 _ _ (41, _, _)
    refine Zo_putR fl_X9_39 rfl rfl (fun C T n h => by cases h; rfl) kd_0 (by decide) (by decide) dX9_init_72 ?_
    have hz := hz.wr (k := 0) (f := 4) (v := some 30) (by decide)
    show Zo g _ _ _ 40 563 75 _ _ (41, _, _)
    refine Zo_aload0 dX9_init_75 ?_
    refine Zo_new cn_X9_42 kd_41 hz ⟨zle rfl, zle rfl⟩ dX9_init_76 ?_
    have hz := hz.up (N' := 42) (by decide)
    show Zo g _ _ _ 41 569 79 _ _ (42, _, _)
    refine Zo_dup dX9_init_79 rfl ?_
    refine Zo_callI (K := 4) (S := 160) (finc := fun _ : Unit => (none, (46, cR41 (zWR (cR30 (zWR (cR19 (zWR (cR15 (zWR (cR14 (zWR (cR1 R) 0 0 (some 1))) 0 1 (some 14))) 0 2 (some 15))) 0 3 (some 19))) 0 4 (some 30)), cS41 (cS30 (cS19 (cS15 (cS14 (cS1 σ)))))))) (oc := some ()) (Kf := fun _ => some ()) [] 41 lki_X9_44 (fun _ _ => c_41 g (zWR (cR30 (zWR (cR19 (zWR (cR15 (zWR (cR14 (zWR (cR1 R) 0 0 (some 1))) 0 1 (some 14))) 0 2 (some 15))) 0 3 (some 19))) 0 4 (some 30)) (cS30 (cS19 (cS15 (cS14 (cS1 σ))))) hz) (by decide) (zFit_rm (by decide)) ⟨zle rfl, zle rfl⟩ (zle rfl) dX9_init_80 (fun _ => ?_)
    have hz := fr_41 hz
    show Zo g _ _ _ 45 729 83 _ _ (46, _, _)
    refine Zo_putR fl_X9_45 rfl rfl (fun C T n h => by cases h; rfl) kd_0 (by decide) (by decide) dX9_init_83 ?_
    have hz := hz.wr (k := 0) (f := 5) (v := some 41) (by decide)
    show Zo g _ _ _ 45 729 86 _ _ (46, _, _)
    refine Zo_aload0 dX9_init_86 ?_
    refine Zo_new cn_X9_49 kd_46 hz ⟨zle rfl, zle rfl⟩ dX9_init_87 ?_
    have hz := hz.up (N' := 47) (by decide)
    show Zo g _ _ _ 46 733 90 _ _ (47, _, _)
    refine Zo_dup dX9_init_90 rfl ?_
    refine Zo_callI (K := 1) (S := 120) (finc := fun _ : Unit => (none, (48, cR46 (zWR (cR41 (zWR (cR30 (zWR (cR19 (zWR (cR15 (zWR (cR14 (zWR (cR1 R) 0 0 (some 1))) 0 1 (some 14))) 0 2 (some 15))) 0 3 (some 19))) 0 4 (some 30))) 0 5 (some 41)), cS46 (cS41 (cS30 (cS19 (cS15 (cS14 (cS1 σ))))))))) (oc := some ()) (Kf := fun _ => some ()) [] 46 lki_X9_51 (fun _ _ => c_46 g (zWR (cR41 (zWR (cR30 (zWR (cR19 (zWR (cR15 (zWR (cR14 (zWR (cR1 R) 0 0 (some 1))) 0 1 (some 14))) 0 2 (some 15))) 0 3 (some 19))) 0 4 (some 30))) 0 5 (some 41)) (cS41 (cS30 (cS19 (cS15 (cS14 (cS1 σ)))))) hz) (by decide) (zFit_rm (by decide)) ⟨zle rfl, zle rfl⟩ (zle rfl) dX9_init_91 (fun _ => ?_)
    have hz := fr_46 hz
    show Zo g _ _ _ 47 853 94 _ _ (48, _, _)
    refine Zo_putR fl_X9_52 rfl rfl (fun C T n h => by cases h; rfl) kd_0 (by decide) (by decide) dX9_init_94 ?_
    have hz := hz.wr (k := 0) (f := 6) (v := some 46) (by decide)
    show Zo g _ _ _ 47 853 97 _ _ (48, _, _)
    refine Zo_aload0 dX9_init_97 ?_
    refine Zo_new cn_X9_56 kd_48 hz ⟨zle rfl, zle rfl⟩ dX9_init_98 ?_
    have hz := hz.up (N' := 49) (by decide)
    show Zo g _ _ _ 48 858 101 _ _ (49, _, _)
    refine Zo_dup dX9_init_101 rfl ?_
    refine Zo_callI (K := 2) (S := 74) (finc := fun _ : Unit => (none, (51, cR48 (zWR (cR46 (zWR (cR41 (zWR (cR30 (zWR (cR19 (zWR (cR15 (zWR (cR14 (zWR (cR1 R) 0 0 (some 1))) 0 1 (some 14))) 0 2 (some 15))) 0 3 (some 19))) 0 4 (some 30))) 0 5 (some 41))) 0 6 (some 46)), cS48 (cS46 (cS41 (cS30 (cS19 (cS15 (cS14 (cS1 σ)))))))))) (oc := some ()) (Kf := fun _ => some ()) [] 48 lki_X9_58 (fun _ _ => c_48 g (zWR (cR46 (zWR (cR41 (zWR (cR30 (zWR (cR19 (zWR (cR15 (zWR (cR14 (zWR (cR1 R) 0 0 (some 1))) 0 1 (some 14))) 0 2 (some 15))) 0 3 (some 19))) 0 4 (some 30))) 0 5 (some 41))) 0 6 (some 46)) (cS46 (cS41 (cS30 (cS19 (cS15 (cS14 (cS1 σ))))))) hz) (by decide) (zFit_rm (by decide)) ⟨zle rfl, zle rfl⟩ (zle rfl) dX9_init_102 (fun _ => ?_)
    have hz := fr_48 hz
    show Zo g _ _ _ 50 932 105 _ _ (51, _, _)
    refine Zo_putR fl_X9_59 rfl rfl (fun C T n h => by cases h; rfl) kd_0 (by decide) (by decide) dX9_init_105 ?_
    have hz := hz.wr (k := 0) (f := 7) (v := some 48) (by decide)
    show Zo g _ _ _ 50 932 108 _ _ (51, _, _)
    refine Zo_aload0 dX9_init_108 ?_
    refine Zo_new cn_X9_63 kd_51 hz ⟨zle rfl, zle rfl⟩ dX9_init_109 ?_
    have hz := hz.up (N' := 52) (by decide)
    show Zo g _ _ _ 51 936 112 _ _ (52, _, _)
    refine Zo_dup dX9_init_112 rfl ?_
    refine Zo_callI (K := 10) (S := 384) (finc := fun _ : Unit => (none, (62, cR51 (zWR (cR48 (zWR (cR46 (zWR (cR41 (zWR (cR30 (zWR (cR19 (zWR (cR15 (zWR (cR14 (zWR (cR1 R) 0 0 (some 1))) 0 1 (some 14))) 0 2 (some 15))) 0 3 (some 19))) 0 4 (some 30))) 0 5 (some 41))) 0 6 (some 46))) 0 7 (some 48)), cS51 (cS48 (cS46 (cS41 (cS30 (cS19 (cS15 (cS14 (cS1 σ))))))))))) (oc := some ()) (Kf := fun _ => some ()) [] 51 lki_X9_65 (fun _ _ => c_51 g (zWR (cR48 (zWR (cR46 (zWR (cR41 (zWR (cR30 (zWR (cR19 (zWR (cR15 (zWR (cR14 (zWR (cR1 R) 0 0 (some 1))) 0 1 (some 14))) 0 2 (some 15))) 0 3 (some 19))) 0 4 (some 30))) 0 5 (some 41))) 0 6 (some 46))) 0 7 (some 48)) (cS48 (cS46 (cS41 (cS30 (cS19 (cS15 (cS14 (cS1 σ)))))))) hz) (by decide) (zFit_rm (by decide)) ⟨zle rfl, zle rfl⟩ (zle rfl) dX9_init_113 (fun _ => ?_)
    have hz := fr_51 hz
    show Zo g _ _ _ 61 1320 116 _ _ (62, _, _)
    refine Zo_putR fl_X9_66 rfl rfl (fun C T n h => by cases h; rfl) kd_0 (by decide) (by decide) dX9_init_116 ?_
    have hz := hz.wr (k := 0) (f := 8) (v := some 51) (by decide)
    show Zo g _ _ _ 61 1320 119 _ _ (62, _, _)
    refine Zo_aload0 dX9_init_119 ?_
    refine Zo_new cn_X9_70 kd_62 hz ⟨zle rfl, zle rfl⟩ dX9_init_120 ?_
    have hz := hz.up (N' := 63) (by decide)
    show Zo g _ _ _ 62 1324 123 _ _ (63, _, _)
    refine Zo_dup dX9_init_123 rfl ?_
    refine Zo_callI (K := 2) (S := 256) (finc := fun _ : Unit => (none, (65, cR62 (zWR (cR51 (zWR (cR48 (zWR (cR46 (zWR (cR41 (zWR (cR30 (zWR (cR19 (zWR (cR15 (zWR (cR14 (zWR (cR1 R) 0 0 (some 1))) 0 1 (some 14))) 0 2 (some 15))) 0 3 (some 19))) 0 4 (some 30))) 0 5 (some 41))) 0 6 (some 46))) 0 7 (some 48))) 0 8 (some 51)), cS62 (cS51 (cS48 (cS46 (cS41 (cS30 (cS19 (cS15 (cS14 (cS1 σ)))))))))))) (oc := some ()) (Kf := fun _ => some ()) [] 62 lki_X9_72 (fun _ _ => c_62 g (zWR (cR51 (zWR (cR48 (zWR (cR46 (zWR (cR41 (zWR (cR30 (zWR (cR19 (zWR (cR15 (zWR (cR14 (zWR (cR1 R) 0 0 (some 1))) 0 1 (some 14))) 0 2 (some 15))) 0 3 (some 19))) 0 4 (some 30))) 0 5 (some 41))) 0 6 (some 46))) 0 7 (some 48))) 0 8 (some 51)) (cS51 (cS48 (cS46 (cS41 (cS30 (cS19 (cS15 (cS14 (cS1 σ))))))))) hz) (by decide) (zFit_rm (by decide)) ⟨zle rfl, zle rfl⟩ (zle rfl) dX9_init_124 (fun _ => ?_)
    have hz := fr_62 hz
    show Zo g _ _ _ 64 1580 127 _ _ (65, _, _)
    refine Zo_putD (Or.inl rfl) fl_X9_73 kd_0 (by decide) (by decide) dX9_init_127 ?_
    have hz := hz.wd (k := 0) (f := 9) (v := Int32.ofNat 62) (by decide)
    show Zo g _ _ _ 64 1580 130 _ _ (65, _, _)
    refine Zo_aload0 dX9_init_130 ?_
    refine Zo_new cn_X9_70 kd_65 hz ⟨zle rfl, zle rfl⟩ dX9_init_131 ?_
    have hz := hz.up (N' := 66) (by decide)
    show Zo g _ _ _ 65 1584 134 _ _ (66, _, _)
    refine Zo_dup dX9_init_134 rfl ?_
    refine Zo_callI (K := 2) (S := 256) (finc := fun _ : Unit => (none, (68, cR65 (cR62 (zWR (cR51 (zWR (cR48 (zWR (cR46 (zWR (cR41 (zWR (cR30 (zWR (cR19 (zWR (cR15 (zWR (cR14 (zWR (cR1 R) 0 0 (some 1))) 0 1 (some 14))) 0 2 (some 15))) 0 3 (some 19))) 0 4 (some 30))) 0 5 (some 41))) 0 6 (some 46))) 0 7 (some 48))) 0 8 (some 51))), cS65 (zWD (cS62 (cS51 (cS48 (cS46 (cS41 (cS30 (cS19 (cS15 (cS14 (cS1 σ)))))))))) 0 9 (Int32.ofNat 62))))) (oc := some ()) (Kf := fun _ => some ()) [] 65 lki_X9_72 (fun _ _ => c_65 g (cR62 (zWR (cR51 (zWR (cR48 (zWR (cR46 (zWR (cR41 (zWR (cR30 (zWR (cR19 (zWR (cR15 (zWR (cR14 (zWR (cR1 R) 0 0 (some 1))) 0 1 (some 14))) 0 2 (some 15))) 0 3 (some 19))) 0 4 (some 30))) 0 5 (some 41))) 0 6 (some 46))) 0 7 (some 48))) 0 8 (some 51))) (zWD (cS62 (cS51 (cS48 (cS46 (cS41 (cS30 (cS19 (cS15 (cS14 (cS1 σ)))))))))) 0 9 (Int32.ofNat 62)) hz) (by decide) (zFit_rm (by decide)) ⟨zle rfl, zle rfl⟩ (zle rfl) dX9_init_135 (fun _ => ?_)
    have hz := fr_65 hz
    show Zo g _ _ _ 67 1840 138 _ _ (68, _, _)
    refine Zo_putD (Or.inr rfl) fl_X9_77 kd_0 (by decide) (by decide) dX9_init_138 ?_
    have hz := hz.wd (k := 0) (f := 10) (v := Int32.ofNat 65) (by decide)
    show Zo g _ _ _ 67 1840 141 _ _ (68, _, _)
    exact Zo_vret dX9_init_141 rfl rfl (Nat.le_refl _) (Nat.le_refl _)
  exact key () rfl
def cR68 (R : ZRf) : ZRf := (zWR (zWR (zWR (zWR (zWR (zWR (zWR (zWR (zWR (zWR (zWR (zWR (zWR (zWR (zWR (zWR (zWR (zWR (zWR (zWR (zWR (zWR (zWR (zWR (zWR (zWR (zWR (zWR (zWR (zWR (zWR R 68 0 (some 69)) 68 1 (some 70)) 68 2 (some 71)) 68 3 (some 72)) 68 7 (some 73)) 68 8 (some 74)) 68 9 (some 75)) 68 11 (some 76)) 68 12 (some 77)) 68 14 (some 78)) 68 15 (some 79)) 68 16 (some 80)) 68 17 (some 81)) 68 18 (some 82)) 68 20 (some 83)) 68 27 (some 84)) 68 28 (some 85)) 68 29 (some 86)) 68 30 (some 87)) 68 31 (some 88)) 68 32 (some 89)) 68 33 (some 90)) 68 36 (some 91)) 68 37 (some 92)) 68 38 (some 93)) 68 40 (some 94)) 68 41 (some 95)) 68 45 (some 96)) 68 46 (some 97)) 68 47 (some 98)) 68 48 (some 99))
def cS68 (σ : ZSt) : ZSt := (zWD (zWD (zWD (zWD (zWD (zWD (zWD (zWD σ 96 (0 : Int32).toNatClampNeg (-1 : Int32)) 96 ((0 : Int32) + (1 : Int32)).toNatClampNeg (-1 : Int32)) 96 (((0 : Int32) + (1 : Int32)) + (1 : Int32)).toNatClampNeg (-1 : Int32)) 96 ((((0 : Int32) + (1 : Int32)) + (1 : Int32)) + (1 : Int32)).toNatClampNeg (-1 : Int32)) 96 (((((0 : Int32) + (1 : Int32)) + (1 : Int32)) + (1 : Int32)) + (1 : Int32)).toNatClampNeg (-1 : Int32)) 96 ((((((0 : Int32) + (1 : Int32)) + (1 : Int32)) + (1 : Int32)) + (1 : Int32)) + (1 : Int32)).toNatClampNeg (-1 : Int32)) 68 21 (-1 : Int32)) 68 34 (-1 : Int32))
theorem fr_68 {R : ZRf} {σ : ZSt} (hz : zFr 69 R σ) : zFr 100 (cR68 R) (cS68 σ) := by
  have hz := hz.up (N' := 70) (by decide)
  have hz := hz.wr (k := 68) (f := 0) (v := some 69) (by decide)
  have hz := hz.up (N' := 71) (by decide)
  have hz := hz.wr (k := 68) (f := 1) (v := some 70) (by decide)
  have hz := hz.up (N' := 72) (by decide)
  have hz := hz.wr (k := 68) (f := 2) (v := some 71) (by decide)
  have hz := hz.up (N' := 73) (by decide)
  have hz := hz.wr (k := 68) (f := 3) (v := some 72) (by decide)
  have hz := hz.up (N' := 74) (by decide)
  have hz := hz.wr (k := 68) (f := 7) (v := some 73) (by decide)
  have hz := hz.up (N' := 75) (by decide)
  have hz := hz.wr (k := 68) (f := 8) (v := some 74) (by decide)
  have hz := hz.up (N' := 76) (by decide)
  have hz := hz.wr (k := 68) (f := 9) (v := some 75) (by decide)
  have hz := hz.up (N' := 77) (by decide)
  have hz := hz.wr (k := 68) (f := 11) (v := some 76) (by decide)
  have hz := hz.up (N' := 78) (by decide)
  have hz := hz.wr (k := 68) (f := 12) (v := some 77) (by decide)
  have hz := hz.up (N' := 79) (by decide)
  have hz := hz.wr (k := 68) (f := 14) (v := some 78) (by decide)
  have hz := hz.up (N' := 80) (by decide)
  have hz := hz.wr (k := 68) (f := 15) (v := some 79) (by decide)
  have hz := hz.up (N' := 81) (by decide)
  have hz := hz.wr (k := 68) (f := 16) (v := some 80) (by decide)
  have hz := hz.up (N' := 82) (by decide)
  have hz := hz.wr (k := 68) (f := 17) (v := some 81) (by decide)
  have hz := hz.up (N' := 83) (by decide)
  have hz := hz.wr (k := 68) (f := 18) (v := some 82) (by decide)
  have hz := hz.up (N' := 84) (by decide)
  have hz := hz.wr (k := 68) (f := 20) (v := some 83) (by decide)
  have hz := hz.up (N' := 85) (by decide)
  have hz := hz.wr (k := 68) (f := 27) (v := some 84) (by decide)
  have hz := hz.up (N' := 86) (by decide)
  have hz := hz.wr (k := 68) (f := 28) (v := some 85) (by decide)
  have hz := hz.up (N' := 87) (by decide)
  have hz := hz.wr (k := 68) (f := 29) (v := some 86) (by decide)
  have hz := hz.up (N' := 88) (by decide)
  have hz := hz.wr (k := 68) (f := 30) (v := some 87) (by decide)
  have hz := hz.up (N' := 89) (by decide)
  have hz := hz.wr (k := 68) (f := 31) (v := some 88) (by decide)
  have hz := hz.up (N' := 90) (by decide)
  have hz := hz.wr (k := 68) (f := 32) (v := some 89) (by decide)
  have hz := hz.up (N' := 91) (by decide)
  have hz := hz.wr (k := 68) (f := 33) (v := some 90) (by decide)
  have hz := hz.up (N' := 92) (by decide)
  have hz := hz.wr (k := 68) (f := 36) (v := some 91) (by decide)
  have hz := hz.up (N' := 93) (by decide)
  have hz := hz.wr (k := 68) (f := 37) (v := some 92) (by decide)
  have hz := hz.up (N' := 94) (by decide)
  have hz := hz.wr (k := 68) (f := 38) (v := some 93) (by decide)
  have hz := hz.up (N' := 95) (by decide)
  have hz := hz.wr (k := 68) (f := 40) (v := some 94) (by decide)
  have hz := hz.up (N' := 96) (by decide)
  have hz := hz.wr (k := 68) (f := 41) (v := some 95) (by decide)
  have hz := hz.up (N' := 97) (by decide)
  have hz := hz.wr (k := 68) (f := 45) (v := some 96) (by decide)
  have hz := hz.up (N' := 98) (by decide)
  have hz := hz.wr (k := 68) (f := 46) (v := some 97) (by decide)
  have hz := hz.up (N' := 99) (by decide)
  have hz := hz.wr (k := 68) (f := 47) (v := some 98) (by decide)
  have hz := hz.up (N' := 100) (by decide)
  have hz := hz.wr (k := 68) (f := 48) (v := some 99) (by decide)
  have hz := hz.wd (k := 96) (f := (0 : Int32).toNatClampNeg) (v := (-1 : Int32)) (by decide)
  have hz := hz.wd (k := 96) (f := ((0 : Int32) + (1 : Int32)).toNatClampNeg) (v := (-1 : Int32)) (by decide)
  have hz := hz.wd (k := 96) (f := (((0 : Int32) + (1 : Int32)) + (1 : Int32)).toNatClampNeg) (v := (-1 : Int32)) (by decide)
  have hz := hz.wd (k := 96) (f := ((((0 : Int32) + (1 : Int32)) + (1 : Int32)) + (1 : Int32)).toNatClampNeg) (v := (-1 : Int32)) (by decide)
  have hz := hz.wd (k := 96) (f := (((((0 : Int32) + (1 : Int32)) + (1 : Int32)) + (1 : Int32)) + (1 : Int32)).toNatClampNeg) (v := (-1 : Int32)) (by decide)
  have hz := hz.wd (k := 96) (f := ((((((0 : Int32) + (1 : Int32)) + (1 : Int32)) + (1 : Int32)) + (1 : Int32)) + (1 : Int32)).toNatClampNeg) (v := (-1 : Int32)) (by decide)
  have hz := hz.wd (k := 68) (f := 21) (v := (-1 : Int32)) (by decide)
  have hz := hz.wd (k := 68) (f := 34) (v := (-1 : Int32)) (by decide)
  exact hz
set_option maxHeartbeats 8000000 in
set_option maxRecDepth 100000 in
theorem c_68 (g : ZG) (R : ZRf) (σ : ZSt) (hz : zFr 69 R σ) : zEv g 0 31 1114 yX10_init cX10_init 2 none [.ref 68] (69, R, σ) (none, (100, cR68 R, cS68 σ)) := by
  refine zEv_of 1 rfl rfl ?_
  have key : Zo g (yX10_init, cX10_init, 2, none, zRm 0 31 1114, zTg g 31 1114) (fun _ : Unit => (none, (100, cR68 R, cS68 σ))) (some ()) 0 0 0 [some (.ref 68), none] [] (69, R, σ) := by
    refine Zo_aload0 dX10_init_0 ?_
    refine Zo_objInit oi_X10_3 (zle rfl) ⟨zle rfl, zle rfl⟩ dX10_init_1 ?_
    refine Zo_aload0 dX10_init_4 ?_
    refine Zo_bipush (66 : Int32) dX10_init_5 bp_66 ?_
    refine Zo_newi 66 (by decide) (by decide) kd_69 hz (fun f => by unfold z0; simp) (by decide) ⟨zle rfl, zle rfl⟩ dX10_init_7 ?_
    have hz := hz.up (N' := 70) (by decide)
    show Zo g _ _ _ 1 66 9 _ _ (70, _, _)
    refine Zo_putR fl_X10_9 rfl rfl (fun C T n h => by cases h; rfl) kd_68 (by decide) (by decide) dX10_init_9 ?_
    have hz := hz.wr (k := 68) (f := 0) (v := some 69) (by decide)
    show Zo g _ _ _ 1 66 12 _ _ (70, _, _)
    refine Zo_aload0 dX10_init_12 ?_
    refine Zo_bipush (40 : Int32) dX10_init_13 bp_40 ?_
    refine Zo_newi 40 (by decide) (by decide) kd_70 hz (fun f => by unfold z0; simp) (by decide) ⟨zle rfl, zle rfl⟩ dX10_init_15 ?_
    have hz := hz.up (N' := 71) (by decide)
    show Zo g _ _ _ 2 106 17 _ _ (71, _, _)
    refine Zo_putR fl_X10_13 rfl rfl (fun C T n h => by cases h; rfl) kd_68 (by decide) (by decide) dX10_init_17 ?_
    have hz := hz.wr (k := 68) (f := 1) (v := some 70) (by decide)
    show Zo g _ _ _ 2 106 20 _ _ (71, _, _)
    refine Zo_aload0 dX10_init_20 ?_
    refine Zo_bipush (40 : Int32) dX10_init_21 bp_40 ?_
    refine Zo_newi 40 (by decide) (by decide) kd_71 hz (fun f => by unfold z0; simp) (by decide) ⟨zle rfl, zle rfl⟩ dX10_init_23 ?_
    have hz := hz.up (N' := 72) (by decide)
    show Zo g _ _ _ 3 146 25 _ _ (72, _, _)
    refine Zo_putR fl_X10_16 rfl rfl (fun C T n h => by cases h; rfl) kd_68 (by decide) (by decide) dX10_init_25 ?_
    have hz := hz.wr (k := 68) (f := 2) (v := some 71) (by decide)
    show Zo g _ _ _ 3 146 28 _ _ (72, _, _)
    refine Zo_aload0 dX10_init_28 ?_
    refine Zo_bipush (40 : Int32) dX10_init_29 bp_40 ?_
    refine Zo_newi 40 (by decide) (by decide) kd_72 hz (fun f => by unfold z0; simp) (by decide) ⟨zle rfl, zle rfl⟩ dX10_init_31 ?_
    have hz := hz.up (N' := 73) (by decide)
    show Zo g _ _ _ 4 186 33 _ _ (73, _, _)
    refine Zo_putR fl_X10_19 rfl rfl (fun C T n h => by cases h; rfl) kd_68 (by decide) (by decide) dX10_init_33 ?_
    have hz := hz.wr (k := 68) (f := 3) (v := some 72) (by decide)
    show Zo g _ _ _ 4 186 36 _ _ (73, _, _)
    refine Zo_aload0 dX10_init_36 ?_
    refine Zo_bipush (6 : Int32) dX10_init_37 bp_6 ?_
    refine Zo_newi 6 (by decide) (by decide) kd_73 hz (fun f => by unfold z0; simp) (by decide) ⟨zle rfl, zle rfl⟩ dX10_init_39 ?_
    have hz := hz.up (N' := 74) (by decide)
    show Zo g _ _ _ 5 192 41 _ _ (74, _, _)
    refine Zo_putR fl_X10_22 rfl rfl (fun C T n h => by cases h; rfl) kd_68 (by decide) (by decide) dX10_init_41 ?_
    have hz := hz.wr (k := 68) (f := 7) (v := some 73) (by decide)
    show Zo g _ _ _ 5 192 44 _ _ (74, _, _)
    refine Zo_aload0 dX10_init_44 ?_
    refine Zo_bipush (6 : Int32) dX10_init_45 bp_6 ?_
    refine Zo_newi 6 (by decide) (by decide) kd_74 hz (fun f => by unfold z0; simp) (by decide) ⟨zle rfl, zle rfl⟩ dX10_init_47 ?_
    have hz := hz.up (N' := 75) (by decide)
    show Zo g _ _ _ 6 198 49 _ _ (75, _, _)
    refine Zo_putR fl_X10_25 rfl rfl (fun C T n h => by cases h; rfl) kd_68 (by decide) (by decide) dX10_init_49 ?_
    have hz := hz.wr (k := 68) (f := 8) (v := some 74) (by decide)
    show Zo g _ _ _ 6 198 52 _ _ (75, _, _)
    refine Zo_aload0 dX10_init_52 ?_
    refine Zo_bipush (6 : Int32) dX10_init_53 bp_6 ?_
    refine Zo_newi 6 (by decide) (by decide) kd_75 hz (fun f => by unfold z0; simp) (by decide) ⟨zle rfl, zle rfl⟩ dX10_init_55 ?_
    have hz := hz.up (N' := 76) (by decide)
    show Zo g _ _ _ 7 204 57 _ _ (76, _, _)
    refine Zo_putR fl_X10_28 rfl rfl (fun C T n h => by cases h; rfl) kd_68 (by decide) (by decide) dX10_init_57 ?_
    have hz := hz.wr (k := 68) (f := 9) (v := some 75) (by decide)
    show Zo g _ _ _ 7 204 60 _ _ (76, _, _)
    refine Zo_aload0 dX10_init_60 ?_
    refine Zo_bipush (30 : Int32) dX10_init_61 bp_30 ?_
    refine Zo_newi 30 (by decide) (by decide) kd_76 hz (fun f => by unfold z0; simp) (by decide) ⟨zle rfl, zle rfl⟩ dX10_init_63 ?_
    have hz := hz.up (N' := 77) (by decide)
    show Zo g _ _ _ 8 234 65 _ _ (77, _, _)
    refine Zo_putR fl_X10_31 rfl rfl (fun C T n h => by cases h; rfl) kd_68 (by decide) (by decide) dX10_init_65 ?_
    have hz := hz.wr (k := 68) (f := 11) (v := some 76) (by decide)
    show Zo g _ _ _ 8 234 68 _ _ (77, _, _)
    refine Zo_aload0 dX10_init_68 ?_
    refine Zo_bipush (30 : Int32) dX10_init_69 bp_30 ?_
    refine Zo_newi 30 (by decide) (by decide) kd_77 hz (fun f => by unfold z0; simp) (by decide) ⟨zle rfl, zle rfl⟩ dX10_init_71 ?_
    have hz := hz.up (N' := 78) (by decide)
    show Zo g _ _ _ 9 264 73 _ _ (78, _, _)
    refine Zo_putR fl_X10_34 rfl rfl (fun C T n h => by cases h; rfl) kd_68 (by decide) (by decide) dX10_init_73 ?_
    have hz := hz.wr (k := 68) (f := 12) (v := some 77) (by decide)
    show Zo g _ _ _ 9 264 76 _ _ (78, _, _)
    refine Zo_aload0 dX10_init_76 ?_
    refine Zo_bipush (8 : Int32) dX10_init_77 bp_8 ?_
    refine Zo_newi 8 (by decide) (by decide) kd_78 hz (fun f => by unfold z0; simp) (by decide) ⟨zle rfl, zle rfl⟩ dX10_init_79 ?_
    have hz := hz.up (N' := 79) (by decide)
    show Zo g _ _ _ 10 272 81 _ _ (79, _, _)
    refine Zo_putR fl_X10_37 rfl rfl (fun C T n h => by cases h; rfl) kd_68 (by decide) (by decide) dX10_init_81 ?_
    have hz := hz.wr (k := 68) (f := 14) (v := some 78) (by decide)
    show Zo g _ _ _ 10 272 84 _ _ (79, _, _)
    refine Zo_aload0 dX10_init_84 ?_
    refine Zo_bipush (8 : Int32) dX10_init_85 bp_8 ?_
    refine Zo_newi 8 (by decide) (by decide) kd_79 hz (fun f => by unfold z0; simp) (by decide) ⟨zle rfl, zle rfl⟩ dX10_init_87 ?_
    have hz := hz.up (N' := 80) (by decide)
    show Zo g _ _ _ 11 280 89 _ _ (80, _, _)
    refine Zo_putR fl_X10_40 rfl rfl (fun C T n h => by cases h; rfl) kd_68 (by decide) (by decide) dX10_init_89 ?_
    have hz := hz.wr (k := 68) (f := 15) (v := some 79) (by decide)
    show Zo g _ _ _ 11 280 92 _ _ (80, _, _)
    refine Zo_aload0 dX10_init_92 ?_
    refine Zo_bipush (8 : Int32) dX10_init_93 bp_8 ?_
    refine Zo_newi 8 (by decide) (by decide) kd_80 hz (fun f => by unfold z0; simp) (by decide) ⟨zle rfl, zle rfl⟩ dX10_init_95 ?_
    have hz := hz.up (N' := 81) (by decide)
    show Zo g _ _ _ 12 288 97 _ _ (81, _, _)
    refine Zo_putR fl_X10_43 rfl rfl (fun C T n h => by cases h; rfl) kd_68 (by decide) (by decide) dX10_init_97 ?_
    have hz := hz.wr (k := 68) (f := 16) (v := some 80) (by decide)
    show Zo g _ _ _ 12 288 100 _ _ (81, _, _)
    refine Zo_aload0 dX10_init_100 ?_
    refine Zo_bipush (8 : Int32) dX10_init_101 bp_8 ?_
    refine Zo_newi 8 (by decide) (by decide) kd_81 hz (fun f => by unfold z0; simp) (by decide) ⟨zle rfl, zle rfl⟩ dX10_init_103 ?_
    have hz := hz.up (N' := 82) (by decide)
    show Zo g _ _ _ 13 296 105 _ _ (82, _, _)
    refine Zo_putR fl_X10_46 rfl rfl (fun C T n h => by cases h; rfl) kd_68 (by decide) (by decide) dX10_init_105 ?_
    have hz := hz.wr (k := 68) (f := 17) (v := some 81) (by decide)
    show Zo g _ _ _ 13 296 108 _ _ (82, _, _)
    refine Zo_aload0 dX10_init_108 ?_
    refine Zo_bipush (120 : Int32) dX10_init_109 bp_120 ?_
    refine Zo_newi 120 (by decide) (by decide) kd_82 hz (fun f => by unfold z0; simp) (by decide) ⟨zle rfl, zle rfl⟩ dX10_init_111 ?_
    have hz := hz.up (N' := 83) (by decide)
    show Zo g _ _ _ 14 416 113 _ _ (83, _, _)
    refine Zo_putR fl_X10_49 rfl rfl (fun C T n h => by cases h; rfl) kd_68 (by decide) (by decide) dX10_init_113 ?_
    have hz := hz.wr (k := 68) (f := 18) (v := some 82) (by decide)
    show Zo g _ _ _ 14 416 116 _ _ (83, _, _)
    refine Zo_aload0 dX10_init_116 ?_
    refine Zo_bipush (120 : Int32) dX10_init_117 bp_120 ?_
    refine Zo_newi 120 (by decide) (by decide) kd_83 hz (fun f => by unfold z0; simp) (by decide) ⟨zle rfl, zle rfl⟩ dX10_init_119 ?_
    have hz := hz.up (N' := 84) (by decide)
    show Zo g _ _ _ 15 536 121 _ _ (84, _, _)
    refine Zo_putR fl_X10_52 rfl rfl (fun C T n h => by cases h; rfl) kd_68 (by decide) (by decide) dX10_init_121 ?_
    have hz := hz.wr (k := 68) (f := 20) (v := some 83) (by decide)
    show Zo g _ _ _ 15 536 124 _ _ (84, _, _)
    refine Zo_aload0 dX10_init_124 ?_
    refine Zo_bipush (8 : Int32) dX10_init_125 bp_8 ?_
    refine Zo_newi 8 (by decide) (by decide) kd_84 hz (fun f => by unfold z0; simp) (by decide) ⟨zle rfl, zle rfl⟩ dX10_init_127 ?_
    have hz := hz.up (N' := 85) (by decide)
    show Zo g _ _ _ 16 544 129 _ _ (85, _, _)
    refine Zo_putR fl_X10_55 rfl rfl (fun C T n h => by cases h; rfl) kd_68 (by decide) (by decide) dX10_init_129 ?_
    have hz := hz.wr (k := 68) (f := 27) (v := some 84) (by decide)
    show Zo g _ _ _ 16 544 132 _ _ (85, _, _)
    refine Zo_aload0 dX10_init_132 ?_
    refine Zo_bipush (8 : Int32) dX10_init_133 bp_8 ?_
    refine Zo_newi 8 (by decide) (by decide) kd_85 hz (fun f => by unfold z0; simp) (by decide) ⟨zle rfl, zle rfl⟩ dX10_init_135 ?_
    have hz := hz.up (N' := 86) (by decide)
    show Zo g _ _ _ 17 552 137 _ _ (86, _, _)
    refine Zo_putR fl_X10_58 rfl rfl (fun C T n h => by cases h; rfl) kd_68 (by decide) (by decide) dX10_init_137 ?_
    have hz := hz.wr (k := 68) (f := 28) (v := some 85) (by decide)
    show Zo g _ _ _ 17 552 140 _ _ (86, _, _)
    refine Zo_aload0 dX10_init_140 ?_
    refine Zo_bipush (8 : Int32) dX10_init_141 bp_8 ?_
    refine Zo_newi 8 (by decide) (by decide) kd_86 hz (fun f => by unfold z0; simp) (by decide) ⟨zle rfl, zle rfl⟩ dX10_init_143 ?_
    have hz := hz.up (N' := 87) (by decide)
    show Zo g _ _ _ 18 560 145 _ _ (87, _, _)
    refine Zo_putR fl_X10_61 rfl rfl (fun C T n h => by cases h; rfl) kd_68 (by decide) (by decide) dX10_init_145 ?_
    have hz := hz.wr (k := 68) (f := 29) (v := some 86) (by decide)
    show Zo g _ _ _ 18 560 148 _ _ (87, _, _)
    refine Zo_aload0 dX10_init_148 ?_
    refine Zo_bipush (6 : Int32) dX10_init_149 bp_6 ?_
    refine Zo_newi 6 (by decide) (by decide) kd_87 hz (fun f => by unfold z0; simp) (by decide) ⟨zle rfl, zle rfl⟩ dX10_init_151 ?_
    have hz := hz.up (N' := 88) (by decide)
    show Zo g _ _ _ 19 566 153 _ _ (88, _, _)
    refine Zo_putR fl_X10_64 rfl rfl (fun C T n h => by cases h; rfl) kd_68 (by decide) (by decide) dX10_init_153 ?_
    have hz := hz.wr (k := 68) (f := 30) (v := some 87) (by decide)
    show Zo g _ _ _ 19 566 156 _ _ (88, _, _)
    refine Zo_aload0 dX10_init_156 ?_
    refine Zo_bipush (6 : Int32) dX10_init_157 bp_6 ?_
    refine Zo_newi 6 (by decide) (by decide) kd_88 hz (fun f => by unfold z0; simp) (by decide) ⟨zle rfl, zle rfl⟩ dX10_init_159 ?_
    have hz := hz.up (N' := 89) (by decide)
    show Zo g _ _ _ 20 572 161 _ _ (89, _, _)
    refine Zo_putR fl_X10_67 rfl rfl (fun C T n h => by cases h; rfl) kd_68 (by decide) (by decide) dX10_init_161 ?_
    have hz := hz.wr (k := 68) (f := 31) (v := some 88) (by decide)
    show Zo g _ _ _ 20 572 164 _ _ (89, _, _)
    refine Zo_aload0 dX10_init_164 ?_
    refine Zo_bipush (6 : Int32) dX10_init_165 bp_6 ?_
    refine Zo_newi 6 (by decide) (by decide) kd_89 hz (fun f => by unfold z0; simp) (by decide) ⟨zle rfl, zle rfl⟩ dX10_init_167 ?_
    have hz := hz.up (N' := 90) (by decide)
    show Zo g _ _ _ 21 578 169 _ _ (90, _, _)
    refine Zo_putR fl_X10_70 rfl rfl (fun C T n h => by cases h; rfl) kd_68 (by decide) (by decide) dX10_init_169 ?_
    have hz := hz.wr (k := 68) (f := 32) (v := some 89) (by decide)
    show Zo g _ _ _ 21 578 172 _ _ (90, _, _)
    refine Zo_aload0 dX10_init_172 ?_
    refine Zo_bipush (8 : Int32) dX10_init_173 bp_8 ?_
    refine Zo_newi 8 (by decide) (by decide) kd_90 hz (fun f => by unfold z0; simp) (by decide) ⟨zle rfl, zle rfl⟩ dX10_init_175 ?_
    have hz := hz.up (N' := 91) (by decide)
    show Zo g _ _ _ 22 586 177 _ _ (91, _, _)
    refine Zo_putR fl_X10_73 rfl rfl (fun C T n h => by cases h; rfl) kd_68 (by decide) (by decide) dX10_init_177 ?_
    have hz := hz.wr (k := 68) (f := 33) (v := some 90) (by decide)
    show Zo g _ _ _ 22 586 180 _ _ (91, _, _)
    refine Zo_aload0 dX10_init_180 ?_
    refine Zo_bipush (8 : Int32) dX10_init_181 bp_8 ?_
    refine Zo_newi 8 (by decide) (by decide) kd_91 hz (fun f => by unfold z0; simp) (by decide) ⟨zle rfl, zle rfl⟩ dX10_init_183 ?_
    have hz := hz.up (N' := 92) (by decide)
    show Zo g _ _ _ 23 594 185 _ _ (92, _, _)
    refine Zo_putR fl_X10_76 rfl rfl (fun C T n h => by cases h; rfl) kd_68 (by decide) (by decide) dX10_init_185 ?_
    have hz := hz.wr (k := 68) (f := 36) (v := some 91) (by decide)
    show Zo g _ _ _ 23 594 188 _ _ (92, _, _)
    refine Zo_aload0 dX10_init_188 ?_
    refine Zo_bipush (8 : Int32) dX10_init_189 bp_8 ?_
    refine Zo_newi 8 (by decide) (by decide) kd_92 hz (fun f => by unfold z0; simp) (by decide) ⟨zle rfl, zle rfl⟩ dX10_init_191 ?_
    have hz := hz.up (N' := 93) (by decide)
    show Zo g _ _ _ 24 602 193 _ _ (93, _, _)
    refine Zo_putR fl_X10_79 rfl rfl (fun C T n h => by cases h; rfl) kd_68 (by decide) (by decide) dX10_init_193 ?_
    have hz := hz.wr (k := 68) (f := 37) (v := some 92) (by decide)
    show Zo g _ _ _ 24 602 196 _ _ (93, _, _)
    refine Zo_aload0 dX10_init_196 ?_
    refine Zo_bipush (6 : Int32) dX10_init_197 bp_6 ?_
    refine Zo_newi 6 (by decide) (by decide) kd_93 hz (fun f => by unfold z0; simp) (by decide) ⟨zle rfl, zle rfl⟩ dX10_init_199 ?_
    have hz := hz.up (N' := 94) (by decide)
    show Zo g _ _ _ 25 608 201 _ _ (94, _, _)
    refine Zo_putR fl_X10_82 rfl rfl (fun C T n h => by cases h; rfl) kd_68 (by decide) (by decide) dX10_init_201 ?_
    have hz := hz.wr (k := 68) (f := 38) (v := some 93) (by decide)
    show Zo g _ _ _ 25 608 204 _ _ (94, _, _)
    refine Zo_aload0 dX10_init_204 ?_
    refine Zo_bipush (50 : Int32) dX10_init_205 bp_50 ?_
    refine Zo_newi 50 (by decide) (by decide) kd_94 hz (fun f => by unfold z0; simp) (by decide) ⟨zle rfl, zle rfl⟩ dX10_init_207 ?_
    have hz := hz.up (N' := 95) (by decide)
    show Zo g _ _ _ 26 658 209 _ _ (95, _, _)
    refine Zo_putR fl_X10_85 rfl rfl (fun C T n h => by cases h; rfl) kd_68 (by decide) (by decide) dX10_init_209 ?_
    have hz := hz.wr (k := 68) (f := 40) (v := some 94) (by decide)
    show Zo g _ _ _ 26 658 212 _ _ (95, _, _)
    refine Zo_aload0 dX10_init_212 ?_
    refine Zo_bipush (24 : Int32) dX10_init_213 bp_24 ?_
    refine Zo_newi 24 (by decide) (by decide) kd_95 hz (fun f => by unfold z0; simp) (by decide) ⟨zle rfl, zle rfl⟩ dX10_init_215 ?_
    have hz := hz.up (N' := 96) (by decide)
    show Zo g _ _ _ 27 682 217 _ _ (96, _, _)
    refine Zo_putR fl_X10_88 rfl rfl (fun C T n h => by cases h; rfl) kd_68 (by decide) (by decide) dX10_init_217 ?_
    have hz := hz.wr (k := 68) (f := 41) (v := some 95) (by decide)
    show Zo g _ _ _ 27 682 220 _ _ (96, _, _)
    refine Zo_aload0 dX10_init_220 ?_
    refine Zo_bipush (6 : Int32) dX10_init_221 bp_6 ?_
    refine Zo_newi 6 (by decide) (by decide) kd_96 hz (fun f => by unfold z0; simp) (by decide) ⟨zle rfl, zle rfl⟩ dX10_init_223 ?_
    have hz := hz.up (N' := 97) (by decide)
    show Zo g _ _ _ 28 688 225 _ _ (97, _, _)
    refine Zo_putR fl_X10_91 rfl rfl (fun C T n h => by cases h; rfl) kd_68 (by decide) (by decide) dX10_init_225 ?_
    have hz := hz.wr (k := 68) (f := 45) (v := some 96) (by decide)
    show Zo g _ _ _ 28 688 228 _ _ (97, _, _)
    refine Zo_aload0 dX10_init_228 ?_
    refine Zo_bipush (6 : Int32) dX10_init_229 bp_6 ?_
    refine Zo_newi 6 (by decide) (by decide) kd_97 hz (fun f => by unfold z0; simp) (by decide) ⟨zle rfl, zle rfl⟩ dX10_init_231 ?_
    have hz := hz.up (N' := 98) (by decide)
    show Zo g _ _ _ 29 694 233 _ _ (98, _, _)
    refine Zo_putR fl_X10_94 rfl rfl (fun C T n h => by cases h; rfl) kd_68 (by decide) (by decide) dX10_init_233 ?_
    have hz := hz.wr (k := 68) (f := 46) (v := some 97) (by decide)
    show Zo g _ _ _ 29 694 236 _ _ (98, _, _)
    refine Zo_aload0 dX10_init_236 ?_
    refine Zo_sipush (360 : Int32) dX10_init_237 sp_360 ?_
    refine Zo_newl 360 (by decide) (by decide) kd_98 hz (by decide) ⟨zle rfl, zle rfl⟩ dX10_init_240 ?_
    have hz := hz.up (N' := 99) (by decide)
    show Zo g _ _ _ 30 1054 242 _ _ (99, _, _)
    refine Zo_putR fl_X10_97 rfl rfl (fun C T n h => by cases h; rfl) kd_68 (by decide) (by decide) dX10_init_242 ?_
    have hz := hz.wr (k := 68) (f := 47) (v := some 98) (by decide)
    show Zo g _ _ _ 30 1054 245 _ _ (99, _, _)
    refine Zo_aload0 dX10_init_245 ?_
    refine Zo_bipush (60 : Int32) dX10_init_246 bp_60 ?_
    refine Zo_newl 60 (by decide) (by decide) kd_99 hz (by decide) ⟨zle rfl, zle rfl⟩ dX10_init_248 ?_
    have hz := hz.up (N' := 100) (by decide)
    show Zo g _ _ _ 31 1114 250 _ _ (100, _, _)
    refine Zo_putR fl_X10_101 rfl rfl (fun C T n h => by cases h; rfl) kd_68 (by decide) (by decide) dX10_init_250 ?_
    have hz := hz.wr (k := 68) (f := 48) (v := some 99) (by decide)
    show Zo g _ _ _ 31 1114 253 _ _ (100, _, _)
    refine Zo_iconst (0 : Int32) dX10_init_253 ic_0 ?_
    refine Zo_istore1 rfl (zlt rfl) dX10_init_254 ?_
    refine Zo_iload1 dX10_init_255 ?_
    refine Zo_bipush (6 : Int32) dX10_init_256 bp_6 ?_
    refine Zo_oeq (o' := if (6 : Int32) ≤ (0 : Int32) then none else some ()) (if_neg (by decide)) ?_
    refine Zo_icmpge 274 dX10_init_258 (by decide) Zo_none ?_
    show Zo g _ _ _ 31 1114 261 _ _ (100, _, _)
    refine Zo_aload0 dX10_init_261 ?_
    refine Zo_getR (j := 96) fl_X10_91 kd_68 (by decide) (by decide) (by rfl) dX10_init_262 ?_
    refine Zo_iload1 dX10_init_265 ?_
    refine Zo_iconst (-1 : Int32) dX10_init_266 ic_m1 ?_
    refine Zo_iastN kd_96 (by decide) (by decide) (by decide) dX10_init_267 ?_
    have hz := hz.wd (k := 96) (f := (0 : Int32).toNatClampNeg) (v := (-1 : Int32)) (by decide)
    show Zo g _ _ _ 31 1114 268 _ _ (100, _, _)
    refine Zo_iinc1 rfl (1 : Int32) ic_1 (zlt rfl) dX10_init_268 ?_
    refine Zo_goto 255 dX10_init_271 (by decide) ?_
    show Zo g _ _ _ 31 1114 255 _ _ (100, _, _)
    refine Zo_iload1 dX10_init_255 ?_
    refine Zo_bipush (6 : Int32) dX10_init_256 bp_6 ?_
    refine Zo_oeq (o' := if (6 : Int32) ≤ ((0 : Int32) + (1 : Int32)) then none else some ()) (if_neg (by decide)) ?_
    refine Zo_icmpge 274 dX10_init_258 (by decide) Zo_none ?_
    show Zo g _ _ _ 31 1114 261 _ _ (100, _, _)
    refine Zo_aload0 dX10_init_261 ?_
    refine Zo_getR (j := 96) fl_X10_91 kd_68 (by decide) (by decide) (by rfl) dX10_init_262 ?_
    refine Zo_iload1 dX10_init_265 ?_
    refine Zo_iconst (-1 : Int32) dX10_init_266 ic_m1 ?_
    refine Zo_iastN kd_96 (by decide) (by decide) (by decide) dX10_init_267 ?_
    have hz := hz.wd (k := 96) (f := ((0 : Int32) + (1 : Int32)).toNatClampNeg) (v := (-1 : Int32)) (by decide)
    show Zo g _ _ _ 31 1114 268 _ _ (100, _, _)
    refine Zo_iinc1 rfl (1 : Int32) ic_1 (zlt rfl) dX10_init_268 ?_
    refine Zo_goto 255 dX10_init_271 (by decide) ?_
    show Zo g _ _ _ 31 1114 255 _ _ (100, _, _)
    refine Zo_iload1 dX10_init_255 ?_
    refine Zo_bipush (6 : Int32) dX10_init_256 bp_6 ?_
    refine Zo_oeq (o' := if (6 : Int32) ≤ (((0 : Int32) + (1 : Int32)) + (1 : Int32)) then none else some ()) (if_neg (by decide)) ?_
    refine Zo_icmpge 274 dX10_init_258 (by decide) Zo_none ?_
    show Zo g _ _ _ 31 1114 261 _ _ (100, _, _)
    refine Zo_aload0 dX10_init_261 ?_
    refine Zo_getR (j := 96) fl_X10_91 kd_68 (by decide) (by decide) (by rfl) dX10_init_262 ?_
    refine Zo_iload1 dX10_init_265 ?_
    refine Zo_iconst (-1 : Int32) dX10_init_266 ic_m1 ?_
    refine Zo_iastN kd_96 (by decide) (by decide) (by decide) dX10_init_267 ?_
    have hz := hz.wd (k := 96) (f := (((0 : Int32) + (1 : Int32)) + (1 : Int32)).toNatClampNeg) (v := (-1 : Int32)) (by decide)
    show Zo g _ _ _ 31 1114 268 _ _ (100, _, _)
    refine Zo_iinc1 rfl (1 : Int32) ic_1 (zlt rfl) dX10_init_268 ?_
    refine Zo_goto 255 dX10_init_271 (by decide) ?_
    show Zo g _ _ _ 31 1114 255 _ _ (100, _, _)
    refine Zo_iload1 dX10_init_255 ?_
    refine Zo_bipush (6 : Int32) dX10_init_256 bp_6 ?_
    refine Zo_oeq (o' := if (6 : Int32) ≤ ((((0 : Int32) + (1 : Int32)) + (1 : Int32)) + (1 : Int32)) then none else some ()) (if_neg (by decide)) ?_
    refine Zo_icmpge 274 dX10_init_258 (by decide) Zo_none ?_
    show Zo g _ _ _ 31 1114 261 _ _ (100, _, _)
    refine Zo_aload0 dX10_init_261 ?_
    refine Zo_getR (j := 96) fl_X10_91 kd_68 (by decide) (by decide) (by rfl) dX10_init_262 ?_
    refine Zo_iload1 dX10_init_265 ?_
    refine Zo_iconst (-1 : Int32) dX10_init_266 ic_m1 ?_
    refine Zo_iastN kd_96 (by decide) (by decide) (by decide) dX10_init_267 ?_
    have hz := hz.wd (k := 96) (f := ((((0 : Int32) + (1 : Int32)) + (1 : Int32)) + (1 : Int32)).toNatClampNeg) (v := (-1 : Int32)) (by decide)
    show Zo g _ _ _ 31 1114 268 _ _ (100, _, _)
    refine Zo_iinc1 rfl (1 : Int32) ic_1 (zlt rfl) dX10_init_268 ?_
    refine Zo_goto 255 dX10_init_271 (by decide) ?_
    show Zo g _ _ _ 31 1114 255 _ _ (100, _, _)
    refine Zo_iload1 dX10_init_255 ?_
    refine Zo_bipush (6 : Int32) dX10_init_256 bp_6 ?_
    refine Zo_oeq (o' := if (6 : Int32) ≤ (((((0 : Int32) + (1 : Int32)) + (1 : Int32)) + (1 : Int32)) + (1 : Int32)) then none else some ()) (if_neg (by decide)) ?_
    refine Zo_icmpge 274 dX10_init_258 (by decide) Zo_none ?_
    show Zo g _ _ _ 31 1114 261 _ _ (100, _, _)
    refine Zo_aload0 dX10_init_261 ?_
    refine Zo_getR (j := 96) fl_X10_91 kd_68 (by decide) (by decide) (by rfl) dX10_init_262 ?_
    refine Zo_iload1 dX10_init_265 ?_
    refine Zo_iconst (-1 : Int32) dX10_init_266 ic_m1 ?_
    refine Zo_iastN kd_96 (by decide) (by decide) (by decide) dX10_init_267 ?_
    have hz := hz.wd (k := 96) (f := (((((0 : Int32) + (1 : Int32)) + (1 : Int32)) + (1 : Int32)) + (1 : Int32)).toNatClampNeg) (v := (-1 : Int32)) (by decide)
    show Zo g _ _ _ 31 1114 268 _ _ (100, _, _)
    refine Zo_iinc1 rfl (1 : Int32) ic_1 (zlt rfl) dX10_init_268 ?_
    refine Zo_goto 255 dX10_init_271 (by decide) ?_
    show Zo g _ _ _ 31 1114 255 _ _ (100, _, _)
    refine Zo_iload1 dX10_init_255 ?_
    refine Zo_bipush (6 : Int32) dX10_init_256 bp_6 ?_
    refine Zo_oeq (o' := if (6 : Int32) ≤ ((((((0 : Int32) + (1 : Int32)) + (1 : Int32)) + (1 : Int32)) + (1 : Int32)) + (1 : Int32)) then none else some ()) (if_neg (by decide)) ?_
    refine Zo_icmpge 274 dX10_init_258 (by decide) Zo_none ?_
    show Zo g _ _ _ 31 1114 261 _ _ (100, _, _)
    refine Zo_aload0 dX10_init_261 ?_
    refine Zo_getR (j := 96) fl_X10_91 kd_68 (by decide) (by decide) (by rfl) dX10_init_262 ?_
    refine Zo_iload1 dX10_init_265 ?_
    refine Zo_iconst (-1 : Int32) dX10_init_266 ic_m1 ?_
    refine Zo_iastN kd_96 (by decide) (by decide) (by decide) dX10_init_267 ?_
    have hz := hz.wd (k := 96) (f := ((((((0 : Int32) + (1 : Int32)) + (1 : Int32)) + (1 : Int32)) + (1 : Int32)) + (1 : Int32)).toNatClampNeg) (v := (-1 : Int32)) (by decide)
    show Zo g _ _ _ 31 1114 268 _ _ (100, _, _)
    refine Zo_iinc1 rfl (1 : Int32) ic_1 (zlt rfl) dX10_init_268 ?_
    refine Zo_goto 255 dX10_init_271 (by decide) ?_
    show Zo g _ _ _ 31 1114 255 _ _ (100, _, _)
    refine Zo_iload1 dX10_init_255 ?_
    refine Zo_bipush (6 : Int32) dX10_init_256 bp_6 ?_
    refine Zo_oeq (o' := if (6 : Int32) ≤ (((((((0 : Int32) + (1 : Int32)) + (1 : Int32)) + (1 : Int32)) + (1 : Int32)) + (1 : Int32)) + (1 : Int32)) then some () else none) (if_pos (by decide)) ?_
    refine Zo_icmpge 274 dX10_init_258 (by decide) ?_ Zo_none
    show Zo g _ _ _ 31 1114 274 _ _ (100, _, _)
    refine Zo_aload0 dX10_init_274 ?_
    refine Zo_iconst (-1 : Int32) dX10_init_275 ic_m1 ?_
    refine Zo_putI fl_X10_104 kd_68 (by decide) (by decide) dX10_init_276 ?_
    have hz := hz.wd (k := 68) (f := 21) (v := (-1 : Int32)) (by decide)
    show Zo g _ _ _ 31 1114 279 _ _ (100, _, _)
    refine Zo_aload0 dX10_init_279 ?_
    refine Zo_iconst (-1 : Int32) dX10_init_280 ic_m1 ?_
    refine Zo_putI fl_X10_108 kd_68 (by decide) (by decide) dX10_init_281 ?_
    have hz := hz.wd (k := 68) (f := 34) (v := (-1 : Int32)) (by decide)
    show Zo g _ _ _ 31 1114 284 _ _ (100, _, _)
    exact Zo_vret dX10_init_284 rfl rfl (Nat.le_refl _) (Nat.le_refl _)
  exact key () rfl
