abbrev mX9_isWithin (g : ZG) (q : Nat) : ZM := (yX9_isWithin, cX9_isWithin, 3, (some .boolean), zRm q 0 0, zTg g 0 0)
def s_X9_isWithin (p0 : Int32) (p1 : Int32) (p2 : Int32) (σ : ZSt) : Option Int32 :=
  if p0 < p1 then (some (0 : Int32))
    else (if p2 < p0 then (some (0 : Int32))
      else (some (1 : Int32)))
set_option maxHeartbeats 4000000 in
set_option maxRecDepth 100000 in
theorem z_X9_isWithin (g : ZG) (p0 : Int32) (p1 : Int32) (p2 : Int32) (σ : ZSt) : Zo g (mX9_isWithin g 0) (fun b : Int32 => (some (.int b), zw σ)) (s_X9_isWithin p0 p1 p2 σ) 0 0 0 [some (.int p0), some (.int p1), some (.int p2)] [] (zw σ) := by
  unfold s_X9_isWithin
  refine Zo_iload0 dX9_isWithin_0 ?_
  refine Zo_iload1 dX9_isWithin_1 ?_
  refine Zo_icmplt 14 dX9_isWithin_2 (by decide) ?_ ?_
  · refine Zo_iconst (0 : Int32) dX9_isWithin_14 ic_0 ?_
    exact Zo_zret dX9_isWithin_15 rfl rfl (Or.inl rfl) (Nat.le_refl _) (Nat.le_refl _)
  · refine Zo_iload0 dX9_isWithin_5 ?_
    refine Zo_iload2 dX9_isWithin_6 ?_
    refine Zo_icmpgt 14 dX9_isWithin_7 (by decide) ?_ ?_
    · refine Zo_iconst (0 : Int32) dX9_isWithin_14 ic_0 ?_
      exact Zo_zret dX9_isWithin_15 rfl rfl (Or.inl rfl) (Nat.le_refl _) (Nat.le_refl _)
    · refine Zo_iconst (1 : Int32) dX9_isWithin_10 ic_1 ?_
      refine Zo_goto 15 dX9_isWithin_11 (by decide) ?_
      exact Zo_zret dX9_isWithin_15 rfl rfl (Or.inr rfl) (Nat.le_refl _) (Nat.le_refl _)
theorem e_X9_isWithin (g : ZG) (p0 : Int32) (p1 : Int32) (p2 : Int32) (σ : ZSt) : zEvI g 0 yX9_isWithin cX9_isWithin 3 (some .boolean) [.int p0, .int p1, .int p2] σ (s_X9_isWithin p0 p1 p2 σ) :=
  zEvI_of 0 rfl rfl (z_X9_isWithin g p0 p1 p2 σ)
