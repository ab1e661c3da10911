/-! THE LAW: the levels of class and model -/
theorem lvl_0 (x : Int32) : lvl x = nI 0 ↔ (x = 124) := by
  by_cases h37 : x = 37
  · rw [h37]; decide
  by_cases h38 : x = 38
  · rw [h38]; decide
  by_cases h42 : x = 42
  · rw [h42]; decide
  by_cases h43 : x = 43
  · rw [h43]; decide
  by_cases h45 : x = 45
  · rw [h45]; decide
  by_cases h47 : x = 47
  · rw [h47]; decide
  by_cases h60 : x = 60
  · rw [h60]; decide
  by_cases h61 : x = 61
  · rw [h61]; decide
  by_cases h62 : x = 62
  · rw [h62]; decide
  by_cases h124 : x = 124
  · rw [h124]; decide
  unfold lvl s_X3_levelOf
  rw [if_neg h37, if_neg h38, if_neg h42, if_neg h43, if_neg h45, if_neg h47, if_neg h60, if_neg h61, if_neg h62, if_neg h124]
  refine ⟨fun q => absurd q (by decide), fun q => ?_⟩
  exact absurd q h124
theorem lvl_1 (x : Int32) : lvl x = nI 1 ↔ (x = 38) := by
  by_cases h37 : x = 37
  · rw [h37]; decide
  by_cases h38 : x = 38
  · rw [h38]; decide
  by_cases h42 : x = 42
  · rw [h42]; decide
  by_cases h43 : x = 43
  · rw [h43]; decide
  by_cases h45 : x = 45
  · rw [h45]; decide
  by_cases h47 : x = 47
  · rw [h47]; decide
  by_cases h60 : x = 60
  · rw [h60]; decide
  by_cases h61 : x = 61
  · rw [h61]; decide
  by_cases h62 : x = 62
  · rw [h62]; decide
  by_cases h124 : x = 124
  · rw [h124]; decide
  unfold lvl s_X3_levelOf
  rw [if_neg h37, if_neg h38, if_neg h42, if_neg h43, if_neg h45, if_neg h47, if_neg h60, if_neg h61, if_neg h62, if_neg h124]
  refine ⟨fun q => absurd q (by decide), fun q => ?_⟩
  exact absurd q h38
theorem lvl_2 (x : Int32) : lvl x = nI 2 ↔ (x = 60 ∨ x = 61 ∨ x = 62) := by
  by_cases h37 : x = 37
  · rw [h37]; decide
  by_cases h38 : x = 38
  · rw [h38]; decide
  by_cases h42 : x = 42
  · rw [h42]; decide
  by_cases h43 : x = 43
  · rw [h43]; decide
  by_cases h45 : x = 45
  · rw [h45]; decide
  by_cases h47 : x = 47
  · rw [h47]; decide
  by_cases h60 : x = 60
  · rw [h60]; decide
  by_cases h61 : x = 61
  · rw [h61]; decide
  by_cases h62 : x = 62
  · rw [h62]; decide
  by_cases h124 : x = 124
  · rw [h124]; decide
  unfold lvl s_X3_levelOf
  rw [if_neg h37, if_neg h38, if_neg h42, if_neg h43, if_neg h45, if_neg h47, if_neg h60, if_neg h61, if_neg h62, if_neg h124]
  refine ⟨fun q => absurd q (by decide), fun q => ?_⟩
  rcases q with q | q | q
  · exact absurd q h60
  · exact absurd q h61
  · exact absurd q h62
theorem lvl_3 (x : Int32) : lvl x = nI 3 ↔ (x = 43 ∨ x = 45) := by
  by_cases h37 : x = 37
  · rw [h37]; decide
  by_cases h38 : x = 38
  · rw [h38]; decide
  by_cases h42 : x = 42
  · rw [h42]; decide
  by_cases h43 : x = 43
  · rw [h43]; decide
  by_cases h45 : x = 45
  · rw [h45]; decide
  by_cases h47 : x = 47
  · rw [h47]; decide
  by_cases h60 : x = 60
  · rw [h60]; decide
  by_cases h61 : x = 61
  · rw [h61]; decide
  by_cases h62 : x = 62
  · rw [h62]; decide
  by_cases h124 : x = 124
  · rw [h124]; decide
  unfold lvl s_X3_levelOf
  rw [if_neg h37, if_neg h38, if_neg h42, if_neg h43, if_neg h45, if_neg h47, if_neg h60, if_neg h61, if_neg h62, if_neg h124]
  refine ⟨fun q => absurd q (by decide), fun q => ?_⟩
  rcases q with q | q
  · exact absurd q h43
  · exact absurd q h45
theorem lvl_4 (x : Int32) : lvl x = nI 4 ↔ (x = 37 ∨ x = 42 ∨ x = 47) := by
  by_cases h37 : x = 37
  · rw [h37]; decide
  by_cases h38 : x = 38
  · rw [h38]; decide
  by_cases h42 : x = 42
  · rw [h42]; decide
  by_cases h43 : x = 43
  · rw [h43]; decide
  by_cases h45 : x = 45
  · rw [h45]; decide
  by_cases h47 : x = 47
  · rw [h47]; decide
  by_cases h60 : x = 60
  · rw [h60]; decide
  by_cases h61 : x = 61
  · rw [h61]; decide
  by_cases h62 : x = 62
  · rw [h62]; decide
  by_cases h124 : x = 124
  · rw [h124]; decide
  unfold lvl s_X3_levelOf
  rw [if_neg h37, if_neg h38, if_neg h42, if_neg h43, if_neg h45, if_neg h47, if_neg h60, if_neg h61, if_neg h62, if_neg h124]
  refine ⟨fun q => absurd q (by decide), fun q => ?_⟩
  rcases q with q | q | q
  · exact absurd q h37
  · exact absurd q h42
  · exact absurd q h47

section PARSE
variable {B : Nat → Int32} {N : Nat} {σ0 : ZSt} {t : Nat}
theorem takes_at (hN : N ≤ 120) {τ : ZSt} (hb : hB B N τ) {a : Nat} (ha : a ≤ N) (o c : Int32) : s_X10_takes c (mS τ (nI a) o (-1)) = if nxM B N a = c then some (1, mS τ (nI (a + 1)) o (-1)) else some (0, mS τ (nI a) o (-1)) := by
  unfold s_X10_takes
  rw [mS_f, if_neg (by decide), byte_at hN hb ha, Option.bind_some, mS_a, nI_1 a, mS_23]
  rfl
theorem takes_f {τ : ZSt} {a f : Nat} (hf : f ≤ 120) (o c : Int32) : s_X10_takes c (mS τ (nI a) o (nI f)) = some (0, mS τ (nI a) o (nI f)) := by
  unfold s_X10_takes
  rw [mS_f, if_pos (nI_pos' (by omega))]
theorem jn_124 (l r : Int32) : jn 124 l r = if l = 0 then (if r = 0 then 0 else 1) else 1 := by
  unfold jn
  rw [if_neg (by decide), if_neg (by decide), if_neg (by decide), if_neg (by decide), if_neg (by decide), if_neg (by decide), if_neg (by decide), if_neg (by decide), if_neg (by decide), if_neg (by decide), if_pos rfl]
theorem jn_38 (l r : Int32) : jn 38 l r = if l = 0 then 0 else if r = 0 then 0 else 1 := by
  unfold jn
  rw [if_neg (by decide), if_neg (by decide), if_pos rfl]
theorem jn_43 (l r : Int32) : jn 43 l r = l + r := by
  unfold jn
  rw [if_neg (by decide), if_neg (by decide), if_neg (by decide), if_neg (by decide), if_pos rfl]
theorem jn_45 (l r : Int32) : jn 45 l r = l - r := by
  unfold jn
  rw [if_neg (by decide), if_neg (by decide), if_neg (by decide), if_neg (by decide), if_neg (by decide), if_pos rfl]
theorem jn_42 (l r : Int32) : jn 42 l r = l * r := by
  unfold jn
  rw [if_neg (by decide), if_neg (by decide), if_neg (by decide), if_pos rfl]
theorem jn_47 (l r : Int32) : jn 47 l r = if r = 0 then 0 else l / r := by
  unfold jn
  rw [if_neg (by decide), if_neg (by decide), if_neg (by decide), if_neg (by decide), if_neg (by decide), if_neg (by decide), if_pos rfl]
theorem jn_37 (l r : Int32) : jn 37 l r = if r = 0 then 0 else zRem l r := by
  unfold jn
  rw [if_neg (by decide), if_pos rfl]
theorem jn_60 (l r : Int32) : jn 60 l r = if r ≤ l then 0 else 1 := by
  unfold jn
  rw [if_neg (by decide), if_neg (by decide), if_neg (by decide), if_neg (by decide), if_neg (by decide), if_neg (by decide), if_neg (by decide), if_pos rfl]
theorem jn_61 (l r : Int32) : jn 61 l r = if l = r then 1 else 0 := by
  unfold jn
  rw [if_neg (by decide), if_neg (by decide), if_neg (by decide), if_neg (by decide), if_neg (by decide), if_neg (by decide), if_neg (by decide), if_neg (by decide), if_pos rfl]
theorem jn_62 (l r : Int32) : jn 62 l r = if l ≤ r then 0 else 1 := by
  unfold jn
  rw [if_neg (by decide), if_neg (by decide), if_neg (by decide), if_neg (by decide), if_neg (by decide), if_neg (by decide), if_neg (by decide), if_neg (by decide), if_neg (by decide), if_pos rfl]
theorem jn_33 (l r : Int32) : jn 33 l r = if r = 0 then 1 else 0 := by
  unfold jn
  rw [if_pos rfl]
theorem jn_126 (l r : Int32) : jn 126 l r = -r := by
  unfold jn
  rw [if_neg (by decide), if_neg (by decide), if_neg (by decide), if_neg (by decide), if_neg (by decide), if_neg (by decide), if_neg (by decide), if_neg (by decide), if_neg (by decide), if_neg (by decide), if_neg (by decide), if_pos rfl]
theorem rdEither (d : Nat) (σ : ZSt) : rd_X10_either (d + 1) σ = s_X10_either (rd_X10_both d) σ := rfl
theorem rdBoth (d : Nat) (σ : ZSt) : rd_X10_both (d + 1) σ = s_X10_both (rd_X10_compared d) σ := rfl
theorem rdComp (d : Nat) (σ : ZSt) : rd_X10_compared (d + 1) σ = s_X10_compared (rd_X10_sums d) σ := rfl
theorem rdSums (d : Nat) (σ : ZSt) : rd_X10_sums (d + 1) σ = s_X10_sums (rd_X10_product d) σ := rfl
theorem rdProd (d : Nat) (σ : ZSt) : rd_X10_product (d + 1) σ = s_X10_product (rd_X10_one d) σ := rfl
theorem rdOne (d : Nat) (σ : ZSt) : rd_X10_one (d + 1) σ = s_X10_one (rd_X10_either d) (rd_X10_one d) σ := rfl
theorem lev0 (h : hS B N σ0 t) {opn dc dm : Nat} (sub : ∀ a, a ≤ N → PQ B N σ0 t (fun d => rd_X3_readPart d (nI 1) (nI opn)) rd_X10_both dc dm opn a) : ∀ a, a ≤ N → PQ B N σ0 t (fun d => rd_X3_readPart d (nI 0) (nI opn)) rd_X10_either (dc + 1) (dm + 1) opn a := by
  have hN := h.1
  refine PQ_lev (l := 0) (ML := fun d n v σ => s_X10_either_L5 (rd_X10_both d) n v σ) h (by decide) (by decide) sub (fun d n v0 τ a hb ha => ?_) (fun d n v0 τ a y hb ha => ⟨v0, ?_⟩) (fun d σ => ?_)
  · show s_X10_either_L5 _ _ _ _ = _
    rw [s_X10_either_L5, takes_at hN hb ha]
    by_cases q : nxM B N a = 124
    · rw [if_pos q, if_pos ((lvl_0 _).mpr q), Option.bind_some, if_neg (show ¬ (1 : Int32) = 0 by decide), q]
      refine congrArg _ (funext fun r => ?_)
      rw [jn_124]
      by_cases e1 : v0 = 0
      · rw [if_pos e1, if_pos e1]
        by_cases e2 : r.1 = 0
        · rw [if_pos e2, if_pos e2]
        · rw [if_neg e2, if_neg e2]
      · rw [if_neg e1, if_neg e1]
    · rw [if_neg q, if_neg (fun z => q ((lvl_0 _).mp z)), Option.bind_some, if_pos rfl]
  · show s_X10_either_L5 _ _ _ _ = _
    rw [s_X10_either_L5, takes_f (by omega), Option.bind_some, if_pos rfl]
  · rw [rdEither, s_X10_either]
theorem lev1 (h : hS B N σ0 t) {opn dc dm : Nat} (sub : ∀ a, a ≤ N → PQ B N σ0 t (fun d => rd_X3_readPart d (nI 2) (nI opn)) rd_X10_compared dc dm opn a) : ∀ a, a ≤ N → PQ B N σ0 t (fun d => rd_X3_readPart d (nI 1) (nI opn)) rd_X10_both (dc + 1) (dm + 1) opn a := by
  have hN := h.1
  refine PQ_lev (l := 1) (ML := fun d n v σ => s_X10_both_L5 (rd_X10_compared d) n v σ) h (by decide) (by decide) sub (fun d n v0 τ a hb ha => ?_) (fun d n v0 τ a y hb ha => ⟨v0, ?_⟩) (fun d σ => ?_)
  · show s_X10_both_L5 _ _ _ _ = _
    rw [s_X10_both_L5, takes_at hN hb ha]
    by_cases q : nxM B N a = 38
    · rw [if_pos q, if_pos ((lvl_1 _).mpr q), Option.bind_some, if_neg (show ¬ (1 : Int32) = 0 by decide), q]
      refine congrArg _ (funext fun r => ?_)
      rw [jn_38]
      by_cases e1 : v0 = 0
      · rw [if_pos e1, if_pos e1]
      · rw [if_neg e1, if_neg e1]
        by_cases e2 : r.1 = 0
        · rw [if_pos e2, if_pos e2]
        · rw [if_neg e2, if_neg e2]
    · rw [if_neg q, if_neg (fun z => q ((lvl_1 _).mp z)), Option.bind_some, if_pos rfl]
  · show s_X10_both_L5 _ _ _ _ = _
    rw [s_X10_both_L5, takes_f (by omega), Option.bind_some, if_pos rfl]
  · rw [rdBoth, s_X10_both]
theorem lev3 (h : hS B N σ0 t) {opn dc dm : Nat} (sub : ∀ a, a ≤ N → PQ B N σ0 t (fun d => rd_X3_readPart d (nI 4) (nI opn)) rd_X10_product dc dm opn a) : ∀ a, a ≤ N → PQ B N σ0 t (fun d => rd_X3_readPart d (nI 3) (nI opn)) rd_X10_sums (dc + 1) (dm + 1) opn a := by
  have hN := h.1
  refine PQ_lev (l := 3) (ML := fun d n v σ => s_X10_sums_L5 (rd_X10_product d) n v σ) h (by decide) (by decide) sub (fun d n v0 τ a hb ha => ?_) (fun d n v0 τ a y hb ha => ⟨v0, ?_⟩) (fun d σ => ?_)
  · show s_X10_sums_L5 _ _ _ _ = _
    rw [s_X10_sums_L5, mS_f, if_neg (by decide), byte_at hN hb ha, Option.bind_some]
    by_cases q : nxM B N a = 43
    · rw [if_pos q, Option.bind_some, if_pos q, s_X10_sums_C44, zSt_e, mS_a, nI_1 a, mS_23, if_pos ((lvl_3 _).mpr (Or.inl q)), q]
      refine congrArg _ (funext fun r => ?_)
      rw [jn_43, if_neg (by decide)]
    · rw [if_neg q, Option.bind_some]
      by_cases q2 : nxM B N a = 45
      · rw [if_pos q2, Option.bind_some, if_neg q, s_X10_sums_C44, zSt_e, mS_a, nI_1 a, mS_23, if_pos ((lvl_3 _).mpr (Or.inr q2)), q2]
        refine congrArg _ (funext fun r => ?_)
        rw [jn_45, if_pos rfl]
      · rw [if_neg q2, if_neg (fun z => ((lvl_3 _).mp z).elim q q2)]
  · show s_X10_sums_L5 _ _ _ _ = _
    rw [s_X10_sums_L5, mS_f, if_pos (nI_pos' (by omega))]
  · rw [rdSums, s_X10_sums]
theorem lev4 (h : hS B N σ0 t) {opn dc dm : Nat} (sub : ∀ a, a ≤ N → PQ B N σ0 t (fun d => rd_X3_readPart d (nI 5) (nI opn)) rd_X10_one dc dm opn a) : ∀ a, a ≤ N → PQ B N σ0 t (fun d => rd_X3_readPart d (nI 4) (nI opn)) rd_X10_product (dc + 1) (dm + 1) opn a := by
  have hN := h.1
  refine PQ_lev (l := 4) (ML := fun d n v σ => (s_X10_byteAt σ).bind fun r => s_X10_product_L10 (rd_X10_one d) n v r σ) h (by decide) (by decide) sub (fun d n v0 τ a hb ha => ?_) (fun d n v0 τ a y hb ha => ⟨v0, ?_⟩) (fun d σ => ?_)
  · show (s_X10_byteAt _).bind _ = _
    rw [byte_at hN hb ha, Option.bind_some, s_X10_product_L10, mS_f, if_neg (by decide)]
    by_cases q : nxM B N a = 42
    · rw [if_pos q, s_X10_product_C35, zSt_e, mS_a, nI_1 a, mS_23, if_pos ((lvl_4 _).mpr (Or.inr (Or.inl q)))]
      refine congrArg _ (funext fun r => ?_)
      rw [if_pos q, q, jn_42]
    · rw [if_neg q]
      by_cases q2 : nxM B N a = 47
      · rw [if_pos q2, s_X10_product_C35, zSt_e, mS_a, nI_1 a, mS_23, if_pos ((lvl_4 _).mpr (Or.inr (Or.inr q2)))]
        refine congrArg _ (funext fun r => ?_)
        rw [if_neg q, if_pos q2, q2, jn_47]
        by_cases e : r.1 = 0
        · rw [if_pos e, if_pos e]
        · rw [if_neg e, if_neg e, if_neg e]
      · rw [if_neg q2]
        by_cases q3 : nxM B N a = 37
        · rw [if_pos q3, s_X10_product_C35, zSt_e, mS_a, nI_1 a, mS_23, if_pos ((lvl_4 _).mpr (Or.inl q3))]
          refine congrArg _ (funext fun r => ?_)
          rw [if_neg q, if_neg q2, q3, jn_37]
          by_cases e : r.1 = 0
          · rw [if_pos e, if_pos e]
          · rw [if_neg e, if_neg e, if_neg e]
        · rw [if_neg q3, if_neg (fun z => ((lvl_4 _).mp z).elim q3 (fun z => z.elim q q2))]
  · show (s_X10_byteAt _).bind _ = _
    rw [byte_at hN hb ha, Option.bind_some, s_X10_product_L10, mS_f, if_pos (nI_pos' (by omega))]
  · rw [rdProd, s_X10_product]
theorem lev2 (h : hS B N σ0 t) {opn dc dm : Nat} (sub : ∀ a, a ≤ N → PQ B N σ0 t (fun d => rd_X3_readPart d (nI 3) (nI opn)) rd_X10_sums dc dm opn a) : ∀ a, a ≤ N → PQ B N σ0 t (fun d => rd_X3_readPart d (nI 2) (nI opn)) rd_X10_compared (dc + 1) (dm + 1) opn a := by
  intro a ha
  have hN := h.1
  obtain ⟨ok, a1, code, ⟨b1, b2, b3, b4, b6⟩, C, M⟩ := sub a ha
  have C : ∀ (c : List Int32) (d : Nat), c.length ≤ a → dc ≤ d → rd_X3_readPart d (nI 3) (nI opn) (kS σ0 t c a) = some (if ok = true then 1 else 0, kS σ0 t (c ++ code) a1) := C
  have e23 : nI 2 + 1 = nI 3 := by decide
  cases ok with
  | false =>
    refine ⟨false, a1, code, ⟨b1, b2, b3, b4, b6⟩, fun c d hc hd => ?_, fun τ d hτ hd => ?_⟩
    · obtain ⟨d', rfl⟩ : ∃ d', d = d' + 1 := ⟨d - 1, by omega⟩
      show rd_X3_readPart (d' + 1) _ _ _ = _
      rw [rdPart, s_X3_readPart, if_pos (by decide), e23, C c d' hc (by omega), Option.bind_some, if_pos okF]
      rfl
    · obtain ⟨d', rfl⟩ : ∃ d', d = d' + 1 := ⟨d - 1, by omega⟩
      obtain ⟨v, y, e1, -⟩ := M τ d' hτ (by omega)
      refine ⟨v, y, ?_, fun z => absurd z (by decide)⟩
      rw [rdComp, s_X10_compared, e1, Option.bind_some, if_neg (by decide), byte_at hN hτ b2, Option.bind_some, mS_f, if_pos (nI_pos' (by omega))]
  | true =>
    have b5 := b4 rfl
    by_cases q : lvl (nxC B N a1) = nI 2
    · obtain ⟨haN, enx, b, hb, eb, b33, b126, b63, b59⟩ := lvl_lt h (by omega) q
      have c0 : (0 : Int32) ≤ nxC B N a1 := by rw [eb]; exact nI_pos' (by omega)
      have c1 : ¬ nxC B N a1 = 33 := by rw [eb, show (33 : Int32) = nI 33 by decide, nI_eq (by omega) (by omega)]; exact b33
      have c2 : ¬ nxC B N a1 = 126 := by rw [eb, show (126 : Int32) = nI 126 by decide, nI_eq (by omega) (by omega)]; exact b126
      obtain ⟨ok2, a2, code2, ⟨p1, p2, p3, p4, p6⟩, C2, M2⟩ := sub (a1 + 1) haN
      have C2 : ∀ (c : List Int32) (d : Nat), c.length ≤ a1 + 1 → dc ≤ d → rd_X3_readPart d (nI 3) (nI opn) (kS σ0 t c (a1 + 1)) = some (if ok2 = true then 1 else 0, kS σ0 t (c ++ code2) a2) := C2
      have mo : ∀ (d : Nat) (τ : ZSt), hB B N τ → ∀ (v : Int32), (s_X10_byteAt (mS τ (nI a1) (nI opn) (-1))).bind (fun r2 => if 0 ≤ (mS τ (nI a1) (nI opn) (-1)).1 68 25 then some (v, mS τ (nI a1) (nI opn) (-1)) else if r2 = 60 then s_X10_compared_C37 (rd_X10_sums d) v r2 (mS τ (nI a1) (nI opn) (-1)) else if r2 = 61 then s_X10_compared_C37 (rd_X10_sums d) v r2 (mS τ (nI a1) (nI opn) (-1)) else if r2 = 62 then s_X10_compared_C37 (rd_X10_sums d) v r2 (mS τ (nI a1) (nI opn) (-1)) else some (v, mS τ (nI a1) (nI opn) (-1))) = (rd_X10_sums d (mS τ (nI (a1 + 1)) (nI opn) (-1))).bind fun r => some (jn (nxM B N a1) v r.1, r.2) := fun d τ hτ v => by
        rw [byte_at hN hτ b2, Option.bind_some, mS_f, if_neg (by decide)]
        have q' : nxM B N a1 = 60 ∨ nxM B N a1 = 61 ∨ nxM B N a1 = 62 := by rw [enx]; exact (lvl_2 _).mp q
        have go : s_X10_compared_C37 (rd_X10_sums d) v (nxM B N a1) (mS τ (nI a1) (nI opn) (-1)) = (rd_X10_sums d (mS τ (nI (a1 + 1)) (nI opn) (-1))).bind fun r => some (jn (nxM B N a1) v r.1, r.2) := by
          unfold s_X10_compared_C37
          rw [zSt_e, mS_a, nI_1 a1, mS_23]
          refine congrArg _ (funext fun r => ?_)
          rcases q' with z | z | z
          · rw [if_pos z, z, jn_60]
            by_cases e : r.1 ≤ v
            · rw [if_pos e, if_pos e]
            · rw [if_neg e, if_neg e]
          · rw [z, if_neg (by decide), if_pos rfl, jn_61]
            by_cases e : v = r.1
            · rw [if_pos e, if_pos e]
            · rw [if_neg e, if_neg e]
          · rw [z, if_neg (by decide), if_neg (by decide), jn_62]
            by_cases e : v ≤ r.1
            · rw [if_pos e, if_pos e]
            · rw [if_neg e, if_neg e]
        rw [go]
        rcases q' with z | z | z
        · rw [if_pos z]
        · rw [if_neg (by rw [z]; decide), if_pos z]
        · rw [if_neg (by rw [z]; decide), if_neg (by rw [z]; decide), if_pos z]
      cases ok2 with
      | false =>
        refine ⟨false, a2, code ++ code2, ⟨by omega, p2, by rw [List.length_append]; omega, fun z => absurd z (by decide), tk_app b6 p6⟩, fun c d hc hd => ?_, fun τ d hτ hd => ?_⟩
        · obtain ⟨d', rfl⟩ : ∃ d', d = d' + 1 := ⟨d - 1, by omega⟩
          show rd_X3_readPart (d' + 1) _ _ _ = _
          rw [rdPart, s_X3_readPart, if_pos (by decide), e23, C c d' hc (by omega), Option.bind_some, if_neg okT, if_pos (by decide)]
          show s_X3_readPart_L39 _ _ _ _ _ _ _ (kS σ0 t (c ++ code) a1) = _
          rw [s_X3_readPart_L39, if_neg (by decide), next_at h b2, Option.bind_some, levelOf_at, Option.bind_some, if_pos q, Option.bind_some, zSt_e, kS_at, nI_1 a1, kS_adv, e23, C2 (c ++ code) d' (by rw [List.length_append]; omega) (by omega), Option.bind_some, if_pos okF, List.append_assoc]
          rfl
        · obtain ⟨d', rfl⟩ : ∃ d', d = d' + 1 := ⟨d - 1, by omega⟩
          obtain ⟨v, y, e1, -⟩ := M τ d' hτ (by omega)
          obtain ⟨v2, y2, e2, -⟩ := M2 τ d' hτ (by omega)
          refine ⟨jn (nxM B N a1) v v2, y2, ?_, fun z => absurd z (by decide)⟩
          rw [rdComp, s_X10_compared, e1, Option.bind_some]
          refine (mo d' τ hτ v).trans ?_
          rw [e2, Option.bind_some]
      | true =>
        have p5 := p4 rfl
        refine ⟨true, a2, code ++ (code2 ++ [-100 - nxC B N a1]), ⟨by omega, p2, by rw [List.length_append, List.length_append, List.length_cons, List.length_nil]; omega, fun _ => by omega, tk_app b6 (tk_app p6 (tk_sgn hb eb b63 b59))⟩, fun c d hc hd => ?_, fun τ d hτ hd => ?_⟩
        · obtain ⟨d', rfl⟩ : ∃ d', d = d' + 1 := ⟨d - 1, by omega⟩
          have lc : (c ++ code ++ code2).length < 128 := by rw [List.length_append, List.length_append]; omega
          show rd_X3_readPart (d' + 1) _ _ _ = _
          rw [rdPart, s_X3_readPart, if_pos (by decide), e23, C c d' hc (by omega), Option.bind_some, if_neg okT, if_pos (by decide)]
          show s_X3_readPart_L39 _ _ _ _ _ _ _ (kS σ0 t (c ++ code) a1) = _
          rw [s_X3_readPart_L39, if_neg (by decide), next_at h b2, Option.bind_some, levelOf_at, Option.bind_some, if_pos q, Option.bind_some, zSt_e, kS_at, nI_1 a1, kS_adv, e23, C2 (c ++ code) d' (by rw [List.length_append]; omega) (by omega), Option.bind_some, if_neg okT]
          show (s_X3_addSign (nxC B N a1) (kS σ0 t (c ++ code ++ code2) a2)).bind _ = _
          rw [addSign_at h lc, Option.bind_some, s_X3_readPart_L39, if_pos (by decide), ← List.append_assoc, ← List.append_assoc]
          rfl
        · obtain ⟨d', rfl⟩ : ∃ d', d = d' + 1 := ⟨d - 1, by omega⟩
          obtain ⟨v, y, e1, e3⟩ := M τ d' hτ (by omega)
          obtain ⟨v2, y2, e2, e4⟩ := M2 τ d' hτ (by omega)
          refine ⟨jn (nxM B N a1) v v2, y2, ?_, fun z s => ?_⟩
          · rw [rdComp, s_X10_compared, e1, Option.bind_some]
            refine (mo d' τ hτ v).trans ?_
            rw [e2, Option.bind_some]
          · rw [run_app, run_app, e3 rfl s, e4 rfl (v :: s), run_one, stp_bin _ c0 c1 c2, ← enx]
    · refine ⟨true, a1, code, ⟨b1, b2, b3, b4, b6⟩, fun c d hc hd => ?_, fun τ d hτ hd => ?_⟩
      · obtain ⟨d', rfl⟩ : ∃ d', d = d' + 1 := ⟨d - 1, by omega⟩
        show rd_X3_readPart (d' + 1) _ _ _ = _
        rw [rdPart, s_X3_readPart, if_pos (by decide), e23, C c d' hc (by omega), Option.bind_some, if_neg okT, if_pos (by decide)]
        show s_X3_readPart_L39 _ _ _ _ _ _ _ (kS σ0 t (c ++ code) a1) = _
        rw [s_X3_readPart_L39, if_neg (by decide), next_at h b2, Option.bind_some, levelOf_at, Option.bind_some, if_neg q]
        rfl
      · obtain ⟨d', rfl⟩ : ∃ d', d = d' + 1 := ⟨d - 1, by omega⟩
        obtain ⟨v, y, e1, e3⟩ := M τ d' hτ (by omega)
        have q' : ¬ (nxM B N a1 = 60 ∨ nxM B N a1 = 61 ∨ nxM B N a1 = 62) := fun z => q (by rw [← lvl_nx]; exact (lvl_2 _).mpr z)
        refine ⟨v, y, ?_, e3⟩
        rw [rdComp, s_X10_compared, e1, Option.bind_some, if_pos rfl, byte_at hN hτ b2, Option.bind_some, mS_f, if_neg (by decide), if_neg (fun z => q' (Or.inl z)), if_neg (fun z => q' (Or.inr (Or.inl z))), if_neg (fun z => q' (Or.inr (Or.inr z)))]
theorem lev5 (h : hS B N σ0 t) {opn dc dm : Nat} (sub : ∀ a, a ≤ N → PQ B N σ0 t (fun d => rd_X3_readOperand d (nI opn)) rd_X10_one dc dm opn a) : ∀ a, a ≤ N → PQ B N σ0 t (fun d => rd_X3_readPart d (nI 5) (nI opn)) rd_X10_one (dc + 1) dm opn a := by
  intro a ha
  obtain ⟨ok, a1, code, b, C, M⟩ := sub a ha
  refine ⟨ok, a1, code, b, fun c d hc hd => ?_, M⟩
  obtain ⟨d', rfl⟩ : ∃ d', d = d' + 1 := ⟨d - 1, by omega⟩
  show rd_X3_readPart (d' + 1) _ _ _ = _
  rw [rdPart, s_X3_readPart, if_neg (by decide), show rd_X3_readOperand d' (nI opn) (kS σ0 t c a) = _ from C c d' hc (by omega), Option.bind_some]
  cases ok with
  | false => rw [if_pos (Or.inl okF)]
  | true => rw [if_pos (Or.inr (show (if true = true then (1 : Int32) else 0) = 1 by decide))]
end PARSE
