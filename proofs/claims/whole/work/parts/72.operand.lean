/-! THE LAW: an operand, and all levels -/
theorem idxChar_i (l3 l4 : Int32) (σ σ' : ZSt) : ∀ (n : Nat) (l5 : Int32), s_J1_indexOfChar_4cfef_L7 l3 l4 σ n l5 = s_J1_indexOfChar_4cfef_L7 l3 l4 σ' n l5 := by
  intro n
  induction n with
  | zero => intro l5; rfl
  | succ n ih =>
    intro l5
    rw [s_J1_indexOfChar_4cfef_L7, s_J1_indexOfChar_4cfef_L7]
    by_cases q : l3 ≤ l5
    · rw [if_pos q, if_pos q]
    · rw [if_neg q, if_neg q, ih]
theorem idx_i (x : Int32) (σ σ' : ZSt) : s_J0_indexOf_0f7a4 x σ = s_J0_indexOf_0f7a4 x σ' := by
  have e1 : ∀ a b c, s_J1_indexOf_4cfef a b c σ = s_J1_indexOf_4cfef a b c σ' := fun a b c => by
    unfold s_J1_indexOf_4cfef
    rw [show s_J1_canEncode_9a6ad a σ = s_J1_canEncode_9a6ad a σ' from rfl]
    refine congrArg _ (funext fun r => ?_)
    by_cases q : r = 0
    · rw [if_pos q, if_pos q]
    · rw [if_neg q, if_neg q]
      unfold s_J1_indexOfChar_4cfef
      rw [idxChar_i _ _ σ σ']
  unfold s_J0_indexOf_0f7a4 s_J0_indexOf_7cf53
  rw [show s_J0_isLatin1_aae02 σ = s_J0_isLatin1_aae02 σ' from rfl, show s_J0_length_8abf5 σ = s_J0_length_8abf5 σ' from rfl]
  simp only [e1]
theorem nam_i (x : Int32) (σ σ' : ZSt) : s_X10_nameOf x σ = s_X10_nameOf x σ' := rfl
theorem nam_tab : ∀ b, b < 256 → s_J0_indexOf_0f7a4 (((nI b).toUInt32 % 65536).toInt32) zO = s_X10_nameOf (nI b) zO ∧ (s_X10_nameOf (nI b) zO = some (-1) ∨ ∃ k, k < 8 ∧ s_X10_nameOf (nI b) zO = some (nI k) ∧ ¬ (48 ≤ b ∧ b ≤ 57) ∧ ¬ b = 33 ∧ ¬ b = 40 ∧ ¬ b = 45) := by decide +kernel
theorem dig_at (x : Int32) (σ : ZSt) : s_X3_isDigit x σ = some (bI (48 ≤ x ∧ x ≤ 57)) := by
  unfold s_X3_isDigit
  by_cases h1 : x < 48
  · have : ¬ 48 ≤ x := Int32.not_le.mpr h1
    simp [h1, this, bI]
  · have g1 : 48 ≤ x := Int32.not_lt.mp h1
    by_cases h2 : 57 < x
    · have : ¬ x ≤ 57 := Int32.not_le.mpr h2
      simp [h1, h2, this, bI]
    · have : x ≤ 57 := Int32.not_lt.mp h2
      simp [h1, h2, this, g1, bI]
theorem dig_nI {b : Nat} (hb : b < 256) : (48 ≤ nI b ∧ nI b ≤ 57) = (48 ≤ b ∧ b ≤ 57) := by
  rw [show (48 : Int32) = nI 48 by decide, show (57 : Int32) = nI 57 by decide, nI_le_n (by omega) (by omega), nI_le_n (by omega) (by omega)]
section PARSE
variable {B : Nat → Int32} {N : Nat} {σ0 : ZSt} {t : Nat}
theorem numStep {v b : Nat} (hv : v < 1000) (hb : 48 ≤ b ∧ b ≤ 57) : (10 : Int32) * nI v + nI b - 48 = nI (10 * v + (b - 48)) := by
  rw [i10, nI_mul (by omega) (by omega) (by omega), nI_add, show (48 : Int32) = nI 48 by decide, nI_sub (by omega) (by omega)]
  congr 1
  omega
theorem nx_dig (h : hS B N σ0 t) {a : Nat} (ha : a ≤ N) : (∃ b, a < N ∧ 48 ≤ b ∧ b ≤ 57 ∧ nxC B N a = nI b ∧ nxM B N a = nI b) ∨ (¬ (48 ≤ nxC B N a ∧ nxC B N a ≤ 57) ∧ ¬ (48 ≤ nxM B N a ∧ nxM B N a ≤ 57)) := by
  unfold nxC nxM
  by_cases q : a < N
  · rw [if_pos q, if_pos q]
    obtain ⟨-, b, hb, e⟩ := h.2.2.2.2 a q
    rw [e, dig_nI hb]
    by_cases z : 48 ≤ b ∧ b ≤ 57
    · exact Or.inl ⟨b, q, z.1, z.2, rfl, rfl⟩
    · exact Or.inr ⟨z, z⟩
  · rw [if_neg q, if_neg q]
    exact Or.inr ⟨by decide, by decide⟩
/-- digits behind the first -/
theorem num_L (h : hS B N σ0 t) (f g : ZSt → Option (Int32 × ZSt)) : ∀ (m j v a : Nat), j + m = 4 → 1 ≤ j → v < 10 ^ j → a ≤ N → ∃ a' v', a ≤ a' ∧ a' ≤ N ∧ v' < 10000 ∧ (∀ (c : List Int32) (n : Nat), c.length < 128 → m < n → s_X3_readNumber_L4 n (nI v) (nI j) (kS σ0 t c a) = some (1, kS σ0 t (c ++ [nI v']) a')) ∧ (∀ (τ : ZSt) (o : Int32) (n : Nat), hB B N τ → m < n → s_X10_one_L176 f g n (nI v) (nI j) (mS τ (nI a) o (-1)) = some (nI v', mS τ (nI a') o (-1))) := by
  intro m
  have hN := h.1
  induction m with
  | zero =>
    intro j v a hj h1 hv ha
    have hj4 : j = 4 := by omega
    subst hj4
    refine ⟨a, v, Nat.le_refl _, ha, by simpa using hv, fun c n hc hn => ?_, fun τ o n hτ hn => ?_⟩
    · obtain ⟨n', rfl⟩ : ∃ n', n = n' + 1 := ⟨n - 1, by omega⟩
      rw [s_X3_readNumber_L4, if_pos (by decide), s_X3_readNumber_C48, dyn_t h, Option.bind_some, kS_add h hc, Option.bind_some]
    · obtain ⟨n', rfl⟩ : ∃ n', n = n' + 1 := ⟨n - 1, by omega⟩
      rw [s_X10_one_L176, if_pos (by decide), s_X10_one_C229, if_neg (by decide)]
  | succ m ih =>
    intro j v a hj h1 hv ha
    have e4 : ¬ (4 : Int32) ≤ nI j := by rw [i4, nI_leI (by decide) (by omega)]; omega
    have hv3 : v < 1000 := Nat.lt_of_lt_of_le hv (by
      have : j = 1 ∨ j = 2 ∨ j = 3 := by omega
      rcases this with rfl | rfl | rfl <;> decide)
    rcases nx_dig h ha with ⟨b, haN, b1, b2, e1, e2⟩ | ⟨n1, n2⟩
    · have hv' : 10 * v + (b - 48) < 10 ^ (j + 1) := by
        rw [Nat.pow_succ]
        omega
      obtain ⟨a', v', q1, q2, q3, C, M⟩ := ih (j + 1) (10 * v + (b - 48)) (a + 1) (by omega) (by omega) hv' haN
      refine ⟨a', v', by omega, q2, q3, fun c n hc hn => ?_, fun τ o n hτ hn => ?_⟩
      · obtain ⟨n', rfl⟩ : ∃ n', n = n' + 1 := ⟨n - 1, by omega⟩
        rw [s_X3_readNumber_L4, if_neg e4, next_at h ha, Option.bind_some, dig_at, Option.bind_some, bI_n, if_neg (fun z => z (by rw [e1, dig_nI (by omega)]; exact ⟨b1, b2⟩)), Option.bind_some, zSt_e, kS_at, nI_1 a, kS_adv, e1, numStep hv3 ⟨b1, b2⟩, nI_1 j]
        exact C c n' hc (by omega)
      · obtain ⟨n', rfl⟩ : ∃ n', n = n' + 1 := ⟨n - 1, by omega⟩
        rw [s_X10_one_L176, if_neg e4, byte_at hN hτ ha, Option.bind_some, e2, if_neg (by rw [show (48 : Int32) = nI 48 by decide, nI_ltI (by omega) (by omega)]; omega), Option.bind_some, if_neg (by rw [show (57 : Int32) = nI 57 by decide, nI_ltI (by omega) (by omega)]; omega), Option.bind_some, zSt_e, mS_a, nI_1 a, mS_23, numStep hv3 ⟨b1, b2⟩, nI_1 j]
        exact M τ o n' hτ (by omega)
    · have hv4 : v < 10000 := by omega
      refine ⟨a, v, Nat.le_refl _, ha, hv4, fun c n hc hn => ?_, fun τ o n hτ hn => ?_⟩
      · obtain ⟨n', rfl⟩ : ∃ n', n = n' + 1 := ⟨n - 1, by omega⟩
        rw [s_X3_readNumber_L4, if_neg e4, next_at h ha, Option.bind_some, dig_at, Option.bind_some, bI_n, if_pos n1, s_X3_readNumber_C48, dyn_t h, Option.bind_some, kS_add h hc, Option.bind_some]
      · obtain ⟨n', rfl⟩ : ∃ n', n = n' + 1 := ⟨n - 1, by omega⟩
        have c229 : s_X10_one_C229 f g (nI v) (nI j) (mS τ (nI a) o (-1)) = some (nI v, mS τ (nI a) o (-1)) := by
          rw [s_X10_one_C229, if_neg (by rw [i0, nI_eq (by omega) (by omega)]; omega)]
        rw [s_X10_one_L176, if_neg e4, byte_at hN hτ ha, Option.bind_some]
        by_cases z : nxM B N a < 48
        · rw [if_pos z, c229]
        · rw [if_neg z, Option.bind_some, if_pos (by
            have z1 := Int32.not_lt.mp z
            rcases Int32.lt_or_le 57 (nxM B N a) with q | q
            · exact q
            · exact absurd ⟨z1, q⟩ n2), c229]
theorem wrong_at {τ : ZSt} {a : Nat} (o : Int32) : s_X10_wrong (mS τ (nI a) o (-1)) = some (0, mS τ (nI a) o (nI a)) := by
  unfold s_X10_wrong
  rw [mS_f, if_neg (by decide), zSt_e, mS_a, mS_25]
theorem wrong_f {τ : ZSt} {a f : Nat} (hf : f ≤ 120) (o : Int32) : s_X10_wrong (mS τ (nI a) o (nI f)) = some (0, mS τ (nI a) o (nI f)) := by
  unfold s_X10_wrong
  rw [mS_f, if_pos (nI_pos' (by omega)), zSt_e, mS_25]
/-- what stands at a: nothing, a digit, a name, one of ( ! -, else -/
theorem nx_kind (h : hS B N σ0 t) {a : Nat} (ha : a ≤ N) : (¬ a < N ∧ nxC B N a = -1 ∧ nxM B N a = 0) ∨ ∃ b, b < 256 ∧ a < N ∧ nxC B N a = nI b ∧ nxM B N a = nI b := by
  unfold nxC nxM
  by_cases q : a < N
  · rw [if_pos q, if_pos q]
    obtain ⟨-, b, hb, e⟩ := h.2.2.2.2 a q
    exact Or.inr ⟨b, hb, q, e, e⟩
  · rw [if_neg q, if_neg q]
    exact Or.inl ⟨q, rfl, rfl⟩
/-- no operand begins here -/
theorem opd_no (h : hS B N σ0 t) {opn a dc dm : Nat} (hd1 : 1 ≤ dc) (hm1 : 1 ≤ dm) (ha : a ≤ N) (C : ∀ (c : List Int32) (d : Nat), s_X3_readOperand (rd_X3_readBracket d) (rd_X3_readOperand d) (nI opn) (kS σ0 t c a) = some (0, kS σ0 t c a)) (M : ∀ (τ : ZSt) (d : Nat), hB B N τ → s_X10_one (rd_X10_either d) (rd_X10_one d) (mS τ (nI a) (nI opn) (-1)) = some (0, mS τ (nI a) (nI opn) (nI a))) : PQ B N σ0 t (fun d => rd_X3_readOperand d (nI opn)) rd_X10_one dc dm opn a := by
  refine ⟨false, a, [], ⟨Nat.le_refl _, ha, by rw [List.length_nil]; omega, fun z => absurd z (by decide), tk_nil⟩, fun c d hc hd => ?_, fun τ d hτ hd => ?_⟩
  · obtain ⟨d', rfl⟩ : ∃ d', d = d' + 1 := ⟨d - 1, by omega⟩
    show rd_X3_readOperand (d' + 1) _ _ = _
    rw [rdOper, C, List.append_nil]
    rfl
  · obtain ⟨d', rfl⟩ : ∃ d', d = d' + 1 := ⟨d - 1, by omega⟩
    refine ⟨0, nI opn, ?_, fun z => absurd z (by decide)⟩
    rw [rdOne, M τ d' hτ]
    rfl
theorem cOpd_else (h : hS B N σ0 t) {a : Nat} (ha : a ≤ N) (nd : ¬ (48 ≤ nxC B N a ∧ nxC B N a ≤ 57)) (nn : ¬ a < N ∨ ∃ b, b < 256 ∧ nxC B N a = nI b ∧ s_X10_nameOf (nI b) zO = some (-1)) (fb : Int32 → ZSt → Option (Int32 × ZSt)) (fo : Int32 → ZSt → Option (Int32 × ZSt)) (p : Int32) (c : List Int32) : s_X3_readOperand fb fo p (kS σ0 t c a) = s_X3_readOperand_C32 fb fo p (nxC B N a) (-1) (kS σ0 t c a) := by
  unfold s_X3_readOperand
  rw [next_at h ha, Option.bind_some, dig_at, Option.bind_some, bI_n, if_pos nd]
  rcases nn with nn | ⟨b, hb, e, en⟩
  · have : nxC B N a = -1 := by unfold nxC; rw [if_neg nn]
    rw [this, if_neg (by decide)]
  · rw [e, if_pos (nI_pos' (by omega)), idx_i _ _ zO, (nam_tab b hb).1, en, Option.bind_some]
theorem opd (h : hS B N σ0 t) {opn dc dm : Nat} (ho : opn ≤ 6) (hd0 : 1 ≤ dc) (hm0 : 1 ≤ dm)
    (up : opn < 6 → (∀ a, a ≤ N → PQ B N σ0 t (fun d => rd_X3_readOperand d (nI (opn + 1))) rd_X10_one (dc - 1) (dm - 1) (opn + 1) a) ∧ (∀ a, a ≤ N → PQ B N σ0 t (fun d => rd_X3_readPart d (nI 0) (nI (opn + 1))) rd_X10_either (dc - 2) (dm - 1) (opn + 1) a) ∧ 2 ≤ dc) :
    ∀ a, a ≤ N → PQ B N σ0 t (fun d => rd_X3_readOperand d (nI opn)) rd_X10_one dc dm opn a := by
  intro a ha
  have hN := h.1
  have eo : (nI opn < (6 : Int32)) = (opn < 6) := by rw [i6]; exact propext (nI_ltI (by omega) (by decide))
  have eo6 : (nI opn = (6 : Int32)) = (opn = 6) := by rw [i6]; exact propext (nI_eq (by omega) (by decide))
  rcases nx_kind h ha with ⟨q, e1, e2⟩ | ⟨b, hb, q, e1, e2⟩
  · refine opd_no h hd0 hm0 ha (fun c d => ?_) (fun τ d hτ => ?_)
    · rw [cOpd_else h ha (by rw [e1]; decide) (Or.inl q), e1, s_X3_readOperand_C32, if_pos (by decide), if_neg (show ¬ (-1 : Int32) = 40 by decide), if_neg (show ¬ (-1 : Int32) = 33 by decide), if_neg (show ¬ (-1 : Int32) = 45 by decide)]
      exact ite_self _
    · unfold s_X10_one
      rw [mS_f, if_pos (by decide), byte_at hN hτ ha, Option.bind_some, e2, if_neg (by decide), if_neg (by decide), if_neg (by decide), show s_X10_nameOf 0 _ = some (-1) from rfl, Option.bind_some, if_pos (by decide)]
      show s_X10_one_L176 _ _ (199 + 1) 0 0 _ = _
      rw [s_X10_one_L176, if_neg (by decide), byte_at hN hτ ha, Option.bind_some, e2, if_pos (by decide), s_X10_one_C229, if_pos rfl, wrong_at, Option.bind_some]
  · by_cases dg : 48 ≤ b ∧ b ≤ 57
    · obtain ⟨a', v', p1, p2, p3, C, M⟩ := num_L h (fun _ => none) (fun _ => none) 3 1 (b - 48) (a + 1) (by omega) (by omega) (by omega) q
      refine ⟨true, a', [nI v'], ⟨by omega, p2, by rw [List.length_cons, List.length_nil]; omega, fun _ => by omega, tk_neg (num_tok p3)⟩, fun c d hc hd => ?_, fun τ d hτ hd => ?_⟩
      · obtain ⟨d', rfl⟩ : ∃ d', d = d' + 1 := ⟨d - 1, by omega⟩
        have hz := numStep (v := 0) (b := b) (by omega) dg
        show rd_X3_readOperand (d' + 1) _ _ = _
        rw [rdOper, s_X3_readOperand, next_at h ha, Option.bind_some, dig_at, Option.bind_some, bI_n, if_neg (fun z => z (by rw [e1, dig_nI hb]; exact dg)), s_X3_readNumber]
        have : s_X3_readNumber_L4 200 0 0 (kS σ0 t c a) = some (1, kS σ0 t (c ++ [nI v']) a') := by
          show s_X3_readNumber_L4 (199 + 1) 0 0 _ = _
          rw [s_X3_readNumber_L4, if_neg (by decide), next_at h ha, Option.bind_some, dig_at, Option.bind_some, bI_n, if_neg (fun z => z (by rw [e1, dig_nI hb]; exact dg)), Option.bind_some, zSt_e, kS_at, nI_1 a, kS_adv, e1, show (10 : Int32) * 0 + nI b - 48 = nI (10 * 0 + (b - 48)) from hz, Nat.mul_zero, Nat.zero_add]
          exact C c 199 (by omega) (by omega)
        rw [this, Option.bind_some, if_pos (Or.inr rfl)]
        rfl
      · obtain ⟨d', rfl⟩ : ∃ d', d = d' + 1 := ⟨d - 1, by omega⟩
        refine ⟨nI v', 0, ?_, fun _ s => by rw [run_one, stp_num _ p3]⟩
        have hz := numStep (v := 0) (b := b) (by omega) dg
        obtain ⟨a'', v'', r1, r2, r3, C2, M2⟩ := num_L h (rd_X10_either d') (rd_X10_one d') 3 1 (b - 48) (a + 1) (by omega) (by omega) (by omega) q
        have same : a'' = a' ∧ v'' = v' := by
          have x1 := C [] 199 (by rw [List.length_nil]; omega) (by omega)
          have x2 := C2 [] 199 (by rw [List.length_nil]; omega) (by omega)
          rw [x1] at x2
          have x3 := congrArg Prod.snd (Option.some.inj x2)
          have y1 := congrFun (congrFun (congrArg Prod.fst x3) 46) 2
          rw [kS_at, kS_at] at y1
          have y2 := (nI_eq (by omega) (by omega)).mp y1
          have z1 := congrFun (congrFun (congrArg Prod.fst x3) (t + 1)) 0
          have kt : ∀ (c : List Int32) (a : Nat), 0 < c.length → (kS σ0 t c a).1 (t + 1) 0 = c.getD 0 0 := fun c a hc => by
            have ht := h.2.1
            show (if t + 1 = 46 ∧ 0 = 2 then nI a else if t + 1 = t ∧ 0 = 2 then nI c.length else if t + 1 = t + 1 ∧ 0 < c.length then c.getD 0 0 else σ0.1 (t + 1) 0) = _
            rw [if_neg (by omega), if_neg (by omega), if_pos ⟨rfl, hc⟩]
          rw [kt _ _ (by simp), kt _ _ (by simp)] at z1
          have z2 : nI v' = nI v'' := z1
          exact ⟨y2.symm, ((nI_eq (by omega) (by omega)).mp z2).symm⟩
        rw [← same.1, ← same.2]
        have n33 : ¬ nI b = 33 := by rw [show (33 : Int32) = nI 33 by decide, nI_eq (by omega) (by omega)]; omega
        have n45 : ¬ nI b = 45 := by rw [show (45 : Int32) = nI 45 by decide, nI_eq (by omega) (by omega)]; omega
        have n40 : ¬ nI b = 40 := by rw [show (40 : Int32) = nI 40 by decide, nI_eq (by omega) (by omega)]; omega
        have nn : s_X10_nameOf (nI b) zO = some (-1) := by
          rcases (nam_tab b hb).2 with z | ⟨k, -, -, z, -⟩
          · exact z
          · exact absurd dg z
        rw [rdOne, s_X10_one, mS_f, if_pos (by decide), byte_at hN hτ ha, Option.bind_some, e2, if_neg n33, if_neg n45, if_neg n40, nam_i _ _ zO, nn, Option.bind_some, if_pos (by decide)]
        show s_X10_one_L176 _ _ (199 + 1) 0 0 _ = _
        rw [s_X10_one_L176, if_neg (by decide), byte_at hN hτ ha, Option.bind_some, e2, if_neg (by rw [show (48 : Int32) = nI 48 by decide, nI_ltI (by omega) (by omega)]; omega), Option.bind_some, if_neg (by rw [show (57 : Int32) = nI 57 by decide, nI_ltI (by omega) (by omega)]; omega), Option.bind_some, zSt_e, mS_a, nI_1 a, mS_23, show (10 : Int32) * 0 + nI b - 48 = nI (10 * 0 + (b - 48)) from hz, Nat.mul_zero, Nat.zero_add]
        exact M2 τ (nI opn) 199 hτ (by omega)
    · have ndC : ¬ (48 ≤ nxC B N a ∧ nxC B N a ≤ 57) := by rw [e1, dig_nI hb]; exact dg
      rcases (nam_tab b hb).2 with nn | ⟨k, hk, nk, -, m33, m40, m45⟩
      · have Cc := fun (fb : Int32 → ZSt → Option (Int32 × ZSt)) (fo : Int32 → ZSt → Option (Int32 × ZSt)) (c : List Int32) => cOpd_else h ha ndC (Or.inr ⟨b, hb, e1, nn⟩) fb fo (nI opn) c
        by_cases sg : b = 33 ∨ b = 45 ∨ b = 40
        · have mOne : ∀ (τ : ZSt) (d : Nat), hB B N τ → s_X10_one (rd_X10_either d) (rd_X10_one d) (mS τ (nI a) (nI opn) (-1)) = s_X10_one_C32 (rd_X10_either d) (rd_X10_one d) (nI b) (mS τ (nI a) (nI opn) (-1)) := fun τ d hτ => by
            unfold s_X10_one
            rw [mS_f, if_pos (by decide), byte_at hN hτ ha, Option.bind_some, e2]
            rcases sg with rfl | rfl | rfl
            · rw [if_pos (by decide)]
            · rw [if_neg (by decide), if_pos (by decide)]
            · rw [if_neg (by decide), if_neg (by decide), if_pos (by decide)]
          by_cases op6 : opn < 6
          · obtain ⟨upO, upE, dc2⟩ := up op6
            have mC32 : ∀ (τ : ZSt) (d : Nat), s_X10_one_C32 (rd_X10_either d) (rd_X10_one d) (nI b) (mS τ (nI a) (nI opn) (-1)) = if nI b = 40 then ((rd_X10_either d (mS τ (nI (a + 1)) (nI (opn + 1)) (-1))).bind fun r6 => if nI b = 40 then (s_X10_takes 41 r6.2).bind fun r7 => if r7.1 = 0 then (s_X10_wrong r7.2).bind fun r8 => some (r8.1, r8.2) else s_X10_one_C104 (rd_X10_either d) (rd_X10_one d) (nI b) r6.1 r7.2 else s_X10_one_C104 (rd_X10_either d) (rd_X10_one d) (nI b) r6.1 r6.2) else ((rd_X10_one d (mS τ (nI (a + 1)) (nI (opn + 1)) (-1))).bind fun r3 => if nI b = 40 then (s_X10_takes 41 r3.2).bind fun r4 => if r4.1 = 0 then (s_X10_wrong r4.2).bind fun r5 => some (r5.1, r5.2) else s_X10_one_C104 (rd_X10_either d) (rd_X10_one d) (nI b) r3.1 r4.2 else s_X10_one_C104 (rd_X10_either d) (rd_X10_one d) (nI b) r3.1 r3.2) := fun τ d => by
              unfold s_X10_one_C32
              rw [mS_o, if_neg (by rw [eo6]; omega), zSt_e, nI_1 opn, mS_26, zSt_e, mS_a, nI_1 a, mS_23]
            have c104 : ∀ (τ : ZSt) (d : Nat) (v : Int32) (x y f : Int32), s_X10_one_C104 (rd_X10_either d) (rd_X10_one d) (nI b) v (mS τ x y f) = some (if nI b = 40 then v else if nI b = 45 then -v else if v = 0 then 1 else 0, mS τ x (y - 1) f) := fun τ d v x y f => by
              unfold s_X10_one_C104
              rw [zSt_e, mS_o, mS_26]
              by_cases z1 : nI b = 40
              · rw [if_pos z1, if_pos z1]
              · rw [if_neg z1, if_neg z1]
                by_cases z2 : nI b = 45
                · rw [if_pos z2, if_pos z2]
                · rw [if_neg z2, if_neg z2]
                  by_cases z3 : v = 0
                  · rw [if_pos z3, if_pos z3]
                  · rw [if_neg z3, if_neg z3]
            have back : nI (opn + 1) - 1 = nI opn := nI_pred opn
            by_cases s40 : b = 40
            · subst s40
              obtain ⟨ok, a1, code, ⟨p1, p2, p3, p4, p6⟩, C, M⟩ := upE (a + 1) q
              have C : ∀ (c : List Int32) (d : Nat), c.length ≤ a + 1 → dc - 2 ≤ d → rd_X3_readPart d (nI 0) (nI (opn + 1)) (kS σ0 t c (a + 1)) = some (if ok = true then 1 else 0, kS σ0 t (c ++ code) a1) := C
              have cl : ∀ (c : List Int32) (d : Nat), s_X3_readOperand (rd_X3_readBracket (d + 1)) (rd_X3_readOperand (d + 1)) (nI opn) (kS σ0 t c a) = ((rd_X3_readPart d (nI 0) (nI (opn + 1)) (kS σ0 t c (a + 1))).bind fun r2 => (if r2.1 = 0 then some (0, r2.2) else (s_X3_next r2.2).bind fun r3 => if r3 = 41 then zSt' (zWD r2.2 46 2 ((r2.2.1 46 2) + 1)) fun σ4 => some (1, σ4) else some (0, r2.2))).bind fun r1 => if r1.1 = 0 ∨ r1.1 = 1 then some (r1.1, r1.2) else none := fun c d => by
                rw [Cc, e1, s_X3_readOperand_C32, if_pos (by decide), if_pos (by rw [eo]; exact op6), if_pos (by decide), nI_1 opn, rdBrak, s_X3_readBracket, zSt_e, kS_at, nI_1 a, kS_adv]
                rfl
              cases ok with
              | false =>
                refine ⟨false, a1, code, ⟨by omega, p2, by omega, fun z => absurd z (by decide), p6⟩, fun c d hc hd => ?_, fun τ d hτ hd => ?_⟩
                · obtain ⟨d', rfl⟩ : ∃ d', d = d' + 2 := ⟨d - 2, by omega⟩
                  show rd_X3_readOperand (d' + 1 + 1) _ _ = _
                  rw [rdOper, cl, C c d' (by omega) (by omega), Option.bind_some, if_pos okF, Option.bind_some, if_pos (Or.inl rfl)]
                  rfl
                · obtain ⟨d', rfl⟩ : ∃ d', d = d' + 1 := ⟨d - 1, by omega⟩
                  obtain ⟨v, y, x1, -⟩ := M τ d' hτ (by omega)
                  refine ⟨0, y, ?_, fun z => absurd z (by decide)⟩
                  rw [rdOne, mOne τ d' hτ, mC32, if_pos (by decide), x1, Option.bind_some, if_pos (by decide), if_neg (by decide), takes_f (by omega), Option.bind_some, if_pos rfl, wrong_f (by omega), Option.bind_some]
                  rfl
              | true =>
                have p5 := p4 rfl
                by_cases cl41 : nxC B N a1 = nI 41
                · have cm41 := (nx_sign (B := B) (N := N) (a := a1) h (k := 41) (by omega)).1.mp cl41
                  have cm := (nx_sign (B := B) (N := N) (a := a1) h (k := 41) (by omega)).2.mpr cm41
                  refine ⟨true, a1 + 1, code, ⟨by omega, cm41.1, by omega, fun _ => by omega, p6⟩, fun c d hc hd => ?_, fun τ d hτ hd => ?_⟩
                  · obtain ⟨d', rfl⟩ : ∃ d', d = d' + 2 := ⟨d - 2, by omega⟩
                    show rd_X3_readOperand (d' + 1 + 1) _ _ = _
                    rw [rdOper, cl, C c d' (by omega) (by omega), Option.bind_some, if_neg okT, next_at h p2, Option.bind_some, cl41, if_pos (by decide), zSt_e, kS_at, nI_1 a1, kS_adv, Option.bind_some, if_pos (Or.inr rfl)]
                    rfl
                  · obtain ⟨d', rfl⟩ : ∃ d', d = d' + 1 := ⟨d - 1, by omega⟩
                    obtain ⟨v, y, x1, x2⟩ := M τ d' hτ (by omega)
                    refine ⟨v, 0, ?_, x2⟩
                    rw [rdOne, mOne τ d' hτ, mC32, if_pos (by decide), x1, Option.bind_some, if_pos (by decide), if_pos rfl, takes_at hN hτ p2, if_pos (show nxM B N a1 = 41 from cm), Option.bind_some, if_neg (show ¬ (1 : Int32) = 0 by decide), c104, if_pos (by decide), back]
                    rfl
                · have cm : ¬ nxM B N a1 = 41 := fun z => cl41 ((nx_sign (B := B) (N := N) (a := a1) h (k := 41) (by omega)).1.mpr ((nx_sign (B := B) (N := N) (a := a1) h (k := 41) (by omega)).2.mp z))
                  refine ⟨false, a1, code, ⟨by omega, p2, by omega, fun z => absurd z (by decide), p6⟩, fun c d hc hd => ?_, fun τ d hτ hd => ?_⟩
                  · obtain ⟨d', rfl⟩ : ∃ d', d = d' + 2 := ⟨d - 2, by omega⟩
                    show rd_X3_readOperand (d' + 1 + 1) _ _ = _
                    rw [rdOper, cl, C c d' (by omega) (by omega), Option.bind_some, if_neg okT, next_at h p2, Option.bind_some, if_neg (show ¬ nxC B N a1 = 41 from cl41), Option.bind_some, if_pos (Or.inl rfl)]
                    rfl
                  · obtain ⟨d', rfl⟩ : ∃ d', d = d' + 1 := ⟨d - 1, by omega⟩
                    obtain ⟨v, y, x1, x2⟩ := M τ d' hτ (by omega)
                    refine ⟨0, nI (opn + 1), ?_, fun z => absurd z (by decide)⟩
                    rw [rdOne, mOne τ d' hτ, mC32, if_pos (by decide), x1, Option.bind_some, if_pos (by decide), if_pos rfl, takes_at hN hτ p2, if_neg cm, Option.bind_some, if_pos rfl, wrong_at, Option.bind_some]
                    rfl
            · have n40 : ¬ nI b = 40 := by rw [show (40 : Int32) = nI 40 by decide, nI_eq (by omega) (by omega)]; exact s40
              obtain ⟨ok, a1, code, ⟨p1, p2, p3, p4, p6⟩, C, M⟩ := upO (a + 1) q
              have C : ∀ (c : List Int32) (d : Nat), c.length ≤ a + 1 → dc - 1 ≤ d → rd_X3_readOperand d (nI (opn + 1)) (kS σ0 t c (a + 1)) = some (if ok = true then 1 else 0, kS σ0 t (c ++ code) a1) := C
              have cl : ∀ (c : List Int32) (d : Nat), s_X3_readOperand (rd_X3_readBracket d) (rd_X3_readOperand d) (nI opn) (kS σ0 t c a) = s_X3_readOperand_C95 (rd_X3_readBracket d) (rd_X3_readOperand d) (nI opn) (nI b) (kS σ0 t c a) := fun c d => by
                rw [Cc, e1, s_X3_readOperand_C32, if_pos (by decide), if_pos (by rw [eo]; exact op6), if_neg n40]
                rcases sg with rfl | rfl | rfl
                · rw [if_pos (by decide)]
                · rw [if_neg (by decide), if_pos (by decide)]
                · exact absurd rfl s40
              cases ok with
              | false =>
                refine ⟨false, a1, code, ⟨by omega, p2, by omega, fun z => absurd z (by decide), p6⟩, fun c d hc hd => ?_, fun τ d hτ hd => ?_⟩
                · obtain ⟨d', rfl⟩ : ∃ d', d = d' + 1 := ⟨d - 1, by omega⟩
                  show rd_X3_readOperand (d' + 1) _ _ = _
                  rw [rdOper, cl, s_X3_readOperand_C95, zSt_e, kS_at, nI_1 a, kS_adv, nI_1 opn, C c d' (by omega) (by omega), Option.bind_some, if_pos okF]
                  rfl
                · obtain ⟨d', rfl⟩ : ∃ d', d = d' + 1 := ⟨d - 1, by omega⟩
                  obtain ⟨v, y, x1, -⟩ := M τ d' hτ (by omega)
                  refine ⟨if nI b = 40 then v else if nI b = 45 then -v else if v = 0 then 1 else 0, y - 1, ?_, fun z => absurd z (by decide)⟩
                  rw [rdOne, mOne τ d' hτ, mC32, if_neg n40, x1, Option.bind_some, if_neg n40, if_neg (by decide), c104]
                  rfl
              | true =>
                have p5 := p4 rfl
                have un : ∃ u, (u = 33 ∨ u = 126) ∧ 0 ≤ u ∧ (∀ (c : List Int32), c.length < 128 → (if nI b = 45 then (s_X3_addSign 126 (kS σ0 t c a1)).bind fun σ4 => some ((1 : Int32), σ4) else (s_X3_addSign 33 (kS σ0 t c a1)).bind fun σ3 => some (1, σ3)) = some (1, kS σ0 t (c ++ [-100 - u]) a1)) ∧ ∀ v : Int32, (if nI b = 40 then v else if nI b = 45 then -v else if v = 0 then 1 else 0) = jn u 0 v := by
                  rcases sg with rfl | rfl | rfl
                  · exact ⟨33, Or.inl rfl, by decide, fun c hc => by rw [if_neg (by decide), addSign_at h hc, Option.bind_some], fun v => by rw [if_neg (by decide), if_neg (by decide), jn_33]⟩
                  · exact ⟨126, Or.inr rfl, by decide, fun c hc => by rw [if_pos (by decide), addSign_at h hc, Option.bind_some], fun v => by rw [if_neg (by decide), if_pos (by decide), jn_126]⟩
                  · exact absurd rfl s40
                obtain ⟨u, u1, u0, uC, uM⟩ := un
                refine ⟨true, a1, code ++ [-100 - u], ⟨by omega, p2, by rw [List.length_append, List.length_cons, List.length_nil]; omega, fun _ => by omega, tk_app p6 (tk_c (by rcases u1 with rfl | rfl <;> decide) (by rcases u1 with rfl | rfl <;> decide))⟩, fun c d hc hd => ?_, fun τ d hτ hd => ?_⟩
                · obtain ⟨d', rfl⟩ : ∃ d', d = d' + 1 := ⟨d - 1, by omega⟩
                  show rd_X3_readOperand (d' + 1) _ _ = _
                  rw [rdOper, cl, s_X3_readOperand_C95, zSt_e, kS_at, nI_1 a, kS_adv, nI_1 opn, C c d' (by omega) (by omega), Option.bind_some, if_neg okT]
                  show (if nI b = 45 then (s_X3_addSign 126 (kS σ0 t (c ++ code) a1)).bind _ else _) = _
                  rw [uC (c ++ code) (by rw [List.length_append]; omega), List.append_assoc]
                  rfl
                · obtain ⟨d', rfl⟩ : ∃ d', d = d' + 1 := ⟨d - 1, by omega⟩
                  obtain ⟨v, y, x1, x2⟩ := M τ d' hτ (by omega)
                  refine ⟨jn u 0 v, 0, ?_, fun z s => ?_⟩
                  · rw [rdOne, mOne τ d' hτ, mC32, if_neg n40, x1, Option.bind_some, if_neg n40, if_pos rfl, c104, uM, back]
                    rfl
                  · rw [run_app, x2 rfl s, run_one, stp_un _ u0 u1]
          · have op : opn = 6 := by omega
            refine opd_no h hd0 hm0 ha (fun c d => ?_) (fun τ d hτ => ?_)
            · rw [Cc, s_X3_readOperand_C32, if_pos (by decide), if_neg (by rw [eo]; exact op6)]
            · rw [mOne τ d hτ, s_X10_one_C32, mS_o, if_pos (by rw [eo6]; exact op), wrong_at, Option.bind_some]
        · have m33 : ¬ nI b = 33 := by rw [show (33 : Int32) = nI 33 by decide, nI_eq (by omega) (by omega)]; omega
          have m45 : ¬ nI b = 45 := by rw [show (45 : Int32) = nI 45 by decide, nI_eq (by omega) (by omega)]; omega
          have m40 : ¬ nI b = 40 := by rw [show (40 : Int32) = nI 40 by decide, nI_eq (by omega) (by omega)]; omega
          refine opd_no h hd0 hm0 ha (fun c d => ?_) (fun τ d hτ => ?_)
          · rw [Cc, e1, s_X3_readOperand_C32, if_pos (by decide), if_neg m40, if_neg m33, if_neg m45]
            exact ite_self _
          · unfold s_X10_one
            rw [mS_f, if_pos (by decide), byte_at hN hτ ha, Option.bind_some, e2, if_neg m33, if_neg m45, if_neg m40, nam_i _ _ zO, nn, Option.bind_some, if_pos (by decide)]
            show s_X10_one_L176 _ _ (199 + 1) 0 0 _ = _
            have w229 : s_X10_one_C229 (rd_X10_either d) (rd_X10_one d) 0 0 (mS τ (nI a) (nI opn) (-1)) = some (0, mS τ (nI a) (nI opn) (nI a)) := by
              rw [s_X10_one_C229, if_pos rfl, wrong_at, Option.bind_some]
            rw [s_X10_one_L176, if_neg (by decide), byte_at hN hτ ha, Option.bind_some, e2]
            by_cases z : nI b < 48
            · rw [if_pos z, w229]
            · rw [if_neg z, Option.bind_some, if_pos (by
                have z1 := Int32.not_lt.mp z
                rcases Int32.lt_or_le 57 (nI b) with q | q
                · exact q
                · exact absurd (by rw [← dig_nI hb]; exact ⟨z1, q⟩) dg), w229]
      · refine ⟨true, a + 1, [-1 - nI k], ⟨by omega, q, by rw [List.length_cons, List.length_nil]; omega, fun _ => by omega, tk_neg (nam_tok k hk).1⟩, fun c d hc hd => ?_, fun τ d hτ hd => ?_⟩
        · obtain ⟨d', rfl⟩ : ∃ d', d = d' + 1 := ⟨d - 1, by omega⟩
          show rd_X3_readOperand (d' + 1) _ _ = _
          rw [rdOper, s_X3_readOperand, next_at h ha, Option.bind_some, dig_at, Option.bind_some, bI_n, if_pos ndC, e1, if_pos (nI_pos' (by omega)), idx_i _ _ zO, (nam_tab b hb).1, nk, Option.bind_some, s_X3_readOperand_C32, if_neg (nlt0 (by omega)), zSt_e, kS_at, nI_1 a, kS_adv, dyn_t h, Option.bind_some, kS_add h (by omega), Option.bind_some]
          rfl
        · obtain ⟨d', rfl⟩ : ∃ d', d = d' + 1 := ⟨d - 1, by omega⟩
          have m33' : ¬ nI b = 33 := by rw [show (33 : Int32) = nI 33 by decide, nI_eq (by omega) (by omega)]; exact m33
          have m45' : ¬ nI b = 45 := by rw [show (45 : Int32) = nI 45 by decide, nI_eq (by omega) (by omega)]; exact m45
          have m40' : ¬ nI b = 40 := by rw [show (40 : Int32) = nI 40 by decide, nI_eq (by omega) (by omega)]; exact m40
          refine ⟨τ.1 84 k, 0, ?_, fun _ s => by rw [run_one, stp_nam _ hk]⟩
          rw [rdOne, s_X10_one, mS_f, if_pos (by decide), byte_at hN hτ ha, Option.bind_some, e2, if_neg m33', if_neg m45', if_neg m40', nam_i _ _ zO, nk, Option.bind_some, if_neg (nlt0 (by omega)), zSt_e, mS_a, nI_1 a, mS_23, zLd_t (zIn_nI hk (by decide)), nI_clamp (by omega), mS_x τ _ _ _ 84 k (by omega)]
          rfl
/-- all levels: o signs open -/
theorem tower (h : hS B N σ0 t) : ∀ (m o : Nat), o + m = 6 → (∀ a, a ≤ N → PQ B N σ0 t (fun d => rd_X3_readOperand d (nI o)) rd_X10_one (8 * m + 1) (6 * m + 1) o a) ∧ (∀ a, a ≤ N → PQ B N σ0 t (fun d => rd_X3_readPart d (nI 0) (nI o)) rd_X10_either (8 * m + 7) (6 * m + 6) o a) := by
  intro m
  induction m with
  | zero =>
    intro o ho
    have O : ∀ a, a ≤ N → PQ B N σ0 t (fun d => rd_X3_readOperand d (nI o)) rd_X10_one (8 * 0 + 1) (6 * 0 + 1) o a := opd h (by omega) (by omega) (by omega) (fun q => by omega)
    exact ⟨O, lev0 h (lev1 h (lev2 h (lev3 h (lev4 h (lev5 h O)))))⟩
  | succ m ih =>
    intro o ho
    obtain ⟨uO, uE⟩ := ih (o + 1) (by omega)
    have mono : ∀ {fc fm : Nat → ZSt → Option (Int32 × ZSt)} {dc dm dc' dm' o a : Nat}, PQ B N σ0 t fc fm dc dm o a → dc ≤ dc' → dm ≤ dm' → PQ B N σ0 t fc fm dc' dm' o a := fun ⟨ok, a', code, b, C, M⟩ h1 h2 => ⟨ok, a', code, b, fun c d q1 q2 => C c d q1 (by omega), fun τ d q1 q2 => M τ d q1 (by omega)⟩
    have O : ∀ a, a ≤ N → PQ B N σ0 t (fun d => rd_X3_readOperand d (nI o)) rd_X10_one (8 * (m + 1) + 1) (6 * (m + 1) + 1) o a := opd h (by omega) (by omega) (by omega) (fun q => ⟨fun a ha => mono (uO a ha) (by omega) (by omega), fun a ha => mono (uE a ha) (by omega) (by omega), by omega⟩)
    exact ⟨O, lev0 h (lev1 h (lev2 h (lev3 h (lev4 h (lev5 h O)))))⟩
end PARSE
