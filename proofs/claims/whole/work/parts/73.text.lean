/-! THE LAW: lines, the text, the call -/
abbrev WS : Type := Option Int32 × Bool × List Int32
def wstp (F : Nat → Int32) (st : WS) (v : Int32) : WS :=
  st.1.elim (if (-100 : Int32) - v = 63 then (none, decide (¬ st.2.2.headD 0 = 0), st.2.2.tail) else if (-100 : Int32) - v = 59 then (if st.2.1 = true then (some (st.2.2.headD 0), st.2.1, st.2.2.tail) else (none, true, [])) else (none, st.2.1, stp F v st.2.2)) (fun _ => st)
def wrun (F : Nat → Int32) (c : List Int32) (st : WS) : WS := c.foldl (wstp F) st
theorem wrun_nil (F : Nat → Int32) (st : WS) : wrun F [] st = st := by
  unfold wrun
  rw [List.foldl_nil]
theorem wrun_cons (F : Nat → Int32) (v : Int32) (c : List Int32) (st : WS) : wrun F (v :: c) st = wrun F c (wstp F st v) := by
  unfold wrun
  rw [List.foldl_cons]
theorem wrun_app (F : Nat → Int32) (a b : List Int32) (st : WS) : wrun F (a ++ b) st = wrun F b (wrun F a st) := by
  unfold wrun
  rw [List.foldl_append]
theorem wstp_some (F : Nat → Int32) (r v : Int32) (k : Bool) (s : List Int32) : wstp F (some r, k, s) v = (some r, k, s) := rfl
theorem wrun_some (F : Nat → Int32) (r : Int32) (k : Bool) (s : List Int32) (c : List Int32) : wrun F c (some r, k, s) = (some r, k, s) := by
  induction c with
  | nil => rw [wrun_nil]
  | cons v c ih => rw [wrun_cons, wstp_some, ih]
theorem wstp_q (F : Nat → Int32) {v : Int32} (h : (-100 : Int32) - v = 63) (k : Bool) (s : List Int32) : wstp F (none, k, s) v = (none, decide (¬ s.headD 0 = 0), s.tail) := by
  unfold wstp
  rw [Option.elim_none, if_pos h]
theorem wstp_e (F : Nat → Int32) {v : Int32} (h : (-100 : Int32) - v = 59) (k : Bool) (s : List Int32) : wstp F (none, k, s) v = if k = true then (some (s.headD 0), k, s.tail) else (none, true, []) := by
  unfold wstp
  rw [Option.elim_none, if_neg (by rw [h]; decide), if_pos h]
theorem wstp_o (F : Nat → Int32) {v : Int32} (h : ¬ (-100 : Int32) - v = 63) (h2 : ¬ (-100 : Int32) - v = 59) (k : Bool) (s : List Int32) : wstp F (none, k, s) v = (none, k, stp F v s) := by
  unfold wstp
  rw [Option.elim_none, if_neg h, if_neg h2]
theorem wrun_part (F : Nat → Int32) : ∀ (c : List Int32), tkL c → ∀ (k : Bool) (s : List Int32), wrun F c (none, k, s) = (none, k, run F c s) := by
  intro c
  induction c with
  | nil => intro _ k s; rw [wrun_nil, run_nil]
  | cons v c ih =>
    intro h k s
    obtain ⟨h1, h2⟩ := h v List.mem_cons_self
    rw [wrun_cons, run_cons, wstp_o F h1 h2, ih (fun u hu => h u (List.mem_cons_of_mem _ hu))]
theorem tQ : (-100 : Int32) - (-100 - 63) = 63 := by decide
theorem tE : (-100 : Int32) - (-100 - 59) = 59 := by decide
theorem wrun_one (F : Nat → Int32) (v : Int32) (st : WS) : wrun F [v] st = wstp F st v := by rw [wrun_cons, wrun_nil]
/-- a line without a question -/
theorem wrun_l1 (F : Nat → Int32) {c : List Int32} (h : tkL c) {v : Int32} (hv : ∀ s, run F c s = v :: s) : wrun F (c ++ [-100 - 59]) (none, true, []) = (some v, true, []) := by
  rw [wrun_app, wrun_part F c h, hv, wrun_cons, wrun_nil, wstp_e F tE, if_pos rfl]
  rfl
theorem wrun_l2 (F : Nat → Int32) {c c2 : List Int32} (h : tkL c) (h2 : tkL c2) {v v2 : Int32} (hv : ∀ s, run F c s = v :: s) (hv2 : ∀ s, run F c2 s = v2 :: s) : wrun F (c ++ [-100 - 63] ++ c2 ++ [-100 - 59]) (none, true, []) = if v = 0 then (none, true, []) else (some v2, true, []) := by
  rw [wrun_app, wrun_app, wrun_app, wrun_part F c h, hv, wrun_one F (-100 - 63), wstp_q F tQ, List.headD_cons, List.tail_cons, wrun_part F c2 h2, hv2, wrun_one F (-100 - 59), wstp_e F tE, List.headD_cons, List.tail_cons]
  by_cases q : v = 0
  · rw [if_pos q, if_neg (by simp [q])]
  · rw [if_neg q, if_pos (by simp [q])]
    simp [q]
section PARSE
variable {B : Nat → Int32} {N : Nat} {σ0 : ZSt} {t : Nat}
/-- what the model has behind a line -/
def aft (l3 l4 : Int32) (st : WS) : Int32 × Int32 := if l3 = 0 then st.1.elim (l3, l4) (fun v => (1, v)) else (l3, l4)
theorem L33_step (n : Nat) (l3 l4 : Int32) (σ : ZSt) : s_X10_workOut_L33 (n + 1) l3 l4 1 σ = ((r_X10_either σ).bind fun r1 => ((s_X10_takes (63 : Int32) r1.2).bind fun r2 => (if r2.1 = (0 : Int32) then (s_X10_workOut_C74 (s_X10_workOut_L33 n) l3 l4 r1.1 (1 : Int32) r2.2) else (if r1.1 = (0 : Int32) then ((r_X10_either r2.2).bind fun r3 => (s_X10_workOut_C74 (s_X10_workOut_L33 n) l3 l4 r3.1 (0 : Int32) r3.2)) else ((r_X10_either r2.2).bind fun r4 => (s_X10_workOut_C74 (s_X10_workOut_L33 n) l3 l4 r4.1 (1 : Int32) r4.2)))))) := by
  rw [s_X10_workOut_L33, if_neg (by decide)]
theorem C74_ok (k : Int32 → Int32 → Int32 → ZSt → Option (Int32 × ZSt)) (l3 l4 l6 : Int32) (τ : ZSt) (a o : Int32) : s_X10_workOut_C74 k l3 l4 l6 1 (mS τ a o (-1)) = (s_X10_takes 59 (mS τ a o (-1))).bind fun r => k (if l3 = 0 then 1 else l3) (if l3 = 0 then l6 else l4) r.1 r.2 := by
  unfold s_X10_workOut_C74
  rw [mS_f, if_neg (by decide), if_neg (by decide)]
  by_cases q : l3 = 0
  · rw [if_pos q]
    simp only [if_pos q]
  · rw [if_neg q]
    simp only [if_neg q]
theorem C74_no (k : Int32 → Int32 → Int32 → ZSt → Option (Int32 × ZSt)) (l3 l4 l6 : Int32) (τ : ZSt) (a o : Int32) : s_X10_workOut_C74 k l3 l4 l6 0 (mS τ a o (-1)) = (s_X10_takes 59 (mS τ a o (-1))).bind fun r => k l3 l4 r.1 r.2 := by
  unfold s_X10_workOut_C74
  rw [mS_f, if_neg (by decide), if_pos rfl]
theorem C74_f (n : Nat) (l3 l4 l6 l7 : Int32) (τ : ZSt) {a f : Nat} (o : Int32) (hf : f ≤ 120) : s_X10_workOut_C74 (s_X10_workOut_L33 (n + 1)) l3 l4 l6 l7 (mS τ (nI a) o (nI f)) = some (l4, mS τ (nI a) o (nI f)) := by
  unfold s_X10_workOut_C74
  rw [mS_f, if_pos (nI_pos' (by omega)), takes_f hf, Option.bind_some, s_X10_workOut_L33, if_pos rfl, s_X10_workOut_C107, mS_f, if_pos (nI_pos' (by omega))]
theorem line (h : hS B N σ0 t) {a : Nat} (ha : a ≤ N) : ∃ (ok : Bool) (a' : Nat) (code : List Int32), (a ≤ a' ∧ a' ≤ N ∧ code.length + a ≤ a' + 1 ∧ (ok = true → a < a') ∧ (ok = true → 1 ≤ code.length)) ∧ (∀ (c : List Int32), c.length ≤ a → s_X3_readLine (kS σ0 t c a) = some (if ok = true then 1 else 0, kS σ0 t (c ++ code) a')) ∧ (∀ (τ : ZSt) (n : Nat) (l3 l4 : Int32), hB B N τ → (ok = true → s_X10_workOut_L33 (n + 2) l3 l4 1 (mS τ (nI a) 0 (-1)) = (s_X10_takes 59 (mS τ (nI a') 0 (-1))).bind fun r => s_X10_workOut_L33 (n + 1) (aft l3 l4 (wrun (τ.1 84) code (none, true, []))).1 (aft l3 l4 (wrun (τ.1 84) code (none, true, []))).2 r.1 r.2) ∧ (ok = false → ∃ v y, s_X10_workOut_L33 (n + 2) l3 l4 1 (mS τ (nI a) 0 (-1)) = some (v, mS τ (nI a') y (nI a'))) ∧ (ok = true → wrun (τ.1 84) code (none, true, []) = (none, true, []) ∨ ∃ v s, wrun (τ.1 84) code (none, true, []) = (some v, true, s))) := by
  have hN := h.1
  have E := (tower h 6 0 (by decide)).2
  obtain ⟨ok, a1, code, ⟨b1, b2, b3, b4, b6⟩, C, M⟩ := E a ha
  have C : ∀ (c : List Int32), c.length ≤ a → r_X3_readPart 0 0 (kS σ0 t c a) = some (if ok = true then 1 else 0, kS σ0 t (c ++ code) a1) := fun c hc => C c 64 hc (by decide)
  have M : ∀ (τ : ZSt), hB B N τ → ∃ v y, r_X10_either (mS τ (nI a) 0 (-1)) = some (v, if ok = true then mS τ (nI a1) (nI 0) (-1) else mS τ (nI a1) y (nI a1)) ∧ (ok = true → ∀ s, run (τ.1 84) code s = v :: s) := fun τ hτ => M τ 64 hτ (by decide)
  cases ok with
  | false =>
    refine ⟨false, a1, code, ⟨b1, b2, by omega, fun z => absurd z (by decide), fun z => absurd z (by decide)⟩, fun c hc => ?_, fun τ n l3 l4 hτ => ⟨fun z => absurd z (by decide), fun _ => ?_, fun z => absurd z (by decide)⟩⟩
    · unfold s_X3_readLine
      rw [C c hc, Option.bind_some, if_pos okF]
      rfl
    · obtain ⟨v, y, e1, -⟩ := M τ hτ
      refine ⟨l4, y, ?_⟩
      rw [L33_step, e1, Option.bind_some, if_neg (by decide), takes_f (by omega), Option.bind_some, if_pos rfl]
      exact C74_f n _ _ _ _ τ y (by omega)
  | true =>
    have b5 := b4 rfl
    have lc1 : ∀ c : List Int32, c.length ≤ a → (c ++ code).length < 127 := fun c hc => by rw [List.length_append]; omega
    by_cases q : nxC B N a1 = nI 63
    · have qs := (nx_sign (B := B) (N := N) (a := a1) h (k := 63) (by omega)).1.mp q
      have qm := (nx_sign (B := B) (N := N) (a := a1) h (k := 63) (by omega)).2.mpr qs
      obtain ⟨ok2, a2, code2, ⟨p1, p2, p3, p4, p6⟩, C2, M2⟩ := E (a1 + 1) qs.1
      have C2 : ∀ (c : List Int32), c.length ≤ a1 + 1 → r_X3_readPart 0 0 (kS σ0 t c (a1 + 1)) = some (if ok2 = true then 1 else 0, kS σ0 t (c ++ code2) a2) := fun c hc => C2 c 64 hc (by decide)
      have M2 : ∀ (τ : ZSt), hB B N τ → ∃ v y, r_X10_either (mS τ (nI (a1 + 1)) 0 (-1)) = some (v, if ok2 = true then mS τ (nI a2) (nI 0) (-1) else mS τ (nI a2) y (nI a2)) ∧ (ok2 = true → ∀ s, run (τ.1 84) code2 s = v :: s) := fun τ hτ => M2 τ 64 hτ (by decide)
      have cl : ∀ (c : List Int32), c.length ≤ a → s_X3_readLine (kS σ0 t c a) = if (if ok2 = true then (1 : Int32) else 0) = 0 then some (0, kS σ0 t (c ++ code ++ [-100 - 63] ++ code2) a2) else (s_X3_addSign 59 (kS σ0 t (c ++ code ++ [-100 - 63] ++ code2) a2)).bind fun σ7 => some (1, σ7) := fun c hc => by
        unfold s_X3_readLine
        rw [C c hc, Option.bind_some, if_neg okT, next_at h b2, Option.bind_some, if_pos (show nxC B N a1 = 63 from q), zSt_e, kS_at, nI_1 a1, kS_adv, addSign_at h (Nat.lt_succ_of_lt (lc1 c hc)), Option.bind_some, C2 _ (by rw [List.length_append, List.length_append, List.length_cons, List.length_nil]; omega), Option.bind_some]
      cases ok2 with
      | false =>
        refine ⟨false, a2, code ++ [-100 - 63] ++ code2, ⟨by omega, p2, by rw [List.length_append, List.length_append, List.length_cons, List.length_nil]; omega, fun z => absurd z (by decide), fun z => absurd z (by decide)⟩, fun c hc => ?_, fun τ n l3 l4 hτ => ⟨fun z => absurd z (by decide), fun _ => ?_, fun z => absurd z (by decide)⟩⟩
        · rw [cl c hc, if_pos okF, List.append_assoc, List.append_assoc, List.append_assoc]
          rfl
        · obtain ⟨v, y, e1, -⟩ := M τ hτ
          obtain ⟨v2, y2, e2, -⟩ := M2 τ hτ
          refine ⟨l4, y2, ?_⟩
          rw [L33_step, e1, Option.bind_some, if_pos rfl, takes_at hN hτ b2, if_pos (show nxM B N a1 = 63 from qm), Option.bind_some, if_neg (show ¬ (1 : Int32) = 0 by decide)]
          have e2' : r_X10_either (mS τ (nI (a1 + 1)) (nI 0) (-1)) = _ := e2
          by_cases z : v = 0
          · rw [if_pos z, e2', Option.bind_some, if_neg (by decide)]
            exact C74_f n _ _ _ _ τ y2 (by omega)
          · rw [if_neg z, e2', Option.bind_some, if_neg (by decide)]
            exact C74_f n _ _ _ _ τ y2 (by omega)
      | true =>
        have p5 := p4 rfl
        refine ⟨true, a2, code ++ [-100 - 63] ++ code2 ++ [-100 - 59], ⟨by omega, p2, by rw [List.length_append, List.length_append, List.length_append, List.length_cons, List.length_cons, List.length_nil]; omega, fun _ => by omega, fun _ => by rw [List.length_append, List.length_cons]; omega⟩, fun c hc => ?_, fun τ n l3 l4 hτ => ?_⟩
        · rw [cl c hc, if_neg okT, addSign_at h (by rw [List.length_append, List.length_append, List.length_append, List.length_cons, List.length_nil]; omega), Option.bind_some]
          simp only [List.append_assoc]
          rfl
        · obtain ⟨v, y, e1, f1⟩ := M τ hτ
          obtain ⟨v2, y2, e2, f2⟩ := M2 τ hτ
          have W := wrun_l2 (τ.1 84) b6 p6 (f1 rfl) (f2 rfl)
          refine ⟨fun _ => ?_, fun z => absurd z (by decide), fun _ => ?_⟩
          · rw [W, L33_step, e1, Option.bind_some, if_pos rfl, takes_at hN hτ b2, if_pos (show nxM B N a1 = 63 from qm), Option.bind_some, if_neg (show ¬ (1 : Int32) = 0 by decide)]
            have e2' : r_X10_either (mS τ (nI (a1 + 1)) (nI 0) (-1)) = _ := e2
            by_cases z : v = 0
            · rw [if_pos z, if_pos z, e2', Option.bind_some, if_pos rfl]
              refine (C74_no _ _ _ _ τ _ _).trans ?_
              unfold aft
              simp only [Option.elim_none, ite_self]
              rfl
            · rw [if_neg z, if_neg z, e2', Option.bind_some, if_pos rfl]
              refine (C74_ok _ _ _ _ τ _ _).trans ?_
              unfold aft
              by_cases z3 : l3 = 0
              · simp only [if_pos z3, Option.elim_some]
                rfl
              · simp only [if_neg z3]
                rfl
          · rw [W]
            by_cases z : v = 0
            · rw [if_pos z]; exact Or.inl rfl
            · rw [if_neg z]; exact Or.inr ⟨_, _, rfl⟩
    · have qm : ¬ nxM B N a1 = 63 := fun z => q ((nx_sign (B := B) (N := N) (a := a1) h (k := 63) (by omega)).1.mpr ((nx_sign (B := B) (N := N) (a := a1) h (k := 63) (by omega)).2.mp z))
      refine ⟨true, a1, code ++ [-100 - 59], ⟨by omega, b2, by rw [List.length_append, List.length_cons, List.length_nil]; omega, fun _ => by omega, fun _ => by rw [List.length_append, List.length_cons]; omega⟩, fun c hc => ?_, fun τ n l3 l4 hτ => ?_⟩
      · unfold s_X3_readLine
        rw [C c hc, Option.bind_some, if_neg okT, next_at h b2, Option.bind_some, if_neg (show ¬ nxC B N a1 = 63 from q), addSign_at h (Nat.lt_succ_of_lt (lc1 c hc)), Option.bind_some, List.append_assoc]
        rfl
      · obtain ⟨v, y, e1, f1⟩ := M τ hτ
        have W := wrun_l1 (τ.1 84) b6 (f1 rfl)
        refine ⟨fun _ => ?_, fun z => absurd z (by decide), fun _ => Or.inr ⟨_, _, W⟩⟩
        rw [W, L33_step, e1, Option.bind_some, if_pos rfl, takes_at hN hτ b2, if_neg qm, Option.bind_some, if_pos rfl]
        refine (C74_ok _ _ _ _ τ _ _).trans ?_
        unfold aft
        by_cases z3 : l3 = 0
        · simp only [if_pos z3, Option.elim_some]
          rfl
        · simp only [if_neg z3]
          rfl
theorem readL24_0 (p0 n : Nat) (l : Int32) (σ : ZSt) : s_X3_read_L24 p0 (n + 1) 0 l σ = some (σ.1 46 2, zWD σ 46 1 0) := by
  rw [s_X3_read_L24, if_pos rfl, s_X3_read_C85, if_pos rfl, zSt_e]
/-- behind a line that was one: the rest of the text -/
theorem text_L (h : hS B N σ0 t) : ∀ (m a : Nat), N - a = m → a ≤ N → ∃ (ok : Bool) (a' : Nat) (code : List Int32), (a' ≤ N ∧ code.length + a ≤ N ∧ (ok = true → a' = N)) ∧ (∀ (c : List Int32) (n l : Nat), c.length ≤ a + 1 → N - a + 1 < n → l + (N - a) ≤ 121 → s_X3_read_L24 t n 1 (nI l) (kS σ0 t c a) = some (if ok = true then -1 else nI a', zWD (kS σ0 t (c ++ code) a') 46 1 0)) ∧ (∀ (τ : ZSt) (n : Nat) (l3 l4 : Int32), hB B N τ → (l3 = 0 ∨ l3 = 1) → N - a + 1 < n → ∃ v y, ((s_X10_takes 59 (mS τ (nI a) 0 (-1))).bind fun r => s_X10_workOut_L33 n l3 l4 r.1 r.2) = some (v, if ok = true then mS τ (nI a') 0 (-1) else mS τ (nI a') y (nI a')) ∧ (ok = true → v = if l3 = 0 then (wrun (τ.1 84) code (none, true, [])).1.getD l4 else l4)) := by
  intro m
  have hN := h.1
  induction m using Nat.strongRecOn with
  | _ m ih =>
    intro a hm ha
    have c0 : ∀ (c : List Int32) (l : Nat), (kS σ0 t c a).1 46 1 = nI N := fun c l => by rw [kS_46 h c a 1 (by omega), h.2.2.1]
    by_cases hA : a < N
    · have nle : ¬ nI N ≤ nI a := by rw [nI_leI (by omega) (by omega)]; omega
      have l120 : ∀ l : Nat, l + (N - a) ≤ 121 → ¬ (120 : Int32) < nI l := fun l hl => by rw [show (120 : Int32) = nI 120 by decide, nI_ltI (by omega) (by omega)]; omega
      by_cases q : nxC B N a = nI 59
      · have qs := (nx_sign (B := B) (N := N) (a := a) h (k := 59) (by omega)).1.mp q
        have qm := (nx_sign (B := B) (N := N) (a := a) h (k := 59) (by omega)).2.mpr qs
        obtain ⟨ok, a1, code, ⟨b1, b2, b3, b4, b7⟩, C, M⟩ := line h (a := a + 1) hA
        have cl : ∀ (c : List Int32) (n l : Nat), c.length ≤ a + 1 → l + (N - a) ≤ 121 → s_X3_read_L24 t (n + 1) 1 (nI l) (kS σ0 t c a) = s_X3_read_L24 t n (if ok = true then 1 else 0) (nI (l + 1)) (kS σ0 t (c ++ code) a1) := fun c n l hc hl => by
          rw [s_X3_read_L24, if_neg (by decide), c0 c l, kS_at, if_neg nle, if_neg (l120 l hl), next_at h ha, Option.bind_some, if_pos (show nxC B N a = 59 from q), s_X3_read_C59, if_neg (by decide), zSt_e, kS_at, nI_1 a, kS_adv, C c hc, Option.bind_some, nI_1 l]
        cases ok with
        | false =>
          refine ⟨false, a1, code, ⟨b2, by omega, fun z => absurd z (by decide)⟩, fun c n l hc hn hl => ?_, fun τ n l3 l4 hτ h3 hn => ?_⟩
          · obtain ⟨n', rfl⟩ : ∃ n', n = n' + 2 := ⟨n - 2, by omega⟩
            rw [cl c (n' + 1) l hc hl]
            refine (readL24_0 t n' _ _).trans ?_
            rw [kS_at]
            rfl
          · obtain ⟨n', rfl⟩ : ∃ n', n = n' + 2 := ⟨n - 2, by omega⟩
            obtain ⟨-, M2, -⟩ := M τ n' l3 l4 hτ
            obtain ⟨v, y, e⟩ := M2 rfl
            refine ⟨v, y, ?_, fun z => absurd z (by decide)⟩
            rw [takes_at hN hτ ha, if_pos (show nxM B N a = 59 from qm), Option.bind_some]
            exact e
        | true =>
          have b5 := b4 rfl
          obtain ⟨ok2, a2, code2, ⟨p1, p2, p4⟩, C2, M2⟩ := ih (N - a1) (by omega) a1 rfl b2
          refine ⟨ok2, a2, code ++ code2, ⟨p1, by rw [List.length_append]; omega, p4⟩, fun c n l hc hn hl => ?_, fun τ n l3 l4 hτ h3 hn => ?_⟩
          · obtain ⟨n', rfl⟩ : ∃ n', n = n' + 1 := ⟨n - 1, by omega⟩
            rw [cl c n' l hc hl, if_pos rfl, ← List.append_assoc]
            exact C2 (c ++ code) n' (l + 1) (by rw [List.length_append]; omega) (by omega) (by omega)
          · obtain ⟨n', rfl⟩ : ∃ n', n = n' + 2 := ⟨n - 2, by omega⟩
            obtain ⟨M3, -, M4⟩ := M τ n' l3 l4 hτ
            have a3 : (aft l3 l4 (wrun (τ.1 84) code (none, true, []))).1 = 0 ∨ (aft l3 l4 (wrun (τ.1 84) code (none, true, []))).1 = 1 := by
              unfold aft
              by_cases z : l3 = 0
              · rw [if_pos z]
                cases (wrun (τ.1 84) code (none, true, [])).1 with
                | none => exact Or.inl z
                | some v => exact Or.inr rfl
              · rw [if_neg z]
                exact h3
            obtain ⟨v, y, e, ev⟩ := M2 τ (n' + 1) _ _ hτ a3 (by omega)
            refine ⟨v, y, ?_, fun z => ?_⟩
            · rw [takes_at hN hτ ha, if_pos (show nxM B N a = 59 from qm), Option.bind_some]
              exact (M3 rfl).trans e
            · rw [ev z, wrun_app]
              unfold aft
              rcases M4 rfl with w1 | ⟨v1, s1, w1⟩
              · rw [w1]
                by_cases z3 : l3 = 0
                · simp only [if_pos z3, Option.elim_none]
                · simp only [if_neg z3]
              · rw [w1, wrun_some]
                by_cases z3 : l3 = 0
                · simp only [if_pos z3, Option.elim_some, if_neg (show ¬ (1 : Int32) = 0 by decide)]
                  rfl
                · simp only [if_neg z3]
      · have qm : ¬ nxM B N a = 59 := fun z => q ((nx_sign (B := B) (N := N) (a := a) h (k := 59) (by omega)).1.mpr ((nx_sign (B := B) (N := N) (a := a) h (k := 59) (by omega)).2.mp z))
        refine ⟨false, a, [], ⟨ha, by rw [List.length_nil]; omega, fun z => absurd z (by decide)⟩, fun c n l hc hn hl => ?_, fun τ n l3 l4 hτ h3 hn => ?_⟩
        · obtain ⟨n', rfl⟩ : ∃ n', n = n' + 2 := ⟨n - 2, by omega⟩
          rw [s_X3_read_L24, if_neg (by decide), c0 c l, kS_at, if_neg nle, if_neg (l120 l hl), next_at h ha, Option.bind_some, if_neg (show ¬ nxC B N a = 59 from q), s_X3_read_C59, if_pos rfl]
          refine (readL24_0 t n' _ _).trans ?_
          rw [kS_at, List.append_nil]
          rfl
        · obtain ⟨n', rfl⟩ : ∃ n', n = n' + 1 := ⟨n - 1, by omega⟩
          refine ⟨0, 0, ?_, fun z => absurd z (by decide)⟩
          rw [takes_at hN hτ ha, if_neg qm, Option.bind_some]
          show s_X10_workOut_L33 (n' + 1) l3 l4 0 (mS τ (nI a) 0 (-1)) = _
          rw [s_X10_workOut_L33, if_pos rfl, s_X10_workOut_C107, mS_f, if_neg (by decide), mS_x τ _ _ _ 68 24 (by omega), hτ.1, mS_a, if_neg nle, wrong_at, Option.bind_some]
          rfl
    · have haN : a = N := by omega
      refine ⟨true, a, [], ⟨ha, by rw [List.length_nil]; omega, fun _ => haN⟩, fun c n l hc hn hl => ?_, fun τ n l3 l4 hτ h3 hn => ?_⟩
      · obtain ⟨n', rfl⟩ : ∃ n', n = n' + 1 := ⟨n - 1, by omega⟩
        rw [s_X3_read_L24, if_neg (by decide), c0 c l, kS_at, if_pos (by rw [haN]; exact Int32.le_refl _), s_X3_read_C85, if_neg (by decide), zSt_e, List.append_nil]
        rfl
      · obtain ⟨n', rfl⟩ : ∃ n', n = n' + 1 := ⟨n - 1, by omega⟩
        have nm : ¬ nxM B N a = 59 := by
          unfold nxM
          rw [if_neg (by omega)]
          decide
        refine ⟨l4, 0, ?_, fun _ => ?_⟩
        · rw [takes_at hN hτ ha, if_neg nm, Option.bind_some]
          show s_X10_workOut_L33 (n' + 1) l3 l4 0 (mS τ (nI a) 0 (-1)) = _
          rw [s_X10_workOut_L33, if_pos rfl, s_X10_workOut_C107, mS_f, if_neg (by decide), mS_x τ _ _ _ 68 24 (by omega), hτ.1, mS_a, if_pos (by rw [haN]; exact Int32.le_refl _)]
          rfl
        · rw [wrun_nil]
          exact (ite_self _).symm
/-- the whole text, from its first byte -/
theorem text (h : hS B N σ0 t) : ∃ (ok : Bool) (a' : Nat) (code : List Int32), (a' ≤ N ∧ code.length ≤ N + 1 ∧ (ok = true → 1 ≤ code.length)) ∧ ((s_X3_readLine (kS σ0 t [] 0)).bind fun r5 => s_X3_read_L24 t 200 r5.1 1 r5.2) = some (if ok = true then -1 else nI a', zWD (kS σ0 t code a') 46 1 0) ∧ (∀ (τ : ZSt), hB B N τ → ∃ v a'' y, s_X10_workOut_L33 200 0 0 1 (mS τ (nI 0) 0 (-1)) = some (v, if ok = true then mS τ a'' 0 (-1) else mS τ (nI a') y (nI a')) ∧ (ok = true → v = (wrun (τ.1 84) code (none, true, [])).1.getD 0)) := by
  have hN := h.1
  obtain ⟨ok, a1, code, ⟨b1, b2, b3, b4, b7⟩, C, M⟩ := line h (a := 0) (Nat.zero_le _)
  cases ok with
  | false =>
    refine ⟨false, a1, code, ⟨b2, by omega, fun z => absurd z (by decide)⟩, ?_, fun τ hτ => ?_⟩
    · rw [C [] (Nat.le_refl _), Option.bind_some]
      refine (readL24_0 t 199 _ _).trans ?_
      rw [kS_at]
      rfl
    · obtain ⟨-, M2, -⟩ := M τ 198 0 0 hτ
      obtain ⟨v, y, e⟩ := M2 rfl
      exact ⟨v, 0, y, e, fun z => absurd z (by decide)⟩
  | true =>
    have b5 := b4 rfl
    obtain ⟨ok2, a2, code2, ⟨p1, p2, p4⟩, C2, M2⟩ := text_L h (N - a1) a1 rfl b2
    refine ⟨ok2, a2, code ++ code2, ⟨p1, by rw [List.length_append]; omega, fun _ => by rw [List.length_append]; have := b7 rfl; omega⟩, ?_, fun τ hτ => ?_⟩
    · rw [C [] (Nat.le_refl _), Option.bind_some]
      exact C2 code 200 1 (by omega) (by omega) (by omega)
    · obtain ⟨M3, -, M4⟩ := M τ 198 0 0 hτ
      have a3 : (aft 0 0 (wrun (τ.1 84) code (none, true, []))).1 = 0 ∨ (aft 0 0 (wrun (τ.1 84) code (none, true, []))).1 = 1 := by
        unfold aft
        rw [if_pos rfl]
        cases (wrun (τ.1 84) code (none, true, [])).1 with
        | none => exact Or.inl rfl
        | some v => exact Or.inr rfl
      obtain ⟨v, y, e, ev⟩ := M2 τ 199 _ _ hτ a3 (by omega)
      refine ⟨v, nI a2, y, (M3 rfl).trans e, fun z => ?_⟩
      rw [ev z, wrun_app]
      unfold aft
      rcases M4 rfl with w1 | ⟨v1, s1, w1⟩
      · rw [w1]
        simp only [if_true, Option.elim_none]
      · rw [w1, wrun_some]
        simp only [if_true, Option.elim_some, if_neg (show ¬ (1 : Int32) = 0 by decide)]
        rfl
end PARSE
