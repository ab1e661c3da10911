/-! THE LAW: what its steps come to; states of the reader (class) and of the worker-out (model) -/
def jn (c l r : Int32) : Int32 :=
  if c = 33 then (if r = 0 then 1 else 0) else if c = 37 then (if r = 0 then 0 else zRem l r) else if c = 38 then (if l = 0 then 0 else if r = 0 then 0 else 1) else if c = 42 then (l * r) else if c = 43 then (l + r) else if c = 45 then (l - r) else if c = 47 then (if r = 0 then 0 else l / r) else if c = 60 then (if r ≤ l then 0 else 1) else if c = 61 then (if l = r then 1 else 0) else if c = 62 then (if l ≤ r then 0 else 1) else if c = 124 then (if l = 0 then (if r = 0 then 0 else 1) else 1) else if c = 126 then (-r) else 0
theorem joined_at (c l r : Int32) (σ : ZSt) : s_X4_joined c l r σ = some (jn c l r) := by
  unfold jn s_X4_joined
  by_cases c33 : c = 33
  · rw [if_pos c33, if_pos c33]
    repeat' split
    all_goals rfl
  rw [if_neg c33, if_neg c33]
  by_cases c37 : c = 37
  · rw [if_pos c37, if_pos c37]
    by_cases q : r = 0
    · rw [if_pos q, if_pos q]
    · rw [if_neg q, if_neg q, if_neg q]
  rw [if_neg c37, if_neg c37]
  by_cases c38 : c = 38
  · rw [if_pos c38, if_pos c38]
    repeat' split
    all_goals rfl
  rw [if_neg c38, if_neg c38]
  by_cases c42 : c = 42
  · rw [if_pos c42, if_pos c42]
  rw [if_neg c42, if_neg c42]
  by_cases c43 : c = 43
  · rw [if_pos c43, if_pos c43]
  rw [if_neg c43, if_neg c43]
  by_cases c45 : c = 45
  · rw [if_pos c45, if_pos c45]
  rw [if_neg c45, if_neg c45]
  by_cases c47 : c = 47
  · rw [if_pos c47, if_pos c47]
    by_cases q : r = 0
    · rw [if_pos q, if_pos q]
    · rw [if_neg q, if_neg q, if_neg q]
  rw [if_neg c47, if_neg c47]
  by_cases c60 : c = 60
  · rw [if_pos c60, if_pos c60]
    repeat' split
    all_goals rfl
  rw [if_neg c60, if_neg c60]
  by_cases c61 : c = 61
  · rw [if_pos c61, if_pos c61]
    repeat' split
    all_goals rfl
  rw [if_neg c61, if_neg c61]
  by_cases c62 : c = 62
  · rw [if_pos c62, if_pos c62]
    repeat' split
    all_goals rfl
  rw [if_neg c62, if_neg c62]
  by_cases c124 : c = 124
  · rw [if_pos c124, if_pos c124]
    repeat' split
    all_goals rfl
  rw [if_neg c124, if_neg c124]
  by_cases c126 : c = 126
  · rw [if_pos c126, if_pos c126]
  rw [if_neg c126, if_neg c126]
def lvl (x : Int32) : Int32 := (s_X3_levelOf x zO).getD (-9)
theorem levelOf_at (x : Int32) (σ : ZSt) : s_X3_levelOf x σ = some (lvl x) := by
  unfold lvl s_X3_levelOf
  repeat' split
  all_goals rfl
def stp (F : Nat → Int32) (v : Int32) (s : List Int32) : List Int32 :=
  if (0 : Int32) ≤ -100 - v then (if -100 - v = 33 ∨ -100 - v = 126 then jn (-100 - v) 0 (s.headD 0) :: s.tail else jn (-100 - v) (s.tail.headD 0) (s.headD 0) :: s.tail.tail)
  else (if v < 0 then (if (8 : Int32) ≤ -1 - v then 0 else F (-1 - v).toNatClampNeg) else v) :: s
def run (F : Nat → Int32) (c s : List Int32) : List Int32 := c.foldl (fun s v => stp F v s) s
theorem run_nil (F : Nat → Int32) (s : List Int32) : run F [] s = s := by
  unfold run
  rw [List.foldl_nil]
theorem run_cons (F : Nat → Int32) (v : Int32) (c s : List Int32) : run F (v :: c) s = run F c (stp F v s) := by
  unfold run
  rw [List.foldl_cons]
theorem run_one (F : Nat → Int32) (v : Int32) (s : List Int32) : run F [v] s = stp F v s := by rw [run_cons, run_nil]
theorem run_app (F : Nat → Int32) (a b : List Int32) : ∀ s, run F (a ++ b) s = run F b (run F a s) := by
  induction a with
  | nil => intro s; rw [List.nil_append, run_nil]
  | cons v a ih => intro s; rw [List.cons_append, run_cons, run_cons, ih]
theorem sgn_in (c : Int32) : (-100 : Int32) - (-100 - c) = c := by grind
theorem stp_bin (F : Nat → Int32) {c : Int32} (h0 : 0 ≤ c) (h1 : ¬ c = 33) (h2 : ¬ c = 126) (l r : Int32) (s : List Int32) : stp F (-100 - c) (r :: l :: s) = jn c l r :: s := by
  unfold stp
  rw [sgn_in, if_pos h0, if_neg (fun q => q.elim h1 h2)]
  rfl
theorem stp_un (F : Nat → Int32) {c : Int32} (h0 : 0 ≤ c) (h1 : c = 33 ∨ c = 126) (r : Int32) (s : List Int32) : stp F (-100 - c) (r :: s) = jn c 0 r :: s := by
  unfold stp
  rw [sgn_in, if_pos h0, if_pos h1]
  rfl
theorem num_tok {d : Nat} (hd : d < 10000) : ¬ (0 : Int32) ≤ -100 - nI d := by
  rw [Int32.le_iff_toInt_le, Int32.toInt_sub, nI_toInt (by omega), show (0 : Int32).toInt = 0 by decide, show (-100 : Int32).toInt = -100 by decide, Int.bmod_def]
  omega
theorem stp_num (F : Nat → Int32) {d : Nat} (hd : d < 10000) (s : List Int32) : stp F (nI d) s = nI d :: s := by
  unfold stp
  rw [if_neg (num_tok hd), if_neg (nlt0 (by omega))]
theorem nam_tok : ∀ k, k < 8 → (¬ (0 : Int32) ≤ -100 - (-1 - nI k)) ∧ (-1 - nI k < 0) ∧ (-1 - (-1 - nI k)).toNatClampNeg = k ∧ ¬ (8 : Int32) ≤ -1 - (-1 - nI k) := by decide +kernel
theorem stp_nam (F : Nat → Int32) {k : Nat} (hk : k < 8) (s : List Int32) : stp F (-1 - nI k) s = F k :: s := by
  obtain ⟨h1, h2, h3, h4⟩ := nam_tok k hk
  unfold stp
  rw [if_neg h1, if_pos h2, if_neg h4, h3]
/-- the class reads: steps c are there, the reader stands at a -/
def kS (σ0 : ZSt) (t : Nat) (c : List Int32) (a : Nat) : ZSt := (fun x y => if x = 46 ∧ y = 2 then nI a else if x = t ∧ y = 2 then nI c.length else if x = t + 1 ∧ y < c.length then c.getD y 0 else σ0.1 x y, σ0.2)
/-- the model works out: at a, o open, fault f -/
def mS (τ : ZSt) (a o f : Int32) : ZSt := (fun x y => if x = 68 ∧ y = 23 then a else if x = 68 ∧ y = 25 then f else if x = 68 ∧ y = 26 then o else τ.1 x y, τ.2)
theorem mS_23 (τ : ZSt) (a o f x : Int32) : zWD (mS τ a o f) 68 23 x = mS τ x o f := by
  refine Prod.ext (funext fun c => funext fun e => ?_) rfl
  show (if c = 68 ∧ e = 23 then x else if c = 68 ∧ e = 23 then a else _) = (if c = 68 ∧ e = 23 then x else _)
  by_cases h : c = 68 ∧ e = 23
  · rw [if_pos h, if_pos h]
  · rw [if_neg h, if_neg h, if_neg h]
theorem mS_25 (τ : ZSt) (a o f x : Int32) : zWD (mS τ a o f) 68 25 x = mS τ a o x := by
  refine Prod.ext (funext fun c => funext fun e => ?_) rfl
  show (if c = 68 ∧ e = 25 then x else if c = 68 ∧ e = 23 then a else if c = 68 ∧ e = 25 then f else _) = (if c = 68 ∧ e = 23 then a else if c = 68 ∧ e = 25 then x else _)
  by_cases h : c = 68 ∧ e = 25
  · rw [if_pos h, if_neg (by omega), if_pos h]
  · rw [if_neg h, if_neg h, if_neg h]
theorem mS_26 (τ : ZSt) (a o f x : Int32) : zWD (mS τ a o f) 68 26 x = mS τ a x f := by
  refine Prod.ext (funext fun c => funext fun e => ?_) rfl
  show (if c = 68 ∧ e = 26 then x else if c = 68 ∧ e = 23 then a else if c = 68 ∧ e = 25 then f else if c = 68 ∧ e = 26 then o else _) = (if c = 68 ∧ e = 23 then a else if c = 68 ∧ e = 25 then f else if c = 68 ∧ e = 26 then x else _)
  by_cases h : c = 68 ∧ e = 26
  · rw [if_pos h, if_neg (by omega), if_neg (by omega), if_pos h]
  · rw [if_neg h, if_neg h, if_neg h]
theorem mS_a (τ : ZSt) (a o f : Int32) : (mS τ a o f).1 68 23 = a := rfl
theorem mS_f (τ : ZSt) (a o f : Int32) : (mS τ a o f).1 68 25 = f := rfl
theorem mS_o (τ : ZSt) (a o f : Int32) : (mS τ a o f).1 68 26 = o := rfl
theorem mS_x (τ : ZSt) (a o f : Int32) (c e : Nat) (h : ¬ (c = 68 ∧ (e = 23 ∨ e = 25 ∨ e = 26))) : (mS τ a o f).1 c e = τ.1 c e := by
  show (if c = 68 ∧ e = 23 then a else if c = 68 ∧ e = 25 then f else if c = 68 ∧ e = 26 then o else τ.1 c e) = _
  rw [if_neg (by omega), if_neg (by omega), if_neg (by omega)]
theorem gd1 (c : List Int32) (v : Int32) : (c ++ [v]).getD c.length 0 = v := by
  rw [List.getD_eq_getElem?_getD, List.getElem?_append_right (Nat.le_refl _), Nat.sub_self]
  rfl
theorem gd2 {c : List Int32} {y : Nat} (h : y < c.length) (v : Int32) : (c ++ [v]).getD y 0 = c.getD y 0 := by
  rw [List.getD_eq_getElem?_getD, List.getD_eq_getElem?_getD, List.getElem?_append_left h]
/-- N bytes B; the reader's state behind its start -/
def hS (B : Nat → Int32) (N : Nat) (σ0 : ZSt) (t : Nat) : Prop := N ≤ 120 ∧ (t = 62 ∨ t = 65) ∧ σ0.1 46 1 = nI N ∧ σ0.1 46 3 = nI t ∧ ∀ i, i < N → σ0.1 47 i = B i ∧ ∃ b, b < 256 ∧ B i = nI b
def hB (B : Nat → Int32) (N : Nat) (τ : ZSt) : Prop := τ.1 68 24 = nI N ∧ ((τ.1 68 22 = -1 ∧ ∀ i, i < N → τ.1 82 i = B i) ∨ (τ.1 68 22 = 0 ∧ ∀ i, i < N → τ.1 83 i = B i))
def nxC (B : Nat → Int32) (N a : Nat) : Int32 := if a < N then B a else -1
def nxM (B : Nat → Int32) (N a : Nat) : Int32 := if a < N then B a else 0
def tkL (c : List Int32) : Prop := ∀ v, v ∈ c → ¬ (-100 : Int32) - v = 63 ∧ ¬ (-100 : Int32) - v = 59
theorem tk_nil : tkL [] := fun v h => absurd h (by simp)
theorem tk_app {a b : List Int32} (h1 : tkL a) (h2 : tkL b) : tkL (a ++ b) := fun v h => (List.mem_append.mp h).elim (h1 v) (h2 v)
theorem tk_one {v : Int32} (h : ¬ (-100 : Int32) - v = 63 ∧ ¬ (-100 : Int32) - v = 59) : tkL [v] := fun u hu => by
  have : u = v := by simpa using hu
  rw [this]
  exact h
theorem tk_c {c : Int32} (h1 : ¬ c = 63) (h2 : ¬ c = 59) : tkL [-100 - c] := tk_one (by rw [sgn_in]; exact ⟨h1, h2⟩)
theorem tk_sgn {c : Int32} {b : Nat} (hb : b < 256) (e : c = nI b) (h1 : ¬ b = 63) (h2 : ¬ b = 59) : tkL [-100 - c] := tk_c (by rw [e, show (63 : Int32) = nI 63 by decide, nI_eq (by omega) (by omega)]; exact h1) (by rw [e, show (59 : Int32) = nI 59 by decide, nI_eq (by omega) (by omega)]; exact h2)
theorem tk_neg {v : Int32} (h : ¬ (0 : Int32) ≤ -100 - v) : tkL [v] := tk_one ⟨fun q => h (by rw [q]; decide), fun q => h (by rw [q]; decide)⟩
theorem okF : (if false = true then (1 : Int32) else 0) = 0 := by decide
theorem okT : ¬ (if true = true then (1 : Int32) else 0) = 0 := by decide
section PARSE
variable {B : Nat → Int32} {N : Nat} {σ0 : ZSt} {t : Nat}
theorem kS_46 (h : hS B N σ0 t) (c : List Int32) (a y : Nat) (hy : ¬ y = 2) : (kS σ0 t c a).1 46 y = σ0.1 46 y := by
  obtain ⟨-, ht, -⟩ := h
  show (if 46 = 46 ∧ y = 2 then nI a else if 46 = t ∧ y = 2 then nI c.length else if 46 = t + 1 ∧ y < c.length then c.getD y 0 else σ0.1 46 y) = _
  rw [if_neg (by omega), if_neg (by omega), if_neg (by omega)]
theorem kS_47 (h : hS B N σ0 t) (c : List Int32) (a y : Nat) : (kS σ0 t c a).1 47 y = σ0.1 47 y := by
  obtain ⟨-, ht, -⟩ := h
  show (if 47 = 46 ∧ y = 2 then nI a else if 47 = t ∧ y = 2 then nI c.length else if 47 = t + 1 ∧ y < c.length then c.getD y 0 else σ0.1 47 y) = _
  rw [if_neg (by omega), if_neg (by omega), if_neg (by omega)]
theorem kS_at (c : List Int32) (a : Nat) : (kS σ0 t c a).1 46 2 = nI a := by
  show (if 46 = 46 ∧ 2 = 2 then nI a else if 46 = t ∧ 2 = 2 then nI c.length else if 46 = t + 1 ∧ 2 < c.length then c.getD 2 0 else σ0.1 46 2) = _
  rw [if_pos ⟨rfl, rfl⟩]
theorem kS_len (h : hS B N σ0 t) (c : List Int32) (a : Nat) : (kS σ0 t c a).1 t 2 = nI c.length := by
  obtain ⟨-, ht, -⟩ := h
  show (if t = 46 ∧ 2 = 2 then nI a else if t = t ∧ 2 = 2 then nI c.length else _) = _
  rw [if_neg (by omega), if_pos ⟨rfl, rfl⟩]
theorem kS_adv (c : List Int32) (a a' : Nat) : zWD (kS σ0 t c a) 46 2 (nI a') = kS σ0 t c a' := by
  refine Prod.ext (funext fun x => funext fun e => ?_) rfl
  show (if x = 46 ∧ e = 2 then nI a' else if x = 46 ∧ e = 2 then nI a else _) = (if x = 46 ∧ e = 2 then nI a' else _)
  by_cases q : x = 46 ∧ e = 2
  · rw [if_pos q, if_pos q]
  · rw [if_neg q, if_neg q, if_neg q]
theorem kS_add (h : hS B N σ0 t) {c : List Int32} (hc : c.length < 128) (a : Nat) (v : Int32) : s_X4_addStep t v (kS σ0 t c a) = some (kS σ0 t (c ++ [v]) a) := by
  unfold s_X4_addStep
  rw [kS_len h, if_neg (by rw [show (128 : Int32) = nI 128 by decide, nI_leI (by decide) (by omega)]; omega), zSt_e, nI_1, zSg_t (zIn_nI hc (by decide)), nI_clamp (by omega)]
  obtain ⟨-, ht, -⟩ := h
  refine congrArg some (Prod.ext (funext fun x => funext fun e => ?_) rfl)
  show (if x = t + 1 ∧ e = c.length then v else if x = t ∧ e = 2 then nI (c.length + 1) else if x = 46 ∧ e = 2 then nI a else if x = t ∧ e = 2 then nI c.length else if x = t + 1 ∧ e < c.length then c.getD e 0 else σ0.1 x e) = (if x = 46 ∧ e = 2 then nI a else if x = t ∧ e = 2 then nI (c ++ [v]).length else if x = t + 1 ∧ e < (c ++ [v]).length then (c ++ [v]).getD e 0 else σ0.1 x e)
  rw [List.length_append, List.length_cons, List.length_nil]
  by_cases q1 : x = t + 1
  · have n1 : ¬ x = 46 := by omega
    have n2 : ¬ x = t := by omega
    simp only [q1, true_and]
    simp only [show ¬ t + 1 = 46 by omega, show ¬ t + 1 = t by omega, false_and, if_false]
    by_cases q2 : e = c.length
    · rw [if_pos q2, if_pos (by omega), q2, gd1]
    · rw [if_neg q2]
      by_cases q3 : e < c.length
      · rw [if_pos q3, if_pos (by omega), gd2 q3]
      · rw [if_neg q3, if_neg (by omega)]
  · simp only [q1, false_and, if_false]
    by_cases q4 : x = t ∧ e = 2
    · have n : ¬ (x = 46 ∧ e = 2) := by omega
      rw [if_pos q4, if_neg n, if_pos q4]
    · rw [if_neg q4, if_neg q4, if_neg q4]
theorem dyn_t (h : hS B N σ0 t) (c : List Int32) (a : Nat) : zDyn ((kS σ0 t c a).1 46 3) = some t := by
  rw [kS_46 h c a 3 (by omega), h.2.2.2.1]
  rcases h.2.1 with rfl | rfl <;> decide
theorem addSign_at (h : hS B N σ0 t) {c : List Int32} (hc : c.length < 128) (a : Nat) (v : Int32) : s_X3_addSign v (kS σ0 t c a) = some (kS σ0 t (c ++ [-100 - v]) a) := by
  unfold s_X3_addSign
  rw [dyn_t h, Option.bind_some, kS_add h hc, Option.bind_some]
theorem next_at (h : hS B N σ0 t) {a : Nat} (ha : a ≤ N) (c : List Int32) : s_X3_next (kS σ0 t c a) = some (nxC B N a) := by
  obtain ⟨hN, ht, h1, h3, hb⟩ := id h
  unfold s_X3_next nxC
  rw [kS_at, kS_46 h c a 1 (by omega), h1, if_neg (nlt0 (by omega))]
  by_cases q : a < N
  · rw [if_neg (by rw [nI_leI (by omega) (by omega)]; omega), if_neg (by rw [show (120 : Int32) = nI 120 by decide, nI_leI (by omega) (by omega)]; omega), zLd_t (zIn_nI (by omega) (by decide)), nI_clamp (by omega), kS_47 h, (hb a q).1, if_pos q]
  · rw [if_pos (by rw [nI_leI (by omega) (by omega)]; omega), if_neg q]
theorem byte_at (hN : N ≤ 120) {τ : ZSt} (h : hB B N τ) {a : Nat} (ha : a ≤ N) (o f : Int32) : s_X10_byteAt (mS τ (nI a) o f) = some (nxM B N a) := by
  obtain ⟨h1, h2⟩ := h
  unfold s_X10_byteAt nxM
  rw [mS_a, mS_x τ _ _ _ 68 24 (by omega), mS_x τ _ _ _ 68 22 (by omega), h1]
  by_cases q : a < N
  · rw [if_neg (by rw [nI_leI (by omega) (by omega)]; omega), if_pos q]
    rcases h2 with ⟨h3, h4⟩ | ⟨h3, h4⟩
    · rw [h3, if_neg (by decide), zLd_t (zIn_nI (by omega) (by decide)), nI_clamp (by omega), mS_x τ _ _ _ 82 a (by omega), h4 a q]
    · rw [h3, if_pos (by decide), show (0 : Int32) + nI a = nI a from Int32.zero_add _, zLd_t (zIn_nI (by omega) (by decide)), nI_clamp (by omega), mS_x τ _ _ _ 83 a (by omega), h4 a q]
  · rw [if_pos (by rw [nI_leI (by omega) (by omega)]; omega), if_neg q]
/-- a sign of the text stands at a -/
theorem nx_sign (h : hS B N σ0 t) {a : Nat} {k : Nat} (hk : 1 ≤ k ∧ k < 256) : (nxC B N a = nI k ↔ a < N ∧ B a = nI k) ∧ (nxM B N a = nI k ↔ a < N ∧ B a = nI k) := by
  unfold nxC nxM
  by_cases q : a < N
  · rw [if_pos q, if_pos q]
    exact ⟨⟨fun z => ⟨q, z⟩, fun z => z.2⟩, ⟨fun z => ⟨q, z⟩, fun z => z.2⟩⟩
  · rw [if_neg q, if_neg q]
    refine ⟨⟨fun z => absurd z.symm (ne1 (by omega)), fun z => absurd z.1 q⟩, ⟨fun z => ?_, fun z => absurd z.1 q⟩⟩
    have := (nI_eq (by omega) (by omega)).mp (show nI 0 = nI k from z)
    omega
theorem lvl_nx (a : Nat) : lvl (nxM B N a) = lvl (nxC B N a) := by
  unfold nxC nxM
  by_cases q : a < N
  · rw [if_pos q, if_pos q]
  · rw [if_neg q, if_neg q]
    decide
theorem lvl_lt (h : hS B N σ0 t) {a : Nat} {l : Nat} (hl : l ≤ 5) (q : lvl (nxC B N a) = nI l) : a < N ∧ nxM B N a = nxC B N a ∧ ∃ b, b < 256 ∧ nxC B N a = nI b ∧ ¬ b = 33 ∧ ¬ b = 126 ∧ ¬ b = 63 ∧ ¬ b = 59 := by
  by_cases ha : a < N
  · obtain ⟨-, b, hb, e⟩ := h.2.2.2.2 a ha
    have e1 : nxC B N a = nI b := by unfold nxC; rw [if_pos ha, e]
    refine ⟨ha, by unfold nxC nxM; rw [if_pos ha, if_pos ha], b, hb, e1, ?_, ?_, ?_, ?_⟩
    · rintro rfl
      rw [e1, show lvl (nI 33) = -1 by decide] at q
      exact ne1 (by omega) q.symm
    · rintro rfl
      rw [e1, show lvl (nI 126) = -1 by decide] at q
      exact ne1 (by omega) q.symm
    · rintro rfl
      rw [e1, show lvl (nI 63) = -1 by decide] at q
      exact ne1 (by omega) q.symm
    · rintro rfl
      rw [e1, show lvl (nI 59) = -1 by decide] at q
      exact ne1 (by omega) q.symm
  · exfalso
    unfold nxC at q
    rw [if_neg ha, show lvl (-1) = -1 by decide] at q
    exact ne1 (by omega) q.symm
/-- from a on, class and model read one part: whether it is one, where they stand then, its steps -/
def PQ (B : Nat → Int32) (N : Nat) (σ0 : ZSt) (t : Nat) (fc fm : Nat → ZSt → Option (Int32 × ZSt)) (dc dm opn a : Nat) : Prop := ∃ (ok : Bool) (a' : Nat) (code : List Int32), (a ≤ a' ∧ a' ≤ N ∧ code.length + a ≤ a' ∧ (ok = true → a < a') ∧ tkL code) ∧ (∀ (c : List Int32) (d : Nat), c.length ≤ a → dc ≤ d → fc d (kS σ0 t c a) = some (if ok = true then 1 else 0, kS σ0 t (c ++ code) a')) ∧ (∀ (τ : ZSt) (d : Nat), hB B N τ → dm ≤ d → ∃ v y, fm d (mS τ (nI a) (nI opn) (-1)) = some (v, if ok = true then mS τ (nI a') (nI opn) (-1) else mS τ (nI a') y (nI a')) ∧ (ok = true → ∀ s, run (τ.1 84) code s = v :: s))
/-- the same of a loop that goes on with a value -/
def PL (B : Nat → Int32) (N : Nat) (σ0 : ZSt) (t : Nat) (fc : Nat → Nat → Nat → ZSt → Option (Int32 × ZSt)) (fm : Nat → Nat → Int32 → ZSt → Option (Int32 × ZSt)) (dc dm opn a : Nat) : Prop := ∃ (ok : Bool) (a' : Nat) (code : List Int32), (a ≤ a' ∧ a' ≤ N ∧ code.length + a ≤ a' ∧ tkL code) ∧ (∀ (c : List Int32) (d n l : Nat), c.length ≤ a → dc ≤ d → N - a < n → l + (N - a) ≤ 119 → fc d n l (kS σ0 t c a) = some (if ok = true then 1 else 0, kS σ0 t (c ++ code) a')) ∧ (∀ (τ : ZSt) (d n : Nat) (v0 : Int32), hB B N τ → dm ≤ d → N - a < n → ∃ v y, fm d n v0 (mS τ (nI a) (nI opn) (-1)) = some (v, if ok = true then mS τ (nI a') (nI opn) (-1) else mS τ (nI a') y (nI a')) ∧ (ok = true → ∀ s, run (τ.1 84) code (v0 :: s) = v :: s))
theorem PL_of (h : hS B N σ0 t) {l opn dc dm : Nat} (hl : l < 5) {g : Nat → ZSt → Option (Int32 × ZSt)} {ML : Nat → Nat → Int32 → ZSt → Option (Int32 × ZSt)}
    (sub : ∀ a, a ≤ N → PQ B N σ0 t (fun d => rd_X3_readPart d (nI (l + 1)) (nI opn)) g dc dm opn a)
    (hstep : ∀ (d n : Nat) (v0 : Int32) (τ : ZSt) (a : Nat), hB B N τ → a ≤ N → ML d (n + 1) v0 (mS τ (nI a) (nI opn) (-1)) = if lvl (nxM B N a) = nI l then (g d (mS τ (nI (a + 1)) (nI opn) (-1))).bind fun r => ML d n (jn (nxM B N a) v0 r.1) r.2 else some (v0, mS τ (nI a) (nI opn) (-1)))
    (hfault : ∀ (d n : Nat) (v0 : Int32) (τ : ZSt) (a : Nat) (y : Int32), hB B N τ → a ≤ N → ∃ v, ML d (n + 1) v0 (mS τ (nI a) y (nI a)) = some (v, mS τ (nI a) y (nI a))) :
    ∀ (m a : Nat), N - a = m → a ≤ N → PL B N σ0 t (fun d n k σ => s_X3_readPart_L39 (rd_X3_readOperand d) (rd_X3_readPart d) (nI l) (nI opn) 120 n (nI k) σ) ML dc dm opn a := by
  intro m
  have hN := h.1
  induction m using Nat.strongRecOn with
  | _ m ih =>
    intro a hm ha
    by_cases q : lvl (nxC B N a) = nI l
    · obtain ⟨haN, enx, b, hb, eb, b33, b126, b63, b59⟩ := lvl_lt h (by omega) q
      have c0 : (0 : Int32) ≤ nxC B N a := by rw [eb]; exact nI_pos' (by omega)
      have c1 : ¬ nxC B N a = 33 := by rw [eb, show (33 : Int32) = nI 33 by decide, nI_eq (by omega) (by omega)]; exact b33
      have c2 : ¬ nxC B N a = 126 := by rw [eb, show (126 : Int32) = nI 126 by decide, nI_eq (by omega) (by omega)]; exact b126
      obtain ⟨ok, a1, code, ⟨b1, b2, b3, b4, b6⟩, C, M⟩ := sub (a + 1) haN
      have C : ∀ (c : List Int32) (d : Nat), c.length ≤ a + 1 → dc ≤ d → rd_X3_readPart d (nI (l + 1)) (nI opn) (kS σ0 t c (a + 1)) = some (if ok = true then 1 else 0, kS σ0 t (c ++ code) a1) := C
      cases ok with
      | false =>
        refine ⟨false, a1, code, ⟨by omega, b2, by omega, b6⟩, fun c d n k hc hd hn hk => ?_, fun τ d n v0 hτ hd hn => ?_⟩
        · obtain ⟨n', rfl⟩ : ∃ n', n = n' + 1 := ⟨n - 1, by omega⟩
          show s_X3_readPart_L39 _ _ _ _ _ _ _ _ = _
          rw [s_X3_readPart_L39, if_neg (by rw [show (120 : Int32) = nI 120 by decide, nI_leI (by omega) (by omega)]; omega), next_at h ha, Option.bind_some, levelOf_at, Option.bind_some, if_pos q, Option.bind_some, zSt_e, kS_at, nI_1 a, kS_adv, nI_1 l, C c d (by omega) hd, Option.bind_some, if_pos okF]
          rfl
        · obtain ⟨n', rfl⟩ : ∃ n', n = n' + 1 := ⟨n - 1, by omega⟩
          obtain ⟨v, y, e1, -⟩ := M τ d hτ hd
          obtain ⟨n'', rfl⟩ : ∃ n'', n' = n'' + 1 := ⟨n' - 1, by omega⟩
          obtain ⟨v', e2⟩ := hfault d n'' (jn (nxM B N a) v0 v) τ a1 y hτ b2
          refine ⟨v', y, ?_, fun z => absurd z (by decide)⟩
          rw [hstep d _ v0 τ a hτ ha, if_pos (by rw [lvl_nx]; exact q), e1, Option.bind_some]
          exact e2
      | true =>
        obtain ⟨ok2, a2, code2, ⟨p1, p2, p3, p6⟩, C2, M2⟩ := ih (N - a1) (by omega) a1 rfl b2
        refine ⟨ok2, a2, code ++ [-100 - nxC B N a] ++ code2, ⟨by omega, p2, ?_, tk_app (tk_app b6 (tk_sgn hb eb b63 b59)) p6⟩, fun c d n k hc hd hn hk => ?_, fun τ d n v0 hτ hd hn => ?_⟩
        · rw [List.length_append, List.length_append, List.length_cons, List.length_nil]
          omega
        · obtain ⟨n', rfl⟩ : ∃ n', n = n' + 1 := ⟨n - 1, by omega⟩
          have lc : (c ++ code).length < 128 := by rw [List.length_append]; omega
          show s_X3_readPart_L39 _ _ _ _ _ _ _ _ = _
          rw [s_X3_readPart_L39, if_neg (by rw [show (120 : Int32) = nI 120 by decide, nI_leI (by omega) (by omega)]; omega), next_at h ha, Option.bind_some, levelOf_at, Option.bind_some, if_pos q, Option.bind_some, zSt_e, kS_at, nI_1 a, kS_adv, nI_1 l, C c d (by omega) hd, Option.bind_some, if_neg okT]
          show (s_X3_addSign (nxC B N a) (kS σ0 t (c ++ code) a1)).bind _ = _
          rw [addSign_at h lc, Option.bind_some, nI_1 k]
          have := C2 (c ++ code ++ [-100 - nxC B N a]) d n' (k + 1) (by rw [List.length_append, List.length_append, List.length_cons, List.length_nil]; omega) hd (by omega) (by omega)
          rw [show c ++ (code ++ [-100 - nxC B N a] ++ code2) = c ++ code ++ [-100 - nxC B N a] ++ code2 by simp only [List.append_assoc]]
          exact this
        · obtain ⟨n', rfl⟩ : ∃ n', n = n' + 1 := ⟨n - 1, by omega⟩
          obtain ⟨v, y, e1, e2⟩ := M τ d hτ hd
          obtain ⟨v2, y2, e3, e4⟩ := M2 τ d n' (jn (nxM B N a) v0 v) hτ hd (by omega)
          refine ⟨v2, y2, ?_, fun z s => ?_⟩
          · rw [hstep d _ v0 τ a hτ ha, if_pos (by rw [lvl_nx]; exact q), e1, Option.bind_some]
            exact e3
          · rw [run_app, run_app, e2 rfl (v0 :: s), run_one, stp_bin _ c0 c1 c2, ← enx]
            exact e4 z s
    · refine ⟨true, a, [], ⟨Nat.le_refl _, ha, by rw [List.length_nil]; omega, tk_nil⟩, fun c d n k hc hd hn hk => ?_, fun τ d n v0 hτ hd hn => ?_⟩
      · obtain ⟨n', rfl⟩ : ∃ n', n = n' + 1 := ⟨n - 1, by omega⟩
        show s_X3_readPart_L39 _ _ _ _ _ _ _ _ = _
        rw [s_X3_readPart_L39, if_neg (by rw [show (120 : Int32) = nI 120 by decide, nI_leI (by omega) (by omega)]; omega), next_at h ha, Option.bind_some, levelOf_at, Option.bind_some, if_neg q, List.append_nil]
        rfl
      · obtain ⟨n', rfl⟩ : ∃ n', n = n' + 1 := ⟨n - 1, by omega⟩
        exact ⟨v0, 0, by rw [hstep d _ v0 τ a hτ ha, if_neg (by rw [lvl_nx]; exact q)]; rfl, fun _ s => rfl⟩
theorem rdPart (d : Nat) (x y : Int32) (σ : ZSt) : rd_X3_readPart (d + 1) x y σ = s_X3_readPart (rd_X3_readOperand d) (rd_X3_readPart d) x y σ := rfl
theorem rdOper (d : Nat) (y : Int32) (σ : ZSt) : rd_X3_readOperand (d + 1) y σ = s_X3_readOperand (rd_X3_readBracket d) (rd_X3_readOperand d) y σ := rfl
theorem rdBrak (d : Nat) (y : Int32) (σ : ZSt) : rd_X3_readBracket (d + 1) y σ = s_X3_readBracket (rd_X3_readPart d) y σ := rfl
/-- a level out of the next one -/
theorem PQ_lev (h : hS B N σ0 t) {l opn dc dm : Nat} (hl : l < 5) (hl2 : ¬ l = 2) {g f : Nat → ZSt → Option (Int32 × ZSt)} {ML : Nat → Nat → Int32 → ZSt → Option (Int32 × ZSt)}
    (sub : ∀ a, a ≤ N → PQ B N σ0 t (fun d => rd_X3_readPart d (nI (l + 1)) (nI opn)) g dc dm opn a)
    (hstep : ∀ (d n : Nat) (v0 : Int32) (τ : ZSt) (a : Nat), hB B N τ → a ≤ N → ML d (n + 1) v0 (mS τ (nI a) (nI opn) (-1)) = if lvl (nxM B N a) = nI l then (g d (mS τ (nI (a + 1)) (nI opn) (-1))).bind fun r => ML d n (jn (nxM B N a) v0 r.1) r.2 else some (v0, mS τ (nI a) (nI opn) (-1)))
    (hfault : ∀ (d n : Nat) (v0 : Int32) (τ : ZSt) (a : Nat) (y : Int32), hB B N τ → a ≤ N → ∃ v, ML d (n + 1) v0 (mS τ (nI a) y (nI a)) = some (v, mS τ (nI a) y (nI a)))
    (hf : ∀ (d : Nat) (σ : ZSt), f (d + 1) σ = (g d σ).bind fun r => ML d 200 r.1 r.2) :
    ∀ a, a ≤ N → PQ B N σ0 t (fun d => rd_X3_readPart d (nI l) (nI opn)) f (dc + 1) (dm + 1) opn a := by
  intro a ha
  have hN := h.1
  have l5 : nI l < 5 := by rw [show (5 : Int32) = nI 5 by decide, nI_ltI (by omega) (by omega)]; omega
  have l2 : ¬ nI l = 2 := by rw [show (2 : Int32) = nI 2 by decide, nI_eq (by omega) (by omega)]; exact hl2
  obtain ⟨ok, a1, code, ⟨b1, b2, b3, b4, b6⟩, C, M⟩ := sub a ha
  have C : ∀ (c : List Int32) (d : Nat), c.length ≤ a → dc ≤ d → rd_X3_readPart d (nI (l + 1)) (nI opn) (kS σ0 t c a) = some (if ok = true then 1 else 0, kS σ0 t (c ++ code) a1) := C
  cases ok with
  | false =>
    refine ⟨false, a1, code, ⟨b1, b2, b3, b4, b6⟩, fun c d hc hd => ?_, fun τ d hτ hd => ?_⟩
    · obtain ⟨d', rfl⟩ : ∃ d', d = d' + 1 := ⟨d - 1, by omega⟩
      show rd_X3_readPart (d' + 1) _ _ _ = _
      rw [rdPart, s_X3_readPart, if_pos l5, nI_1 l, C c d' hc (by omega), Option.bind_some, if_pos okF]
      rfl
    · obtain ⟨d', rfl⟩ : ∃ d', d = d' + 1 := ⟨d - 1, by omega⟩
      obtain ⟨v, y, e1, -⟩ := M τ d' hτ (by omega)
      obtain ⟨v', e2⟩ := hfault d' 199 v τ a1 y hτ b2
      refine ⟨v', y, ?_, fun z => absurd z (by decide)⟩
      rw [hf, e1, Option.bind_some]
      exact e2
  | true =>
    obtain ⟨ok2, a2, code2, ⟨p1, p2, p3, p6⟩, C2, M2⟩ := PL_of h hl sub hstep hfault (N - a1) a1 rfl b2
    have b5 := b4 rfl
    refine ⟨ok2, a2, code ++ code2, ⟨by omega, p2, by rw [List.length_append]; omega, fun _ => by omega, tk_app b6 p6⟩, fun c d hc hd => ?_, fun τ d hτ hd => ?_⟩
    · obtain ⟨d', rfl⟩ : ∃ d', d = d' + 1 := ⟨d - 1, by omega⟩
      show rd_X3_readPart (d' + 1) _ _ _ = _
      rw [rdPart, s_X3_readPart, if_pos l5, nI_1 l, C c d' hc (by omega), Option.bind_some, if_neg okT, if_neg l2, ← List.append_assoc]
      exact C2 (c ++ code) d' 200 0 (by rw [List.length_append]; omega) (by omega) (by omega) (by omega)
    · obtain ⟨d', rfl⟩ : ∃ d', d = d' + 1 := ⟨d - 1, by omega⟩
      obtain ⟨v, y, e1, e2⟩ := M τ d' hτ (by omega)
      obtain ⟨v2, y2, e3, e4⟩ := M2 τ d' 200 v hτ (by omega) (by omega)
      refine ⟨v2, y2, ?_, fun z s => ?_⟩
      · rw [hf, e1, Option.bind_some]
        exact e3
      · rw [run_app, e2 rfl s]
        exact e4 z s
end PARSE
