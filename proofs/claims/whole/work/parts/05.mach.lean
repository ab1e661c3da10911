/-! THE MACHINE, ONE LAYER UP. A world of cells at b0, b0+1, ..: ints and longs as two functions (object, slot), references by a table; a walk's state is (pc, locals, stack, world). -/
abbrev ZSt : Type := (Nat → Nat → Int32) × (Nat → Nat → Int64)
abbrev ZRf : Type := Nat → Nat → Option Nat
/-- how many cells, the references, the numbers -/
abbrev ZW : Type := Nat × ZRf × ZSt
/-- b0; class and slots of each kind; the array classes (int, long, long[][]); addresses of what was there before; the script -/
abbrev ZG : Type := Nat × ((Nat → ClassId) × (Nat → Nat → Nat)) × (Nat → ClassId) × (Nat → Nat) × (Nat × (Nat → Int32))
def zAd (g : ZG) (k : Nat) : Nat := if k < 100000 then g.1 + k else g.2.2.2.1 (k - 100000)
def zV (g : ZG) : Value → Value
  | .ref k => .ref (zAd g k)
  | v => v
def zWD (σ : ZSt) (k f : Nat) (v : Int32) : ZSt := (fun a b => if a = k ∧ b = f then v else σ.1 a b, σ.2)
def zWE (σ : ZSt) (k f : Nat) (v : Int64) : ZSt := (σ.1, fun a b => if a = k ∧ b = f then v else σ.2 a b)
def zWR (R : ZRf) (k f : Nat) (v : Option Nat) : ZRf := fun a b => if a = k ∧ b = f then v else R a b
/-- the value of a field of sort t: 0 an int, 1 a reference of the table, 2 a reference told by a number (below 0: null) -/
def zFv (g : ZG) (R : ZRf) (σ : ZSt) (k t f : Nat) : Value := match t with
  | 0 => .int (σ.1 k f)
  | 1 => va_rf ((R k f).map (zAd g))
  | _ => if σ.1 k f < 0 then .null else .ref (zAd g (σ.1 k f).toNatClampNeg)
def zFs (g : ZG) (R : ZRf) (σ : ZSt) (k : Nat) (ts : List Nat) : List Value := (List.range ts.length).map fun f => zFv g R σ k (ts.getD f 0) f
def zCell (g : ZG) (R : ZRf) (σ : ZSt) (k : Nat) : Nat × Nat → va_E
  | (0, ci) => .inr (ci, zFs g R σ k (zFt ci))
  | (1, n) => .inl (g.2.2.1 0, (n, .inl (σ.1 k)))
  | (2, n) => .inl (g.2.2.1 1, (n, .inr (.inl (σ.2 k))))
  | (_, n) => .inl (g.2.2.1 2, (n, .inr (.inr (.inr (.inr fun i => (R k i).map (zAd g))))))
def zL (g : ZG) (w : ZW) : va_W := (List.range w.1).map fun k => (g.1 + k, zCell g w.2.1 w.2.2 k (zKd k))
def zA (g : ZG) : Nat → Prop := fun q => g.1 ≤ q
def zWd (g : ZG) (w : ZW) (H : Heap) : Prop := (w.1 < zN → H.size = g.1 + w.1) ∧ va_P g.2.1 vwCl (zL g w) H
def zTys (g : ZG) : List (ClassId × FieldType) := [(g.2.2.1 0, .int), (g.2.2.1 1, .long), (g.2.2.1 2, .array .long)]
theorem zL_at {g : ZG} {w : ZW} {k : Nat} (h : k < w.1) : (zL g w)[k]? = some (g.1 + k, zCell g w.2.1 w.2.2 k (zKd k)) := by
  unfold zL
  rw [List.getElem?_map, List.getElem?_range h]
  rfl
theorem zL_len {g : ZG} {w : ZW} : (zL g w).length = w.1 := by unfold zL; simp
theorem zL_D (g : ZG) (w : ZW) : va_D (zA g) (zL g w) := by
  refine ⟨fun i j p q hi hj hpq => ?_, fun k q hk => ?_⟩
  · have li := (List.getElem?_eq_some_iff.mp hi).1
    have lj := (List.getElem?_eq_some_iff.mp hj).1
    rw [zL_len] at li lj
    rw [zL_at li] at hi
    rw [zL_at lj] at hj
    cases hi; cases hj
    have : g.1 + i = g.1 + j := hpq
    omega
  · have li := (List.getElem?_eq_some_iff.mp hk).1
    rw [zL_len] at li
    rw [zL_at li] at hk
    cases hk
    exact Nat.le_add_right _ _
/-- one cell changed -/
theorem zL_set {g : ZG} {N : Nat} {R R' : ZRf} {σ σ' : ZSt} {k : Nat} (ho : ∀ j, j ≠ k → zCell g R' σ' j (zKd j) = zCell g R σ j (zKd j)) {c : va_E} (hc : zCell g R' σ' k (zKd k) = c) : (zL g (N, R, σ)).set k (g.1 + k, c) = zL g (N, R', σ') := by
  apply List.ext_getElem?
  intro j
  by_cases hj : j < N
  · rw [zL_at (w := (N, R', σ')) hj]
    by_cases hjk : j = k
    · subst hjk
      rw [List.getElem?_set_self (by rw [zL_len]; exact hj), ← hc]
    · rw [List.getElem?_set_ne (Ne.symm hjk), zL_at (w := (N, R, σ)) hj]
      simp only [ho j hjk]
  · rw [List.getElem?_eq_none (by rw [List.length_set, zL_len]; simpa using hj), List.getElem?_eq_none (by rw [zL_len]; simpa using hj)]
theorem zFs_at {g : ZG} {R : ZRf} {σ : ZSt} {k f t : Nat} {ts : List Nat} (h : ts[f]? = some t) : (zFs g R σ k ts)[f]? = some (zFv g R σ k t f) := by
  have hl := (List.getElem?_eq_some_iff.mp h).1
  unfold zFs
  rw [List.getElem?_map, List.getElem?_range hl]
  simp [List.getD, h]
theorem zFs_len {g : ZG} {R : ZRf} {σ : ZSt} {k : Nat} {ts : List Nat} : (zFs g R σ k ts).length = ts.length := by unfold zFs; simp
theorem zFs_set {g : ZG} {R R' : ZRf} {σ σ' : ZSt} {k f t : Nat} {ts : List Nat} (h : ts[f]? = some t) (ho : ∀ j u, j ≠ f → zFv g R' σ' k u j = zFv g R σ k u j) {v : Value} (hv : zFv g R' σ' k t f = v) : (zFs g R σ k ts).set f v = zFs g R' σ' k ts := by
  have hl := (List.getElem?_eq_some_iff.mp h).1
  apply List.ext_getElem?
  intro j
  by_cases hjf : j = f
  · subst hjf
    rw [List.getElem?_set_self (by rw [zFs_len]; exact hl), zFs_at h, hv]
  · rw [List.getElem?_set_ne (Ne.symm hjf)]
    by_cases hj : j < ts.length
    · obtain ⟨u, hu⟩ : ∃ u, ts[j]? = some u := ⟨_, List.getElem?_eq_getElem hj⟩
      rw [zFs_at hu, zFs_at hu, ho j u hjf]
    · rw [List.getElem?_eq_none (by rw [zFs_len]; simpa using hj), List.getElem?_eq_none (by rw [zFs_len]; simpa using hj)]
/-- words of the tables, at any state -/
def zFine : Cond → Bool
  | .methodLinkNest .. => true
  | .fieldLinkNest .. => true
  | .arrayClass _ => true
  | w => w.onTables && w.keeps
def zTb (s : State) : Prop := ∀ w ∈ lw_tbl, zFine w = true → ∀ a : Array Value, w.before a s = true
theorem zTb.moved {s U : State} (h : zTb s) (hW : s.WarmedH U.vm) : zTb U := by
  intro w hw hf a
  have h0 := h w hw hf
  cases w <;> first
    | exact word_at hW (Or.inr ⟨_, rfl⟩) (h0 #[])
    | exact word_at hW (Or.inl hf) (h0 #[])
    | exact va_tabs (A := #[]) rfl rfl (va_Nw.warmM hW (h0 #[]))
    | exact va_tabs (A := #[]) rfl rfl (va_Nw.warmF hW (h0 #[]))
def zOWN : Nat → Int32 := fun j => (([1, 10, 11, 2, 20, 0, 0, 0, 0, 30, 0, 0, 41, 0, 40, 0, 0, 0, 50, 0, 0, 0, 0, 60, 70, 0, 0, 0, 0, 80, 0, 81] : List Int32)).getD j 0
def zABV : Nat → Int32 := fun j => (([-1, 0, 0, 1, 2, 0, 0, 4] : List Int32)).getD j 0
def zTXT : Nat → Int32 := fun j => (([116, 99, 112, 104, 110, 103, 107, 115] : List Int32)).getD j 0
def zStr : String := "tcphngks"
/-- rows of rows of longs: the class of their rows -/
def zQ2 (g : ZG) (s : State) : Prop := ∃ kA : Class, s.vm.classes[g.2.2.1 2]? = some kA ∧ kA.kind = .array (g.2.2.1 1) (.array .long)
/-- what was there before: the static rows, the String of names, the script -/
def zSt (g : ZG) (s : State) : Prop :=
  (va_Z "PaidElsewhere$Acts" "OWN" "[I" (.ref (zAd g 100000)) (zA g) s s.heap ∧ va_T .int (zAd g 100000) 32 (fun j => .int (zOWN j)) (zA g) s s.heap) ∧
  (va_Z "PaidElsewhere$Acts" "ABOVE" "[I" (.ref (zAd g 100001)) (zA g) s s.heap ∧ va_T .int (zAd g 100001) 8 (fun j => .int (zABV j)) (zA g) s s.heap) ∧
  (vk_R "PaidElsewhere$LawReader" 64 zStr (zAd g 100002) s ∧ va_O "java/lang/String" (zAd g 100002) (zA g) s s.heap ∧ va_OF "java/lang/String" "value" "[B" (.ref (zAd g 100003)) (zAd g 100002) (zA g) s s.heap ∧ va_OF "java/lang/String" "coder" "B" (.int 0) (zAd g 100002) (zA g) s s.heap ∧ va_T .byte (zAd g 100003) 8 (fun j => .int (zTXT j)) (zA g) s s.heap ∧ va_Z "java/lang/String" "COMPACT_STRINGS" "Z" (.int 1) (zA g) s s.heap) ∧
  (va_X (zAd g 100009) g.2.2.2.2.1 g.2.2.2.2.2 s s.heap ∧ zAd g 100009 < g.1 ∧ zQ2 g s)
def zCx (g : ZG) (s : State) : Prop := zTb s ∧ va_K g.2.1 vwCl (zTys g) s ∧ zSt g s
theorem zCx.moved {g : ZG} {s U : State} (h : zCx g s) (hb : g.1 ≤ s.heap.size) (hW : s.WarmedH U.vm) (hH : ∀ q : Nat, q < s.heap.size → ¬ zA g q → U.heap[q]? = s.heap[q]?) : zCx g U := by
  obtain ⟨h1, h2, ⟨a1, a2⟩, ⟨b1, b2⟩, ⟨c1, c2, c3, c4, c5, c6⟩, d1, d2, kA, d3, d4⟩ := h
  have hv := hW.alike
  exact ⟨h1.moved hW, va_K.moved hv h2, ⟨(a1.moved hv).kept hH, (a2.moved hv).kept hH⟩, ⟨(b1.moved hv).kept hH, (b2.moved hv).kept hH⟩, ⟨c1.warm hW, (c2.moved hv).kept hH, (c3.moved hv).kept hH, (c4.moved hv).kept hH, (c5.moved hv).kept hH, (c6.moved hv).kept hH⟩,
    (va_X.moved hv d1).kept (hH _ (Nat.lt_of_lt_of_le d2 hb) (Nat.not_le.mpr d2)), d2, by
    obtain ⟨k', hk', he⟩ := hv.2.2 _ _ d3
    exact ⟨k', hk', by rw [he]; exact d4⟩⟩
/-- a method: its name, code, locals, answer, room; the end -/
abbrev ZM : Type := MethodName × ByteArray × Nat × Option FieldType × Room × (Option Value × ZW → List Frame → Array Value → State → State → Prop)
def zFx (g : ZG) (M : ZM) (p : Program) (s : State) (m : MethodId) (meth : Method) (c : Code) : Prop :=
  p.tables.exec = Jvm.exec ∧ c.code = M.2.1 ∧ meth.sig.returnType = M.2.2.2.1 ∧ c.maxLocals = M.2.2.1 ∧ s.vm.findClass M.1.cls = some m.cls ∧ meth.locks = false ∧ (M.1.name = "<init>" → meth.name = "<init>") ∧ g.1 ≤ s.heap.size ∧ zCx g s
def zLc (g : ZG) (nL : Nat) (ls : Array Slot) (l : List (Option Value)) : Prop := ls.size = nL ∧ lv_wf ls ∧ ∀ (i : Nat) (v : Value), l[i]? = some (some v) → ls[i]? = some (.val (zV g v))
/-- from here the method comes to its end T -/
def Z (g : ZG) (M : ZM) (T : Option Value × ZW) (k n pc : Nat) (l : List (Option Value)) (st : List Value) (w : ZW) : Prop :=
  ∀ (p : Program) (lc : Launch) (e : Env) (s : State) (m : MethodId) (args : Array Value) (below : List Frame) (meth : Method) (c : Code) (H : Heap) (locs : List Loc) (ls : Array Slot),
    zFx g M p s m meth c → va_S (zA g) s.heap H locs → zWd g w H → zLc g M.2.2.1 ls l →
      W p lc e M.2.2.2.2.1 s m args below meth c H locs k n (M.2.2.2.2.2 T below args s) (F0 m pc ls (st.map (zV g)))
/-- from here the method comes to the end that o tells, if it tells one -/
def Zo {α : Type} (g : ZG) (M : ZM) (fin : α → Option Value × ZW) (o : Option α) (k n pc : Nat) (l : List (Option Value)) (st : List Value) (w : ZW) : Prop :=
  ∀ a, o = some a → Z g M (fin a) k n pc l st w
def zRm (q K S : Nat) : Room := { frames := q + 2, cells := K, slots := S, locals := 64 * q + 256 }
def zPc (g : ZG) (as : List Value) (w : ZW) : Array Value → State → Prop := fun a s => a = (as.map (zV g)).toArray ∧ (g.1 ≤ s.heap.size ∧ zCx g s) ∧ zWd g w s.heap
def zQc (g : ZG) (T : Option Value × ZW) : Array Value → State → Outcome → State → Prop := fun _ s o t => o = .returned (T.1.map (zV g)) ∧ zWd g T.2 t.heap ∧ va_F (zA g) s t
abbrev zTg (g : ZG) (K S : Nat) : Option Value × ZW → List Frame → Array Value → State → State → Prop := fun T below args s => MQ below (zQc g T) args s K S (zA g)
/-- a method's contract: with these arguments, in this world, it comes to this answer and this world -/
def zEv (g : ZG) (q K S : Nat) (y : MethodName) (cc : ByteArray) (nL : Nat) (ret : Option FieldType) (as : List Value) (w : ZW) (T : Option Value × ZW) : Prop :=
  ∀ lc : Launch, Met lc y [.code y cc nL ret] (zRm q K S) (zPc g as w) (zQc g T) K S (zA g)
def zArgs : List Value → List (Option Value)
  | [] => []
  | v :: r => if v.category = 2 then some v :: none :: zArgs r else some v :: zArgs r
theorem zV_cat (g : ZG) (v : Value) : (zV g v).category = v.category := by cases v <;> rfl
theorem zArgs_in (g : ZG) : ∀ (as : List Value) (i0 i : Nat) (v : Value), (zArgs as)[i]? = some (some v) → (i0 + i, zV g v) ∈ lv_args i0 (as.map (zV g)) := by
  intro as
  induction as with
  | nil => intro i0 i v h; simp [zArgs] at h
  | cons a r ih =>
    intro i0 i v h
    unfold zArgs at h
    by_cases ha : a.category = 2
    · rw [if_pos ha] at h
      match i, h with
      | 0, h =>
        cases h
        simp [lv_args]
      | 1, h => cases h
      | i + 2, h =>
        have := ih (i0 + 2) i v h
        show _ ∈ (i0, zV g a) :: lv_args (if (zV g a).category = 2 then i0 + 2 else i0 + 1) (r.map (zV g))
        rw [zV_cat, if_pos ha, show i0 + (i + 2) = i0 + 2 + i by omega]
        exact List.mem_cons_of_mem _ this
    · rw [if_neg ha] at h
      match i, h with
      | 0, h =>
        cases h
        simp [lv_args]
      | i + 1, h =>
        have := ih (i0 + 1) i v h
        show _ ∈ (i0, zV g a) :: lv_args (if (zV g a).category = 2 then i0 + 2 else i0 + 1) (r.map (zV g))
        rw [zV_cat, if_neg ha, show i0 + (i + 1) = i0 + 1 + i by omega]
        exact List.mem_cons_of_mem _ this
theorem zEv_of {g : ZG} {q K S : Nat} {y : MethodName} {cc : ByteArray} {nL : Nat} {ret : Option FieldType} {as : List Value} {w : ZW} {T : Option Value × ZW} (r : Nat) (hy : plainName y.cls = true) (hl : ((as.map (zV g)).map fun v => v.category).sum + r = nL)
    (h : Z g (y, cc, nL, ret, zRm q K S, zTg g K S) T 0 0 0 (zArgs as ++ List.replicate r none) [] w) : zEv g q K S y cc nL ret as w T := by
  intro lc
  refine Met.ofW (cc := cc) (maxL := nL) (ret := ret) hy rfl ?_
  intro p e s m args below meth c s₁ B hml hv
  obtain ⟨rfl, ⟨hb, hcx⟩, hw⟩ := hv
  have hlen : (lg_sl (as.map (zV g))).length ≤ nL := by
    have : ∀ vs : List Value, (lg_sl vs).length = (vs.map fun v => v.category).sum := by
      intro vs
      induction vs with
      | nil => rfl
      | cons v vs ih =>
        have e : lg_sl (v :: vs) = (if v.category = 2 then [Slot.val v, Slot.second] else [Slot.val v]) ++ lg_sl vs := rfl
        rw [e, List.length_append, ih, List.map_cons, List.sum_cons]
        rcases lv_cat v with q | q <;> simp [q]
    rw [this]
    omega
  have he := lv_entry (as.map (zV g)) hlen
  rw [lg_entry_eq]
  refine h p lc e s m _ below meth c s.heap [] _ ⟨B.exec, B.bytes, B.returns, hml, findClass_of_methodNamed B.named, B.notSynchronized, fun hin => (name_of_methodNamed B.named B.method).1.trans hin, hb, hcx⟩ va_S.rf hw ⟨he.1, he.2.1, ?_⟩
  intro i v hi
  have hi' : (zArgs as)[i]? = some (some v) := by
    by_cases hlt : i < (zArgs as).length
    · rwa [List.getElem?_append_left hlt] at hi
    · rw [List.getElem?_append_right (by omega)] at hi
      have := List.mem_of_getElem? hi
      have := List.eq_of_mem_replicate this
      cases this
  have := zArgs_in g as 0 i v hi'
  rw [Nat.zero_add] at this
  exact he.2.2 _ this
def zRem (x y : Int32) : Int32 := x - x / y * y
section ZROWS
variable {α : Type} {g : ZG} {M : ZM} {fin : α → Option Value × ZW} {o : Option α} {k n pc : Nat} {l : List (Option Value)} {st : List Value} {w : ZW}
/-- an instruction that touches the stack alone, or reads a local -/
theorem Zo.of {pc' : Nat} {st' : List Value} (kk : Zo g M fin o k n pc' l st' w)
    (h : ∀ (p : Program) (lc : Launch) (e : Env) (s : State) (m : MethodId) (args : Array Value) (below : List Frame) (meth : Method) (c : Code) (H : Heap) (locs : List Loc) (ls : Array Slot) (Q : State → Prop), p.tables.exec = Jvm.exec → c.code = M.2.1 → s.vm.findClass M.1.cls = some m.cls → zTb s → c.maxLocals = ls.size → zLc g M.2.2.1 ls l →
      W p lc e M.2.2.2.2.1 s m args below meth c H locs k n Q (F0 m pc' ls (st'.map (zV g))) → W p lc e M.2.2.2.2.1 s m args below meth c H locs k n Q (F0 m pc ls (st.map (zV g)))) : Zo g M fin o k n pc l st w := by
  intro a ha p lc e s m args below meth c H locs ls F S Wd L
  exact h p lc e s m args below meth c H locs ls _ F.1 F.2.1 F.2.2.2.2.1 F.2.2.2.2.2.2.2.2.1 (F.2.2.2.1.trans L.1.symm) L (kk a ha p lc e s m args below meth c H locs ls F S Wd L)
theorem Zo_none : Zo g M fin none k n pc l st w := fun _ h => by cases h
theorem Zo_ite {c : Prop} [Decidable c] {A B : Option α} (h1 : c → Zo g M fin A k n pc l st w) (h2 : ¬ c → Zo g M fin B k n pc l st w) : Zo g M fin (if c then A else B) k n pc l st w := by
  by_cases h : c
  · rw [if_pos h]; exact h1 h
  · rw [if_neg h]; exact h2 h
/-- a guard: told where it holds alone -/
theorem Zo_guard {c : Prop} [Decidable c] {A : Option α} (h1 : c → Zo g M fin A k n pc l st w) : Zo g M fin (if c then A else none) k n pc l st w := Zo_ite h1 fun _ => Zo_none
/-- a branch's two goals, each with the function's own two ways -/
theorem Zo_br {c : Prop} [Decidable c] {A B : Option α} {pc1 pc2 : Nat} {st' : List Value} (h1 : Zo g M fin A k n pc1 l st' w) (h2 : Zo g M fin B k n pc2 l st' w)
    (h : ∀ (p : Program) (lc : Launch) (e : Env) (s : State) (m : MethodId) (args : Array Value) (below : List Frame) (meth : Method) (c1 : Code) (H : Heap) (locs : List Loc) (ls : Array Slot) (Q : State → Prop), p.tables.exec = Jvm.exec → c1.code = M.2.1 →
      (c → W p lc e M.2.2.2.2.1 s m args below meth c1 H locs k n Q (F0 m pc1 ls (st'.map (zV g)))) → (¬ c → W p lc e M.2.2.2.2.1 s m args below meth c1 H locs k n Q (F0 m pc2 ls (st'.map (zV g)))) → W p lc e M.2.2.2.2.1 s m args below meth c1 H locs k n Q (F0 m pc ls (st.map (zV g)))) : Zo g M fin (if c then A else B) k n pc l st w := by
  intro a ha p lc e s m args below meth c1 H locs ls F S Wd L
  refine h p lc e s m args below meth c1 H locs ls _ F.1 F.2.1 (fun hc => ?_) (fun hc => ?_)
  · rw [if_pos hc] at ha
    exact h1 a ha p lc e s m args below meth c1 H locs ls F S Wd L
  · rw [if_neg hc] at ha
    exact h2 a ha p lc e s m args below meth c1 H locs ls F S Wd L
theorem Zo_iadd {x y : Int32} (hd : decode M.2.1 pc = .ok (.iadd, 1)) (kk : Zo g M fin o k n (pc + 1) l (.int (x + y) :: st) w) : Zo g M fin o k n pc l (.int y :: .int x :: st) w := kk.of fun _ _ _ _ _ _ _ _ _ _ _ _ _ hx hb hown htb hml hl kw => lv_iadd hx hb hd kw
theorem Zo_isub {x y : Int32} (hd : decode M.2.1 pc = .ok (.isub, 1)) (kk : Zo g M fin o k n (pc + 1) l (.int (x - y) :: st) w) : Zo g M fin o k n pc l (.int y :: .int x :: st) w := kk.of fun _ _ _ _ _ _ _ _ _ _ _ _ _ hx hb hown htb hml hl kw => lv_isub hx hb hd kw
theorem Zo_imul {x y : Int32} (hd : decode M.2.1 pc = .ok (.imul, 1)) (kk : Zo g M fin o k n (pc + 1) l (.int (x * y) :: st) w) : Zo g M fin o k n pc l (.int y :: .int x :: st) w := kk.of fun _ _ _ _ _ _ _ _ _ _ _ _ _ hx hb hown htb hml hl kw => lv_imul hx hb hd kw
theorem Zo_iand {x y : Int32} (hd : decode M.2.1 pc = .ok (.iand, 1)) (kk : Zo g M fin o k n (pc + 1) l (.int (x &&& y) :: st) w) : Zo g M fin o k n pc l (.int y :: .int x :: st) w := kk.of fun _ _ _ _ _ _ _ _ _ _ _ _ _ hx hb hown htb hml hl kw => lv_iand hx hb hd kw
theorem Zo_ior {x y : Int32} (hd : decode M.2.1 pc = .ok (.ior, 1)) (kk : Zo g M fin o k n (pc + 1) l (.int (x ||| y) :: st) w) : Zo g M fin o k n pc l (.int y :: .int x :: st) w := kk.of fun _ _ _ _ _ _ _ _ _ _ _ _ _ hx hb hown htb hml hl kw => lv_ior hx hb hd kw
theorem Zo_ixor {x y : Int32} (hd : decode M.2.1 pc = .ok (.ixor, 1)) (kk : Zo g M fin o k n (pc + 1) l (.int (x ^^^ y) :: st) w) : Zo g M fin o k n pc l (.int y :: .int x :: st) w := kk.of fun _ _ _ _ _ _ _ _ _ _ _ _ _ hx hb hown htb hml hl kw => lv_ixor hx hb hd kw
theorem Zo_ishl {x y : Int32} (hd : decode M.2.1 pc = .ok (.ishl, 1)) (kk : Zo g M fin o k n (pc + 1) l (.int (x <<< (y &&& 31)) :: st) w) : Zo g M fin o k n pc l (.int y :: .int x :: st) w := kk.of fun _ _ _ _ _ _ _ _ _ _ _ _ _ hx hb hown htb hml hl kw => lv_ishl hx hb hd kw
theorem Zo_ishr {x y : Int32} (hd : decode M.2.1 pc = .ok (.ishr, 1)) (kk : Zo g M fin o k n (pc + 1) l (.int (x >>> (y &&& 31)) :: st) w) : Zo g M fin o k n pc l (.int y :: .int x :: st) w := kk.of fun _ _ _ _ _ _ _ _ _ _ _ _ _ hx hb hown htb hml hl kw => lv_ishr hx hb hd kw
theorem Zo_iushr {x y : Int32} (hd : decode M.2.1 pc = .ok (.iushr, 1)) (kk : Zo g M fin o k n (pc + 1) l (.int (x.toUInt32 >>> (y.toUInt32 &&& Int32.toUInt32 31)).toInt32 :: st) w) : Zo g M fin o k n pc l (.int y :: .int x :: st) w := kk.of fun _ _ _ _ _ _ _ _ _ _ _ _ _ hx hb hown htb hml hl kw => lv_iushr hx hb hd rfl kw
theorem Zo_idiv {x y : Int32} (hd : decode M.2.1 pc = .ok (.idiv, 1)) (hne : ¬ y = 0) (kk : Zo g M fin o k n (pc + 1) l (.int (x / y) :: st) w) : Zo g M fin o k n pc l (.int y :: .int x :: st) w := kk.of fun _ _ _ _ _ _ _ _ _ _ _ _ _ hx hb hown htb hml hl kw => lv_idiv hx hb hd hne kw
theorem Zo_irem {x y : Int32} (hd : decode M.2.1 pc = .ok (.irem, 1)) (hne : ¬ y = 0) (kk : Zo g M fin o k n (pc + 1) l (.int (zRem x y) :: st) w) : Zo g M fin o k n pc l (.int y :: .int x :: st) w := kk.of fun _ _ _ _ _ _ _ _ _ _ _ _ _ hx hb hown htb hml hl kw => lv_irem hx hb hd hne kw
theorem Zo_ineg {x : Int32} (hd : decode M.2.1 pc = .ok (.ineg, 1)) (kk : Zo g M fin o k n (pc + 1) l (.int (-x) :: st) w) : Zo g M fin o k n pc l (.int x :: st) w := kk.of fun _ _ _ _ _ _ _ _ _ _ _ _ _ hx hb hown htb hml hl kw => lv_ineg hx hb hd kw
theorem Zo_i2l {x : Int32} (hd : decode M.2.1 pc = .ok (.i2l, 1)) (kk : Zo g M fin o k n (pc + 1) l (.long (x.toInt64) :: st) w) : Zo g M fin o k n pc l (.int x :: st) w := kk.of fun _ _ _ _ _ _ _ _ _ _ _ _ _ hx hb hown htb hml hl kw => lv_i2l hx hb hd rfl kw
theorem Zo_l2i {x : Int64} (hd : decode M.2.1 pc = .ok (.l2i, 1)) (kk : Zo g M fin o k n (pc + 1) l (.int (x.toInt32) :: st) w) : Zo g M fin o k n pc l (.long x :: st) w := kk.of fun _ _ _ _ _ _ _ _ _ _ _ _ _ hx hb hown htb hml hl kw => lv_l2i hx hb hd rfl kw
theorem Zo_i2b {x : Int32} (hd : decode M.2.1 pc = .ok (.i2b, 1)) (kk : Zo g M fin o k n (pc + 1) l (.int (x.toInt8.toInt32) :: st) w) : Zo g M fin o k n pc l (.int x :: st) w := kk.of fun _ _ _ _ _ _ _ _ _ _ _ _ _ hx hb hown htb hml hl kw => lv_i2b hx hb hd rfl kw
theorem Zo_i2s {x : Int32} (hd : decode M.2.1 pc = .ok (.i2s, 1)) (kk : Zo g M fin o k n (pc + 1) l (.int (x.toInt16.toInt32) :: st) w) : Zo g M fin o k n pc l (.int x :: st) w := kk.of fun _ _ _ _ _ _ _ _ _ _ _ _ _ hx hb hown htb hml hl kw => lv_i2s hx hb hd rfl kw
theorem Zo_i2c {x : Int32} (hd : decode M.2.1 pc = .ok (.i2c, 1)) (kk : Zo g M fin o k n (pc + 1) l (.int ((x.toUInt32 % 65536).toInt32) :: st) w) : Zo g M fin o k n pc l (.int x :: st) w := kk.of fun _ _ _ _ _ _ _ _ _ _ _ _ _ hx hb hown htb hml hl kw => lv_i2c hx hb hd rfl kw
theorem Zo_lmul {x y : Int64} (hd : decode M.2.1 pc = .ok (.lmul, 1)) (kk : Zo g M fin o k n (pc + 1) l (.long (x * y) :: st) w) : Zo g M fin o k n pc l (.long y :: .long x :: st) w := kk.of fun _ _ _ _ _ _ _ _ _ _ _ _ _ hx hb hown htb hml hl kw => lv_lmul hx hb hd kw
theorem Zo_lor {x y : Int64} (hd : decode M.2.1 pc = .ok (.lor, 1)) (kk : Zo g M fin o k n (pc + 1) l (.long (x ||| y) :: st) w) : Zo g M fin o k n pc l (.long y :: .long x :: st) w := kk.of fun _ _ _ _ _ _ _ _ _ _ _ _ _ hx hb hown htb hml hl kw => lv_lor hx hb hd kw
theorem Zo_land {x y : Int64} (hd : decode M.2.1 pc = .ok (.land, 1)) (kk : Zo g M fin o k n (pc + 1) l (.long (x &&& y) :: st) w) : Zo g M fin o k n pc l (.long y :: .long x :: st) w := kk.of fun _ _ _ _ _ _ _ _ _ _ _ _ _ hx hb hown htb hml hl kw => lv_land hx hb hd kw
theorem Zo_ladd {x y : Int64} (hd : decode M.2.1 pc = .ok (.ladd, 1)) (kk : Zo g M fin o k n (pc + 1) l (.long (x + y) :: st) w) : Zo g M fin o k n pc l (.long y :: .long x :: st) w := kk.of fun _ _ _ _ _ _ _ _ _ _ _ _ _ hx hb hown htb hml hl kw => lv_ladd hx hb hd kw
theorem Zo_lsub {x y : Int64} (hd : decode M.2.1 pc = .ok (.lsub, 1)) (kk : Zo g M fin o k n (pc + 1) l (.long (x - y) :: st) w) : Zo g M fin o k n pc l (.long y :: .long x :: st) w := kk.of fun _ _ _ _ _ _ _ _ _ _ _ _ _ hx hb hown htb hml hl kw => lv_lsub hx hb hd kw
theorem Zo_ldiv {x y : Int64} (hd : decode M.2.1 pc = .ok (.ldiv, 1)) (hne : ¬ y = 0) (kk : Zo g M fin o k n (pc + 1) l (.long (x / y) :: st) w) : Zo g M fin o k n pc l (.long y :: .long x :: st) w := kk.of fun _ _ _ _ _ _ _ _ _ _ _ _ _ hx hb hown htb hml hl kw => lv_ldiv hx hb hd hne kw
theorem Zo_lshl {x : Int64} {y : Int32} (hd : decode M.2.1 pc = .ok (.lshl, 1)) (kk : Zo g M fin o k n (pc + 1) l (.long (x <<< (y.toInt64 &&& 63)) :: st) w) : Zo g M fin o k n pc l (.int y :: .long x :: st) w := kk.of fun _ _ _ _ _ _ _ _ _ _ _ _ _ hx hb hown htb hml hl kw => lv_lshl hx hb hd rfl kw
theorem Zo_lcmp {x y : Int64} (hd : decode M.2.1 pc = .ok (.lcmp, 1)) (kk : Zo g M fin o k n (pc + 1) l (.int (lg_cmp x y) :: st) w) : Zo g M fin o k n pc l (.long y :: .long x :: st) w := kk.of fun _ _ _ _ _ _ _ _ _ _ _ _ _ hx hb hown htb hml hl kw => W.lcmp hx hb hd kw
theorem Zo_iconst {i : Int} (v : Int32) (hd : decode M.2.1 pc = .ok (.iconst i, 1)) (hv : Int32.ofInt i = v) (kk : Zo g M fin o k n (pc + 1) l (.int v :: st) w) : Zo g M fin o k n pc l st w := kk.of fun _ _ _ _ _ _ _ _ _ _ _ _ _ hx hb hown htb hml hl kw => lv_iconst hx hb hd hv kw
theorem Zo_bipush {i : Int} (v : Int32) (hd : decode M.2.1 pc = .ok (.bipush i, 2)) (hv : (Int8.ofInt i).toInt32 = v) (kk : Zo g M fin o k n (pc + 2) l (.int v :: st) w) : Zo g M fin o k n pc l st w := kk.of fun _ _ _ _ _ _ _ _ _ _ _ _ _ hx hb hown htb hml hl kw => lv_bipush hx hb hd hv kw
theorem Zo_sipush {i : Int} (v : Int32) (hd : decode M.2.1 pc = .ok (.sipush i, 3)) (hv : (Int16.ofInt i).toInt32 = v) (kk : Zo g M fin o k n (pc + 3) l (.int v :: st) w) : Zo g M fin o k n pc l st w := kk.of fun _ _ _ _ _ _ _ _ _ _ _ _ _ hx hb hown htb hml hl kw => lv_sipush hx hb hd hv kw
theorem Zo_lconst {i : Fin 2} (v : Int64) (hd : decode M.2.1 pc = .ok (.lconst i, 1)) (hv : Int64.ofNat (i : Nat) = v) (kk : Zo g M fin o k n (pc + 1) l (.long v :: st) w) : Zo g M fin o k n pc l st w := kk.of fun _ _ _ _ _ _ _ _ _ _ _ _ _ hx hb hown htb hml hl kw => lv_lconst hx hb hd hv kw
theorem Zo_ldc {own : String} {i : Nat} {v : Int32} (ho : M.1.cls = own) (hw : Cond.constant own i v ∈ lw_tbl) (hd : decode M.2.1 pc = .ok (.ldc i, 2)) (kk : Zo g M fin o k n (pc + 2) l (.int v :: st) w) : Zo g M fin o k n pc l st w := kk.of fun _ _ _ _ _ _ _ _ _ _ _ _ _ hx hb hown htb hml hl kw => lv_ldc hx hb (ho ▸ hown) (htb _ hw rfl _) hd kw
theorem Zo_ldcw {own : String} {i : Nat} {v : Int32} (ho : M.1.cls = own) (hw : Cond.constant own i v ∈ lw_tbl) (hd : decode M.2.1 pc = .ok (.ldc_w i, 3)) (kk : Zo g M fin o k n (pc + 3) l (.int v :: st) w) : Zo g M fin o k n pc l st w := kk.of fun _ _ _ _ _ _ _ _ _ _ _ _ _ hx hb hown htb hml hl kw => lv_ldcw hx hb (ho ▸ hown) (htb _ hw rfl _) hd kw
theorem Zo_ldc2 {own : String} {i : Nat} {v : Int64} (ho : M.1.cls = own) (hw : Cond.constantLong own i v ∈ lw_tbl) (hd : decode M.2.1 pc = .ok (.ldc2_w i, 3)) (kk : Zo g M fin o k n (pc + 3) l (.long v :: st) w) : Zo g M fin o k n pc l st w := kk.of fun _ _ _ _ _ _ _ _ _ _ _ _ _ hx hb hown htb hml hl kw => lv_ldc2 hx hb (ho ▸ hown) (htb _ hw rfl _) hd kw
theorem Zo_goto {off : Int} (tgt : Nat) (hd : decode M.2.1 pc = .ok (.goto off, 3)) (ht : (pc : Int) + off = (tgt : Int)) (kk : Zo g M fin o k n tgt l st w) : Zo g M fin o k n pc l st w := kk.of fun _ _ _ _ _ _ _ _ _ _ _ _ _ hx hb hown htb hml hl kw => lv_goto hx hb hd ht kw
theorem Zo_dup {v : Value} (hd : decode M.2.1 pc = .ok (.dup, 1)) (hv : v.category = 1) (kk : Zo g M fin o k n (pc + 1) l (v :: v :: st) w) : Zo g M fin o k n pc l (v :: st) w := kk.of fun _ _ _ _ _ _ _ _ _ _ _ _ _ hx hb hown htb hml hl kw => lv_dup hx hb hd ((zV_cat _ _).trans hv) kw
theorem Zo_dup_x1 {v u : Value} (hd : decode M.2.1 pc = .ok (.dup_x1, 1)) (hv : v.category = 1) (hu : u.category = 1) (kk : Zo g M fin o k n (pc + 1) l (v :: u :: v :: st) w) : Zo g M fin o k n pc l (v :: u :: st) w := kk.of fun _ _ _ _ _ _ _ _ _ _ _ _ _ hx hb hown htb hml hl kw => lv_dup_x1 hx hb hd ((zV_cat _ _).trans hv) ((zV_cat _ _).trans hu) kw
theorem Zo_dup2 {v u : Value} (hd : decode M.2.1 pc = .ok (.dup2, 1)) (hv : v.category = 1) (hu : u.category = 1) (kk : Zo g M fin o k n (pc + 1) l (v :: u :: v :: u :: st) w) : Zo g M fin o k n pc l (v :: u :: st) w := kk.of fun _ _ _ _ _ _ _ _ _ _ _ _ _ hx hb hown htb hml hl kw => lv_dup2_11 hx hb hd ((zV_cat _ _).trans hv) ((zV_cat _ _).trans hu) kw
theorem Zo_ifeq {x : Int32} {off : Int} {A B : Option α} (tgt : Nat) (hd : decode M.2.1 pc = .ok (.ifCond .eq off, 3)) (ht : (pc : Int) + off = (tgt : Int)) (h1 : Zo g M fin A k n tgt l st w) (h2 : Zo g M fin B k n (pc + 3) l st w) : Zo g M fin (if x = 0 then A else B) k n pc l (.int x :: st) w := Zo_br h1 h2 fun _ _ _ _ _ _ _ _ _ _ _ _ _ hx hb a b => lv_if_eq hx hb hd ht a b
theorem Zo_iflt {x : Int32} {off : Int} {A B : Option α} (tgt : Nat) (hd : decode M.2.1 pc = .ok (.ifCond .lt off, 3)) (ht : (pc : Int) + off = (tgt : Int)) (h1 : Zo g M fin A k n tgt l st w) (h2 : Zo g M fin B k n (pc + 3) l st w) : Zo g M fin (if x < 0 then A else B) k n pc l (.int x :: st) w := Zo_br h1 h2 fun _ _ _ _ _ _ _ _ _ _ _ _ _ hx hb a b => lv_if_lt hx hb hd ht a b
theorem Zo_ifge {x : Int32} {off : Int} {A B : Option α} (tgt : Nat) (hd : decode M.2.1 pc = .ok (.ifCond .ge off, 3)) (ht : (pc : Int) + off = (tgt : Int)) (h1 : Zo g M fin A k n tgt l st w) (h2 : Zo g M fin B k n (pc + 3) l st w) : Zo g M fin (if 0 ≤ x then A else B) k n pc l (.int x :: st) w := Zo_br h1 h2 fun _ _ _ _ _ _ _ _ _ _ _ _ _ hx hb a b => lv_if_ge hx hb hd ht a b
theorem Zo_ifgt {x : Int32} {off : Int} {A B : Option α} (tgt : Nat) (hd : decode M.2.1 pc = .ok (.ifCond .gt off, 3)) (ht : (pc : Int) + off = (tgt : Int)) (h1 : Zo g M fin A k n tgt l st w) (h2 : Zo g M fin B k n (pc + 3) l st w) : Zo g M fin (if 0 < x then A else B) k n pc l (.int x :: st) w := Zo_br h1 h2 fun _ _ _ _ _ _ _ _ _ _ _ _ _ hx hb a b => lv_if_gt hx hb hd ht a b
theorem Zo_ifle {x : Int32} {off : Int} {A B : Option α} (tgt : Nat) (hd : decode M.2.1 pc = .ok (.ifCond .le off, 3)) (ht : (pc : Int) + off = (tgt : Int)) (h1 : Zo g M fin A k n tgt l st w) (h2 : Zo g M fin B k n (pc + 3) l st w) : Zo g M fin (if x ≤ 0 then A else B) k n pc l (.int x :: st) w := Zo_br h1 h2 fun _ _ _ _ _ _ _ _ _ _ _ _ _ hx hb a b => lv_if_le hx hb hd ht a b
theorem Zo_icmpeq {x y : Int32} {off : Int} {A B : Option α} (tgt : Nat) (hd : decode M.2.1 pc = .ok (.if_icmp .eq off, 3)) (ht : (pc : Int) + off = (tgt : Int)) (h1 : Zo g M fin A k n tgt l st w) (h2 : Zo g M fin B k n (pc + 3) l st w) : Zo g M fin (if x = y then A else B) k n pc l (.int y :: .int x :: st) w := Zo_br h1 h2 fun _ _ _ _ _ _ _ _ _ _ _ _ _ hx hb a b => lv_icmp_eq hx hb hd ht a b
theorem Zo_icmplt {x y : Int32} {off : Int} {A B : Option α} (tgt : Nat) (hd : decode M.2.1 pc = .ok (.if_icmp .lt off, 3)) (ht : (pc : Int) + off = (tgt : Int)) (h1 : Zo g M fin A k n tgt l st w) (h2 : Zo g M fin B k n (pc + 3) l st w) : Zo g M fin (if x < y then A else B) k n pc l (.int y :: .int x :: st) w := Zo_br h1 h2 fun _ _ _ _ _ _ _ _ _ _ _ _ _ hx hb a b => lv_icmp_lt hx hb hd ht a b
theorem Zo_icmpge {x y : Int32} {off : Int} {A B : Option α} (tgt : Nat) (hd : decode M.2.1 pc = .ok (.if_icmp .ge off, 3)) (ht : (pc : Int) + off = (tgt : Int)) (h1 : Zo g M fin A k n tgt l st w) (h2 : Zo g M fin B k n (pc + 3) l st w) : Zo g M fin (if y ≤ x then A else B) k n pc l (.int y :: .int x :: st) w := Zo_br h1 h2 fun _ _ _ _ _ _ _ _ _ _ _ _ _ hx hb a b => lv_icmp_ge hx hb hd ht a b
theorem Zo_icmpgt {x y : Int32} {off : Int} {A B : Option α} (tgt : Nat) (hd : decode M.2.1 pc = .ok (.if_icmp .gt off, 3)) (ht : (pc : Int) + off = (tgt : Int)) (h1 : Zo g M fin A k n tgt l st w) (h2 : Zo g M fin B k n (pc + 3) l st w) : Zo g M fin (if y < x then A else B) k n pc l (.int y :: .int x :: st) w := Zo_br h1 h2 fun _ _ _ _ _ _ _ _ _ _ _ _ _ hx hb a b => lv_icmp_gt hx hb hd ht a b
theorem Zo_icmple {x y : Int32} {off : Int} {A B : Option α} (tgt : Nat) (hd : decode M.2.1 pc = .ok (.if_icmp .le off, 3)) (ht : (pc : Int) + off = (tgt : Int)) (h1 : Zo g M fin A k n tgt l st w) (h2 : Zo g M fin B k n (pc + 3) l st w) : Zo g M fin (if x ≤ y then A else B) k n pc l (.int y :: .int x :: st) w := Zo_br h1 h2 fun _ _ _ _ _ _ _ _ _ _ _ _ _ hx hb a b => lv_icmp_le hx hb hd ht a b
theorem Zo_ifne {x : Int32} {off : Int} {A B : Option α} (tgt : Nat) (hd : decode M.2.1 pc = .ok (.ifCond .ne off, 3)) (ht : (pc : Int) + off = (tgt : Int)) (h1 : Zo g M fin A k n tgt l st w) (h2 : Zo g M fin B k n (pc + 3) l st w) : Zo g M fin (if x = 0 then B else A) k n pc l (.int x :: st) w := Zo_br h2 h1 fun _ _ _ _ _ _ _ _ _ _ _ _ _ hx hb a b => lv_if_ne hx hb hd ht b a
theorem Zo_icmpne {x y : Int32} {off : Int} {A B : Option α} (tgt : Nat) (hd : decode M.2.1 pc = .ok (.if_icmp .ne off, 3)) (ht : (pc : Int) + off = (tgt : Int)) (h1 : Zo g M fin A k n tgt l st w) (h2 : Zo g M fin B k n (pc + 3) l st w) : Zo g M fin (if x = y then B else A) k n pc l (.int y :: .int x :: st) w := Zo_br h2 h1 fun _ _ _ _ _ _ _ _ _ _ _ _ _ hx hb a b => lv_icmp_ne hx hb hd ht b a
theorem Zo_tswOut {x : Int32} {d lo hi : Int} {offs : Array Int} {len : Nat} (tgt : Nat) (hd : decode M.2.1 pc = .ok (.tableswitch d lo hi offs, len)) (h : x.toInt < lo ∨ hi < x.toInt) (ht : (pc : Int) + d = (tgt : Int)) (kk : Zo g M fin o k n tgt l st w) : Zo g M fin o k n pc l (.int x :: st) w := kk.of fun _ _ _ _ _ _ _ _ _ _ _ _ _ hx hb hown htb hml hl kw => lv_tableOut hx hb hd h ht kw
theorem Zo_tswIn {x : Int32} {d lo hi : Int} {offs : Array Int} {len : Nat} {off : Int} (tgt : Nat) (hd : decode M.2.1 pc = .ok (.tableswitch d lo hi offs, len)) (h1 : ¬ x.toInt < lo) (h2 : ¬ hi < x.toInt) (ho : offs[(x.toInt - lo).toNat]? = some off) (ht : (pc : Int) + off = (tgt : Int)) (kk : Zo g M fin o k n tgt l st w) : Zo g M fin o k n pc l (.int x :: st) w := kk.of fun _ _ _ _ _ _ _ _ _ _ _ _ _ hx hb hown htb hml hl kw => lv_tableIn hx hb hd h1 h2 ho ht kw
theorem Zo_lsw {x : Int32} {d : Int} {ps : Array (Int × Int)} {len : Nat} {off : Int} (tgt : Nat) (hd : decode M.2.1 pc = .ok (.lookupswitch d ps, len)) (hp : (ps.toList.zip (ps.toList.drop 1)).all (fun (a, next) => a.1 < next.1) = true) (ho : Op.lookupswitch.offset ps.toList d x.toInt = off) (ht : (pc : Int) + off = (tgt : Int)) (kk : Zo g M fin o k n tgt l st w) : Zo g M fin o k n pc l (.int x :: st) w := kk.of fun _ _ _ _ _ _ _ _ _ _ _ _ _ hx hb hown htb hml hl kw => lv_lookup hx hb hd hp ho ht kw
theorem zLc_at {nL : Nat} {ls : Array Slot} {i : Nat} {v : Value} (h : zLc g nL ls l) (hi : l[i]? = some (some v)) : ls[i]? = some (.val (zV g v)) := h.2.2 i v hi
theorem Zo_iload0 {x : Int32} (hd : decode M.2.1 pc = .ok (.iload_n 0, 1)) (kk : Zo g M fin o k n (pc + 1) (some (.int x) :: l) (.int x :: st) w) : Zo g M fin o k n pc (some (.int x) :: l) st w := kk.of fun _ _ _ _ _ _ _ _ _ _ _ _ _ hx hb hown htb hml hl kw => lv_iload_n hx hb hd rfl (zLc_at (i := 0) hl rfl) kw
theorem Zo_lload0 {x : Int64} (hd : decode M.2.1 pc = .ok (.lload_n 0, 1)) (kk : Zo g M fin o k n (pc + 1) (some (.long x) :: l) (.long x :: st) w) : Zo g M fin o k n pc (some (.long x) :: l) st w := kk.of fun _ _ _ _ _ _ _ _ _ _ _ _ _ hx hb hown htb hml hl kw => lv_lload_n hx hb hd rfl (zLc_at (i := 0) hl rfl) kw
theorem Zo_aload0 {x : Nat} (hd : decode M.2.1 pc = .ok (.aload_n 0, 1)) (kk : Zo g M fin o k n (pc + 1) (some (.ref x) :: l) (.ref x :: st) w) : Zo g M fin o k n pc (some (.ref x) :: l) st w := kk.of fun _ _ _ _ _ _ _ _ _ _ _ _ _ hx hb hown htb hml hl kw => lv_aload_n hx hb hd rfl (zLc_at (i := 0) hl rfl) kw
theorem Zo_iload1 {a0 : Option Value} {x : Int32} (hd : decode M.2.1 pc = .ok (.iload_n 1, 1)) (kk : Zo g M fin o k n (pc + 1) (a0 :: some (.int x) :: l) (.int x :: st) w) : Zo g M fin o k n pc (a0 :: some (.int x) :: l) st w := kk.of fun _ _ _ _ _ _ _ _ _ _ _ _ _ hx hb hown htb hml hl kw => lv_iload_n hx hb hd rfl (zLc_at (i := 1) hl rfl) kw
theorem Zo_lload1 {a0 : Option Value} {x : Int64} (hd : decode M.2.1 pc = .ok (.lload_n 1, 1)) (kk : Zo g M fin o k n (pc + 1) (a0 :: some (.long x) :: l) (.long x :: st) w) : Zo g M fin o k n pc (a0 :: some (.long x) :: l) st w := kk.of fun _ _ _ _ _ _ _ _ _ _ _ _ _ hx hb hown htb hml hl kw => lv_lload_n hx hb hd rfl (zLc_at (i := 1) hl rfl) kw
theorem Zo_aload1 {a0 : Option Value} {x : Nat} (hd : decode M.2.1 pc = .ok (.aload_n 1, 1)) (kk : Zo g M fin o k n (pc + 1) (a0 :: some (.ref x) :: l) (.ref x :: st) w) : Zo g M fin o k n pc (a0 :: some (.ref x) :: l) st w := kk.of fun _ _ _ _ _ _ _ _ _ _ _ _ _ hx hb hown htb hml hl kw => lv_aload_n hx hb hd rfl (zLc_at (i := 1) hl rfl) kw
theorem Zo_iload2 {a0 a1 : Option Value} {x : Int32} (hd : decode M.2.1 pc = .ok (.iload_n 2, 1)) (kk : Zo g M fin o k n (pc + 1) (a0 :: a1 :: some (.int x) :: l) (.int x :: st) w) : Zo g M fin o k n pc (a0 :: a1 :: some (.int x) :: l) st w := kk.of fun _ _ _ _ _ _ _ _ _ _ _ _ _ hx hb hown htb hml hl kw => lv_iload_n hx hb hd rfl (zLc_at (i := 2) hl rfl) kw
theorem Zo_lload2 {a0 a1 : Option Value} {x : Int64} (hd : decode M.2.1 pc = .ok (.lload_n 2, 1)) (kk : Zo g M fin o k n (pc + 1) (a0 :: a1 :: some (.long x) :: l) (.long x :: st) w) : Zo g M fin o k n pc (a0 :: a1 :: some (.long x) :: l) st w := kk.of fun _ _ _ _ _ _ _ _ _ _ _ _ _ hx hb hown htb hml hl kw => lv_lload_n hx hb hd rfl (zLc_at (i := 2) hl rfl) kw
theorem Zo_aload2 {a0 a1 : Option Value} {x : Nat} (hd : decode M.2.1 pc = .ok (.aload_n 2, 1)) (kk : Zo g M fin o k n (pc + 1) (a0 :: a1 :: some (.ref x) :: l) (.ref x :: st) w) : Zo g M fin o k n pc (a0 :: a1 :: some (.ref x) :: l) st w := kk.of fun _ _ _ _ _ _ _ _ _ _ _ _ _ hx hb hown htb hml hl kw => lv_aload_n hx hb hd rfl (zLc_at (i := 2) hl rfl) kw
theorem Zo_iload3 {a0 a1 a2 : Option Value} {x : Int32} (hd : decode M.2.1 pc = .ok (.iload_n 3, 1)) (kk : Zo g M fin o k n (pc + 1) (a0 :: a1 :: a2 :: some (.int x) :: l) (.int x :: st) w) : Zo g M fin o k n pc (a0 :: a1 :: a2 :: some (.int x) :: l) st w := kk.of fun _ _ _ _ _ _ _ _ _ _ _ _ _ hx hb hown htb hml hl kw => lv_iload_n hx hb hd rfl (zLc_at (i := 3) hl rfl) kw
theorem Zo_lload3 {a0 a1 a2 : Option Value} {x : Int64} (hd : decode M.2.1 pc = .ok (.lload_n 3, 1)) (kk : Zo g M fin o k n (pc + 1) (a0 :: a1 :: a2 :: some (.long x) :: l) (.long x :: st) w) : Zo g M fin o k n pc (a0 :: a1 :: a2 :: some (.long x) :: l) st w := kk.of fun _ _ _ _ _ _ _ _ _ _ _ _ _ hx hb hown htb hml hl kw => lv_lload_n hx hb hd rfl (zLc_at (i := 3) hl rfl) kw
theorem Zo_aload3 {a0 a1 a2 : Option Value} {x : Nat} (hd : decode M.2.1 pc = .ok (.aload_n 3, 1)) (kk : Zo g M fin o k n (pc + 1) (a0 :: a1 :: a2 :: some (.ref x) :: l) (.ref x :: st) w) : Zo g M fin o k n pc (a0 :: a1 :: a2 :: some (.ref x) :: l) st w := kk.of fun _ _ _ _ _ _ _ _ _ _ _ _ _ hx hb hown htb hml hl kw => lv_aload_n hx hb hd rfl (zLc_at (i := 3) hl rfl) kw
theorem Zo_iload4 {a0 a1 a2 a3 : Option Value} {x : Int32} (hd : decode M.2.1 pc = .ok (.iload 4, 2)) (kk : Zo g M fin o k n (pc + 2) (a0 :: a1 :: a2 :: a3 :: some (.int x) :: l) (.int x :: st) w) : Zo g M fin o k n pc (a0 :: a1 :: a2 :: a3 :: some (.int x) :: l) st w := kk.of fun _ _ _ _ _ _ _ _ _ _ _ _ _ hx hb hown htb hml hl kw => lv_iload hx hb hd (zLc_at (i := 4) hl rfl) kw
theorem Zo_lload4 {a0 a1 a2 a3 : Option Value} {x : Int64} (hd : decode M.2.1 pc = .ok (.lload 4, 2)) (kk : Zo g M fin o k n (pc + 2) (a0 :: a1 :: a2 :: a3 :: some (.long x) :: l) (.long x :: st) w) : Zo g M fin o k n pc (a0 :: a1 :: a2 :: a3 :: some (.long x) :: l) st w := kk.of fun _ _ _ _ _ _ _ _ _ _ _ _ _ hx hb hown htb hml hl kw => lv_lload hx hb hd (zLc_at (i := 4) hl rfl) kw
theorem Zo_aload4 {a0 a1 a2 a3 : Option Value} {x : Nat} (hd : decode M.2.1 pc = .ok (.aload 4, 2)) (kk : Zo g M fin o k n (pc + 2) (a0 :: a1 :: a2 :: a3 :: some (.ref x) :: l) (.ref x :: st) w) : Zo g M fin o k n pc (a0 :: a1 :: a2 :: a3 :: some (.ref x) :: l) st w := kk.of fun _ _ _ _ _ _ _ _ _ _ _ _ _ hx hb hown htb hml hl kw => lv_aload hx hb hd (zLc_at (i := 4) hl rfl) kw
theorem Zo_iload5 {a0 a1 a2 a3 a4 : Option Value} {x : Int32} (hd : decode M.2.1 pc = .ok (.iload 5, 2)) (kk : Zo g M fin o k n (pc + 2) (a0 :: a1 :: a2 :: a3 :: a4 :: some (.int x) :: l) (.int x :: st) w) : Zo g M fin o k n pc (a0 :: a1 :: a2 :: a3 :: a4 :: some (.int x) :: l) st w := kk.of fun _ _ _ _ _ _ _ _ _ _ _ _ _ hx hb hown htb hml hl kw => lv_iload hx hb hd (zLc_at (i := 5) hl rfl) kw
theorem Zo_lload5 {a0 a1 a2 a3 a4 : Option Value} {x : Int64} (hd : decode M.2.1 pc = .ok (.lload 5, 2)) (kk : Zo g M fin o k n (pc + 2) (a0 :: a1 :: a2 :: a3 :: a4 :: some (.long x) :: l) (.long x :: st) w) : Zo g M fin o k n pc (a0 :: a1 :: a2 :: a3 :: a4 :: some (.long x) :: l) st w := kk.of fun _ _ _ _ _ _ _ _ _ _ _ _ _ hx hb hown htb hml hl kw => lv_lload hx hb hd (zLc_at (i := 5) hl rfl) kw
theorem Zo_aload5 {a0 a1 a2 a3 a4 : Option Value} {x : Nat} (hd : decode M.2.1 pc = .ok (.aload 5, 2)) (kk : Zo g M fin o k n (pc + 2) (a0 :: a1 :: a2 :: a3 :: a4 :: some (.ref x) :: l) (.ref x :: st) w) : Zo g M fin o k n pc (a0 :: a1 :: a2 :: a3 :: a4 :: some (.ref x) :: l) st w := kk.of fun _ _ _ _ _ _ _ _ _ _ _ _ _ hx hb hown htb hml hl kw => lv_aload hx hb hd (zLc_at (i := 5) hl rfl) kw
theorem Zo_iload6 {a0 a1 a2 a3 a4 a5 : Option Value} {x : Int32} (hd : decode M.2.1 pc = .ok (.iload 6, 2)) (kk : Zo g M fin o k n (pc + 2) (a0 :: a1 :: a2 :: a3 :: a4 :: a5 :: some (.int x) :: l) (.int x :: st) w) : Zo g M fin o k n pc (a0 :: a1 :: a2 :: a3 :: a4 :: a5 :: some (.int x) :: l) st w := kk.of fun _ _ _ _ _ _ _ _ _ _ _ _ _ hx hb hown htb hml hl kw => lv_iload hx hb hd (zLc_at (i := 6) hl rfl) kw
theorem Zo_lload6 {a0 a1 a2 a3 a4 a5 : Option Value} {x : Int64} (hd : decode M.2.1 pc = .ok (.lload 6, 2)) (kk : Zo g M fin o k n (pc + 2) (a0 :: a1 :: a2 :: a3 :: a4 :: a5 :: some (.long x) :: l) (.long x :: st) w) : Zo g M fin o k n pc (a0 :: a1 :: a2 :: a3 :: a4 :: a5 :: some (.long x) :: l) st w := kk.of fun _ _ _ _ _ _ _ _ _ _ _ _ _ hx hb hown htb hml hl kw => lv_lload hx hb hd (zLc_at (i := 6) hl rfl) kw
theorem Zo_aload6 {a0 a1 a2 a3 a4 a5 : Option Value} {x : Nat} (hd : decode M.2.1 pc = .ok (.aload 6, 2)) (kk : Zo g M fin o k n (pc + 2) (a0 :: a1 :: a2 :: a3 :: a4 :: a5 :: some (.ref x) :: l) (.ref x :: st) w) : Zo g M fin o k n pc (a0 :: a1 :: a2 :: a3 :: a4 :: a5 :: some (.ref x) :: l) st w := kk.of fun _ _ _ _ _ _ _ _ _ _ _ _ _ hx hb hown htb hml hl kw => lv_aload hx hb hd (zLc_at (i := 6) hl rfl) kw
theorem Zo_iload7 {a0 a1 a2 a3 a4 a5 a6 : Option Value} {x : Int32} (hd : decode M.2.1 pc = .ok (.iload 7, 2)) (kk : Zo g M fin o k n (pc + 2) (a0 :: a1 :: a2 :: a3 :: a4 :: a5 :: a6 :: some (.int x) :: l) (.int x :: st) w) : Zo g M fin o k n pc (a0 :: a1 :: a2 :: a3 :: a4 :: a5 :: a6 :: some (.int x) :: l) st w := kk.of fun _ _ _ _ _ _ _ _ _ _ _ _ _ hx hb hown htb hml hl kw => lv_iload hx hb hd (zLc_at (i := 7) hl rfl) kw
theorem Zo_lload7 {a0 a1 a2 a3 a4 a5 a6 : Option Value} {x : Int64} (hd : decode M.2.1 pc = .ok (.lload 7, 2)) (kk : Zo g M fin o k n (pc + 2) (a0 :: a1 :: a2 :: a3 :: a4 :: a5 :: a6 :: some (.long x) :: l) (.long x :: st) w) : Zo g M fin o k n pc (a0 :: a1 :: a2 :: a3 :: a4 :: a5 :: a6 :: some (.long x) :: l) st w := kk.of fun _ _ _ _ _ _ _ _ _ _ _ _ _ hx hb hown htb hml hl kw => lv_lload hx hb hd (zLc_at (i := 7) hl rfl) kw
theorem Zo_aload7 {a0 a1 a2 a3 a4 a5 a6 : Option Value} {x : Nat} (hd : decode M.2.1 pc = .ok (.aload 7, 2)) (kk : Zo g M fin o k n (pc + 2) (a0 :: a1 :: a2 :: a3 :: a4 :: a5 :: a6 :: some (.ref x) :: l) (.ref x :: st) w) : Zo g M fin o k n pc (a0 :: a1 :: a2 :: a3 :: a4 :: a5 :: a6 :: some (.ref x) :: l) st w := kk.of fun _ _ _ _ _ _ _ _ _ _ _ _ _ hx hb hown htb hml hl kw => lv_aload hx hb hd (zLc_at (i := 7) hl rfl) kw
theorem Zo_iload8 {a0 a1 a2 a3 a4 a5 a6 a7 : Option Value} {x : Int32} (hd : decode M.2.1 pc = .ok (.iload 8, 2)) (kk : Zo g M fin o k n (pc + 2) (a0 :: a1 :: a2 :: a3 :: a4 :: a5 :: a6 :: a7 :: some (.int x) :: l) (.int x :: st) w) : Zo g M fin o k n pc (a0 :: a1 :: a2 :: a3 :: a4 :: a5 :: a6 :: a7 :: some (.int x) :: l) st w := kk.of fun _ _ _ _ _ _ _ _ _ _ _ _ _ hx hb hown htb hml hl kw => lv_iload hx hb hd (zLc_at (i := 8) hl rfl) kw
theorem Zo_lload8 {a0 a1 a2 a3 a4 a5 a6 a7 : Option Value} {x : Int64} (hd : decode M.2.1 pc = .ok (.lload 8, 2)) (kk : Zo g M fin o k n (pc + 2) (a0 :: a1 :: a2 :: a3 :: a4 :: a5 :: a6 :: a7 :: some (.long x) :: l) (.long x :: st) w) : Zo g M fin o k n pc (a0 :: a1 :: a2 :: a3 :: a4 :: a5 :: a6 :: a7 :: some (.long x) :: l) st w := kk.of fun _ _ _ _ _ _ _ _ _ _ _ _ _ hx hb hown htb hml hl kw => lv_lload hx hb hd (zLc_at (i := 8) hl rfl) kw
theorem Zo_aload8 {a0 a1 a2 a3 a4 a5 a6 a7 : Option Value} {x : Nat} (hd : decode M.2.1 pc = .ok (.aload 8, 2)) (kk : Zo g M fin o k n (pc + 2) (a0 :: a1 :: a2 :: a3 :: a4 :: a5 :: a6 :: a7 :: some (.ref x) :: l) (.ref x :: st) w) : Zo g M fin o k n pc (a0 :: a1 :: a2 :: a3 :: a4 :: a5 :: a6 :: a7 :: some (.ref x) :: l) st w := kk.of fun _ _ _ _ _ _ _ _ _ _ _ _ _ hx hb hown htb hml hl kw => lv_aload hx hb hd (zLc_at (i := 8) hl rfl) kw
theorem Zo_iload9 {a0 a1 a2 a3 a4 a5 a6 a7 a8 : Option Value} {x : Int32} (hd : decode M.2.1 pc = .ok (.iload 9, 2)) (kk : Zo g M fin o k n (pc + 2) (a0 :: a1 :: a2 :: a3 :: a4 :: a5 :: a6 :: a7 :: a8 :: some (.int x) :: l) (.int x :: st) w) : Zo g M fin o k n pc (a0 :: a1 :: a2 :: a3 :: a4 :: a5 :: a6 :: a7 :: a8 :: some (.int x) :: l) st w := kk.of fun _ _ _ _ _ _ _ _ _ _ _ _ _ hx hb hown htb hml hl kw => lv_iload hx hb hd (zLc_at (i := 9) hl rfl) kw
theorem Zo_lload9 {a0 a1 a2 a3 a4 a5 a6 a7 a8 : Option Value} {x : Int64} (hd : decode M.2.1 pc = .ok (.lload 9, 2)) (kk : Zo g M fin o k n (pc + 2) (a0 :: a1 :: a2 :: a3 :: a4 :: a5 :: a6 :: a7 :: a8 :: some (.long x) :: l) (.long x :: st) w) : Zo g M fin o k n pc (a0 :: a1 :: a2 :: a3 :: a4 :: a5 :: a6 :: a7 :: a8 :: some (.long x) :: l) st w := kk.of fun _ _ _ _ _ _ _ _ _ _ _ _ _ hx hb hown htb hml hl kw => lv_lload hx hb hd (zLc_at (i := 9) hl rfl) kw
theorem Zo_aload9 {a0 a1 a2 a3 a4 a5 a6 a7 a8 : Option Value} {x : Nat} (hd : decode M.2.1 pc = .ok (.aload 9, 2)) (kk : Zo g M fin o k n (pc + 2) (a0 :: a1 :: a2 :: a3 :: a4 :: a5 :: a6 :: a7 :: a8 :: some (.ref x) :: l) (.ref x :: st) w) : Zo g M fin o k n pc (a0 :: a1 :: a2 :: a3 :: a4 :: a5 :: a6 :: a7 :: a8 :: some (.ref x) :: l) st w := kk.of fun _ _ _ _ _ _ _ _ _ _ _ _ _ hx hb hown htb hml hl kw => lv_aload hx hb hd (zLc_at (i := 9) hl rfl) kw
theorem Zo_iload10 {a0 a1 a2 a3 a4 a5 a6 a7 a8 a9 : Option Value} {x : Int32} (hd : decode M.2.1 pc = .ok (.iload 10, 2)) (kk : Zo g M fin o k n (pc + 2) (a0 :: a1 :: a2 :: a3 :: a4 :: a5 :: a6 :: a7 :: a8 :: a9 :: some (.int x) :: l) (.int x :: st) w) : Zo g M fin o k n pc (a0 :: a1 :: a2 :: a3 :: a4 :: a5 :: a6 :: a7 :: a8 :: a9 :: some (.int x) :: l) st w := kk.of fun _ _ _ _ _ _ _ _ _ _ _ _ _ hx hb hown htb hml hl kw => lv_iload hx hb hd (zLc_at (i := 10) hl rfl) kw
theorem Zo_lload10 {a0 a1 a2 a3 a4 a5 a6 a7 a8 a9 : Option Value} {x : Int64} (hd : decode M.2.1 pc = .ok (.lload 10, 2)) (kk : Zo g M fin o k n (pc + 2) (a0 :: a1 :: a2 :: a3 :: a4 :: a5 :: a6 :: a7 :: a8 :: a9 :: some (.long x) :: l) (.long x :: st) w) : Zo g M fin o k n pc (a0 :: a1 :: a2 :: a3 :: a4 :: a5 :: a6 :: a7 :: a8 :: a9 :: some (.long x) :: l) st w := kk.of fun _ _ _ _ _ _ _ _ _ _ _ _ _ hx hb hown htb hml hl kw => lv_lload hx hb hd (zLc_at (i := 10) hl rfl) kw
theorem Zo_aload10 {a0 a1 a2 a3 a4 a5 a6 a7 a8 a9 : Option Value} {x : Nat} (hd : decode M.2.1 pc = .ok (.aload 10, 2)) (kk : Zo g M fin o k n (pc + 2) (a0 :: a1 :: a2 :: a3 :: a4 :: a5 :: a6 :: a7 :: a8 :: a9 :: some (.ref x) :: l) (.ref x :: st) w) : Zo g M fin o k n pc (a0 :: a1 :: a2 :: a3 :: a4 :: a5 :: a6 :: a7 :: a8 :: a9 :: some (.ref x) :: l) st w := kk.of fun _ _ _ _ _ _ _ _ _ _ _ _ _ hx hb hown htb hml hl kw => lv_aload hx hb hd (zLc_at (i := 10) hl rfl) kw
theorem Zo_iload11 {a0 a1 a2 a3 a4 a5 a6 a7 a8 a9 a10 : Option Value} {x : Int32} (hd : decode M.2.1 pc = .ok (.iload 11, 2)) (kk : Zo g M fin o k n (pc + 2) (a0 :: a1 :: a2 :: a3 :: a4 :: a5 :: a6 :: a7 :: a8 :: a9 :: a10 :: some (.int x) :: l) (.int x :: st) w) : Zo g M fin o k n pc (a0 :: a1 :: a2 :: a3 :: a4 :: a5 :: a6 :: a7 :: a8 :: a9 :: a10 :: some (.int x) :: l) st w := kk.of fun _ _ _ _ _ _ _ _ _ _ _ _ _ hx hb hown htb hml hl kw => lv_iload hx hb hd (zLc_at (i := 11) hl rfl) kw
theorem Zo_lload11 {a0 a1 a2 a3 a4 a5 a6 a7 a8 a9 a10 : Option Value} {x : Int64} (hd : decode M.2.1 pc = .ok (.lload 11, 2)) (kk : Zo g M fin o k n (pc + 2) (a0 :: a1 :: a2 :: a3 :: a4 :: a5 :: a6 :: a7 :: a8 :: a9 :: a10 :: some (.long x) :: l) (.long x :: st) w) : Zo g M fin o k n pc (a0 :: a1 :: a2 :: a3 :: a4 :: a5 :: a6 :: a7 :: a8 :: a9 :: a10 :: some (.long x) :: l) st w := kk.of fun _ _ _ _ _ _ _ _ _ _ _ _ _ hx hb hown htb hml hl kw => lv_lload hx hb hd (zLc_at (i := 11) hl rfl) kw
theorem Zo_aload11 {a0 a1 a2 a3 a4 a5 a6 a7 a8 a9 a10 : Option Value} {x : Nat} (hd : decode M.2.1 pc = .ok (.aload 11, 2)) (kk : Zo g M fin o k n (pc + 2) (a0 :: a1 :: a2 :: a3 :: a4 :: a5 :: a6 :: a7 :: a8 :: a9 :: a10 :: some (.ref x) :: l) (.ref x :: st) w) : Zo g M fin o k n pc (a0 :: a1 :: a2 :: a3 :: a4 :: a5 :: a6 :: a7 :: a8 :: a9 :: a10 :: some (.ref x) :: l) st w := kk.of fun _ _ _ _ _ _ _ _ _ _ _ _ _ hx hb hown htb hml hl kw => lv_aload hx hb hd (zLc_at (i := 11) hl rfl) kw
theorem Zo_iload12 {a0 a1 a2 a3 a4 a5 a6 a7 a8 a9 a10 a11 : Option Value} {x : Int32} (hd : decode M.2.1 pc = .ok (.iload 12, 2)) (kk : Zo g M fin o k n (pc + 2) (a0 :: a1 :: a2 :: a3 :: a4 :: a5 :: a6 :: a7 :: a8 :: a9 :: a10 :: a11 :: some (.int x) :: l) (.int x :: st) w) : Zo g M fin o k n pc (a0 :: a1 :: a2 :: a3 :: a4 :: a5 :: a6 :: a7 :: a8 :: a9 :: a10 :: a11 :: some (.int x) :: l) st w := kk.of fun _ _ _ _ _ _ _ _ _ _ _ _ _ hx hb hown htb hml hl kw => lv_iload hx hb hd (zLc_at (i := 12) hl rfl) kw
theorem Zo_lload12 {a0 a1 a2 a3 a4 a5 a6 a7 a8 a9 a10 a11 : Option Value} {x : Int64} (hd : decode M.2.1 pc = .ok (.lload 12, 2)) (kk : Zo g M fin o k n (pc + 2) (a0 :: a1 :: a2 :: a3 :: a4 :: a5 :: a6 :: a7 :: a8 :: a9 :: a10 :: a11 :: some (.long x) :: l) (.long x :: st) w) : Zo g M fin o k n pc (a0 :: a1 :: a2 :: a3 :: a4 :: a5 :: a6 :: a7 :: a8 :: a9 :: a10 :: a11 :: some (.long x) :: l) st w := kk.of fun _ _ _ _ _ _ _ _ _ _ _ _ _ hx hb hown htb hml hl kw => lv_lload hx hb hd (zLc_at (i := 12) hl rfl) kw
theorem Zo_aload12 {a0 a1 a2 a3 a4 a5 a6 a7 a8 a9 a10 a11 : Option Value} {x : Nat} (hd : decode M.2.1 pc = .ok (.aload 12, 2)) (kk : Zo g M fin o k n (pc + 2) (a0 :: a1 :: a2 :: a3 :: a4 :: a5 :: a6 :: a7 :: a8 :: a9 :: a10 :: a11 :: some (.ref x) :: l) (.ref x :: st) w) : Zo g M fin o k n pc (a0 :: a1 :: a2 :: a3 :: a4 :: a5 :: a6 :: a7 :: a8 :: a9 :: a10 :: a11 :: some (.ref x) :: l) st w := kk.of fun _ _ _ _ _ _ _ _ _ _ _ _ _ hx hb hown htb hml hl kw => lv_aload hx hb hd (zLc_at (i := 12) hl rfl) kw
theorem Zo_iload13 {a0 a1 a2 a3 a4 a5 a6 a7 a8 a9 a10 a11 a12 : Option Value} {x : Int32} (hd : decode M.2.1 pc = .ok (.iload 13, 2)) (kk : Zo g M fin o k n (pc + 2) (a0 :: a1 :: a2 :: a3 :: a4 :: a5 :: a6 :: a7 :: a8 :: a9 :: a10 :: a11 :: a12 :: some (.int x) :: l) (.int x :: st) w) : Zo g M fin o k n pc (a0 :: a1 :: a2 :: a3 :: a4 :: a5 :: a6 :: a7 :: a8 :: a9 :: a10 :: a11 :: a12 :: some (.int x) :: l) st w := kk.of fun _ _ _ _ _ _ _ _ _ _ _ _ _ hx hb hown htb hml hl kw => lv_iload hx hb hd (zLc_at (i := 13) hl rfl) kw
theorem Zo_lload13 {a0 a1 a2 a3 a4 a5 a6 a7 a8 a9 a10 a11 a12 : Option Value} {x : Int64} (hd : decode M.2.1 pc = .ok (.lload 13, 2)) (kk : Zo g M fin o k n (pc + 2) (a0 :: a1 :: a2 :: a3 :: a4 :: a5 :: a6 :: a7 :: a8 :: a9 :: a10 :: a11 :: a12 :: some (.long x) :: l) (.long x :: st) w) : Zo g M fin o k n pc (a0 :: a1 :: a2 :: a3 :: a4 :: a5 :: a6 :: a7 :: a8 :: a9 :: a10 :: a11 :: a12 :: some (.long x) :: l) st w := kk.of fun _ _ _ _ _ _ _ _ _ _ _ _ _ hx hb hown htb hml hl kw => lv_lload hx hb hd (zLc_at (i := 13) hl rfl) kw
theorem Zo_aload13 {a0 a1 a2 a3 a4 a5 a6 a7 a8 a9 a10 a11 a12 : Option Value} {x : Nat} (hd : decode M.2.1 pc = .ok (.aload 13, 2)) (kk : Zo g M fin o k n (pc + 2) (a0 :: a1 :: a2 :: a3 :: a4 :: a5 :: a6 :: a7 :: a8 :: a9 :: a10 :: a11 :: a12 :: some (.ref x) :: l) (.ref x :: st) w) : Zo g M fin o k n pc (a0 :: a1 :: a2 :: a3 :: a4 :: a5 :: a6 :: a7 :: a8 :: a9 :: a10 :: a11 :: a12 :: some (.ref x) :: l) st w := kk.of fun _ _ _ _ _ _ _ _ _ _ _ _ _ hx hb hown htb hml hl kw => lv_aload hx hb hd (zLc_at (i := 13) hl rfl) kw
/-- a store: the locals change -/
theorem Zo.ofL {pc' : Nat} {l' : List (Option Value)} {st' : List Value} (kk : Zo g M fin o k n pc' l' st' w)
    (h : ∀ (p : Program) (lc : Launch) (e : Env) (s : State) (m : MethodId) (args : Array Value) (below : List Frame) (meth : Method) (c : Code) (H : Heap) (locs : List Loc) (ls : Array Slot) (Q : State → Prop), p.tables.exec = Jvm.exec → c.code = M.2.1 → zLc g M.2.2.1 ls l →
      (∀ ls' : Array Slot, zLc g M.2.2.1 ls' l' → W p lc e M.2.2.2.2.1 s m args below meth c H locs k n Q (F0 m pc' ls' (st'.map (zV g)))) → W p lc e M.2.2.2.2.1 s m args below meth c H locs k n Q (F0 m pc ls (st.map (zV g)))) : Zo g M fin o k n pc l st w := by
  intro a ha p lc e s m args below meth c H locs ls F S Wd L
  exact h p lc e s m args below meth c H locs ls _ F.1 F.2.1 L fun ls' L' => kk a ha p lc e s m args below meth c H locs ls' F S Wd L'
def zNoL : Option Value → Bool
  | some v => v.category == 1
  | none => true
/-- one slot stored, and the one before it no long -/
theorem zLc_set1 {nL : Nat} {ls : Array Slot} {i : Nat} {v : Value} (h : zLc g nL ls l) (hi : i < nL) (hc : v.category = 1) (hb : i = 0 ∨ ∀ u, l[i - 1]? = some u → zNoL u = true) : ∃ ls', storeLocals ls i (zV g v) = some ls' ∧ zLc g nL ls' (l.set i (some v)) := by
  have hh : lv_has ls nL ((List.range l.length).filterMap fun j => match l[j]? with
    | some (some u) => some (j, zV g u)
    | _ => none) := by
    refine ⟨h.1, h.2.1, fun q hq => ?_⟩
    obtain ⟨j, -, hj⟩ := List.mem_filterMap.mp hq
    cases hl : l[j]? with
    | none => rw [hl] at hj; cases hj
    | some u =>
      cases u with
      | none => rw [hl] at hj; cases hj
      | some u =>
        rw [hl] at hj
        cases hj
        exact h.2.2 j u hl
  obtain ⟨ls', e, h1, h2, h3⟩ := lv_store1 hh hi ((zV_cat g v).trans hc)
  refine ⟨ls', e, h1, h2, fun j u hj => ?_⟩
  have hlt : j < (l.set i (some v)).length := (List.getElem?_eq_some_iff.mp hj).1
  rw [List.length_set] at hlt
  by_cases hji : j = i
  · subst hji
    rw [List.getElem?_set_self hlt] at hj
    cases hj
    exact h3 _ List.mem_cons_self
  · rw [List.getElem?_set_ne (Ne.symm hji)] at hj
    refine h3 (j, zV g u) (List.mem_cons_of_mem _ (List.mem_filter.mpr ⟨List.mem_filterMap.mpr ⟨j, List.mem_range.mpr hlt, by rw [hj]⟩, ?_⟩))
    by_cases hj1 : j + 1 = i
    · rcases hb with hb | hb
      · omega
      · have h9 := hb (some u) (by rw [← hj]; congr 1; omega)
        have h10 : u.category = 1 := by simpa [zNoL] using h9
        simp [hji, zV_cat, h10]
    · simp [hji, hj1]
/-- fewer locals told -/
theorem Zo_fewer {l' : List (Option Value)} (kk : Zo g M fin o k n pc l' st w) (h : ∀ (i : Nat) (v : Value), l'[i]? = some (some v) → l[i]? = some (some v)) : Zo g M fin o k n pc l st w := by
  intro a ha p lc e s m args below meth c H locs ls F S Wd L
  exact kk a ha p lc e s m args below meth c H locs ls F S Wd ⟨L.1, L.2.1, fun i v hv => L.2.2 i v (h i v hv)⟩
/-- this local is told no more -/
theorem Zo_drop (i : Nat) (kk : Zo g M fin o k n pc (l.set i none) st w) : Zo g M fin o k n pc l st w := by
  refine Zo_fewer kk fun j v h => ?_
  by_cases hji : j = i
  · subst hji
    have hlt := (List.getElem?_eq_some_iff.mp h).1
    rw [List.length_set] at hlt
    rw [List.getElem?_set_self hlt] at h
    cases h
  · rwa [List.getElem?_set_ne (Ne.symm hji)] at h
theorem Zo_istoreG {x : Int32} (i : Nat) {d : Nat} {ins : Instr} (hd : decode M.2.1 pc = .ok (ins, d)) (hi : ins = .istore i ∧ d = 2 ∨ ∃ k : Fin 4, ins = .istore_n k ∧ d = 1 ∧ (k : Nat) = i) (hn : i < M.2.2.1) (hb : i = 0 ∨ ∀ u, l[i - 1]? = some u → zNoL u = true) (kk : Zo g M fin o k n (pc + d) (l.set i (some (.int x))) st w) : Zo g M fin o k n pc l (.int x :: st) w := by
  refine kk.ofL fun p lc e s m args below meth c H locs ls Q hx hbc L kw => ?_
  obtain ⟨ls', e', L'⟩ := zLc_set1 (v := .int x) L hn rfl hb
  intro T hT X
  obtain ⟨t, a, b⟩ := kw ls' L' T hT X
  refine ⟨t, ?_, b⟩
  rcases hi with ⟨rfl, rfl⟩ | ⟨k4, rfl, rfl, rfl⟩
  · have e2 : storeLocals ls i (.int x) = some ls' := e'
    show Steps _ _ _ (T.setTop (F0 m pc ls (.int x :: st.map (zV g)))) t
    jvm_step X.here [X.here.top, ↓top_set X.here.top, hx, hbc, hd, e2]
    exact a
  · have e2 : storeLocals ls k4 (.int x) = some ls' := e'
    show Steps _ _ _ (T.setTop (F0 m pc ls (.int x :: st.map (zV g)))) t
    jvm_step X.here [X.here.top, ↓top_set X.here.top, hx, hbc, hd, e2]
    exact a
theorem Zo_iincG {x : Int32} {j : Int} (i : Nat) (v : Int32) (hv : Int32.ofInt j = v) (hd : decode M.2.1 pc = .ok (.iinc i j, 3)) (hl : l[i]? = some (some (.int x))) (hn : i < M.2.2.1) (hb : i = 0 ∨ ∀ u, l[i - 1]? = some u → zNoL u = true) (kk : Zo g M fin o k n (pc + 3) (l.set i (some (.int (x + v)))) st w) : Zo g M fin o k n pc l st w := by
  subst hv
  refine kk.ofL fun p lc e s m args below meth c H locs ls Q hx hbc L kw => ?_
  obtain ⟨ls', e', L'⟩ := zLc_set1 (v := .int (x + Int32.ofInt j)) L hn rfl hb
  intro T hT X
  obtain ⟨t, a, b⟩ := kw ls' L' T hT X
  refine ⟨t, ?_, b⟩
  have hg : ls[i]? = some (.val (.int x)) := L.2.2 i _ hl
  have e2 : storeLocals ls i (.int (x + Int32.ofInt j)) = some ls' := e'
  jvm_step X.here [X.here.top, ↓top_set X.here.top, hx, hbc, hd, hg, e2]
  exact a
section ZFIELDS
variable {N : Nat} {R : ZRf} {σ : ZSt} {own : String} {idx ci f t a : Nat}
/-- a field link of the class own: entry idx is field f of class ci, of sort t; final or not -/
def zFL (own : String) (idx ci f t : Nat) (fi : Bool) : Prop := ∃ (C : String) (T : u_T) (n : Nat) (ty : Nat → FieldType), vwCl[ci]? = some (C, T, n) ∧ f < n ∧ (zFt ci).length = n ∧ (zFt ci)[f]? = some t ∧ (∀ w ∈ u_ws C T n, w ∈ lw_tbl) ∧ Cond.fieldLink own idx C (T f).2.1 (T f).2.2.1 ∈ lw_tbl ∧ (T f).1 = C ∧ (T f).2.2.2 = fi ∧
  (∀ k, k < n → parseFieldDescriptor (T k).2.2.1 = some (ty k)) ∧ (∀ a, a < n → ∀ b, b < n → a ≠ b → (T a).2.1 ≠ (T b).2.1) ∧ (t = 0 → ty f = .int) ∧ (t = 1 ∨ t = 2 → ∃ r, ty f = .object r ∨ ∃ r2, ty f = .array r2)
theorem zWs_ok {C : String} {T : u_T} {n : Nat} {s : State} (htb : zTb s) (h : ∀ w ∈ u_ws C T n, w ∈ lw_tbl) (a : Array Value) : ∀ w ∈ u_ws C T n, w.before a s = true := by
  intro w hw
  refine htb w (h w hw) ?_ a
  obtain ⟨j, -, rfl⟩ := List.mem_map.mp hw
  unfold u_lay
  by_cases q : (T j).2.2.2 = true
  · rw [if_pos q]; rfl
  · rw [if_neg q]; rfl
theorem Zo_getG (hf : zFL own idx ci f t true ∨ zFL own idx ci f t false) (ho : M.1.cls = own) (hk : zKd a = (0, ci)) (hN : a < N) (hN5 : N ≤ 100000) {v : Value} (hv : ∀ g, zFv g R σ a t f = zV g v) (hd : decode M.2.1 pc = .ok (.getfield idx, 3))
    (kk : Zo g M fin o k n (pc + 3) l (v :: st) (N, R, σ)) : Zo g M fin o k n pc l (.ref a :: st) (N, R, σ) := by
  obtain ⟨fi, C, T, nn, ty, h1, h2, h3, h4, h5, h6, h7, -⟩ : ∃ fi, zFL own idx ci f t fi := by rcases hf with h | h <;> exact ⟨_, h⟩
  intro b hb p lc e s m args below meth c H locs ls F S Wd L
  obtain ⟨hx, hbc, -, -, hown, -, -, -, htb, hK, -⟩ := id F
  have he := zL_at (g := g) (w := (N, R, σ)) hN
  rw [hk] at he
  have had : zAd g a = g.1 + a := by unfold zAd; rw [if_pos (by omega)]
  show W _ _ _ _ _ _ _ _ _ _ _ _ _ _ _ (F0 m pc ls (.ref (zAd g a) :: st.map (zV g)))
  rw [had]
  refine va_get hx hbc (zWs_ok htb h5 _) (fun _ h => h) (ho ▸ hown) hK Wd.2 a he h1 f h2 (htb _ h6 rfl _) (by rw [h7]; exact fun _ h => h) (v := zV g v) ?_ hd ?_
  · rw [zFs_at h4, hv]
  · exact kk b hb p lc e s m args below meth c H locs ls F S Wd L
theorem zCell_o {j : Nat} {σ' : ZSt} {R' : ZRf} (h1 : σ'.1 j = σ.1 j) (h2 : σ'.2 j = σ.2 j) (h3 : R' j = R j) : zCell g R' σ' j (zKd j) = zCell g R σ j (zKd j) := by
  have hF : ∀ u f, zFv g R' σ' j u f = zFv g R σ j u f := by
    intro u f
    match u with
    | 0 => show Value.int _ = Value.int _; rw [h1]
    | 1 => show va_rf _ = va_rf _; rw [h3]
    | u + 2 => show (if _ then _ else _) = (if _ then _ else _); rw [h1]
  rcases zKd j with ⟨a, b⟩
  match a with
  | 0 =>
    show Sum.inr _ = Sum.inr _
    congr 2
    unfold zFs
    apply List.map_congr_left
    intro f _
    exact hF _ _
  | 1 => show Sum.inl _ = Sum.inl _; rw [h1]
  | 2 => show Sum.inl _ = Sum.inl _; rw [h2]
  | a + 3 => show Sum.inl _ = Sum.inl _; rw [h3]
theorem zWD_o {j k f : Nat} {v : Int32} (h : j ≠ k) : (zWD σ k f v).1 j = σ.1 j := by
  funext b
  show (if j = k ∧ b = f then v else σ.1 j b) = _
  rw [if_neg fun q => h q.1]
theorem zWE_o {j k f : Nat} {v : Int64} (h : j ≠ k) : (zWE σ k f v).2 j = σ.2 j := by
  funext b
  show (if j = k ∧ b = f then v else σ.2 j b) = _
  rw [if_neg fun q => h q.1]
theorem zWR_o {j k f : Nat} {v : Option Nat} (h : j ≠ k) : zWR R k f v j = R j := by
  funext b
  show (if j = k ∧ b = f then v else R j b) = _
  rw [if_neg fun q => h q.1]
theorem zWD_at {k f j : Nat} {v : Int32} : (zWD σ k f v).1 k j = if j = f then v else σ.1 k j := by
  show (if k = k ∧ j = f then v else σ.1 k j) = _
  by_cases h : j = f
  · rw [if_pos ⟨rfl, h⟩, if_pos h]
  · rw [if_neg fun q => h q.2, if_neg h]
theorem zWE_at {k f j : Nat} {v : Int64} : (zWE σ k f v).2 k j = if j = f then v else σ.2 k j := by
  show (if k = k ∧ j = f then v else σ.2 k j) = _
  by_cases h : j = f
  · rw [if_pos ⟨rfl, h⟩, if_pos h]
  · rw [if_neg fun q => h q.2, if_neg h]
theorem zWR_at {k f j : Nat} {v : Option Nat} : zWR R k f v k j = if j = f then v else R k j := by
  show (if k = k ∧ j = f then v else R k j) = _
  by_cases h : j = f
  · rw [if_pos ⟨rfl, h⟩, if_pos h]
  · rw [if_neg fun q => h q.2, if_neg h]
theorem zFv_o {k u j : Nat} {σ' : ZSt} {R' : ZRf} (h1 : σ'.1 k j = σ.1 k j) (h3 : R' k j = R k j) : zFv g R' σ' k u j = zFv g R σ k u j := by
  match u with
  | 0 => show Value.int _ = Value.int _; rw [h1]
  | 1 => show va_rf _ = va_rf _; rw [h3]
  | u + 2 => show (if _ then _ else _) = (if _ then _ else _); rw [h1]
/-- a field written: of an int, or a reference told by a number, or (in a constructor) one of the table -/
theorem Zo_putG {R' : ZRf} {σ' : ZSt} {fi : Bool} (hf : zFL own idx ci f t fi) (hfi : fi = true → M.1.name = "<init>") (ho : M.1.cls = own) (hown' : fi = true → ∀ (C : String) (T : u_T) (n : Nat), vwCl[ci]? = some (C, T, n) → C = own) (hk : zKd a = (0, ci)) (hN : a < N) (hN5 : N ≤ 100000) {v : Value}
    (hv : ∀ g, zFv g R' σ' a t f = zV g v) (hs : (t = 0 ∧ ∃ x, v = .int x) ∨ ((t = 1 ∨ t = 2) ∧ ∃ r, v = .ref r)) (h1' : ∀ j, j ≠ a → σ'.1 j = σ.1 j) (h2' : σ'.2 = σ.2) (h3' : ∀ j, j ≠ a → R' j = R j) (h4' : ∀ j, j ≠ f → σ'.1 a j = σ.1 a j ∧ R' a j = R a j) (hd : decode M.2.1 pc = .ok (.putfield idx, 3))
    (kk : Zo g M fin o k n (pc + 3) l st (N, R', σ')) : Zo g M fin o k n pc l (v :: .ref a :: st) (N, R, σ) := by
  obtain ⟨C, T, nn, ty, h1, h2, h3, h4, h5, h6, h7, h8, h9, h10, h11, h12⟩ := hf
  intro b hb p lc e s m args below meth c H locs ls F S Wd L
  obtain ⟨hx, hbc, -, -, hown, -, hin, -, htb, hK, -⟩ := id F
  have he := zL_at (g := g) (w := (N, R, σ)) hN
  rw [hk] at he
  have had : zAd g a = g.1 + a := by unfold zAd; rw [if_pos (by omega)]
  show W _ _ _ _ _ _ _ _ _ _ _ _ _ _ _ (F0 m pc ls (zV g v :: .ref (zAd g a) :: st.map (zV g)))
  rw [had]
  have hnf : narrow (ty f) (zV g v) = zV g v ∧ fits (ty f) (zV g v) = true := by
    rcases hs with ⟨ht, x, rfl⟩ | ⟨ht, r, rfl⟩
    · rw [h11 ht]
      exact ⟨rfl, rfl⟩
    · obtain ⟨r1, hr | ⟨r2, hr⟩⟩ := h12 ht
      · rw [hr]; exact ⟨rfl, rfl⟩
      · rw [hr]; exact ⟨rfl, rfl⟩
  have fin' : ∀ (H1 : Heap) (locs1 : List Loc), H1.size = H.size → va_P g.2.1 vwCl ((zL g (N, R, σ)).set a (g.1 + a, .inr (ci, (zFs g R σ a (zFt ci)).set f (zV g v)))) H1 → va_S (zA g) s.heap H1 locs1 → W p lc e M.2.2.2.2.1 s m args below meth c H1 locs1 k n (M.2.2.2.2.2 (fin b) below args s) (F0 m (pc + 3) ls (st.map (zV g))) := by
    intro H1 locs1 z hP1 hS1
    refine kk b hb p lc e s m args below meth c H1 locs1 ls F hS1 ⟨fun hlt => z.trans (Wd.1 hlt), ?_⟩ L
    rw [zL_set (R' := R') (σ' := σ') (fun j hj => zCell_o (h1' j hj) (by rw [h2']) (h3' j hj)) (by
      rw [hk]
      show Sum.inr (ci, zFs g R' σ' a (zFt ci)) = _
      rw [zFs_set h4 (fun j u hj => zFv_o (h4' j hj).1 (h4' j hj).2) (hv g)])] at hP1
    exact hP1
  have hts := zWs_ok htb h5 args
  have hap := va_apart (own := own) hts (fun _ h => h) ty h9 h10 hK h1
  obtain ⟨r, hr1, cell, q1, q2, q3, q4⟩ := Wd.2 a _ he
  have hr : r = (C, T, nn) := Option.some.inj (hr1.symm.trans h1)
  subst hr
  obtain ⟨hSl, hfc, kC, hkC, hkind⟩ := hK.1 ci _ h1
  obtain ⟨cf, kf, fj, fd, hi, hsl⟩ := hSl f h2
  have hlay := hts _ (u_in_lay h2)
  unfold u_lay at hlay
  have hst := (u_facts hfc hkC (u_lays hts (fun _ h => h) h2) hi).1
  have hlen : f < (zFs g R σ a (zFt ci)).length := by rw [zFs_len, h3]; exact h2
  have fin2 : ∀ (H' : Heap), H'[g.1 + a]? = some (cell.setSlot fd.slot (zV g v)) → H'.size = H.size → (∀ q, q ≠ g.1 + a → H'[q]? = H[q]?) → W p lc e M.2.2.2.2.1 s m args below meth c H' (locs ++ [⟨g.1 + a, fd.slot⟩]) k n (M.2.2.2.2.2 (fin b) below args s) (F0 m (pc + 3) ls (st.map (zV g))) := by
    intro H' e1 e2 e3
    rw [hsl] at e1 ⊢
    exact fin' H' _ e2 (Wd.2.set (zL_D g _) he ⟨_, h1, t_OB.to (V := updV (vp_V (zFs g R σ a (zFt ci))) f (zV g v)) ⟨_, e1, q2, q3, t_set q4 hap h2 (zV g v)⟩ (fun j _ => vp_updV_set hlen (zV g v) j)⟩ e3) (S.put e2 e3 (Nat.le_add_right _ _))
  cases fi with
  | false =>
    rw [if_neg (by rw [h8]; decide)] at hlay
    exact W.putK hx hbc (f := fd) ⟨ho ▸ hown, htb _ h6 rfl _, ⟨_, _, _, by rw [← h7]; exact hi⟩, hst⟩ (by rw [q2]; exact u_store hfc hkC hkind hlay hi (h9 f h2) hnf.1 hnf.2) q1 q3 (by rw [hsl]; exact k2_hasslot (q4 f h2)) rfl rfl hd fin2
  | true =>
    rw [if_pos h8] at hlay
    have hcf : m.cls = cf := by
      obtain ⟨_, _, c', _, _, _, -, -, hf', -, -, -, hown2, -⟩ := Cond.laysFinal_spec hlay
      have e1 : c' = cf := by have := hi.symm.trans hf'; simp at this; exact this.1.symm
      rw [h7, hown' rfl C T nn h1] at hown2
      rw [← e1]; exact Option.some.inj ((ho ▸ hown).symm.trans hown2)
    exact W.putFinK hx hbc (ho ▸ hown) (htb _ h6 rfl _) (by rw [← h7]; exact hi) hst hcf (hin (hfi rfl)) (by rw [q2]; exact u_fits hfc hkC hkind (Or.inr hlay) hi (h9 f h2) hnf.1 hnf.2) q1 q3 (by rw [hsl]; exact k2_hasslot (q4 f h2)) rfl rfl hd fin2
end ZFIELDS
end ZROWS
abbrev zw (σ : ZSt) : ZW := (zN, zRc, σ)
def zIn (i : Int32) (n : Nat) : Bool := decide (0 ≤ i.toInt ∧ i.toInt < n)
/-- a read that may fail; a write; a write that may fail -/
def zLd {α β : Type} (b : Bool) (v : β) (K : β → Option α) : Option α := if b = true then K v else none
def zSt' {α : Type} (s : ZSt) (K : ZSt → Option α) : Option α := K s
def zSg {α : Type} (b : Bool) (s : ZSt) (K : ZSt → Option α) : Option α := if b = true then K s else none
/-- which of the two texts a reference tells -/
def zDyn (x : Int32) : Option Nat := if x = 62 then some 62 else if x = 65 then some 65 else none
theorem zIn_vp {i : Int32} {n : Nat} (h : zIn i n = true) : vp_in i n := by
  unfold zIn at h
  exact vp_in_iff.mpr (of_decide_eq_true h)
section ZROWS2
variable {α : Type} {g : ZG} {M : ZM} {fin : α → Option Value × ZW} {o : Option α} {k n pc : Nat} {l : List (Option Value)} {st : List Value} {w : ZW} {σ : ZSt} {a ci f idx : Nat} {own : String} {fi : Bool}
theorem Zo_ld {β : Type} {b : Bool} {v : β} {K : β → Option α} (h : b = true → Zo g M fin (K v) k n pc l st w) : Zo g M fin (zLd b v K) k n pc l st w := by
  unfold zLd
  exact Zo_guard h
theorem Zo_sg {b : Bool} {s : ZSt} {K : ZSt → Option α} (h : b = true → Zo g M fin (K s) k n pc l st w) : Zo g M fin (zSg b s K) k n pc l st w := by
  unfold zSg
  exact Zo_guard h
theorem zFL_or {t : Nat} (h : zFL own idx ci f t fi) : zFL own idx ci f t true ∨ zFL own idx ci f t false := by
  cases fi with
  | false => exact Or.inr h
  | true => exact Or.inl h
theorem Zo_geti (hf : zFL M.1.cls idx ci f 0 fi) (hk : zKd a = (0, ci)) (hd : decode M.2.1 pc = .ok (.getfield idx, 3)) (kk : Zo g M fin o k n (pc + 3) l (.int (σ.1 a f) :: st) (zw σ)) : Zo g M fin o k n pc l (.ref a :: st) (zw σ) :=
  Zo_getG (zFL_or hf) rfl hk (zKd_lt hk (by decide)) (by decide) (fun _ => rfl) hd kk
theorem Zo_getr {j : Nat} (hf : zFL M.1.cls idx ci f 1 fi) (hk : zKd a = (0, ci)) (hR : zRc a f = some j) (hd : decode M.2.1 pc = .ok (.getfield idx, 3)) (kk : Zo g M fin o k n (pc + 3) l (.ref j :: st) (zw σ)) : Zo g M fin o k n pc l (.ref a :: st) (zw σ) :=
  Zo_getG (zFL_or hf) rfl hk (zKd_lt hk (by decide)) (by decide) (fun g => by show va_rf _ = _; rw [hR]; rfl) hd kk
theorem zDyn_of {x : Int32} {t : Nat} (h : zDyn x = some t) : (t = 62 ∧ x = 62) ∨ (t = 65 ∧ x = 65) := by
  unfold zDyn at h
  by_cases h1 : x = 62
  · rw [if_pos h1] at h; cases h; exact Or.inl ⟨rfl, h1⟩
  · rw [if_neg h1] at h
    by_cases h2 : x = 65
    · rw [if_pos h2] at h; cases h; exact Or.inr ⟨rfl, h2⟩
    · rw [if_neg h2] at h; cases h
theorem Zo_getd {K : Nat → Option α} (hf : zFL M.1.cls idx ci f 2 fi) (hk : zKd a = (0, ci)) (hd : decode M.2.1 pc = .ok (.getfield idx, 3)) (kk : ∀ t, (t = 62 ∨ t = 65) → Zo g M fin (K t) k n (pc + 3) l (.ref t :: st) (zw σ)) : Zo g M fin ((zDyn (σ.1 a f)).bind K) k n pc l (.ref a :: st) (zw σ) := by
  cases h : zDyn (σ.1 a f) with
  | none => exact Zo_none
  | some t =>
    have h2 := zDyn_of h
    refine Zo_getG (v := .ref t) (zFL_or hf) rfl hk (zKd_lt hk (by decide)) (by decide) (fun g => ?_) hd (kk t (by rcases h2 with q | q; exact Or.inl q.1; exact Or.inr q.1))
    show (if σ.1 a f < 0 then Value.null else _) = _
    rcases h2 with ⟨rfl, q⟩ | ⟨rfl, q⟩
    · rw [q]; rfl
    · rw [q]; rfl
theorem Zo_puti {x : Int32} {K : ZSt → Option α} (hf : zFL M.1.cls idx ci f 0 false) (hk : zKd a = (0, ci)) (hd : decode M.2.1 pc = .ok (.putfield idx, 3)) (kk : ∀ σ', Zo g M fin (K σ') k n (pc + 3) l st (zw σ')) : Zo g M fin (zSt' (zWD σ a f x) K) k n pc l (.int x :: .ref a :: st) (zw σ) :=
  Zo_putG (σ' := zWD σ a f x) (R' := zRc) hf (fun h => by cases h) rfl (fun h => by cases h) hk (zKd_lt hk (by decide)) (by decide) (fun g => by show Value.int _ = _; rw [zWD_at, if_pos rfl]; rfl) (Or.inl ⟨rfl, x, rfl⟩) (fun j h => zWD_o h) rfl (fun _ _ => rfl) (fun j h => ⟨by rw [zWD_at, if_neg h], rfl⟩) hd (kk _)
theorem Zo_putd {t : Nat} {K : ZSt → Option α} (ht : t = 62 ∨ t = 65) (hf : zFL M.1.cls idx ci f 2 false) (hk : zKd a = (0, ci)) (hd : decode M.2.1 pc = .ok (.putfield idx, 3)) (kk : ∀ σ', Zo g M fin (K σ') k n (pc + 3) l st (zw σ')) : Zo g M fin (zSt' (zWD σ a f (Int32.ofNat t)) K) k n pc l (.ref t :: .ref a :: st) (zw σ) :=
  Zo_putG (σ' := zWD σ a f (Int32.ofNat t)) (R' := zRc) hf (fun h => by cases h) rfl (fun h => by cases h) hk (zKd_lt hk (by decide)) (by decide) (fun g => by
    show (if _ then Value.null else _) = _
    rw [zWD_at, if_pos rfl]
    rcases ht with rfl | rfl <;> rfl) (Or.inr ⟨Or.inr rfl, t, rfl⟩) (fun j h => zWD_o h) rfl (fun _ _ => rfl) (fun j h => ⟨by rw [zWD_at, if_neg h], rfl⟩) hd (kk _)
/-- what a walk in the world of all cells has of one cell -/
theorem zWd_cell {H : Heap} {a' : Nat} (Wd : zWd g (zw σ) H) (h : a' < zN) : va_at g.2.1 vwCl (g.1 + a', zCell g zRc σ a' (zKd a')) H := Wd.2 a' _ (zL_at (w := zw σ) h)
theorem zAd_lo {a' : Nat} (h : a' < zN) : zAd g a' = g.1 + a' := by unfold zAd; rw [if_pos (Nat.lt_of_lt_of_le h (by decide))]
theorem Zo_iald {nn : Nat} {i : Int32} {K : Int32 → Option α} (hk : zKd a = (1, nn)) (hd : decode M.2.1 pc = .ok (.iaload, 1)) (kk : ∀ v, Zo g M fin (K v) k n (pc + 1) l (.int v :: st) (zw σ)) : Zo g M fin (zLd (zIn i nn) (σ.1 a i.toNatClampNeg) K) k n pc l (.int i :: .ref a :: st) (zw σ) := by
  refine Zo_ld fun hi b hb p lc e s m args below meth c H locs ls F S Wd L => ?_
  obtain ⟨hx, hbc, -, -, hown, -, -, -, htb, hK, -⟩ := id F
  have hN := zKd_lt hk (by decide)
  have he := zL_at (g := g) (w := zw σ) hN
  rw [hk] at he
  show W _ _ _ _ _ _ _ _ _ _ _ _ _ _ _ (F0 m pc ls (.int i :: .ref (zAd g a) :: st.map (zV g)))
  rw [zAd_lo hN]
  exact va_iald hx hbc hK Wd.2 a 0 he rfl (zIn_vp hi) hd (kk _ b hb p lc e s m args below meth c H locs ls F S Wd L)
theorem Zo_lald {nn : Nat} {i : Int32} {K : Int64 → Option α} (hk : zKd a = (2, nn)) (hd : decode M.2.1 pc = .ok (.laload, 1)) (kk : ∀ v, Zo g M fin (K v) k n (pc + 1) l (.long v :: st) (zw σ)) : Zo g M fin (zLd (zIn i nn) (σ.2 a i.toNatClampNeg) K) k n pc l (.int i :: .ref a :: st) (zw σ) := by
  refine Zo_ld fun hi b hb p lc e s m args below meth c H locs ls F S Wd L => ?_
  obtain ⟨hx, hbc, -, -, hown, -, -, -, htb, hK, -⟩ := id F
  have hN := zKd_lt hk (by decide)
  have he := zL_at (g := g) (w := zw σ) hN
  rw [hk] at he
  show W _ _ _ _ _ _ _ _ _ _ _ _ _ _ _ (F0 m pc ls (.int i :: .ref (zAd g a) :: st.map (zV g)))
  rw [zAd_lo hN]
  exact va_lald hx hbc hK Wd.2 a 1 he rfl (zIn_vp hi) hd (kk _ b hb p lc e s m args below meth c H locs ls F S Wd L)
/-- an element written -/
theorem zWd_put {H H1 : Heap} {σ' : ZSt} {c : va_E} (Wd : zWd g (zw σ) H) (hN : a < zN) (ho : ∀ j, j ≠ a → σ'.1 j = σ.1 j ∧ σ'.2 j = σ.2 j) (hc : zCell g zRc σ' a (zKd a) = c) (z : H1.size = H.size) (hP : va_at g.2.1 vwCl (g.1 + a, c) H1) (oq : ∀ q : Nat, q ≠ g.1 + a → H1[q]? = H[q]?) : zWd g (zw σ') H1 := by
  refine ⟨fun hlt => z.trans (Wd.1 hlt), ?_⟩
  have := Wd.2.set (zL_D g _) (zL_at (w := zw σ) hN) hP oq
  rwa [zL_set (R' := zRc) (σ' := σ') (fun j hj => zCell_o (ho j hj).1 (ho j hj).2 rfl) hc] at this
theorem Zo_iast {nn : Nat} {i x : Int32} {K : ZSt → Option α} (hk : zKd a = (1, nn)) (hd : decode M.2.1 pc = .ok (.iastore, 1)) (kk : ∀ σ', Zo g M fin (K σ') k n (pc + 1) l st (zw σ')) : Zo g M fin (zSg (zIn i nn) (zWD σ a i.toNatClampNeg x) K) k n pc l (.int x :: .int i :: .ref a :: st) (zw σ) := by
  refine Zo_sg fun hi b hb p lc e s m args below meth c H locs ls F S Wd L => ?_
  obtain ⟨hx, hbc, -, -, hown, -, -, -, htb, hK, -⟩ := id F
  have hN := zKd_lt hk (by decide)
  have he := zWd_cell Wd hN
  rw [hk] at he
  have hc : H[g.1 + a]? = some (arrV (g.2.2.1 0) nn (fun j => .int (σ.1 a j))) := he
  show W _ _ _ _ _ _ _ _ _ _ _ _ _ _ _ (F0 m pc ls (.int x :: .int i :: .ref (zAd g a) :: st.map (zV g)))
  rw [zAd_lo hN]
  refine W.iast hx hbc hc ((hK.2 0 _ rfl).1 nn (fun j => .int (σ.1 a j))) (fun q => by cases q) (by rw [arrV_size]; exact zIn_vp hi) rfl rfl hd fun H1 e1 z oq => ?_
  refine kk _ b hb p lc e s m args below meth c H1 _ ls F (S.put z oq (Nat.le_add_right _ _)) (zWd_put (c := zCell g zRc (zWD σ a i.toNatClampNeg x) a (1, nn)) Wd hN (fun j hj => ⟨zWD_o hj, rfl⟩) (by rw [hk]) z ?_ oq) L
  show H1[g.1 + a]? = some (arrV (g.2.2.1 0) nn (fun j => .int ((zWD σ a i.toNatClampNeg x).1 a j)))
  rw [e1, arrV_store]
  congr 2
  funext q
  show updV _ _ _ q = Value.int ((zWD σ a _ x).1 a q)
  rw [zWD_at]
  unfold updV
  by_cases hq : q = i.toNatClampNeg
  · rw [if_pos hq, if_pos hq]
  · rw [if_neg hq, if_neg hq]
theorem Zo_last {nn : Nat} {i : Int32} {x : Int64} {K : ZSt → Option α} (hk : zKd a = (2, nn)) (hd : decode M.2.1 pc = .ok (.lastore, 1)) (kk : ∀ σ', Zo g M fin (K σ') k n (pc + 1) l st (zw σ')) : Zo g M fin (zSg (zIn i nn) (zWE σ a i.toNatClampNeg x) K) k n pc l (.long x :: .int i :: .ref a :: st) (zw σ) := by
  refine Zo_sg fun hi b hb p lc e s m args below meth c H locs ls F S Wd L => ?_
  obtain ⟨hx, hbc, -, -, hown, -, -, -, htb, hK, -⟩ := id F
  have hN := zKd_lt hk (by decide)
  have he := zWd_cell Wd hN
  rw [hk] at he
  have hc : H[g.1 + a]? = some (arrV (g.2.2.1 1) nn (fun j => .long (σ.2 a j))) := he
  show W _ _ _ _ _ _ _ _ _ _ _ _ _ _ _ (F0 m pc ls (.long x :: .int i :: .ref (zAd g a) :: st.map (zV g)))
  rw [zAd_lo hN]
  refine W.last hx hbc hc ((hK.2 1 _ rfl).1 nn (fun j => .long (σ.2 a j))) (fun q => by cases q) (by rw [arrV_size]; exact zIn_vp hi) rfl rfl hd fun H1 e1 z oq => ?_
  refine kk _ b hb p lc e s m args below meth c H1 _ ls F (S.put z oq (Nat.le_add_right _ _)) (zWd_put (c := zCell g zRc (zWE σ a i.toNatClampNeg x) a (2, nn)) Wd hN (fun j hj => ⟨rfl, zWE_o hj⟩) (by rw [hk]) z ?_ oq) L
  show H1[g.1 + a]? = some (arrV (g.2.2.1 1) nn (fun j => .long ((zWE σ a i.toNatClampNeg x).2 a j)))
  rw [e1, arrV_store]
  congr 2
  funext q
  show updV _ _ _ q = Value.long ((zWE σ a _ x).2 a q)
  rw [zWE_at]
  unfold updV
  by_cases hq : q = i.toNatClampNeg
  · rw [if_pos hq, if_pos hq]
  · rw [if_neg hq, if_neg hq]
/-- a row of rows: the shelves' -/
theorem zRc_55 {j : Nat} (h : j < 6) : zRc 55 j = some (56 + j) ∧ zKd (56 + j) = (2, 60) := by
  rcases (show j = 0 ∨ j = 1 ∨ j = 2 ∨ j = 3 ∨ j = 4 ∨ j = 5 by omega) with rfl | rfl | rfl | rfl | rfl | rfl <;> exact ⟨rfl, rfl⟩
theorem Zo_aald55 {i : Int32} {K : Nat → Option α} (hd : decode M.2.1 pc = .ok (.aaload, 1)) (kk : ∀ j, zKd j = (2, 60) → Zo g M fin (K j) k n (pc + 1) l (.ref j :: st) (zw σ)) : Zo g M fin (zLd (zIn i 6) (56 + i.toNatClampNeg) K) k n pc l (.int i :: .ref 55 :: st) (zw σ) := by
  refine Zo_ld fun hi b hb p lc e s m args below meth c H locs ls F S Wd L => ?_
  obtain ⟨hx, hbc, -, -, hown, -, -, -, htb, hK, -⟩ := id F
  have he := zWd_cell (a' := 55) Wd (by decide)
  rw [kd_55] at he
  have hc : H[g.1 + 55]? = some (arrV (g.2.2.1 2) 6 (fun j => va_rf ((zRc 55 j).map (zAd g)))) := he
  have hv := zIn_vp hi
  have hlt : i.toNatClampNeg < 6 := Nat.not_le.mp fun q => hv (Or.inr q)
  obtain ⟨r1, r2⟩ := zRc_55 hlt
  show W _ _ _ _ _ _ _ _ _ _ _ _ _ _ _ (F0 m pc ls (.int i :: .ref (zAd g 55) :: st.map (zV g)))
  rw [zAd_lo (by decide)]
  refine W.aald (v := .ref (zAd g (56 + i.toNatClampNeg))) hx hbc hc ((hK.2 2 _ rfl).1 6 _) rfl (fun q => by cases q) (by rw [arrV_size]; exact hv) ?_ rfl rfl hd (kk _ r2 b hb p lc e s m args below meth c H locs ls F S Wd L)
  rw [arrV_read _ _ hlt, r1]
  rfl
theorem Zo_alen {nn : Nat} (v : Int32) (hk : zKd a = (1, nn)) (hv : Int32.ofNat nn = v) (hd : decode M.2.1 pc = .ok (.arraylength, 1)) (kk : Zo g M fin o k n (pc + 1) l (.int v :: st) (zw σ)) : Zo g M fin o k n pc l (.ref a :: st) (zw σ) := by
  intro b hb p lc e s m args below meth c H locs ls F S Wd L
  obtain ⟨hx, hbc, -, -, hown, -, -, -, htb, hK, -⟩ := id F
  have hN := zKd_lt hk (by decide)
  have he := zL_at (g := g) (w := zw σ) hN
  rw [hk] at he
  show W _ _ _ _ _ _ _ _ _ _ _ _ _ _ _ (F0 m pc ls (.ref (zAd g a) :: st.map (zV g)))
  rw [zAd_lo hN]
  exact va_alen hx hbc hK Wd.2 a 0 he rfl hv hd (kk b hb p lc e s m args below meth c H locs ls F S Wd L)
/-- the static rows -/
theorem Zo_gsOWN (ho : M.1.cls = "PaidElsewhere$Acts") (hw : Cond.fieldLink "PaidElsewhere$Acts" idx "PaidElsewhere$Acts" "OWN" "[I" ∈ lw_tbl) (hd : decode M.2.1 pc = .ok (.getstatic idx, 3)) (kk : Zo g M fin o k n (pc + 3) l (.ref 100000 :: st) w) : Zo g M fin o k n pc l st w := by
  intro b hb p lc e s m args below meth c H locs ls F S Wd L
  obtain ⟨hx, hbc, -, -, hown, -, -, -, htb, hK, ⟨⟨a1, a2⟩, -⟩⟩ := id F
  exact va_gets hx hbc a1 S (ho ▸ hown) (htb _ hw rfl _) (fun _ h => h) hd (kk b hb p lc e s m args below meth c H locs ls F S Wd L)
theorem Zo_gsABV (ho : M.1.cls = "PaidElsewhere$Acts") (hw : Cond.fieldLink "PaidElsewhere$Acts" idx "PaidElsewhere$Acts" "ABOVE" "[I" ∈ lw_tbl) (hd : decode M.2.1 pc = .ok (.getstatic idx, 3)) (kk : Zo g M fin o k n (pc + 3) l (.ref 100001 :: st) w) : Zo g M fin o k n pc l st w := by
  intro b hb p lc e s m args below meth c H locs ls F S Wd L
  obtain ⟨hx, hbc, -, -, hown, -, -, -, htb, hK, ⟨-, ⟨a1, a2⟩, -⟩⟩ := id F
  exact va_gets hx hbc a1 S (ho ▸ hown) (htb _ hw rfl _) (fun _ h => h) hd (kk b hb p lc e s m args below meth c H locs ls F S Wd L)
theorem Zo_tiOWN {i : Int32} {K : Int32 → Option α} (hd : decode M.2.1 pc = .ok (.iaload, 1)) (kk : ∀ v, Zo g M fin (K v) k n (pc + 1) l (.int v :: st) w) : Zo g M fin (zLd (zIn i 32) (zOWN i.toNatClampNeg) K) k n pc l (.int i :: .ref 100000 :: st) w := by
  refine Zo_ld fun hi b hb p lc e s m args below meth c H locs ls F S Wd L => ?_
  obtain ⟨hx, hbc, -, -, hown, -, -, -, htb, hK, ⟨⟨a1, a2⟩, -⟩⟩ := id F
  exact va_ti hx hbc a2 S (zIn_vp hi) rfl hd (kk _ b hb p lc e s m args below meth c H locs ls F S Wd L)
theorem Zo_tiABV {i : Int32} {K : Int32 → Option α} (hd : decode M.2.1 pc = .ok (.iaload, 1)) (kk : ∀ v, Zo g M fin (K v) k n (pc + 1) l (.int v :: st) w) : Zo g M fin (zLd (zIn i 8) (zABV i.toNatClampNeg) K) k n pc l (.int i :: .ref 100001 :: st) w := by
  refine Zo_ld fun hi b hb p lc e s m args below meth c H locs ls F S Wd L => ?_
  obtain ⟨hx, hbc, -, -, hown, -, -, -, htb, hK, ⟨-, ⟨a1, a2⟩, -⟩⟩ := id F
  exact va_ti hx hbc a2 S (zIn_vp hi) rfl hd (kk _ b hb p lc e s m args below meth c H locs ls F S Wd L)
theorem Zo_tlenOWN (hd : decode M.2.1 pc = .ok (.arraylength, 1)) (kk : Zo g M fin o k n (pc + 1) l (.int 32 :: st) w) : Zo g M fin o k n pc l (.ref 100000 :: st) w := by
  intro b hb p lc e s m args below meth c H locs ls F S Wd L
  obtain ⟨hx, hbc, -, -, hown, -, -, -, htb, hK, ⟨⟨a1, a2⟩, -⟩⟩ := id F
  exact va_tlen hx hbc a2 S rfl hd (kk b hb p lc e s m args below meth c H locs ls F S Wd L)
/-- Math.max, Math.min -/
theorem Zo_mmax {x y : Int32} (hw : Cond.methodLink M.1.cls idx Lib.Math.max.name ∈ lw_tbl) (h2 : Cond.static Lib.Math.max.name ∈ lw_tbl) (h3 : Cond.initialized "java/lang/Math" ∈ lw_tbl) (h4 : Cond.code Lib.Math.max.name Lib.Math.max.code 2 (some .int) ∈ lw_tbl) (hs : (st.map fun v => v.category).sum ≤ 8) (hR : 1 ≤ M.2.2.2.2.1.frames ∧ 21 ≤ M.2.2.2.2.1.locals ∧ k ≤ M.2.2.2.2.1.cells ∧ n ≤ M.2.2.2.2.1.slots) (hd : decode M.2.1 pc = .ok (.invokestatic idx, 3)) (kk : Zo g M fin o k n (pc + 3) l (.int (if x < y then y else x) :: st) w) : Zo g M fin o k n pc l (.int y :: .int x :: st) w := by
  have hs' : ((st.map (zV g)).map fun v => v.category).sum ≤ 8 := by rw [List.map_map]; simpa [Function.comp_def, zV_cat] using hs
  exact kk.of fun _ _ _ _ _ _ _ _ _ _ _ _ _ hx hb hown htb hml hl kw => va_mmax hx hb hml hown (htb _ hw rfl _) (htb _ h2 rfl _) (htb _ h3 rfl _) (htb _ h4 rfl _) hR.1 (by omega) hR.2.2.1 hR.2.2.2 hd kw
theorem Zo_mmin {x y : Int32} (hw : Cond.methodLink M.1.cls idx Lib.Math.min.name ∈ lw_tbl) (h2 : Cond.static Lib.Math.min.name ∈ lw_tbl) (h3 : Cond.initialized "java/lang/Math" ∈ lw_tbl) (h4 : Cond.code Lib.Math.min.name Lib.Math.min.code 2 (some .int) ∈ lw_tbl) (hs : (st.map fun v => v.category).sum ≤ 8) (hR : 1 ≤ M.2.2.2.2.1.frames ∧ 21 ≤ M.2.2.2.2.1.locals ∧ k ≤ M.2.2.2.2.1.cells ∧ n ≤ M.2.2.2.2.1.slots) (hd : decode M.2.1 pc = .ok (.invokestatic idx, 3)) (kk : Zo g M fin o k n (pc + 3) l (.int (if y < x then y else x) :: st) w) : Zo g M fin o k n pc l (.int y :: .int x :: st) w := by
  have hs' : ((st.map (zV g)).map fun v => v.category).sum ≤ 8 := by rw [List.map_map]; simpa [Function.comp_def, zV_cat] using hs
  exact kk.of fun _ _ _ _ _ _ _ _ _ _ _ _ _ hx hb hown htb hml hl kw => va_mmin hx hb hml hown (htb _ hw rfl _) (htb _ h2 rfl _) (htb _ h3 rfl _) (htb _ h4 rfl _) hR.1 (by omega) hR.2.2.1 hR.2.2.2 hd kw
end ZROWS2
section ZRET
variable {α : Type} {g : ZG} {y : MethodName} {cc : ByteArray} {nL : Nat} {ret : Option FieldType} {R : Room} {K S : Nat} {fin : α → Option Value × ZW} {k n pc : Nat} {l : List (Option Value)} {w : ZW} {a : α}
theorem zQc_end {T : Option Value × ZW} {s : State} {H : Heap} {locs : List Loc} (args : Array Value) (Wd : zWd g T.2 H) (hS : va_S (zA g) s.heap H locs) (t : State) (ht : t.heap = H) : zQc g T args s (.returned (T.1.map (zV g))) t := ⟨rfl, by rw [ht]; exact Wd, hS.F ht⟩
theorem Zo_iret {v : Int32} (hd : decode cc pc = .ok (.ireturn, 1)) (ha : fin a = (some (.int v), w)) (hr : ret = some .int) (hk : k ≤ K) (hn : n ≤ S) : Zo g (y, cc, nL, ret, R, zTg g K S) fin (some a) k n pc l [.int v] w := by
  intro b hb p lc e s m args below meth c H locs ls F Sv Wd L
  cases hb
  subst hr
  obtain ⟨hx, hbc, hrt, -, hown, hlk, -, -, -⟩ := id F
  refine W.widen hk hn ?_
  rw [ha]
  exact W.iret hx hbc hrt (fun t ht _ => zQc_end (T := (some (.int v), w)) args Wd Sv t ht) (fun q hq => Sv.2.2 q hq) hd hlk
theorem Zo_zret {v : Int32} (hd : decode cc pc = .ok (.ireturn, 1)) (ha : fin a = (some (.int v), w)) (hr : ret = some .boolean) (hv : v = 0 ∨ v = 1) (hk : k ≤ K) (hn : n ≤ S) : Zo g (y, cc, nL, ret, R, zTg g K S) fin (some a) k n pc l [.int v] w := by
  intro b hb p lc e s m args below meth c H locs ls F Sv Wd L
  cases hb
  subst hr
  obtain ⟨hx, hbc, hrt, -, hown, hlk, -, -, -⟩ := id F
  refine W.widen hk hn ?_
  rw [ha]
  exact W.zret hx hbc hrt (by rcases hv with rfl | rfl <;> rfl) (fun t ht _ => zQc_end (T := (some (.int v), w)) args Wd Sv t ht) (fun q hq => Sv.2.2 q hq) hd hlk
theorem Zo_lret {v : Int64} (hd : decode cc pc = .ok (.lreturn, 1)) (ha : fin a = (some (.long v), w)) (hr : ret = some .long) (hk : k ≤ K) (hn : n ≤ S) : Zo g (y, cc, nL, ret, R, zTg g K S) fin (some a) k n pc l [.long v] w := by
  intro b hb p lc e s m args below meth c H locs ls F Sv Wd L
  cases hb
  subst hr
  obtain ⟨hx, hbc, hrt, -, hown, hlk, -, -, -⟩ := id F
  refine W.widen hk hn ?_
  rw [ha]
  exact W.lret hx hbc hrt (fun t ht _ => zQc_end (T := (some (.long v), w)) args Wd Sv t ht) (fun q hq => Sv.2.2 q hq) hd hlk
theorem Zo_vret (hd : decode cc pc = .ok (.return_, 1)) (ha : fin a = (none, w)) (hr : ret = none) (hk : k ≤ K) (hn : n ≤ S) : Zo g (y, cc, nL, ret, R, zTg g K S) fin (some a) k n pc l [] w := by
  intro b hb p lc e s m args below meth c H locs ls F Sv Wd L
  cases hb
  subst hr
  obtain ⟨hx, hbc, hrt, -, hown, hlk, -, -, -⟩ := id F
  refine W.widen hk hn ?_
  rw [ha]
  exact W.vret hx hbc hrt (fun t ht _ => zQc_end (T := (none, w)) args Wd Sv t ht) (fun q hq => Sv.2.2 q hq) hd hlk
end ZRET
section ZLOC
variable {α : Type} {g : ZG} {M : ZM} {fin : α → Option Value × ZW} {o : Option α} {k n pc : Nat} {l : List (Option Value)} {st : List Value} {w : ZW}
theorem Zo_istore0 {b : Option Value} {x : Int32} (hn : 0 < M.2.2.1) (hd : decode M.2.1 pc = .ok (.istore_n 0, 1)) (kk : Zo g M fin o k n (pc + 1) (some (.int x) :: l) st w) : Zo g M fin o k n pc (b :: l) (.int x :: st) w := Zo_istoreG 0 hd (Or.inr ⟨0, rfl, rfl, rfl⟩) hn (Or.inl rfl) kk
theorem Zo_iinc0  {x : Int32} {j : Int} (v : Int32) (hv : Int32.ofInt j = v) (hn : 0 < M.2.2.1) (hd : decode M.2.1 pc = .ok (.iinc 0 j, 3)) (kk : Zo g M fin o k n (pc + 3) (some (.int (x + v)) :: l) st w) : Zo g M fin o k n pc (some (.int x) :: l) st w := Zo_iincG 0 v hv hd rfl hn (Or.inl rfl) kk
theorem Zo_istore1 {a0 b : Option Value} {x : Int32} (hz : zNoL a0 = true) (hn : 1 < M.2.2.1) (hd : decode M.2.1 pc = .ok (.istore_n 1, 1)) (kk : Zo g M fin o k n (pc + 1) (a0 :: some (.int x) :: l) st w) : Zo g M fin o k n pc (a0 :: b :: l) (.int x :: st) w := Zo_istoreG 1 hd (Or.inr ⟨1, rfl, rfl, rfl⟩) hn (Or.inr fun u hu => by cases hu; exact hz) kk
theorem Zo_iinc1 {a0 : Option Value} {x : Int32} {j : Int} (hz : zNoL a0 = true) (v : Int32) (hv : Int32.ofInt j = v) (hn : 1 < M.2.2.1) (hd : decode M.2.1 pc = .ok (.iinc 1 j, 3)) (kk : Zo g M fin o k n (pc + 3) (a0 :: some (.int (x + v)) :: l) st w) : Zo g M fin o k n pc (a0 :: some (.int x) :: l) st w := Zo_iincG 1 v hv hd rfl hn (Or.inr fun u hu => by cases hu; exact hz) kk
theorem Zo_istore2 {a0 a1 b : Option Value} {x : Int32} (hz : zNoL a1 = true) (hn : 2 < M.2.2.1) (hd : decode M.2.1 pc = .ok (.istore_n 2, 1)) (kk : Zo g M fin o k n (pc + 1) (a0 :: a1 :: some (.int x) :: l) st w) : Zo g M fin o k n pc (a0 :: a1 :: b :: l) (.int x :: st) w := Zo_istoreG 2 hd (Or.inr ⟨2, rfl, rfl, rfl⟩) hn (Or.inr fun u hu => by cases hu; exact hz) kk
theorem Zo_iinc2 {a0 a1 : Option Value} {x : Int32} {j : Int} (hz : zNoL a1 = true) (v : Int32) (hv : Int32.ofInt j = v) (hn : 2 < M.2.2.1) (hd : decode M.2.1 pc = .ok (.iinc 2 j, 3)) (kk : Zo g M fin o k n (pc + 3) (a0 :: a1 :: some (.int (x + v)) :: l) st w) : Zo g M fin o k n pc (a0 :: a1 :: some (.int x) :: l) st w := Zo_iincG 2 v hv hd rfl hn (Or.inr fun u hu => by cases hu; exact hz) kk
theorem Zo_istore3 {a0 a1 a2 b : Option Value} {x : Int32} (hz : zNoL a2 = true) (hn : 3 < M.2.2.1) (hd : decode M.2.1 pc = .ok (.istore_n 3, 1)) (kk : Zo g M fin o k n (pc + 1) (a0 :: a1 :: a2 :: some (.int x) :: l) st w) : Zo g M fin o k n pc (a0 :: a1 :: a2 :: b :: l) (.int x :: st) w := Zo_istoreG 3 hd (Or.inr ⟨3, rfl, rfl, rfl⟩) hn (Or.inr fun u hu => by cases hu; exact hz) kk
theorem Zo_iinc3 {a0 a1 a2 : Option Value} {x : Int32} {j : Int} (hz : zNoL a2 = true) (v : Int32) (hv : Int32.ofInt j = v) (hn : 3 < M.2.2.1) (hd : decode M.2.1 pc = .ok (.iinc 3 j, 3)) (kk : Zo g M fin o k n (pc + 3) (a0 :: a1 :: a2 :: some (.int (x + v)) :: l) st w) : Zo g M fin o k n pc (a0 :: a1 :: a2 :: some (.int x) :: l) st w := Zo_iincG 3 v hv hd rfl hn (Or.inr fun u hu => by cases hu; exact hz) kk
theorem Zo_istore4 {a0 a1 a2 a3 b : Option Value} {x : Int32} (hz : zNoL a3 = true) (hn : 4 < M.2.2.1) (hd : decode M.2.1 pc = .ok (.istore 4, 2)) (kk : Zo g M fin o k n (pc + 2) (a0 :: a1 :: a2 :: a3 :: some (.int x) :: l) st w) : Zo g M fin o k n pc (a0 :: a1 :: a2 :: a3 :: b :: l) (.int x :: st) w := Zo_istoreG 4 hd (Or.inl ⟨rfl, rfl⟩) hn (Or.inr fun u hu => by cases hu; exact hz) kk
theorem Zo_iinc4 {a0 a1 a2 a3 : Option Value} {x : Int32} {j : Int} (hz : zNoL a3 = true) (v : Int32) (hv : Int32.ofInt j = v) (hn : 4 < M.2.2.1) (hd : decode M.2.1 pc = .ok (.iinc 4 j, 3)) (kk : Zo g M fin o k n (pc + 3) (a0 :: a1 :: a2 :: a3 :: some (.int (x + v)) :: l) st w) : Zo g M fin o k n pc (a0 :: a1 :: a2 :: a3 :: some (.int x) :: l) st w := Zo_iincG 4 v hv hd rfl hn (Or.inr fun u hu => by cases hu; exact hz) kk
theorem Zo_istore5 {a0 a1 a2 a3 a4 b : Option Value} {x : Int32} (hz : zNoL a4 = true) (hn : 5 < M.2.2.1) (hd : decode M.2.1 pc = .ok (.istore 5, 2)) (kk : Zo g M fin o k n (pc + 2) (a0 :: a1 :: a2 :: a3 :: a4 :: some (.int x) :: l) st w) : Zo g M fin o k n pc (a0 :: a1 :: a2 :: a3 :: a4 :: b :: l) (.int x :: st) w := Zo_istoreG 5 hd (Or.inl ⟨rfl, rfl⟩) hn (Or.inr fun u hu => by cases hu; exact hz) kk
theorem Zo_iinc5 {a0 a1 a2 a3 a4 : Option Value} {x : Int32} {j : Int} (hz : zNoL a4 = true) (v : Int32) (hv : Int32.ofInt j = v) (hn : 5 < M.2.2.1) (hd : decode M.2.1 pc = .ok (.iinc 5 j, 3)) (kk : Zo g M fin o k n (pc + 3) (a0 :: a1 :: a2 :: a3 :: a4 :: some (.int (x + v)) :: l) st w) : Zo g M fin o k n pc (a0 :: a1 :: a2 :: a3 :: a4 :: some (.int x) :: l) st w := Zo_iincG 5 v hv hd rfl hn (Or.inr fun u hu => by cases hu; exact hz) kk
theorem Zo_istore6 {a0 a1 a2 a3 a4 a5 b : Option Value} {x : Int32} (hz : zNoL a5 = true) (hn : 6 < M.2.2.1) (hd : decode M.2.1 pc = .ok (.istore 6, 2)) (kk : Zo g M fin o k n (pc + 2) (a0 :: a1 :: a2 :: a3 :: a4 :: a5 :: some (.int x) :: l) st w) : Zo g M fin o k n pc (a0 :: a1 :: a2 :: a3 :: a4 :: a5 :: b :: l) (.int x :: st) w := Zo_istoreG 6 hd (Or.inl ⟨rfl, rfl⟩) hn (Or.inr fun u hu => by cases hu; exact hz) kk
theorem Zo_iinc6 {a0 a1 a2 a3 a4 a5 : Option Value} {x : Int32} {j : Int} (hz : zNoL a5 = true) (v : Int32) (hv : Int32.ofInt j = v) (hn : 6 < M.2.2.1) (hd : decode M.2.1 pc = .ok (.iinc 6 j, 3)) (kk : Zo g M fin o k n (pc + 3) (a0 :: a1 :: a2 :: a3 :: a4 :: a5 :: some (.int (x + v)) :: l) st w) : Zo g M fin o k n pc (a0 :: a1 :: a2 :: a3 :: a4 :: a5 :: some (.int x) :: l) st w := Zo_iincG 6 v hv hd rfl hn (Or.inr fun u hu => by cases hu; exact hz) kk
theorem Zo_istore7 {a0 a1 a2 a3 a4 a5 a6 b : Option Value} {x : Int32} (hz : zNoL a6 = true) (hn : 7 < M.2.2.1) (hd : decode M.2.1 pc = .ok (.istore 7, 2)) (kk : Zo g M fin o k n (pc + 2) (a0 :: a1 :: a2 :: a3 :: a4 :: a5 :: a6 :: some (.int x) :: l) st w) : Zo g M fin o k n pc (a0 :: a1 :: a2 :: a3 :: a4 :: a5 :: a6 :: b :: l) (.int x :: st) w := Zo_istoreG 7 hd (Or.inl ⟨rfl, rfl⟩) hn (Or.inr fun u hu => by cases hu; exact hz) kk
theorem Zo_iinc7 {a0 a1 a2 a3 a4 a5 a6 : Option Value} {x : Int32} {j : Int} (hz : zNoL a6 = true) (v : Int32) (hv : Int32.ofInt j = v) (hn : 7 < M.2.2.1) (hd : decode M.2.1 pc = .ok (.iinc 7 j, 3)) (kk : Zo g M fin o k n (pc + 3) (a0 :: a1 :: a2 :: a3 :: a4 :: a5 :: a6 :: some (.int (x + v)) :: l) st w) : Zo g M fin o k n pc (a0 :: a1 :: a2 :: a3 :: a4 :: a5 :: a6 :: some (.int x) :: l) st w := Zo_iincG 7 v hv hd rfl hn (Or.inr fun u hu => by cases hu; exact hz) kk
theorem Zo_istore8 {a0 a1 a2 a3 a4 a5 a6 a7 b : Option Value} {x : Int32} (hz : zNoL a7 = true) (hn : 8 < M.2.2.1) (hd : decode M.2.1 pc = .ok (.istore 8, 2)) (kk : Zo g M fin o k n (pc + 2) (a0 :: a1 :: a2 :: a3 :: a4 :: a5 :: a6 :: a7 :: some (.int x) :: l) st w) : Zo g M fin o k n pc (a0 :: a1 :: a2 :: a3 :: a4 :: a5 :: a6 :: a7 :: b :: l) (.int x :: st) w := Zo_istoreG 8 hd (Or.inl ⟨rfl, rfl⟩) hn (Or.inr fun u hu => by cases hu; exact hz) kk
theorem Zo_iinc8 {a0 a1 a2 a3 a4 a5 a6 a7 : Option Value} {x : Int32} {j : Int} (hz : zNoL a7 = true) (v : Int32) (hv : Int32.ofInt j = v) (hn : 8 < M.2.2.1) (hd : decode M.2.1 pc = .ok (.iinc 8 j, 3)) (kk : Zo g M fin o k n (pc + 3) (a0 :: a1 :: a2 :: a3 :: a4 :: a5 :: a6 :: a7 :: some (.int (x + v)) :: l) st w) : Zo g M fin o k n pc (a0 :: a1 :: a2 :: a3 :: a4 :: a5 :: a6 :: a7 :: some (.int x) :: l) st w := Zo_iincG 8 v hv hd rfl hn (Or.inr fun u hu => by cases hu; exact hz) kk
theorem Zo_istore9 {a0 a1 a2 a3 a4 a5 a6 a7 a8 b : Option Value} {x : Int32} (hz : zNoL a8 = true) (hn : 9 < M.2.2.1) (hd : decode M.2.1 pc = .ok (.istore 9, 2)) (kk : Zo g M fin o k n (pc + 2) (a0 :: a1 :: a2 :: a3 :: a4 :: a5 :: a6 :: a7 :: a8 :: some (.int x) :: l) st w) : Zo g M fin o k n pc (a0 :: a1 :: a2 :: a3 :: a4 :: a5 :: a6 :: a7 :: a8 :: b :: l) (.int x :: st) w := Zo_istoreG 9 hd (Or.inl ⟨rfl, rfl⟩) hn (Or.inr fun u hu => by cases hu; exact hz) kk
theorem Zo_iinc9 {a0 a1 a2 a3 a4 a5 a6 a7 a8 : Option Value} {x : Int32} {j : Int} (hz : zNoL a8 = true) (v : Int32) (hv : Int32.ofInt j = v) (hn : 9 < M.2.2.1) (hd : decode M.2.1 pc = .ok (.iinc 9 j, 3)) (kk : Zo g M fin o k n (pc + 3) (a0 :: a1 :: a2 :: a3 :: a4 :: a5 :: a6 :: a7 :: a8 :: some (.int (x + v)) :: l) st w) : Zo g M fin o k n pc (a0 :: a1 :: a2 :: a3 :: a4 :: a5 :: a6 :: a7 :: a8 :: some (.int x) :: l) st w := Zo_iincG 9 v hv hd rfl hn (Or.inr fun u hu => by cases hu; exact hz) kk
theorem Zo_istore10 {a0 a1 a2 a3 a4 a5 a6 a7 a8 a9 b : Option Value} {x : Int32} (hz : zNoL a9 = true) (hn : 10 < M.2.2.1) (hd : decode M.2.1 pc = .ok (.istore 10, 2)) (kk : Zo g M fin o k n (pc + 2) (a0 :: a1 :: a2 :: a3 :: a4 :: a5 :: a6 :: a7 :: a8 :: a9 :: some (.int x) :: l) st w) : Zo g M fin o k n pc (a0 :: a1 :: a2 :: a3 :: a4 :: a5 :: a6 :: a7 :: a8 :: a9 :: b :: l) (.int x :: st) w := Zo_istoreG 10 hd (Or.inl ⟨rfl, rfl⟩) hn (Or.inr fun u hu => by cases hu; exact hz) kk
theorem Zo_iinc10 {a0 a1 a2 a3 a4 a5 a6 a7 a8 a9 : Option Value} {x : Int32} {j : Int} (hz : zNoL a9 = true) (v : Int32) (hv : Int32.ofInt j = v) (hn : 10 < M.2.2.1) (hd : decode M.2.1 pc = .ok (.iinc 10 j, 3)) (kk : Zo g M fin o k n (pc + 3) (a0 :: a1 :: a2 :: a3 :: a4 :: a5 :: a6 :: a7 :: a8 :: a9 :: some (.int (x + v)) :: l) st w) : Zo g M fin o k n pc (a0 :: a1 :: a2 :: a3 :: a4 :: a5 :: a6 :: a7 :: a8 :: a9 :: some (.int x) :: l) st w := Zo_iincG 10 v hv hd rfl hn (Or.inr fun u hu => by cases hu; exact hz) kk
theorem Zo_istore11 {a0 a1 a2 a3 a4 a5 a6 a7 a8 a9 a10 b : Option Value} {x : Int32} (hz : zNoL a10 = true) (hn : 11 < M.2.2.1) (hd : decode M.2.1 pc = .ok (.istore 11, 2)) (kk : Zo g M fin o k n (pc + 2) (a0 :: a1 :: a2 :: a3 :: a4 :: a5 :: a6 :: a7 :: a8 :: a9 :: a10 :: some (.int x) :: l) st w) : Zo g M fin o k n pc (a0 :: a1 :: a2 :: a3 :: a4 :: a5 :: a6 :: a7 :: a8 :: a9 :: a10 :: b :: l) (.int x :: st) w := Zo_istoreG 11 hd (Or.inl ⟨rfl, rfl⟩) hn (Or.inr fun u hu => by cases hu; exact hz) kk
theorem Zo_iinc11 {a0 a1 a2 a3 a4 a5 a6 a7 a8 a9 a10 : Option Value} {x : Int32} {j : Int} (hz : zNoL a10 = true) (v : Int32) (hv : Int32.ofInt j = v) (hn : 11 < M.2.2.1) (hd : decode M.2.1 pc = .ok (.iinc 11 j, 3)) (kk : Zo g M fin o k n (pc + 3) (a0 :: a1 :: a2 :: a3 :: a4 :: a5 :: a6 :: a7 :: a8 :: a9 :: a10 :: some (.int (x + v)) :: l) st w) : Zo g M fin o k n pc (a0 :: a1 :: a2 :: a3 :: a4 :: a5 :: a6 :: a7 :: a8 :: a9 :: a10 :: some (.int x) :: l) st w := Zo_iincG 11 v hv hd rfl hn (Or.inr fun u hu => by cases hu; exact hz) kk
theorem Zo_istore12 {a0 a1 a2 a3 a4 a5 a6 a7 a8 a9 a10 a11 b : Option Value} {x : Int32} (hz : zNoL a11 = true) (hn : 12 < M.2.2.1) (hd : decode M.2.1 pc = .ok (.istore 12, 2)) (kk : Zo g M fin o k n (pc + 2) (a0 :: a1 :: a2 :: a3 :: a4 :: a5 :: a6 :: a7 :: a8 :: a9 :: a10 :: a11 :: some (.int x) :: l) st w) : Zo g M fin o k n pc (a0 :: a1 :: a2 :: a3 :: a4 :: a5 :: a6 :: a7 :: a8 :: a9 :: a10 :: a11 :: b :: l) (.int x :: st) w := Zo_istoreG 12 hd (Or.inl ⟨rfl, rfl⟩) hn (Or.inr fun u hu => by cases hu; exact hz) kk
theorem Zo_iinc12 {a0 a1 a2 a3 a4 a5 a6 a7 a8 a9 a10 a11 : Option Value} {x : Int32} {j : Int} (hz : zNoL a11 = true) (v : Int32) (hv : Int32.ofInt j = v) (hn : 12 < M.2.2.1) (hd : decode M.2.1 pc = .ok (.iinc 12 j, 3)) (kk : Zo g M fin o k n (pc + 3) (a0 :: a1 :: a2 :: a3 :: a4 :: a5 :: a6 :: a7 :: a8 :: a9 :: a10 :: a11 :: some (.int (x + v)) :: l) st w) : Zo g M fin o k n pc (a0 :: a1 :: a2 :: a3 :: a4 :: a5 :: a6 :: a7 :: a8 :: a9 :: a10 :: a11 :: some (.int x) :: l) st w := Zo_iincG 12 v hv hd rfl hn (Or.inr fun u hu => by cases hu; exact hz) kk
theorem Zo_istore13 {a0 a1 a2 a3 a4 a5 a6 a7 a8 a9 a10 a11 a12 b : Option Value} {x : Int32} (hz : zNoL a12 = true) (hn : 13 < M.2.2.1) (hd : decode M.2.1 pc = .ok (.istore 13, 2)) (kk : Zo g M fin o k n (pc + 2) (a0 :: a1 :: a2 :: a3 :: a4 :: a5 :: a6 :: a7 :: a8 :: a9 :: a10 :: a11 :: a12 :: some (.int x) :: l) st w) : Zo g M fin o k n pc (a0 :: a1 :: a2 :: a3 :: a4 :: a5 :: a6 :: a7 :: a8 :: a9 :: a10 :: a11 :: a12 :: b :: l) (.int x :: st) w := Zo_istoreG 13 hd (Or.inl ⟨rfl, rfl⟩) hn (Or.inr fun u hu => by cases hu; exact hz) kk
theorem Zo_iinc13 {a0 a1 a2 a3 a4 a5 a6 a7 a8 a9 a10 a11 a12 : Option Value} {x : Int32} {j : Int} (hz : zNoL a12 = true) (v : Int32) (hv : Int32.ofInt j = v) (hn : 13 < M.2.2.1) (hd : decode M.2.1 pc = .ok (.iinc 13 j, 3)) (kk : Zo g M fin o k n (pc + 3) (a0 :: a1 :: a2 :: a3 :: a4 :: a5 :: a6 :: a7 :: a8 :: a9 :: a10 :: a11 :: a12 :: some (.int (x + v)) :: l) st w) : Zo g M fin o k n pc (a0 :: a1 :: a2 :: a3 :: a4 :: a5 :: a6 :: a7 :: a8 :: a9 :: a10 :: a11 :: a12 :: some (.int x) :: l) st w := Zo_iincG 13 v hv hd rfl hn (Or.inr fun u hu => by cases hu; exact hz) kk
end ZLOC
