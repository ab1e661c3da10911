/-! new long[6][60], straight from what the machine does: the row of rows, then six rows, each put in its place. -/
def zOut (c h0 i : Nat) : Cell := arrV c 6 (fun j => if j < i then .ref (h0 + 1 + j) else .null)
def zInn (c : Nat) : Cell := arrV c 60 (fun _ => .long 0)
/-- the state when i rows stand in their places -/
def zRowed (s : State) (c c1 : Nat) : Nat → State
  | 0 => s.pushCell (zOut c s.heap.size 0)
  | i + 1 => ((zRowed s c c1 i).pushCell (zInn c1)).setCell s.heap.size (zOut c s.heap.size (i + 1))
theorem zOut_next (c h0 i : Nat) : (zOut c h0 i).setSlot i (.ref (h0 + 1 + i)) = zOut c h0 (i + 1) := by
  unfold zOut
  rw [arrV_store]
  congr 1
  funext j
  unfold updV
  by_cases h : j = i
  · subst h
    rw [if_pos rfl, if_pos (Nat.lt_succ_self _)]
  · rw [if_neg h]
    show (if j < i then Value.ref (h0 + 1 + j) else Value.null) = if j < i + 1 then Value.ref (h0 + 1 + j) else Value.null
    by_cases h2 : j < i
    · rw [if_pos h2, if_pos (by omega)]
    · rw [if_neg h2, if_neg (by omega)]
theorem zOut_size (c h0 i : Nat) : (zOut c h0 i).slots.size = 6 := arrV_size _ _ _
theorem zInn_size (c : Nat) : (zInn c).slots.size = 60 := arrV_size _ _ _
theorem zRowed_all (s : State) (c c1 : Nat) : ∀ i, (zRowed s c c1 i).heap.size = s.heap.size + 1 + i ∧ (zRowed s c c1 i).heap[s.heap.size]? = some (zOut c s.heap.size i) ∧ (zRowed s c c1 i).vm = s.vm ∧ (zRowed s c c1 i).slotsUsed = s.slotsUsed + 6 + i * 60 ∧
    (∀ q, q < s.heap.size → (zRowed s c c1 i).heap[q]? = s.heap[q]?) ∧ ∀ j, j < i → (zRowed s c c1 i).heap[s.heap.size + 1 + j]? = some (zInn c1)
  | 0 => by
    refine ⟨by simp [zRowed], by simp [zRowed], rfl, by simp [zRowed, zOut_size], fun q hq => State.heap_pushCell_of_lt _ _ hq, fun j h => absurd h (Nat.not_lt_zero _)⟩
  | i + 1 => by
    obtain ⟨h1, h2, h3, h4, h5, h6⟩ := zRowed_all s c c1 i
    have hlt : s.heap.size < (zRowed s c c1 i).heap.size := by omega
    have hb : ((zRowed s c c1 i).pushCell (zInn c1)).heap[s.heap.size]? = some (zOut c s.heap.size i) := by rw [State.heap_pushCell_of_lt (h := hlt)]; exact h2
    refine ⟨?_, State.heap_setCell_self hb, by simp [zRowed, h3], ?_, fun q hq => ?_, fun j hj => ?_⟩
    · simp [zRowed, State.setCell, h1]; omega
    · simp [zRowed, h4, zInn_size]; omega
    · show (((zRowed s c c1 i).pushCell (zInn c1)).setCell s.heap.size _).heap[q]? = _
      have hq' : q < (zRowed s c c1 i).heap.size := by omega
      rw [State.heap_setCell_other (Nat.ne_of_gt hq), State.heap_pushCell_of_lt (h := hq')]
      exact h5 q hq
    · show (((zRowed s c c1 i).pushCell (zInn c1)).setCell s.heap.size _).heap[s.heap.size + 1 + j]? = _
      rw [State.heap_setCell_other (show s.heap.size ≠ s.heap.size + 1 + j by omega)]
      rcases Nat.lt_or_ge j i with h | h
      · have hq' : s.heap.size + 1 + j < (zRowed s c c1 i).heap.size := by omega
        rw [State.heap_pushCell_of_lt (h := hq')]
        exact h6 j h
      · have : j = i := by omega
        subst this
        rw [← h1]
        exact State.heap_pushCell_size _ _
theorem zRowed_top (s : State) (f : JFrame) (c c1 : Nat) : ∀ i, zRowed (s.setTop f) c c1 i = (zRowed s c c1 i).setTop f
  | 0 => rfl
  | i + 1 => by simp only [zRowed, zRowed_top s f c c1 i, State.heap_setTop, State.pushCell_setTop, State.setCell_setTop]
section ZMULTI
variable {E : CtlPost} {e : Env} {d : Bool} {acts : List Action} {s : State}
/-- one row of N, of ints, longs or references, all as its class has them at first -/
theorem wp_row {c comp : ClassId} {k : Class} {ty : FieldType} {len : Nat} {v0 : Value} (hk : s.vm.classes[c]? = some k) (hkind : k.kind = .array comp ty) (hl : ¬ len > e.platform.arrayLengthLimit) (hh : ¬ len * componentBytes ty > e.platform.maxHeapBytes) (hfit : fits ty v0 = true) (hdef : v0.isDefault = true) {Q : Addr → Pre}
    (h1 : s.heap.size < e.platform.maxCells) (h2 : s.slotsUsed + len ≤ e.platform.maxSlots) (hq : Q s.heap.size d acts (s.pushCell (arrV c len fun _ => v0))) : wp (Jvm.newArray c len v0) Q E e d acts s := by
  have hfits : ∀ (i : Nat) (v : Value), (Array.replicate len v0)[i]? = some v → s.fitsSlot c .none i v = true := by
    intro i v hv
    rw [Array.getElem?_replicate] at hv
    split at hv
    · cases hv
      simp [State.fitsSlot, State.slotType?, hk, hkind, hfit]
    · cases hv
  have hda : allocActs (Array.replicate len v0) s.heap.size acts = acts := by
    unfold allocActs
    rw [if_pos]
    rw [Array.all_replicate]
    split <;> simp [hdef]
  rw [← arrV_new] at hq
  simp only [Jvm.newArray, Jvm.arrayFits, wp_bind', Jvm.W.ask, Jvm.W.ite, hl, if_false, wp_pure', Jvm.W.theClass, hk, hkind, hh, Jvm.W.alloc, Jvm.W.stop, Option.some.injEq, exists_eq_left', Array.size_replicate, hda]
  rw [if_neg (by omega)]
  exact ⟨h1, h2, hfits, hq⟩
theorem wp_rows {c c1 cc : ClassId} {k k1 : Class} (hk : s.vm.classes[c]? = some k) (hkind : k.kind = .array c1 (.array .long)) (hk1 : s.vm.classes[c1]? = some k1) (hkind1 : k1.kind = .array cc .long)
    (hl : ¬ 60 > e.platform.arrayLengthLimit) (hh : ¬ 480 > e.platform.maxHeapBytes) (hc : s.heap.size + 7 ≤ e.platform.maxCells) (hs : s.slotsUsed + 366 ≤ e.platform.maxSlots) {Q : Addr → Pre} (hq : ∀ d' acts', Q s.heap.size d' acts' (zRowed s c c1 6)) :
    wp (multianewarray.make c [6, 60]) Q E e d acts s := by
  have e6 : (6 : Int32).toNatClampNeg = 6 := by decide
  have e60 : (60 : Int32).toNatClampNeg = 60 := by decide
  have n6 : ¬ (6 : Int32) < 0 := by decide
  have n60 : ¬ (60 : Int32) < 0 := by decide
  rw [multianewarray.make]
  simp only [wp_bind', Jvm.W.ite, n6, if_false, wp_pure', Jvm.W.theClass, hk, hkind, Option.some.injEq, exists_eq_left', e6]
  refine wp_row hk hkind (by omega) (by show ¬ 24 > _; omega) rfl rfl (by omega) (by omega) ?_
  have hz : (arrV c 6 fun _ => Value.null) = zOut c s.heap.size 0 := by
    unfold zOut
    congr 1
  rw [hz]
  have h06 : ((6 : Int32) == 0) = false := by decide
  simp only [h06]
  simp only [Bool.false_eq_true, if_false, wp_bind', wp_pure', Jvm.W.ite]
  rw [Std.Legacy.Range.forIn_eq_forIn_range']
  have hsz : ([:6] : Std.Legacy.Range).size = 6 := by decide
  rw [hsz]
  show wp (forIn (List.range' 0 6 1) PUnit.unit _) _ E e _ _ _
  refine wp_forIn_inv (fun rest s' => ∃ i, i ≤ 6 ∧ rest = List.range' i (6 - i) ∧ s' = zRowed s c c1 i) _ _ ⟨0, by omega, rfl, rfl⟩ ?_ ?_
  · rintro x rest s' d' acts' Q' ⟨i, hi, hl', rfl⟩ hnext
    have hlt : i < 6 := by
      rcases Nat.lt_or_ge i 6 with h | h
      · exact h
      · rw [show 6 - i = 0 by omega] at hl'
        simp at hl'
    rw [show 6 - i = (6 - (i + 1)) + 1 by omega, List.range'_succ] at hl'
    obtain ⟨rfl, hrest⟩ := List.cons.inj hl'
    obtain ⟨f1, f2, f3, f4, f5, f6⟩ := zRowed_all s c c1 x
    simp only [wp_bind']
    rw [multianewarray.make]
    simp only [wp_bind', Jvm.W.ite, n60, if_false, wp_pure', Jvm.W.theClass, f3, hk1, hkind1, Option.some.injEq, exists_eq_left', e60]
    refine wp_row (by rw [f3]; exact hk1) hkind1 hl (by show ¬ 480 > _; exact hh) rfl rfl (by omega) (by omega) ?_
    have hlt0 : s.heap.size < (zRowed s c c1 x).heap.size := by omega
    simp only [wp_bind', Jvm.W.writeLoc, wp_pure']
    refine ⟨zOut c s.heap.size x, by rw [State.heap_pushCell_of_lt (h := hlt0)]; exact f2, (fun h => by cases h), by rw [zOut_size]; exact hlt, ?_, hnext _ _ _ ⟨x + 1, hlt, hrest, ?_⟩⟩
    · have e1 : ((zRowed s c c1 x).pushCell (arrV c1 60 fun _ => defaultValue .long)).vm = s.vm := f3
      simp [State.fitsSlot, State.slotType?, e1, f3, zOut, arrV, hk, hkind]
      rfl
    · rw [f1]
      show ((zRowed s c c1 x).pushCell (zInn c1)).setCell s.heap.size ((zOut c s.heap.size x).setSlot x (.ref (s.heap.size + 1 + x))) = _
      rw [zOut_next]
      rfl
  · rintro s' d' acts' ⟨i, hi, hl', rfl⟩
    have hi6 : i = 6 := by
      rcases Nat.lt_or_ge i 6 with h | h
      · rw [show 6 - i = (6 - (i + 1)) + 1 by omega, List.range'_succ] at hl'
        cases hl'
      · omega
    subst hi6
    simp only [wp_pure']
    exact hq _ _
end ZMULTI
theorem zs_mcl : Cond.classLink "PaidElsewhere$Shelves" 21 "[[J" ∈ lw_tbl := List.mem_of_getElem? (i := 318) (by decide +kernel)
section ZMULTI2
variable {p : Program} {l : Launch} {e : Env} {R : Room} {s : State} {m : MethodId} {args : Array Value} {below : List Frame} {meth : Method} {c : Code} {T : State} {locs : List Loc} {cells slots : Nat}
theorem zRowed_stand (X : Stand p l e R s m args below meth c T locs cells slots) (c0 c1 : ClassId) : ∀ i, Stand p l e R s m args below meth c (zRowed T c0 c1 i) (locs ++ (List.range i).map fun j => ⟨T.heap.size, j⟩) (cells + 1 + i) (slots + 6 + i * 60)
  | 0 => by
    have h := X.pushed (zOut c0 T.heap.size 0)
    rw [zOut_size] at h
    simpa [zRowed] using h
  | i + 1 => by
    have Xi := zRowed_stand X c0 c1 i
    obtain ⟨f1, f2, f3, f4, -, -⟩ := zRowed_all T c0 c1 i
    have hcell : ((zRowed T c0 c1 i).pushCell (zInn c1)).heap[T.heap.size]? = some (zOut c0 T.heap.size i) := by
      have hq' : T.heap.size < (zRowed T c0 c1 i).heap.size := by omega
      rw [State.heap_pushCell_of_lt (h := hq')]
      exact f2
    have h := (Xi.pushed (zInn c1)).stored hcell i (.ref (T.heap.size + 1 + i))
    rw [zInn_size, zOut_next] at h
    have e2 : (locs ++ (List.range (i + 1)).map fun j => (⟨T.heap.size, j⟩ : Loc)) = (locs ++ (List.range i).map fun j => (⟨T.heap.size, j⟩ : Loc)) ++ [⟨T.heap.size, i⟩] := by
      rw [List.range_succ, List.map_append, List.append_assoc]
      rfl
    have e3 : slots + 6 + (i + 1) * 60 = slots + 6 + i * 60 + 60 := by omega
    rw [e2, e3]
    exact h
theorem zMulti_step (X : Stand p l e R s m args below meth c T locs cells slots) (hexec : p.tables.exec = Jvm.exec) {own : String} {index cQ cJ : Nat} {kA k1 : Class} {cc : ClassId} (hown : s.vm.findClass own = some m.cls) (hclink : (Cond.classLink own index "[[J").before args s = true) (hQ : s.vm.findClass "[[J" = some cQ)
    (hkA : s.vm.classes[cQ]? = some kA) (hkindA : kA.kind = .array cJ (.array .long)) (hk1 : s.vm.classes[cJ]? = some k1) (hkind1 : k1.kind = .array cc .long)
    {g : JFrame} (hg : g.method = m) (hdg : decode c.code g.pc = .ok (.multianewarray index 2, 4)) {rest : List Value} (hstack : g.stack = .int 60 :: .int 6 :: rest) (hcells : cells + 7 ≤ R.cells) (hslots : slots + 366 ≤ R.slots) :
    ∃ vm₁ : Vm, Stand p l e R s m args below meth c (zRowed (T.setVm vm₁) cQ cJ 6) locs (cells + 7) (slots + 366) ∧ ∀ target, Steps p.tables e below ((zRowed (T.setVm vm₁) cQ cJ 6).setTop { g with pc := g.pc + 4, stack := .ref T.heap.size :: rest }) target → Steps p.tables e below (T.setTop g) target := by
  subst hg
  have hpl : e.platform.magicAccessors = ({} : Platform).magicAccessors := by rw [X.admits.platform]
  obtain ⟨c0, hfc0, hcl⟩ := Cond.classLink_spec hown hclink e.platform hpl
  cases hQ.symm.trans hfc0
  obtain ⟨hg₁, hwarm₁, hready₁⟩ := State.classEntry (e := e) X.warmed hcl
  generalize T.vm.noted g.method.cls index (.cls cQ) = vm₁ at hg₁ hwarm₁ hready₁
  have hal : s.vm.Alike vm₁ := hwarm₁.alike
  obtain ⟨kA₁, hkA₁, heA⟩ := hal.2.2 _ _ hkA
  obtain ⟨kC₁, hkC₁, heC⟩ := hal.2.2 _ _ hk1
  have hkindA₁ : kA₁.kind = .array cJ (.array .long) := by rw [heA]; exact hkindA
  have hkindC₁ : kC₁.kind = .array cc .long := by rw [heC]; exact hkind1
  have X₁ := X.noted hwarm₁
  obtain ⟨hr1, hr2⟩ := X.roomAbove hcells hslots
  have XF := zRowed_stand X₁ cQ cJ 6
  refine ⟨vm₁, ?_, fun target hrest => ?_⟩
  · refine Stand.dropFresh (J := (List.range 6).map fun j => ⟨(T.setVm vm₁).heap.size, j⟩) XF (fun x hx => ?_)
    obtain ⟨j, -, rfl⟩ := List.mem_map.mp hx
    exact X.heapGrown
  · have hl : ¬ 60 > e.platform.arrayLengthLimit := by rw [Launch.admits_arrayLengthLimit X.admits]; omega
    have hh : ¬ 480 > e.platform.maxHeapBytes := by rw [Launch.admits_maxHeapBytes X.admits]; omega
    jvm_step X.here [hexec, hdg]
    simp only [multianewarray.sem, wp_bind', Jvm.W.resolveClassAt_links (State.method?_setTop g X.here.top) hg₁]
    rw [Jvm.W.popN, if_neg (by decide)]
    refine ⟨g, State.topJava?_setTop' (s := T.setVm vm₁) g X.here.top, [.int 6, .int 60], rest, rfl, hstack, ?_⟩
    simp only [List.mapM_cons, List.mapM_nil, wp_bind', wp_pure']
    refine wp_rows (k := kA₁) (k1 := kC₁) (c1 := cJ) (cc := cc) hkA₁ hkindA₁ hkC₁ hkindC₁ hl hh (by show T.heap.size + 7 ≤ _; omega) (by show T.slotsUsed + 366 ≤ _; omega) (fun d' acts' => ?_)
    have eS : ((T.setTop g).setVm vm₁).setTop { g with stack := rest } = (T.setVm vm₁).setTop { g with stack := rest } := by
      show ((T.setVm vm₁).setTop g).setTop _ = _
      rw [State.setTop_setTop]
    rw [eS, zRowed_top]
    simp only [wp_bind', Jvm.W.mark, Jvm.W.pushRef, State.topJava?_setTop' _ XF.here.top, Option.some.injEq, exists_eq_left', State.setTop_setTop, State.heap_setTop]
    intro acts
    simp [jvm, XF.here.top]
    exact hrest
end ZMULTI2
/-- new long[6][60] at the place 55 -/
def zMna (R : ZRf) : ZRf := fun a b => if a = 55 ∧ b < 6 then some (56 + b) else R a b
theorem zFr_mna {R : ZRf} {σ : ZSt} (hz : zFr 55 R σ) : zFr 62 (zMna R) σ := fun k hk f => by
  obtain ⟨h1, h2, h3⟩ := hz k (by omega) f
  refine ⟨h1, h2, ?_⟩
  unfold zMna
  rw [if_neg (by omega)]
  exact h3
theorem Zo_mna {α : Type} {g : ZG} {M : ZM} {fin : α → Option Value × ZW} {o : Option α} {k n pc : Nat} {l : List (Option Value)} {st : List Value} {R : ZRf} {σ : ZSt} (hz : zFr 55 R σ) (hR : k + 7 ≤ M.2.2.2.2.1.cells ∧ n + 366 ≤ M.2.2.2.2.1.slots) (hd : decode M.2.1 pc = .ok (.multianewarray 21 2, 4)) (kk : Zo g M fin o (k + 7) (n + 366) (pc + 4) l (.ref 55 :: st) (62, zMna R, σ)) (ho : M.1.cls = "PaidElsewhere$Shelves" := by rfl) : Zo g M fin o k n pc l (.int 60 :: .int 6 :: st) (55, R, σ) := by
  intro b hb p lc e s m args below meth c H locs ls F S Wd L
  obtain ⟨hx, hbc, -, -, hown, -, -, hb0, htb, hK, ⟨-, -, -, -, -, kA, a1, a2⟩⟩ := id F
  obtain ⟨-, k1, e1, cc, e2⟩ := (hK.2 1 _ rfl).1 0 (fun _ => .null)
  intro T hT X
  obtain ⟨vm₁, XF, step⟩ := zMulti_step X hx (own := "PaidElsewhere$Shelves") (index := 21) (ho ▸ hown) (htb _ zs_mcl rfl _) (hK.2 2 _ rfl).2 a1 a2 e1 e2 (g := F0 m pc ls (.int 60 :: .int 6 :: st.map (zV g))) rfl (by rw [hbc]; exact hd) rfl hR.1 hR.2
  have hTs : T.heap.size = g.1 + 55 := by rw [hT]; exact Wd.1 (show (55 : Nat) < zN by decide)
  obtain ⟨f1, f2, -, -, f5, f6⟩ := zRowed_all (T.setVm vm₁) (g.2.2.1 2) (g.2.2.1 1) 6
  have hTv : (T.setVm vm₁).heap = H := hT
  have hHs : H.size = g.1 + 55 := Wd.1 (show (55 : Nat) < zN by decide)
  rw [hTv] at f1 f2 f5 f6
  generalize hF1 : zRowed (T.setVm vm₁) (g.2.2.1 2) (g.2.2.1 1) 6 = T1 at XF step f1 f2 f5 f6
  have hS1 : va_S (zA g) s.heap T1.heap locs := ⟨by have := S.1; omega, fun q h1 h2 => (f5 q (by have := S.1; omega)).trans (S.2.1 q h1 h2), S.2.2⟩
  have hW1 : zWd g (62, zMna R, σ) T1.heap := by
    refine ⟨fun _ => by
      rw [f1, hHs]
      show g.1 + 55 + 1 + 6 = g.1 + 62
      omega, fun j q hq => ?_⟩
    have hj : j < 62 := by
      have := (List.getElem?_eq_some_iff.mp hq).1
      rwa [zL_len] at this
    rw [zL_at (w := (62, zMna R, σ)) hj] at hq
    cases hq
    rcases Nat.lt_or_ge j 55 with h | h
    · have hc : zCell g (zMna R) σ j (zKd j) = zCell g R σ j (zKd j) := zCell_o rfl rfl (by
        funext f
        show (if j = 55 ∧ f < 6 then _ else _) = _
        rw [if_neg (by omega)])
      show va_at _ _ (g.1 + j, zCell g (zMna R) σ j (zKd j)) _
      rw [hc]
      exact (Wd.2 j _ (zL_at (w := (55, R, σ)) h)).kept (f5 _ (by rw [hHs]; show g.1 + j < _; omega))
    · by_cases h55 : j = 55
      · subst h55
        show T1.heap[g.1 + 55]? = some (arrV (g.2.2.1 2) 6 (fun i => va_rf ((zMna R 55 i).map (zAd g))))
        rw [← hHs, f2]
        unfold zOut
        congr 2
        funext i
        show (if i < 6 then Value.ref (H.size + 1 + i) else Value.null) = va_rf (((if 55 = 55 ∧ i < 6 then some (56 + i) else R 55 i)).map (zAd g))
        by_cases hi : i < 6
        · rw [if_pos hi, if_pos ⟨rfl, hi⟩]
          show _ = Value.ref (zAd g (56 + i))
          unfold zAd
          rw [if_pos (by omega), hHs, show g.1 + 55 + 1 + i = g.1 + (56 + i) by omega]
        · rw [if_neg hi, if_neg (fun q => hi q.2), (hz 55 (Nat.le_refl _) i).2.2]
          rfl
      · have hkd : zKd j = (2, 60) := by
          rcases (show j = 56 ∨ j = 57 ∨ j = 58 ∨ j = 59 ∨ j = 60 ∨ j = 61 by omega) with rfl | rfl | rfl | rfl | rfl | rfl <;> rfl
        show va_at _ _ (g.1 + j, zCell g (zMna R) σ j (zKd j)) _
        rw [hkd]
        show T1.heap[g.1 + j]? = some (arrV (g.2.2.1 1) 60 (fun i => .long (σ.2 j i)))
        have := f6 (j - 56) (by omega)
        rw [show H.size + 1 + (j - 56) = g.1 + j by omega] at this
        rw [this]
        unfold zInn
        congr 2
        funext i
        rw [(hz j (by omega) i).2.1]
  obtain ⟨t, b1, b2⟩ := kk b hb p lc e s m args below meth c T1.heap locs ls F hS1 hW1 L T1 rfl XF
  refine ⟨t, step t ?_, b2⟩
  have e9 : Value.ref T.heap.size = zV g (.ref 55) := by
    show _ = Value.ref (zAd g 55)
    unfold zAd
    rw [if_pos (by omega), hTs]
  rw [e9]
  exact b1
