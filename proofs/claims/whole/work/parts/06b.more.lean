theorem zs_fval : Cond.fieldLink "java/lang/String" 9 "java/lang/String" "value" "[B" ∈ lw_tbl := List.mem_of_getElem? (i := 1723) (by decide +kernel)
theorem zs_fcod : Cond.fieldLink "java/lang/String" 15 "java/lang/String" "coder" "B" ∈ lw_tbl := List.mem_of_getElem? (i := 1722) (by decide +kernel)
theorem zs_fcs : Cond.fieldLink "java/lang/String" 38 "java/lang/String" "COMPACT_STRINGS" "Z" ∈ lw_tbl := List.mem_of_getElem? (i := 681) (by decide +kernel)
theorem zs_acl : Cond.methodLink "PaidElsewhere$Shelves" 47 arraycopyName ∈ lw_tbl := List.mem_of_getElem? (i := 1167) (by decide +kernel)
theorem zs_acn : Cond.native arraycopyName ∈ lw_tbl := List.mem_of_getElem? (i := 1169) (by decide +kernel)
theorem zs_acs : Cond.static arraycopyName ∈ lw_tbl := List.mem_of_getElem? (i := 1168) (by decide +kernel)
theorem zs_aci : Cond.initialized "java/lang/System" ∈ lw_tbl := List.mem_of_getElem? (i := 97) (by decide +kernel)
def zAllNe (k : Int) : List (Int × Int) → Prop
  | [] => True
  | (a, _) :: r => k ≠ a ∧ zAllNe k r
theorem zlsw_out {d k : Int} : ∀ {l : List (Int × Int)}, zAllNe k l → Op.lookupswitch.offset l d k = d
  | [], _ => rfl
  | (a, b) :: r, h => by
    rw [Op.lookupswitch.offset_cons, if_neg (fun e => h.1 e.symm)]
    exact zlsw_out h.2
/-- rows of longs moved -/
def zCpOk (i j n : Int32) : Bool := decide (0 ≤ i.toInt ∧ 0 ≤ j.toInt ∧ 0 ≤ n.toInt ∧ i.toInt + n.toInt ≤ 60 ∧ j.toInt + n.toInt ≤ 60)
def zCp (σ : ZSt) (a : Nat) (i : Int32) (b : Nat) (j n : Int32) : ZSt := (σ.1, fun c e => if c = b then va_cpy (σ.2 a) (σ.2 b) i.toNatClampNeg j.toNatClampNeg n.toNatClampNeg e else σ.2 c e)
def zLkW (own : String) (idx : Nat) (y : MethodName) (cc : ByteArray) (nL : Nat) (ret : Option FieldType) (n : Nat) : Prop :=
  zLk own idx y cc nL ret n ∧ Cond.instanceMethod y ∈ lw_tbl ∧ Cond.selects y.cls y y ∈ lw_tbl
section ZSTR
variable {α β : Type} {g : ZG} {M : ZM} {fin : α → Option Value × ZW} {o : Option α} {k n pc : Nat} {l : List (Option Value)} {st : List Value} {w : ZW} {σ : ZSt}
theorem Zo_ldcS (hd : decode M.2.1 pc = .ok (.ldc 64, 2)) (kk : Zo g M fin o k n (pc + 2) l (.ref 100002 :: st) w) (ho : M.1.cls = "PaidElsewhere$LawReader" := by rfl) : Zo g M fin o k n pc l st w := by
  intro b hb p lc e s m args below meth c H locs ls F S Wd L
  obtain ⟨hx, hbc, -, -, hown, -, -, -, htb, hK, ⟨-, -, ⟨c1, c2, c3, c4, c5, c6⟩, -⟩⟩ := id F
  exact va_ldcS hx hbc (ho ▸ hown) c1 hd (kk b hb p lc e s m args below meth c H locs ls F S Wd L)
theorem Zo_gsval (hd : decode M.2.1 pc = .ok (.getfield 9, 3)) (kk : Zo g M fin o k n (pc + 3) l (.ref 100003 :: st) w) (ho : M.1.cls = "java/lang/String" := by rfl) : Zo g M fin o k n pc l (.ref 100002 :: st) w := by
  intro b hb p lc e s m args below meth c H locs ls F S Wd L
  obtain ⟨hx, hbc, -, -, hown, -, -, -, htb, hK, ⟨-, -, ⟨c1, c2, c3, c4, c5, c6⟩, -⟩⟩ := id F
  exact vk_getf hx hbc c3 S (ho ▸ hown) (htb _ zs_fval rfl _) (fun _ h => h) hd (kk b hb p lc e s m args below meth c H locs ls F S Wd L)
theorem Zo_gscod (hd : decode M.2.1 pc = .ok (.getfield 15, 3)) (kk : Zo g M fin o k n (pc + 3) l (.int (0 : Int32) :: st) w) (ho : M.1.cls = "java/lang/String" := by rfl) : Zo g M fin o k n pc l (.ref 100002 :: st) w := by
  intro b hb p lc e s m args below meth c H locs ls F S Wd L
  obtain ⟨hx, hbc, -, -, hown, -, -, -, htb, hK, ⟨-, -, ⟨c1, c2, c3, c4, c5, c6⟩, -⟩⟩ := id F
  exact vk_getf hx hbc c4 S (ho ▸ hown) (htb _ zs_fcod rfl _) (fun _ h => h) hd (kk b hb p lc e s m args below meth c H locs ls F S Wd L)
theorem Zo_gscs (hd : decode M.2.1 pc = .ok (.getstatic 38, 3)) (kk : Zo g M fin o k n (pc + 3) l (.int (1 : Int32) :: st) w) (ho : M.1.cls = "java/lang/String" := by rfl) : Zo g M fin o k n pc l st w := by
  intro b hb p lc e s m args below meth c H locs ls F S Wd L
  obtain ⟨hx, hbc, -, -, hown, -, -, -, htb, hK, ⟨-, -, ⟨c1, c2, c3, c4, c5, c6⟩, -⟩⟩ := id F
  exact va_gets hx hbc c6 S (ho ▸ hown) (htb _ zs_fcs rfl _) (fun _ h => h) hd (kk b hb p lc e s m args below meth c H locs ls F S Wd L)
theorem Zo_tbT {i : Int32} {K : Int32 → Option α} (hd : decode M.2.1 pc = .ok (.baload, 1)) (kk : ∀ v, Zo g M fin (K v) k n (pc + 1) l (.int v :: st) w) : Zo g M fin (zLd (zIn i 8) (zTXT i.toNatClampNeg) K) k n pc l (.int i :: .ref 100003 :: st) w := by
  refine Zo_ld fun hi b hb p lc e s m args below meth c H locs ls F S Wd L => ?_
  obtain ⟨hx, hbc, -, -, hown, -, -, -, htb, hK, ⟨-, -, ⟨c1, c2, c3, c4, c5, c6⟩, -⟩⟩ := id F
  exact va_tb hx hbc c5 S (zIn_vp hi) rfl hd (kk _ b hb p lc e s m args below meth c H locs ls F S Wd L)
theorem Zo_tlenT (hd : decode M.2.1 pc = .ok (.arraylength, 1)) (kk : Zo g M fin o k n (pc + 1) l (.int (8 : Int32) :: st) w) : Zo g M fin o k n pc l (.ref 100003 :: st) w := by
  intro b hb p lc e s m args below meth c H locs ls F S Wd L
  obtain ⟨hx, hbc, -, -, hown, -, -, -, htb, hK, ⟨-, -, ⟨c1, c2, c3, c4, c5, c6⟩, -⟩⟩ := id F
  exact va_tlen hx hbc c5 S rfl hd (kk b hb p lc e s m args below meth c H locs ls F S Wd L)
theorem Zo_callW {q K S idx nL : Nat} {y : MethodName} {cc : ByteArray} {ret : Option FieldType} {finc : β → Option Value × ZW} {oc : Option β} {Kf : β → Option α} (as : List Value) (hL : zLkW M.1.cls idx y cc nL ret as.length) (hy : y.cls = "java/lang/String") (hev : ∀ b, oc = some b → zEv g q K S y cc nL ret (.ref 100002 :: as) w (finc b)) (hR : zFit q M.2.2.2.2.1) (hf : k + K ≤ M.2.2.2.2.1.cells ∧ n + S ≤ M.2.2.2.2.1.slots) (hs : (st.map fun v => v.category).sum ≤ 8) (hd : decode M.2.1 pc = .ok (.invokevirtual idx, 3))
    (kk : ∀ b, Zo g M fin (Kf b) (k + K) (n + S) (pc + 3) l ((finc b).1.toList ++ st) (finc b).2) : Zo g M fin (oc.bind Kf) k n pc l (as.reverse ++ .ref 100002 :: st) w := by
  cases hoc : oc with
  | none => exact Zo_none
  | some b =>
    intro b' hb' p lc e s m args below meth c H locs ls F Sv Wd L
    obtain ⟨hx, hbc, -, hml, hown, -, -, hb0, htb, hK, ⟨-, -, ⟨c1, c2, c3, c4, c5, c6⟩, -⟩⟩ := id F
    obtain ⟨⟨hl, hi, hc, hnm, hp, h45⟩, hin, hse⟩ := hL
    have hst : (as.reverse ++ Value.ref 100002 :: st).map (zV g) = (as.map (zV g)).reverse ++ .ref (zAd g 100002) :: st.map (zV g) := by
      rw [List.map_append, List.map_reverse, List.map_cons]
      rfl
    rw [hst]
    have hrecv : ∃ cellB : Cell, H[zAd g 100002]? = some cellB ∧ cellB.vm.isStatics = false ∧ s.vm.findClass y.cls = some cellB.cls := by
      obtain ⟨cell, e1, e2, e3, e4⟩ := c2.kept Sv.2.1
      exact ⟨cell, e1, e2, by rw [hy]; exact e3⟩
    have hpre : PreV s H y.cls (zAd g 100002) (zPc g (.ref 100002 :: as) w) (as.map (zV g)) := ⟨zPc_blind _ _ _, hrecv, zPre F Sv Wd (.ref 100002 :: as)⟩
    have hfr : (zRm q K S).frames + 1 ≤ M.2.2.2.2.1.frames := hR.1
    have hlo2 : 8 + (nL + 11) + (zRm q K S).locals ≤ M.2.2.2.2.1.locals := zFit_lo hR h45
    have go := fun (hr : va_Run p lc e M.2.2.2.2.1 s m args below meth c H locs k n K S (F0 m pc ls ((as.map (zV g)).reverse ++ .ref (zAd g 100002) :: st.map (zV g))) (st.map (zV g)) (zQc g (finc b) (Value.ref (zAd g 100002) :: as.map (zV g)).toArray) (zA g)) => zBehind (Q := M.2.2.2.2.2 (fin b') below args s) hr Sv fun H1 locs1 S1 W1 => kk b b' hb' p lc e s m args below meth c H1 locs1 ls F S1 W1 L
    rcases hl with hl | ⟨host, hl⟩
    · exact go (va_runV (Ts := []) ⟨hx, hbc, hml, hown, fun _ h => by cases h⟩ (hev b hoc lc) ⟨⟨rfl, rfl, hfr, hlo2, zCode1 htb hc, List.mem_cons_self, htb _ hc rfl _, htb _ hi rfl _, hnm, zParse hp, htb _ hl rfl _⟩, htb _ hin rfl _, htb _ hse rfl _⟩ hpre rfl (by rw [List.length_map]) L.1 rfl (lv_room (zCat hs)) hd hf)
    · exact go (va_runVN (Ts := []) ⟨hx, hbc, hml, hown, fun _ h => by cases h⟩ (hev b hoc lc) ⟨⟨⟨rfl, rfl, hfr, hlo2, zCode1 htb hc, List.mem_cons_self⟩, htb _ hc rfl _, htb _ hi rfl _, hnm, zParse hp, htb _ hl rfl _⟩, htb _ hin rfl _, htb _ hse rfl _⟩ hpre rfl (by rw [List.length_map]) L.1 rfl (lv_room (zCat hs)) hd hf)
theorem Zo_cWI0 {q idx nL : Nat} {y : MethodName} {cc : ByteArray} {ret : Option FieldType} {oc : Option Int32} {Kf : Int32 → Option α} (hL : zLkW M.1.cls idx y cc nL ret 0) (hev : zEvI g q y cc nL ret (.ref 100002 :: []) σ oc) (hR : zFit q M.2.2.2.2.1) (hs : (st.map fun v => v.category).sum ≤ 8) (hd : decode M.2.1 pc = .ok (.invokevirtual idx, 3)) (kk : ∀ v, Zo g M fin (Kf v) 0 0 (pc + 3) l (.int v :: st) (zw σ)) (hy : y.cls = "java/lang/String" := by rfl) : Zo g M fin (oc.bind Kf) 0 0 pc l (.ref 100002 :: st) (zw σ) := Zo_callW (K := 0) (S := 0) [] hL hy hev hR ⟨Nat.zero_le _, Nat.zero_le _⟩ hs hd (fun b => kk b)
theorem Zo_cWI1 {q idx nL : Nat} {y : MethodName} {cc : ByteArray} {ret : Option FieldType} {b0 : Value} {oc : Option Int32} {Kf : Int32 → Option α} (hL : zLkW M.1.cls idx y cc nL ret 1) (hev : zEvI g q y cc nL ret (.ref 100002 :: [b0]) σ oc) (hR : zFit q M.2.2.2.2.1) (hs : (st.map fun v => v.category).sum ≤ 8) (hd : decode M.2.1 pc = .ok (.invokevirtual idx, 3)) (kk : ∀ v, Zo g M fin (Kf v) 0 0 (pc + 3) l (.int v :: st) (zw σ)) (hy : y.cls = "java/lang/String" := by rfl) : Zo g M fin (oc.bind Kf) 0 0 pc l (b0 :: .ref 100002 :: st) (zw σ) := Zo_callW (K := 0) (S := 0) [b0] hL hy hev hR ⟨Nat.zero_le _, Nat.zero_le _⟩ hs hd (fun b => kk b)
theorem Zo_cWI2 {q idx nL : Nat} {y : MethodName} {cc : ByteArray} {ret : Option FieldType} {b0 b1 : Value} {oc : Option Int32} {Kf : Int32 → Option α} (hL : zLkW M.1.cls idx y cc nL ret 2) (hev : zEvI g q y cc nL ret (.ref 100002 :: [b0, b1]) σ oc) (hR : zFit q M.2.2.2.2.1) (hs : (st.map fun v => v.category).sum ≤ 8) (hd : decode M.2.1 pc = .ok (.invokevirtual idx, 3)) (kk : ∀ v, Zo g M fin (Kf v) 0 0 (pc + 3) l (.int v :: st) (zw σ)) (hy : y.cls = "java/lang/String" := by rfl) : Zo g M fin (oc.bind Kf) 0 0 pc l (b1 :: b0 :: .ref 100002 :: st) (zw σ) := Zo_callW (K := 0) (S := 0) [b0, b1] hL hy hev hR ⟨Nat.zero_le _, Nat.zero_le _⟩ hs hd (fun b => kk b)
theorem Zo_bret0 {y : MethodName} {cc : ByteArray} {nL : Nat} {ret : Option FieldType} {R : Room} {K S : Nat} {a : α} (hd : decode cc pc = .ok (.ireturn, 1)) (ha : fin a = (some (.int 0), w)) (hr : ret = some .byte) (hk : k ≤ K) (hn : n ≤ S) : Zo g (y, cc, nL, ret, R, zTg g K S) fin (some a) k n pc l [.int 0] w := by
  intro b hb p lc e s m args below meth c H locs ls F Sv Wd L
  cases hb
  subst hr
  obtain ⟨hx, hbc, hrt, -, hown, hlk, -, -, -⟩ := id F
  refine W.widen hk hn ?_
  rw [ha]
  exact W.zret hx hbc hrt rfl (fun t ht _ => zQc_end (T := (some (.int 0), w)) args Wd Sv t ht) (fun q hq => Sv.2.2 q hq) hd hlk
theorem Zo_acopy {a b : Nat} {i j x : Int32} {K : ZSt → Option α} (ha : zKd a = (2, 60)) (hb' : zKd b = (2, 60)) (hd : decode M.2.1 pc = .ok (.invokestatic 47, 3)) (kk : ∀ σ', Zo g M fin (K σ') k n (pc + 3) l st (zw σ')) (ho : M.1.cls = "PaidElsewhere$Shelves" := by rfl) (hR : 1 ≤ M.2.2.2.2.1.frames ∧ 26 ≤ M.2.2.2.2.1.locals := by exact ⟨zle rfl, zle rfl⟩) (hs : (st.map fun v => v.category).sum ≤ 8 := by exact zle rfl) : Zo g M fin (zSg (zCpOk i j x) (zCp σ a i b j x) K) k n pc l (.int x :: .int j :: .ref b :: .int i :: .ref a :: st) (zw σ) := by
  refine Zo_sg fun hok b0 hb p lc e s m args below meth c H locs ls F S Wd L => ?_
  obtain ⟨hx, hbc, -, hml, hown, -, -, -, htb, hK, -⟩ := id F
  unfold zCpOk at hok
  obtain ⟨h1, h2, h3, h4, h5⟩ := of_decide_eq_true hok
  have hNa := zKd_lt ha (by decide)
  have hNb := zKd_lt hb' (by decide)
  have hea := zL_at (g := g) (w := zw σ) hNa
  have heb := zL_at (g := g) (w := zw σ) hNb
  rw [ha] at hea
  rw [hb'] at heb
  show W _ _ _ _ _ _ _ _ _ _ _ _ _ _ _ (F0 m pc ls (.int x :: .int j :: .ref (zAd g b) :: .int i :: .ref (zAd g a) :: st.map (zV g)))
  rw [zAd_lo hNa, zAd_lo hNb]
  have nn : ∀ z : Int32, 0 ≤ z.toInt → ¬ z < 0 ∧ (z.toNatClampNeg : Int) = z.toInt := fun z hz => ⟨fun q => by
    have := Int32.lt_iff_toInt_lt.mp q
    have e0 : (0 : Int32).toInt = 0 := by decide
    omega, by
    show (z.toInt.toNat : Int) = _
    omega⟩
  have g1 := nn i h1
  have g2 := nn j h2
  have g3 := nn x h3
  refine va_copyl hx hbc (hml.trans L.1.symm) (ho ▸ hown) (htb _ zs_acl rfl _) (htb _ zs_acn rfl _) (htb _ zs_acs rfl _) (htb _ zs_aci rfl _) hK Wd.2 (zL_D g _) S a b 1 1 hea heb rfl rfl rfl g1.1 g2.1 g3.1 (by omega) (by omega) (fun _ _ => rfl) hR.1 ?_ hd fun H1 locs1 hP1 _ hS1 => ?_
  · have := zCat (g := g) hs
    have e7 : nativeFrameWords "java/lang/System" "arraycopy" 5 = 7 := by decide
    rw [e7]
    exact Nat.le_trans (Nat.add_le_add_right this _) hR.2
  · refine kk _ b0 hb p lc e s m args below meth c H1 locs1 ls F hS1 ⟨fun hlt => absurd hlt (Nat.lt_irrefl _), ?_⟩ L
    have hset := zL_set (g := g) (N := zN) (R := zRc) (R' := zRc) (σ := σ) (σ' := zCp σ a i b j x) (k := b) (fun q hq => zCell_o rfl (by funext e; show (if q = b then _ else _) = _; rw [if_neg hq]) rfl) (c := .inl (g.2.2.1 1, (60, .inr (.inl (va_cpy (σ.2 a) (σ.2 b) i.toNatClampNeg j.toNatClampNeg x.toNatClampNeg))))) (by
      rw [hb']
      have e9 : (zCp σ a i b j x).2 b = va_cpy (σ.2 a) (σ.2 b) i.toNatClampNeg j.toNatClampNeg x.toNatClampNeg := by
        funext e
        show (if b = b then _ else _) = _
        rw [if_pos rfl]
      show Sum.inl (_, (_, Sum.inr (Sum.inl ((zCp σ a i b j x).2 b)))) = _
      rw [e9])
    rw [hset] at hP1
    exact hP1
theorem Zo_astoreG {x : Nat} (i : Nat) {d : Nat} {ins : Instr} (hd : decode M.2.1 pc = .ok (ins, d)) (hi : ins = .astore i ∧ d = 2 ∨ ∃ k : Fin 4, ins = .astore_n k ∧ d = 1 ∧ (k : Nat) = i) (hn : i < M.2.2.1) (hb : i = 0 ∨ ∀ u, l[i - 1]? = some u → zNoL u = true) (kk : Zo g M fin o k n (pc + d) (l.set i (some (.ref x))) st w) : Zo g M fin o k n pc l (.ref x :: st) w := by
  refine kk.ofL fun p lc e s m args below meth c H locs ls Q hx hbc L kw => ?_
  obtain ⟨ls', e', L'⟩ := zLc_set1 (v := .ref x) L hn rfl hb
  intro T hT X
  obtain ⟨t, a, b⟩ := kw ls' L' T hT X
  refine ⟨t, ?_, b⟩
  rcases hi with ⟨rfl, rfl⟩ | ⟨k4, rfl, rfl, rfl⟩
  · have e2 : storeLocals ls i (.ref (zAd g x)) = some ls' := e'
    show Steps _ _ _ (T.setTop (F0 m pc ls (.ref (zAd g x) :: st.map (zV g)))) t
    jvm_step X.here [X.here.top, ↓top_set X.here.top, hx, hbc, hd, e2]
    exact ⟨rfl, a⟩
  · have e2 : storeLocals ls k4 (.ref (zAd g x)) = some ls' := e'
    show Steps _ _ _ (T.setTop (F0 m pc ls (.ref (zAd g x) :: st.map (zV g)))) t
    jvm_step X.here [X.here.top, ↓top_set X.here.top, hx, hbc, hd, e2]
    exact ⟨rfl, a⟩
theorem Zo_astore1 {a0 b : Option Value} {x : Nat} (hz : zNoL a0 = true) (hn : 1 < M.2.2.1) (hd : decode M.2.1 pc = .ok (.astore_n 1, 1)) (kk : Zo g M fin o k n (pc + 1) (a0 :: some (.ref x) :: l) st w) : Zo g M fin o k n pc (a0 :: b :: l) (.ref x :: st) w := Zo_astoreG 1 hd (Or.inr ⟨1, rfl, rfl, rfl⟩) hn (Or.inr fun u hu => by cases hu; exact hz) kk
theorem Zo_astore2 {a0 a1 b : Option Value} {x : Nat} (hz : zNoL a1 = true) (hn : 2 < M.2.2.1) (hd : decode M.2.1 pc = .ok (.astore_n 2, 1)) (kk : Zo g M fin o k n (pc + 1) (a0 :: a1 :: some (.ref x) :: l) st w) : Zo g M fin o k n pc (a0 :: a1 :: b :: l) (.ref x :: st) w := Zo_astoreG 2 hd (Or.inr ⟨2, rfl, rfl, rfl⟩) hn (Or.inr fun u hu => by cases hu; exact hz) kk
theorem Zo_astore3 {a0 a1 a2 b : Option Value} {x : Nat} (hz : zNoL a2 = true) (hn : 3 < M.2.2.1) (hd : decode M.2.1 pc = .ok (.astore_n 3, 1)) (kk : Zo g M fin o k n (pc + 1) (a0 :: a1 :: a2 :: some (.ref x) :: l) st w) : Zo g M fin o k n pc (a0 :: a1 :: a2 :: b :: l) (.ref x :: st) w := Zo_astoreG 3 hd (Or.inr ⟨3, rfl, rfl, rfl⟩) hn (Or.inr fun u hu => by cases hu; exact hz) kk
end ZSTR
