theorem zs_oi : Cond.instanceMethod Lib.objectInit ∈ lw_tbl := List.mem_of_getElem? (i := 104) (by decide +kernel)
theorem zs_oc : Cond.code Lib.objectInit ⟨#[0xb1]⟩ 1 none ∈ lw_tbl := List.mem_of_getElem? (i := 105) (by decide +kernel)
theorem zs_aint : Cond.arrayClass .int ∈ lw_tbl := List.mem_of_getElem? (i := 158) (by decide +kernel)
theorem zs_along : Cond.arrayClass .long ∈ lw_tbl := List.mem_of_getElem? (i := 333) (by decide +kernel)
/-- beyond the cells made so far nothing is written: as a new cell is -/
def z0 (k f : Nat) : Int32 := if (k = 0 ∧ (f = 9 ∨ f = 10)) ∨ (k = 46 ∧ f = 3) then -1 else 0
def zDynOk (N j : Nat) : Bool := if (zKd N).1 = 0 then (match (zFt (zKd N).2)[j]? with
  | some 0 => decide (z0 N j = 0)
  | some 1 => true
  | some _ => decide (z0 N j = -1)
  | none => true) else true
theorem zDynAll : ((List.range 100).all fun N => (List.range 60).all fun j => zDynOk N j) = true := by decide +kernel
theorem zDyn_at {N ci j u : Nat} (hk : zKd N = (0, ci)) (hu : (zFt ci)[j]? = some u) : (u = 0 → z0 N j = 0) ∧ (2 ≤ u → z0 N j = -1) := by
  have hN := zKd_lt hk (by decide)
  have hj : j < 60 := by
    have h1 := (List.getElem?_eq_some_iff.mp hu).1
    have h2 : ∀ c, c < 20 → (zFt c).length < 60 := by decide +kernel
    rcases Nat.lt_or_ge ci 20 with q | q
    · have := h2 ci q; omega
    · exfalso
      unfold zFt at h1
      rw [List.getD_eq_getElem?_getD, List.getElem?_eq_none (by exact Nat.le_trans (by decide) q)] at h1
      exact absurd h1 (Nat.not_lt_zero _)
  have h := List.all_eq_true.mp (List.all_eq_true.mp zDynAll N (List.mem_range.mpr hN)) j (List.mem_range.mpr hj)
  unfold zDynOk at h
  rw [hk] at h
  simp only [hu, if_true] at h
  match u, h with
  | 0, h => exact ⟨fun _ => of_decide_eq_true h, fun q => by omega⟩
  | 1, _ => exact ⟨fun q => by omega, fun q => by omega⟩
  | u + 2, h => exact ⟨fun q => by omega, fun _ => of_decide_eq_true h⟩
def zFr (N : Nat) (R : ZRf) (σ : ZSt) : Prop := ∀ k, N ≤ k → ∀ f, σ.1 k f = z0 k f ∧ σ.2 k f = 0 ∧ R k f = none
theorem zFr.up {N N' : Nat} {R : ZRf} {σ : ZSt} (h : zFr N R σ) (hN : N ≤ N') : zFr N' R σ := fun k hk f => h k (Nat.le_trans hN hk) f
theorem zFr.wr {N k f : Nat} {R : ZRf} {σ : ZSt} {v : Option Nat} (h : zFr N R σ) (hk : k < N) : zFr N (zWR R k f v) σ := fun j hj f' => by
  rw [zWR_o (by omega)]
  exact h j hj f'
theorem zFr.wd {N k f : Nat} {R : ZRf} {σ : ZSt} {v : Int32} (h : zFr N R σ) (hk : k < N) : zFr N R (zWD σ k f v) := fun j hj f' => by
  rw [zWD_o (by omega)]
  exact h j hj f'
/-- the default of each field is what the world says of an unwritten one -/
def zDf (ci n : Nat) (ty : Nat → FieldType) : Prop := ∀ j, j < n → defaultValue (ty j) = if (zFt ci).getD j 0 = 0 then .int 0 else .null
def zCN (own : String) (idx ci n : Nat) : Prop := ∃ (C : String) (T : u_T) (ty : Nat → FieldType), vwCl[ci]? = some (C, T, n) ∧ (zFt ci).length = n ∧ (∀ w ∈ u_ws C T n, w ∈ lw_tbl) ∧ Cond.classLink own idx C ∈ lw_tbl ∧ Cond.instantiable C n ∈ lw_tbl ∧ Cond.initialized C ∈ lw_tbl ∧ (∀ k, k < n → parseFieldDescriptor (T k).2.2.1 = some (ty k)) ∧ zDf ci n ty
section ZCTOR
variable {α : Type} {g : ZG} {M : ZM} {fin : α → Option Value × ZW} {o : Option α} {k n pc : Nat} {l : List (Option Value)} {st : List Value} {w : ZW} {N : Nat} {R : ZRf} {σ : ZSt} {idx ci nf a : Nat}
theorem Zo_objInit {a : Nat} (hw : Cond.methodLink M.1.cls idx Lib.objectInit ∈ lw_tbl) (hs : (st.map fun v => v.category).sum ≤ 8) (hR : 1 ≤ M.2.2.2.2.1.frames ∧ 20 ≤ M.2.2.2.2.1.locals) (hd : decode M.2.1 pc = .ok (.invokespecial idx, 3)) (kk : Zo g M fin o k n (pc + 3) l st w) : Zo g M fin o k n pc l (.ref a :: st) w := by
  have hs' := zCat (g := g) hs
  refine kk.of fun _ _ _ _ _ _ _ _ _ _ _ _ _ hx hb hown htb hml hl kw => W.objInit hx hb hown (htb _ hw rfl _) (htb _ zs_oi rfl _) (htb _ zs_oc rfl _) rfl hml.symm rfl hd hR.1 ?_ kw
  have h2 := hR.2
  show 2 * 0 + _ + 12 ≤ _
  generalize M.2.2.2.2.1.locals = x at h2 ⊢
  omega
/-- a cell pushed -/
theorem zWd_push {H H1 : Heap} {c : va_E} (Wd : zWd g (N, R, σ) H) (hN : N < zN) (hc : zCell g R σ N (zKd N) = c) (z : H1.size = g.1 + N + 1) (hat : va_at g.2.1 vwCl (g.1 + N, c) H1) (old : ∀ q, q < g.1 + N → H1[q]? = H[q]?) : zWd g (N + 1, R, σ) H1 := by
  refine ⟨fun _ => by rw [z]; omega, fun j q hq => ?_⟩
  have hj : j < N + 1 := by
    have := (List.getElem?_eq_some_iff.mp hq).1
    rwa [zL_len] at this
  rw [zL_at (w := (N + 1, R, σ)) hj] at hq
  cases hq
  rcases Nat.lt_or_ge j N with hjn | hjn
  · exact (Wd.2 j _ (zL_at (w := (N, R, σ)) hjn)).kept (old _ (by omega))
  · have : j = N := by omega
    subst this
    show va_at _ _ (g.1 + j, zCell g R σ j (zKd j)) H1
    rw [hc]
    exact hat
theorem va_S.pushed {A : Nat → Prop} {H0 H H1 : Heap} {locs : List Loc} {h : Nat} (S : va_S A H0 H locs) (hh : H.size = h) (z : H1.size = h + 1) (old : ∀ q, q < h → H1[q]? = H[q]?) : va_S A H0 H1 locs := ⟨by have := S.1; omega, fun q h1 h2 => (old q (by have := S.1; omega)).trans (S.2.1 q h1 h2), S.2.2⟩
theorem Zo_new (hC : zCN M.1.cls idx ci nf) (hk : zKd N = (0, ci)) (hz : zFr N R σ) (hR : k + 1 ≤ M.2.2.2.2.1.cells ∧ n + nf ≤ M.2.2.2.2.1.slots) (hd : decode M.2.1 pc = .ok (.new idx, 3)) (kk : Zo g M fin o (k + 1) (n + nf) (pc + 3) l (.ref N :: st) (N + 1, R, σ)) : Zo g M fin o k n pc l st (N, R, σ) := by
  obtain ⟨C, T, ty, h1, h2, h3, h4, h5, h6, h7, h8⟩ := hC
  have hN := zKd_lt hk (by decide)
  intro b hb p lc e s m args below meth c H locs ls F S Wd L
  obtain ⟨hx, hbc, -, -, hown, -, -, hb0, htb, hK, -⟩ := id F
  have hKn := hK.1 ci _ h1
  have hts := zWs_ok htb h3 args
  refine W.newcK hx hbc hown (htb _ h4 rfl _) (htb _ h5 rfl _) (htb _ h6 rfl _) rfl hd hR.1 hR.2 hKn.2.1 (Wd.1 hN) fun H1 kC hkC e1 z1 o1 => ?_
  have had : zAd g N = g.1 + N := zAd_lo hN
  have := kk b hb p lc e s m args below meth c H1 locs ls F (va_S.pushed S (Wd.1 hN) z1 o1) (zWd_push (c := .inr (ci, zFs g R σ N (zFt ci))) Wd hN (by rw [hk]; rfl) z1 ⟨_, h1, (u_born ty hts (fun _ h => h) hKn hkC e1 h7).to ?_⟩ o1) L
  · rw [List.map_cons] at this
    have e2 : zV g (.ref N) = .ref (g.1 + N) := by show Value.ref (zAd g N) = _; rw [had]
    rw [e2] at this
    exact this
  · intro j hj
    have hjl : j < (zFt ci).length := by rw [h2]; exact hj
    obtain ⟨u, hu⟩ : ∃ u, (zFt ci)[j]? = some u := ⟨_, List.getElem?_eq_getElem hjl⟩
    have hg : (zFt ci).getD j 0 = u := by simp [List.getD, hu]
    show defaultValue (ty j) = vp_V _ j
    unfold vp_V
    rw [List.getD_eq_getElem?_getD, zFs_at hu, h8 j hj, hg]
    obtain ⟨q1, q2, q3⟩ := hz N (Nat.le_refl _) j
    show _ = zFv g R σ N u j
    match u, hu with
    | 0, hu =>
      show Value.int 0 = Value.int (σ.1 N j)
      rw [q1]
      have hz0 : z0 N j = 0 := (zDyn_at hk hu).1 rfl
      rw [hz0]
    | 1, _ =>
      show Value.null = va_rf ((R N j).map (zAd g))
      rw [q3]
      rfl
    | u + 2, hu =>
      show Value.null = if σ.1 N j < 0 then Value.null else _
      rw [q1, if_pos]
      have hz0 : z0 N j = -1 := (zDyn_at hk hu).2 (by omega)
      rw [hz0]
      decide
theorem Zo_newi {x : Int32} (len : Nat) (hx' : x.toNatClampNeg = len) (hx0 : ¬ x < 0) (hk : zKd N = (1, len)) (hz : zFr N R σ) (hz1 : ∀ f, z0 N f = 0) (hlen : len ≤ 1000) (hR : k + 1 ≤ M.2.2.2.2.1.cells ∧ n + len ≤ M.2.2.2.2.1.slots) (hd : decode M.2.1 pc = .ok (.newarray .int, 2)) (kk : Zo g M fin o (k + 1) (n + len) (pc + 2) l (.ref N :: st) (N + 1, R, σ)) : Zo g M fin o k n pc l (.int x :: st) (N, R, σ) := by
  have hN := zKd_lt hk (by decide)
  intro b hb p lc e s m args below meth c H locs ls F S Wd L
  obtain ⟨hx, hbc, -, -, hown, -, -, hb0, htb, hK, -⟩ := id F
  refine va_newaK (atype := .int) hx hbc (htb _ zs_aint rfl _) rfl hd rfl hx0 hx' (by show len * 4 ≤ _; omega) hR.1 hR.2 (Wd.1 hN) fun H1 cA e1 z1 o1 hAr hNm => ?_
  have had : zAd g N = g.1 + N := zAd_lo hN
  have hcA : cA = g.2.2.1 0 := Option.some.inj (hNm.symm.trans (hK.2 0 _ rfl).2)
  subst hcA
  have := kk b hb p lc e s m args below meth c H1 locs ls F (va_S.pushed S (Wd.1 hN) z1 o1) (zWd_push (c := zCell g R σ N (1, len)) Wd hN (by rw [hk]) z1 ?_ o1) L
  · rw [List.map_cons] at this
    have e2 : zV g (.ref N) = .ref (g.1 + N) := by show Value.ref (zAd g N) = _; rw [had]
    rw [e2] at this
    exact this
  · show H1[g.1 + N]? = some (arrV (g.2.2.1 0) len (fun j => .int (σ.1 N j)))
    rw [e1]
    congr 2
    funext j
    rw [(hz N (Nat.le_refl _) j).1, hz1]
    rfl
theorem Zo_newl {x : Int32} (len : Nat) (hx' : x.toNatClampNeg = len) (hx0 : ¬ x < 0) (hk : zKd N = (2, len)) (hz : zFr N R σ) (hlen : len ≤ 1000) (hR : k + 1 ≤ M.2.2.2.2.1.cells ∧ n + len ≤ M.2.2.2.2.1.slots) (hd : decode M.2.1 pc = .ok (.newarray .long, 2)) (kk : Zo g M fin o (k + 1) (n + len) (pc + 2) l (.ref N :: st) (N + 1, R, σ)) : Zo g M fin o k n pc l (.int x :: st) (N, R, σ) := by
  have hN := zKd_lt hk (by decide)
  intro b hb p lc e s m args below meth c H locs ls F S Wd L
  obtain ⟨hx, hbc, -, -, hown, -, -, hb0, htb, hK, -⟩ := id F
  refine va_newaK (atype := .long) hx hbc (htb _ zs_along rfl _) rfl hd rfl hx0 hx' (by show len * 8 ≤ _; omega) hR.1 hR.2 (Wd.1 hN) fun H1 cA e1 z1 o1 hAr hNm => ?_
  have had : zAd g N = g.1 + N := zAd_lo hN
  have hcA : cA = g.2.2.1 1 := Option.some.inj (hNm.symm.trans (hK.2 1 _ rfl).2)
  subst hcA
  have := kk b hb p lc e s m args below meth c H1 locs ls F (va_S.pushed S (Wd.1 hN) z1 o1) (zWd_push (c := zCell g R σ N (2, len)) Wd hN (by rw [hk]) z1 ?_ o1) L
  · rw [List.map_cons] at this
    have e2 : zV g (.ref N) = .ref (g.1 + N) := by show Value.ref (zAd g N) = _; rw [had]
    rw [e2] at this
    exact this
  · show H1[g.1 + N]? = some (arrV (g.2.2.1 1) len (fun j => .long (σ.2 N j)))
    rw [e1]
    congr 2
    funext j
    rw [(hz N (Nat.le_refl _) j).2.1]
    rfl
/-- a field of the table, set in a constructor -/
theorem Zo_putR {own : String} {f j : Nat} (hf : zFL own idx ci f 1 true) (ho : M.1.cls = own) (hin : M.1.name = "<init>") (hown : ∀ (C : String) (T : u_T) (n : Nat), vwCl[ci]? = some (C, T, n) → C = own) (hk : zKd a = (0, ci)) (hN : a < N) (hN5 : N ≤ 100000) (hd : decode M.2.1 pc = .ok (.putfield idx, 3)) (kk : Zo g M fin o k n (pc + 3) l st (N, zWR R a f (some j), σ)) : Zo g M fin o k n pc l (.ref j :: .ref a :: st) (N, R, σ) :=
  Zo_putG (σ' := σ) (R' := zWR R a f (some j)) hf (fun _ => hin) ho (fun _ => hown) hk hN hN5 (fun g => by show va_rf _ = _; rw [zWR_at, if_pos rfl]; rfl) (Or.inr ⟨Or.inl rfl, j, rfl⟩) (fun _ _ => rfl) rfl (fun q h => zWR_o h) (fun q h => ⟨rfl, by rw [zWR_at, if_neg h]⟩) hd kk
/-- a reference told by a number, while cells are made -/
theorem Zo_putD {f t : Nat} (ht : t = 62 ∨ t = 65) (hf : zFL M.1.cls idx ci f 2 false) (hk : zKd a = (0, ci)) (hN : a < N) (hN5 : N ≤ 100000) (hd : decode M.2.1 pc = .ok (.putfield idx, 3)) (kk : Zo g M fin o k n (pc + 3) l st (N, R, zWD σ a f (Int32.ofNat t))) : Zo g M fin o k n pc l (.ref t :: .ref a :: st) (N, R, σ) :=
  Zo_putG (σ' := zWD σ a f (Int32.ofNat t)) (R' := R) hf (fun h => by cases h) rfl (fun h => by cases h) hk hN hN5 (fun g => by
    show (if _ then Value.null else _) = _
    rw [zWD_at, if_pos rfl]
    rcases ht with rfl | rfl <;> rfl) (Or.inr ⟨Or.inr rfl, t, rfl⟩) (fun j h => zWD_o h) rfl (fun _ _ => rfl) (fun j h => ⟨by rw [zWD_at, if_neg h], rfl⟩) hd kk
theorem Zo_putI {f : Nat} {x : Int32} (hf : zFL M.1.cls idx ci f 0 false) (hk : zKd a = (0, ci)) (hN : a < N) (hN5 : N ≤ 100000) (hd : decode M.2.1 pc = .ok (.putfield idx, 3)) (kk : Zo g M fin o k n (pc + 3) l st (N, R, zWD σ a f x)) : Zo g M fin o k n pc l (.int x :: .ref a :: st) (N, R, σ) :=
  Zo_putG (σ' := zWD σ a f x) (R' := R) hf (fun h => by cases h) rfl (fun h => by cases h) hk hN hN5 (fun g => by show Value.int _ = _; rw [zWD_at, if_pos rfl]; rfl) (Or.inl ⟨rfl, x, rfl⟩) (fun j h => zWD_o h) rfl (fun _ _ => rfl) (fun j h => ⟨by rw [zWD_at, if_neg h], rfl⟩) hd kk
theorem Zo_getR {f j : Nat} {fi : Bool} (hf : zFL M.1.cls idx ci f 1 fi) (hk : zKd a = (0, ci)) (hN : a < N) (hN5 : N ≤ 100000) (hR : R a f = some j) (hd : decode M.2.1 pc = .ok (.getfield idx, 3)) (kk : Zo g M fin o k n (pc + 3) l (.ref j :: st) (N, R, σ)) : Zo g M fin o k n pc l (.ref a :: st) (N, R, σ) :=
  Zo_getG (zFL_or hf) rfl hk hN hN5 (fun g => by show va_rf _ = _; rw [hR]; rfl) hd kk
theorem Zo_iastN {nn : Nat} {i x : Int32} (hk : zKd a = (1, nn)) (hN : a < N) (hN5 : N ≤ 100000) (hi : zIn i nn = true) (hd : decode M.2.1 pc = .ok (.iastore, 1)) (kk : Zo g M fin o k n (pc + 1) l st (N, R, zWD σ a i.toNatClampNeg x)) : Zo g M fin o k n pc l (.int x :: .int i :: .ref a :: st) (N, R, σ) := by
  intro b hb p lc e s m args below meth c H locs ls F S Wd L
  obtain ⟨hx, hbc, -, -, hown, -, -, -, htb, hK, -⟩ := id F
  have he0 := zL_at (g := g) (w := (N, R, σ)) hN
  have he := Wd.2 a _ he0
  rw [hk] at he
  have hc : H[g.1 + a]? = some (arrV (g.2.2.1 0) nn (fun j => .int (σ.1 a j))) := he
  have had : zAd g a = g.1 + a := by unfold zAd; rw [if_pos (by omega)]
  show W _ _ _ _ _ _ _ _ _ _ _ _ _ _ _ (F0 m pc ls (.int x :: .int i :: .ref (zAd g a) :: st.map (zV g)))
  rw [had]
  refine W.iast hx hbc hc ((hK.2 0 _ rfl).1 nn (fun j => .int (σ.1 a j))) (fun q => by cases q) (by rw [arrV_size]; exact zIn_vp hi) rfl rfl hd fun H1 e1 z oq => ?_
  refine kk b hb p lc e s m args below meth c H1 _ ls F (S.put z oq (Nat.le_add_right _ _)) ⟨fun hlt => z.trans (Wd.1 hlt), ?_⟩ L
  have hP1 := Wd.2.set (e := zCell g R (zWD σ a i.toNatClampNeg x) a (1, nn)) (zL_D g _) he0 (by
    show H1[g.1 + a]? = some (arrV (g.2.2.1 0) nn (fun j => .int ((zWD σ a i.toNatClampNeg x).1 a j)))
    rw [e1, arrV_store]
    congr 2
    funext q
    show updV _ _ _ q = Value.int ((zWD σ a _ x).1 a q)
    rw [zWD_at]
    unfold updV
    by_cases hq : q = i.toNatClampNeg
    · rw [if_pos hq, if_pos hq]
    · rw [if_neg hq, if_neg hq]) oq
  rwa [zL_set (R' := R) (σ' := zWD σ a i.toNatClampNeg x) (fun j hj => zCell_o (zWD_o hj) rfl rfl) (by rw [hk])] at hP1
/-- the world told in other words -/
theorem Zo_conv {R' : ZRf} {σ' : ZSt} (h : ∀ j, j < N → ∀ g, zCell g R σ j (zKd j) = zCell g R' σ' j (zKd j)) (kk : Zo g M fin o k n pc l st (N, R', σ')) : Zo g M fin o k n pc l st (N, R, σ) := by
  intro b hb p lc e s m args below meth c H locs ls F S Wd L
  refine kk b hb p lc e s m args below meth c H locs ls F S ⟨Wd.1, fun j q hq => ?_⟩ L
  have hj : j < N := by
    have := (List.getElem?_eq_some_iff.mp hq).1
    rwa [zL_len] at this
  rw [zL_at (w := (N, R', σ')) hj] at hq
  cases hq
  have := Wd.2 j _ (zL_at (w := (N, R, σ)) hj)
  rw [h j hj g] at this
  exact this
end ZCTOR
