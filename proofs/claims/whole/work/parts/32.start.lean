theorem zTb_start {s : State} {a : Array Value} (hts : ∀ w ∈ lw_tbl, w.before a s = true) : zTb s := by
  intro w hw hf a'
  have h0 := hts w hw
  cases w <;> first
    | exact word_at (State.WarmedH.refl s) (Or.inr ⟨_, rfl⟩) h0
    | exact word_at (State.WarmedH.refl s) (Or.inl hf) h0
    | exact va_tabs rfl rfl h0
theorem zOver {s : State} {a : Array Value} {t : FieldType} (h : (Cond.arrayOver (.array t)).before a s = true) : ∃ (cA : ClassId) (k : Class) (comp : ClassId), s.vm.findClass ("[" ++ (FieldType.array t).toString) = some cA ∧ s.vm.classes[cA]? = some k ∧ k.kind = .array comp (.array t) ∧ s.vm.findClass (FieldType.array t).toString = some comp := by
  simp only [Cond.before, Cond.holds, Cond.value, beq_iff_eq] at h
  cases hc : s.vm.findClass (FieldType.array t).toString with
  | none => rw [hc] at h; simp at h
  | some comp =>
    simp only [hc, Option.bind_some, Option.bind_eq_some_iff, Option.map_eq_some_iff] at h
    obtain ⟨c, hi, k, hk, hb⟩ := h
    obtain ⟨hlt, hp, -⟩ := Array.findIdx?_eq_some_iff_getElem.mp hi
    rw [(Array.getElem?_eq_some_iff.mp hk).2] at hp
    cases hkind : k.kind with
    | array component ty =>
      rw [hkind] at hb hp
      simp at hb hp
      exact ⟨c, k, comp, hb.2, hk, by rw [hkind, hp, hb.1], rfl⟩
    | _ => rw [hkind] at hb; simp at hb

set_option maxHeartbeats 8000000 in
set_option maxRecDepth 100000 in
theorem whole_open (hmath : ∀ (L : Nat) (xs : Nat → Int32), L ≤ 3072 → ∃ n, s_L_law_L18 L xs n 0 zI = some ()) {p : Program} {e : Env} {s : State} {m : MethodId} {below : List Frame} {meth : Method} {c : Code} (l : Launch) {b L : Nat} {xs : Nat → Int32} (hL : L ≤ 3072) (C0 : lw_At p s m meth c b L xs) : W p l e room_1 s m #[Value.ref b] below meth c s.heap [] 0 0 (lw_Z below #[Value.ref b] s) (entryFrame m ([Value.ref b] : List Value).toArray 4) := by
  obtain ⟨hx, hb, hr, hml, hown, hts, hX, hbl, hlocks, hgv⟩ := C0
  have htb : zTb s := zTb_start hts
  obtain ⟨c0, iS0, hKn0⟩ := u_known (C := RX0) (T := TX0) (N := 5) (n := 5) (zWs_ok htb zin_X0 #[Value.ref b]) (fun _ h => h) (hts _ zw_in0)
  obtain ⟨c1, iS1, hKn1⟩ := u_known (C := RX1) (T := TX1) (N := 6) (n := 6) (zWs_ok htb zin_X1 #[Value.ref b]) (fun _ h => h) (hts _ zw_in1)
  obtain ⟨c2, iS2, hKn2⟩ := u_known (C := RX2) (T := TX2) (N := 5) (n := 5) (zWs_ok htb zin_X2 #[Value.ref b]) (fun _ h => h) (hts _ zw_in2)
  obtain ⟨c3, iS3, hKn3⟩ := u_known (C := RX3) (T := TX3) (N := 4) (n := 4) (zWs_ok htb zin_X3 #[Value.ref b]) (fun _ h => h) (hts _ zw_in3)
  obtain ⟨c4, iS4, hKn4⟩ := u_known (C := RX4) (T := TX4) (N := 4) (n := 4) (zWs_ok htb zin_X4 #[Value.ref b]) (fun _ h => h) (hts _ zw_in4)
  obtain ⟨c5, iS5, hKn5⟩ := u_known (C := RX5) (T := TX5) (N := 1) (n := 1) (zWs_ok htb zin_X5 #[Value.ref b]) (fun _ h => h) (hts _ zw_in5)
  obtain ⟨c6, iS6, hKn6⟩ := u_known (C := RX6) (T := TX6) (N := 4) (n := 4) (zWs_ok htb zin_X6 #[Value.ref b]) (fun _ h => h) (hts _ zw_in6)
  obtain ⟨c7, iS7, hKn7⟩ := u_known (C := RX7) (T := TX7) (N := 15) (n := 15) (zWs_ok htb zin_X7 #[Value.ref b]) (fun _ h => h) (hts _ zw_in7)
  obtain ⟨c8, iS8, hKn8⟩ := u_known (C := RX8) (T := TX8) (N := 16) (n := 16) (zWs_ok htb zin_X8 #[Value.ref b]) (fun _ h => h) (hts _ zw_in8)
  obtain ⟨c9, iS9, hKn9⟩ := u_known (C := RX9) (T := TX9) (N := 11) (n := 11) (zWs_ok htb zin_X9 #[Value.ref b]) (fun _ h => h) (hts _ zw_in9)
  obtain ⟨c10, iS10, hKn10⟩ := u_known (C := RX10) (T := TX10) (N := 49) (n := 49) (zWs_ok htb zin_X10 #[Value.ref b]) (fun _ h => h) (hts _ zw_in10)
  obtain ⟨dC, dI, hKc⟩ : ∃ (dC : Nat → ClassId) (dI : Nat → Nat → Nat), ∀ (k : Nat) (q : vw_C), vwCl[k]? = some q → u_Kn s q.1 q.2.1 q.2.2 (dC k) (dI k) := by
    refine ⟨fun k => match k with | 0 => c0 | 1 => c1 | 2 => c2 | 3 => c3 | 4 => c4 | 5 => c5 | 6 => c6 | 7 => c7 | 8 => c8 | 9 => c9 | 10 => c10 | _ => 0, fun k => match k with | 0 => iS0 | 1 => iS1 | 2 => iS2 | 3 => iS3 | 4 => iS4 | 5 => iS5 | 6 => iS6 | 7 => iS7 | 8 => iS8 | 9 => iS9 | 10 => iS10 | _ => fun _ => 0, ?_⟩
    intro k q hq
    match k, hq with
    | 0, hq => cases hq; exact hKn0
    | 1, hq => cases hq; exact hKn1
    | 2, hq => cases hq; exact hKn2
    | 3, hq => cases hq; exact hKn3
    | 4, hq => cases hq; exact hKn4
    | 5, hq => cases hq; exact hKn5
    | 6, hq => cases hq; exact hKn6
    | 7, hq => cases hq; exact hKn7
    | 8, hq => cases hq; exact hKn8
    | 9, hq => cases hq; exact hKn9
    | 10, hq => cases hq; exact hKn10
    | k + 11, hq => exact absurd hq (by simp [vwCl])
  obtain ⟨cI, kI, coI, i1, i2, i3⟩ := Cond.arrayClass_spec (hts _ zs_aint)
  obtain ⟨cJ, kJ, coJ, j1, j2, j3⟩ := Cond.arrayClass_spec (hts _ zs_along)
  obtain ⟨cQ, kQ, coQ, q1, q2, q3, q4⟩ := zOver (hts _ zw_ao)
  have ecJ : coQ = cJ := Option.some.inj (q4.symm.trans j1)
  rw [ecJ] at q3
  have hs := flat_of_before _ hgv
  have hA0 : ∀ a : Nat, a < s.heap.size → ¬ (fun q : Nat => s.heap.size ≤ q) a := fun a h => Nat.not_le.mpr h
  have hOe : ∀ j, j < 32 → Cond.eq (.elem (.static "PaidElsewhere$Acts" "OWN" "[I") (.int (Int32.ofNat j))) (.int (zOWN j)) ∈ flatC (Jvm.Cond.and given_1 narrow_1) := by decide +kernel
  have hAe : ∀ j, j < 8 → Cond.eq (.elem (.static "PaidElsewhere$Acts" "ABOVE" "[I") (.int (Int32.ofNat j))) (.int (zABV j)) ∈ flatC (Jvm.Cond.and given_1 narrow_1) := by decide +kernel
  have hSe : ∀ j, j < 8 → Cond.eq (.elem (.field (.string "PaidElsewhere$LawReader" 64) "java/lang/String" "value" "[B") (.int (Int32.ofNat j))) (.int (zTXT j)) ∈ flatC (Jvm.Cond.and given_1 narrow_1) := by decide +kernel
  obtain ⟨tO, eO, hTO⟩ := va_Tof (tm := .static "PaidElsewhere$Acts" "OWN" "[I") (ty := .int) (N := 32) (f := fun j => .int (zOWN j)) (by decide) (hs _ (by decide +kernel)) (va_eqt (hs _ (by decide +kernel))) (fun j hj => va_eqt (hs _ (hOe j hj))) hA0
  obtain ⟨tA, eA, hTA⟩ := va_Tof (tm := .static "PaidElsewhere$Acts" "ABOVE" "[I") (ty := .int) (N := 8) (f := fun j => .int (zABV j)) (by decide) (hs _ (by decide +kernel)) (va_eqt (hs _ (by decide +kernel))) (fun j hj => va_eqt (hs _ (hAe j hj))) hA0
  have hZO := va_Zof (hts _ zw_own) (hts _ zw_iA) eO hA0
  have hZA := va_Zof (hts _ zw_abv) (hts _ zw_iA) eA hA0
  have hZC := va_Zof (hts _ zw_cs) (hts _ zw_iS) (va_eqi (hs _ (by decide +kernel) : (Cond.eq (.static "java/lang/String" "COMPACT_STRINGS" "Z") (.int 1)).before #[Value.ref b] s = true)) hA0
  obtain ⟨adK, adV, hSt, hEv⟩ := vk_Sof (args := #[Value.ref b]) (s := s) (N := 1) (tm := fun _ => .string "PaidElsewhere$LawReader" 64) (len := [8]) (byt := [[116, 99, 112, 104, 110, 103, 107, 115]]) (A := fun q : Nat => s.heap.size ≤ q) (fun i hi => by rw [show i = 0 by omega]; decide) (fun i _ => hs _ (by decide +kernel)) (fun i _ => hs _ (by decide +kernel)) (fun i _ => hs _ (by decide +kernel)) (fun i hi => by rw [show i = 0 by omega]; exact hs _ (by decide +kernel)) (fun i hi j hj => by
    have hi0 : i = 0 := by omega
    subst hi0
    exact hs _ (hSe j hj)) (fun i j hi hj h => absurd (show i = j by omega) h) hA0
  obtain ⟨⟨s1, s2, s3, s4⟩, -⟩ := And.intro (hSt.1 0 (by decide)) trivial
  have hR : vk_R "PaidElsewhere$LawReader" 64 zStr (adK 0) s := vk_R.of (hts _ zw_sr) (by have := hEv 0 (by decide); exact this)
  let g : ZG := (s.heap.size, (dC, dI), (fun k => if k = 0 then cI else if k = 1 then cJ else cQ), (fun k => if k = 0 then tO else if k = 1 then tA else if k = 2 then adK 0 else if k = 3 then adV 0 else b), (L, xs))
  have hK : va_K g.2.1 vwCl (zTys g) s := ⟨hKc, fun k q hk => by
    match k, hk with
    | 0, hk => cases hk; exact ⟨fun n z => ⟨fun k h => (by cases h), kI, i2, coI, i3⟩, i1⟩
    | 1, hk => cases hk; exact ⟨fun n z => ⟨fun k h => (by cases h), kJ, j2, coJ, j3⟩, j1⟩
    | 2, hk => cases hk; exact ⟨fun n z => ⟨fun k h => (by cases h), kQ, q2, cJ, q3⟩, q1⟩
    | k + 3, hk => exact absurd hk (by simp [zTys])⟩
  have hstat : zSt g s := ⟨⟨hZO, hTO⟩, ⟨hZA, hTA⟩, ⟨hR, s1, s3, s2, s4, hZC⟩, hX, hbl, kQ, q2, q3⟩
  obtain ⟨n, hn⟩ := hmath L xs hL
  have hl := lv_entry ([.ref b]) (n := 4) (Nat.le_of_ble_eq_true rfl)
  rw [lg_entry_eq]
  have hW := z_L_law g n zO () hn p l e s m #[Value.ref b] below meth c s.heap [] _ ⟨hx, hb, hr, hml, hown, hlocks, fun h => absurd (show ("law" : String) = "<init>" from h) (by decide), Nat.le_refl _, htb, hK, hstat⟩ va_S.rf ⟨fun _ => rfl, fun k q h => by simp [zL] at h⟩ ⟨hl.1, hl.2.1, fun i v hi => by
    match i, hi with
    | 0, hi => cases hi; exact hl.2.2 (0, .ref b) List.mem_cons_self
    | 1, hi => cases hi
    | 2, hi => cases hi
    | 3, hi => cases hi
    | i + 4, hi => simp at hi⟩
  intro T hT X
  obtain ⟨t, a1, h⟩ := hW T hT X
  exact ⟨t, a1, h rfl⟩
