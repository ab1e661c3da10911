/-! FRAMES: what each method leaves alone, by program out of the same lines as its walk -/
def zHit (L : List (Nat × Nat)) (c f : Nat) : Bool := L.any fun q => q.1 == c && (q.2 == 999 || q.2 == f)
def zKeep (L : List (Nat × Nat)) (σ σ' : ZSt) : Prop := (∀ c f, zHit L c f = false → σ'.1 c f = σ.1 c f) ∧ ∀ c f, zHit L c f = false → σ'.2 c f = σ.2 c f
theorem zKeep.rf {L : List (Nat × Nat)} {σ : ZSt} : zKeep L σ σ := ⟨fun _ _ _ => rfl, fun _ _ _ => rfl⟩
theorem zKeep.trans {L : List (Nat × Nat)} {a b c : ZSt} (h : zKeep L a b) (k : zKeep L b c) : zKeep L a c := ⟨fun x f q => (k.1 x f q).trans (h.1 x f q), fun x f q => (k.2 x f q).trans (h.2 x f q)⟩
def zSub (A B : List (Nat × Nat)) : Bool := A.all fun q => B.any fun r => r.1 == q.1 && (r.2 == 999 || r.2 == q.2)
theorem zSub_hit {A B : List (Nat × Nat)} (h : zSub A B = true) {c f : Nat} (hf : zHit A c f = true) : zHit B c f = true := by
  obtain ⟨q, hq, h2⟩ := List.any_eq_true.mp hf
  obtain ⟨r, hr, h3⟩ := List.any_eq_true.mp (List.all_eq_true.mp h q hq)
  refine List.any_eq_true.mpr ⟨r, hr, ?_⟩
  simp only [Bool.and_eq_true, Bool.or_eq_true, beq_iff_eq] at h2 h3 ⊢
  obtain ⟨a1, a2⟩ := h2
  obtain ⟨b1, b2⟩ := h3
  refine ⟨b1.trans a1, ?_⟩
  rcases b2 with b2 | b2
  · exact Or.inl b2
  · rcases a2 with a2 | a2
    · exact Or.inl (b2.trans a2)
    · exact Or.inr (b2.trans a2)
theorem zKeep.sub {A B : List (Nat × Nat)} {σ σ' : ZSt} (h : zKeep A σ σ') (hs : zSub A B = true) : zKeep B σ σ' := by
  have key : ∀ c f, zHit B c f = false → zHit A c f = false := fun c f hb => by
    cases ha : zHit A c f with
    | false => rfl
    | true => rw [zSub_hit hs ha] at hb; cases hb
  exact ⟨fun c f q => h.1 c f (key c f q), fun c f q => h.2 c f (key c f q)⟩
theorem zKeep.wd {L : List (Nat × Nat)} {σ σ' : ZSt} {k f : Nat} {v : Int32} (h : zKeep L σ σ') (hh : zHit L k f = true) : zKeep L σ (zWD σ' k f v) := by
  refine ⟨fun c e q => ?_, fun c e q => h.2 c e q⟩
  show (if c = k ∧ e = f then v else σ'.1 c e) = _
  rw [if_neg]
  · exact h.1 c e q
  · rintro ⟨rfl, rfl⟩
    rw [hh] at q
    cases q
theorem zKeep.we {L : List (Nat × Nat)} {σ σ' : ZSt} {k f : Nat} {v : Int64} (h : zKeep L σ σ') (hh : zHit L k f = true) : zKeep L σ (zWE σ' k f v) := ⟨fun c e q => h.1 c e q, fun c e q => by
    show (if c = k ∧ e = f then v else σ'.2 c e) = _
    rw [if_neg]
    · exact h.2 c e q
    · rintro ⟨rfl, rfl⟩
      rw [hh] at q
      cases q⟩
theorem zKeep.cp {L : List (Nat × Nat)} {σ σ' : ZSt} {a b : Nat} {i j n : Int32} (h : zKeep L σ σ') (hh : ∀ f, zHit L b f = true) : zKeep L σ (zCp σ' a i b j n) := ⟨fun c e q => h.1 c e q, fun c e q => by
    show (if c = b then _ else σ'.2 c e) = _
    rw [if_neg]
    · exact h.2 c e q
    · rintro rfl
      rw [hh] at q
      cases q⟩
def Fo {α : Type} (L : List (Nat × Nat)) (σ : ZSt) (st : α → ZSt) (o : Option α) : Prop := ∀ a, o = some a → zKeep L σ (st a)
section FO
variable {α β : Type} {L L' : List (Nat × Nat)} {σ σ' : ZSt} {st : α → ZSt} {A B : Option α}
theorem Fo_none : Fo L σ st none := fun _ h => by cases h
theorem Fo_some {a : α} (h : zKeep L σ (st a)) : Fo L σ st (some a) := fun _ e => by cases e; exact h
theorem Fo_ite {c : Prop} [Decidable c] (h1 : Fo L σ st A) (h2 : Fo L σ st B) : Fo L σ st (if c then A else B) := by
  by_cases h : c
  · rw [if_pos h]; exact h1
  · rw [if_neg h]; exact h2
theorem Fo_itn {c : Prop} [Decidable c] (h1 : Fo L σ st B) (h2 : Fo L σ st A) : Fo L σ st (if c then A else B) := Fo_ite h2 h1
theorem Fo_ld {b : Bool} {v : β} {K : β → Option α} (h : ∀ v, Fo L σ st (K v)) : Fo L σ st (zLd b v K) := by
  unfold zLd
  exact Fo_ite (h v) Fo_none
theorem Fo_row {x : Int32} {K : Nat → Option α} (h : ∀ j, (j = 56 ∨ j = 57 ∨ j = 58 ∨ j = 59 ∨ j = 60 ∨ j = 61) → Fo L σ st (K j)) : Fo L σ st (zLd (zIn x 6) (56 + x.toNatClampNeg) K) := by
  unfold zLd
  by_cases hb : zIn x 6 = true
  · rw [if_pos hb]
    have h1 := zIn_vp hb
    have hlt : x.toNatClampNeg < 6 := Nat.not_le.mp fun q => h1 (Or.inr q)
    exact h _ (by omega)
  · rw [if_neg hb]; exact Fo_none
theorem Fo_bindP {o : Option β} {K : β → Option α} (h : ∀ v, Fo L σ st (K v)) : Fo L σ st (o.bind K) := by
  cases o with
  | none => exact Fo_none
  | some v => exact h v
theorem Fo_dyn {x : Int32} {K : Nat → Option α} (h : ∀ t, (t = 62 ∨ t = 65) → Fo L σ st (K t)) : Fo L σ st ((zDyn x).bind K) := by
  cases hz : zDyn x with
  | none => exact Fo_none
  | some t =>
    refine h t ?_
    rcases zDyn_of hz with q | q
    · exact Or.inl q.1
    · exact Or.inr q.1
theorem Fo_bindS {o : Option (Int32 × ZSt)} {K : Int32 × ZSt → Option α} (hc : Fo L' σ' (fun b : Int32 × ZSt => b.2) o) (hs : zSub L' L = true) (h0 : zKeep L σ σ') (h : ∀ v : Int32 × ZSt, zKeep L σ v.2 → Fo L σ st (K v)) : Fo L σ st (o.bind K) := by
  cases ho : o with
  | none => exact Fo_none
  | some v => exact h v (h0.trans ((hc v ho).sub hs))
theorem Fo_bindV {o : Option ZSt} {K : ZSt → Option α} (hc : Fo L' σ' (fun b : ZSt => b) o) (hs : zSub L' L = true) (h0 : zKeep L σ σ') (h : ∀ v : ZSt, zKeep L σ v → Fo L σ st (K v)) : Fo L σ st (o.bind K) := by
  cases ho : o with
  | none => exact Fo_none
  | some v => exact h v (h0.trans ((hc v ho).sub hs))
theorem Fo_st {k f : Nat} {v : Int32} {K : ZSt → Option α} (h0 : zKeep L σ σ') (hh : zHit L k f = true) (h : ∀ s, zKeep L σ s → Fo L σ st (K s)) : Fo L σ st (zSt' (zWD σ' k f v) K) := h _ (h0.wd hh)
theorem Fo_sg {k f : Nat} {v : Int32} {b : Bool} {K : ZSt → Option α} (h0 : zKeep L σ σ') (hh : zHit L k f = true) (h : ∀ s, zKeep L σ s → Fo L σ st (K s)) : Fo L σ st (zSg b (zWD σ' k f v) K) := by
  unfold zSg
  exact Fo_ite (h _ (h0.wd hh)) Fo_none
theorem Fo_sgE {k f : Nat} {v : Int64} {b : Bool} {K : ZSt → Option α} (h0 : zKeep L σ σ') (hh : zHit L k f = true) (h : ∀ s, zKeep L σ s → Fo L σ st (K s)) : Fo L σ st (zSg b (zWE σ' k f v) K) := by
  unfold zSg
  exact Fo_ite (h _ (h0.we hh)) Fo_none
theorem Fo_sgC {a k : Nat} {i j n : Int32} {b : Bool} {K : ZSt → Option α} (h0 : zKeep L σ σ') (hh : ∀ f, zHit L k f = true) (h : ∀ s, zKeep L σ s → Fo L σ st (K s)) : Fo L σ st (zSg b (zCp σ' a i k j n) K) := by
  unfold zSg
  exact Fo_ite (h _ (h0.cp hh)) Fo_none
theorem Fo_tail (h0 : zKeep L σ σ') (h : Fo L σ' st A) : Fo L σ st A := fun a e => h0.trans (h a e)
end FO
def L_X7_addStreet : List (Nat × Nat) := [(1, 0), (2, 999), (3, 999)]
def L_X9_street : List (Nat × Nat) := [(1, 0), (2, 999), (3, 999)]
def L_X7_addWindow : List (Nat × Nat) := [(1, 5), (6, 999), (7, 999), (8, 999), (9, 999)]
def L_X9_window : List (Nat × Nat) := [(1, 5), (6, 999), (7, 999), (8, 999), (9, 999)]
def L_X9_comesFromRow : List (Nat × Nat) := [(1, 5), (6, 999), (7, 999), (8, 999), (9, 999)]
def L_X9_windows : List (Nat × Nat) := [(1, 5), (6, 999), (7, 999), (8, 999), (9, 999)]
def L_X7_addPlayer : List (Nat × Nat) := [(1, 10), (10, 999), (11, 999), (12, 999), (13, 999)]
def L_X9_player : List (Nat × Nat) := [(1, 10), (10, 999), (11, 999), (12, 999), (13, 999)]
def L_X1_forgetOldest : List (Nat × Nat) := [(41, 5), (42, 999), (43, 999), (44, 999), (45, 999)]
def L_X1_add : List (Nat × Nat) := [(41, 4), (41, 5), (42, 999), (43, 999), (44, 999), (45, 999)]
def L_X7_tell : List (Nat × Nat) := [(2, 999), (7, 999), (8, 999)]
def L_X9_mend : List (Nat × Nat) := [(2, 999), (7, 999), (8, 999), (41, 4), (41, 5), (42, 999), (43, 999), (44, 999), (45, 999)]
def L_X7_setWay : List (Nat × Nat) := [(4, 999), (5, 999)]
def L_X9_pay : List (Nat × Nat) := [(4, 999), (5, 999)]
def L_X3_feedBytes : List (Nat × Nat) := [(46, 1), (47, 999)]
def L_X9_feed : List (Nat × Nat) := [(46, 1), (47, 999)]
def L_X4_clearSteps : List (Nat × Nat) := [(62, 999), (65, 999)]
def L_X4_addStep : List (Nat × Nat) := [(62, 999), (63, 999), (65, 999), (66, 999)]
def L_X3_readNumber : List (Nat × Nat) := [(46, 2), (62, 999), (63, 999), (65, 999), (66, 999)]
def L_X3_readBracket : List (Nat × Nat) := [(46, 2), (62, 999), (63, 999), (65, 999), (66, 999)]
def L_X3_addSign : List (Nat × Nat) := [(62, 999), (63, 999), (65, 999), (66, 999)]
def L_X3_readOperand : List (Nat × Nat) := [(46, 2), (62, 999), (63, 999), (65, 999), (66, 999)]
def L_X3_readPart : List (Nat × Nat) := [(46, 2), (62, 999), (63, 999), (65, 999), (66, 999)]
def L_X3_readLine : List (Nat × Nat) := [(46, 2), (62, 999), (63, 999), (65, 999), (66, 999)]
def L_X3_read : List (Nat × Nat) := [(46, 1), (46, 2), (46, 3), (62, 999), (63, 999), (65, 999), (66, 999)]
def L_X9_law : List (Nat × Nat) := [(0, 9), (0, 10), (46, 1), (46, 2), (46, 3), (62, 999), (63, 999), (65, 999), (66, 999)]
def L_X8_takeWays (t : Nat) : List (Nat × Nat) := [(t + 1, 999), (t + 2, 999)]
def L_X8_countThere (t : Nat) : List (Nat × Nat) := [(t + 3, 999)]
def L_X8_begin (t : Nat) : List (Nat × Nat) := [(t + 3, 999), (t + 4, 999), (t + 6, 999)]
def L_X4_push : List (Nat × Nat) := [(62, 999), (64, 999), (65, 999), (67, 999)]
def L_X4_pop : List (Nat × Nat) := [(62, 999), (65, 999)]
def L_X4_worth : List (Nat × Nat) := [(62, 999), (64, 999), (65, 999), (67, 999)]
def L_X8_choice (t : Nat) : List (Nat × Nat) := [(62, 999), (64, 999), (65, 999), (67, 999), (t + 9, 999)]
def L_X8_allGo (t : Nat) : List (Nat × Nat) := [(62, 999), (64, 999), (65, 999), (67, 999), (t + 3, 999), (t + 6, 999), (t + 7, 999), (t + 9, 999)]
def L_X8_payOut (t : Nat) : List (Nat × Nat) := [(t + 4, 999)]
def L_X8_unpack (t : Nat) : List (Nat × Nat) := [(t + 3, 999), (t + 6, 999)]
def L_X8_follow (t : Nat) : List (Nat × Nat) := [(62, 999), (64, 999), (65, 999), (67, 999), (t, 11), (t, 12), (t, 13), (t, 14), (t, 15), (t + 3, 999), (t + 4, 999), (t + 6, 999), (t + 7, 999), (t + 9, 999), (t + 10, 999)]
def L_X8_settle (t : Nat) : List (Nat × Nat) := [(t + 5, 999), (t + 8, 999)]
def L_X8_settleAll (t : Nat) : List (Nat × Nat) := [(t + 3, 999), (t + 5, 999), (t + 6, 999), (t + 8, 999)]
def L_X7_setPlace : List (Nat × Nat) := [(13, 999)]
def L_X8_leaveThemThere (t : Nat) : List (Nat × Nat) := [(13, 999)]
def L_X9_weeks : List (Nat × Nat) := [(13, 999), (19, 11), (19, 12), (19, 13), (19, 14), (19, 15), (20, 999), (21, 999), (22, 999), (23, 999), (24, 999), (25, 999), (26, 999), (27, 999), (28, 999), (29, 999), (62, 999), (64, 999), (65, 999), (67, 999)]
def L_X8_supposeWay (t : Nat) : List (Nat × Nat) := [(t + 1, 999), (t + 2, 999)]
def L_X9_costInThought : List (Nat × Nat) := [(30, 11), (30, 12), (30, 13), (30, 14), (30, 15), (31, 999), (32, 999), (33, 999), (34, 999), (35, 999), (36, 999), (37, 999), (38, 999), (39, 999), (40, 999), (62, 999), (64, 999), (65, 999), (67, 999)]
def L_X9_best : List (Nat × Nat) := [(30, 11), (30, 12), (30, 13), (30, 14), (30, 15), (31, 999), (32, 999), (33, 999), (34, 999), (35, 999), (36, 999), (37, 999), (38, 999), (39, 999), (40, 999), (62, 999), (64, 999), (65, 999), (67, 999)]
def L_X9_thereInThought : List (Nat × Nat) := [(30, 11), (30, 12), (30, 13), (30, 14), (30, 15), (31, 999), (32, 999), (33, 999), (34, 999), (36, 999), (37, 999), (39, 999), (40, 999), (62, 999), (64, 999), (65, 999), (67, 999)]
def L_X9_called : List (Nat × Nat) := [(30, 11), (30, 12), (30, 13), (30, 14), (30, 15), (31, 999), (32, 999), (33, 999), (34, 999), (36, 999), (37, 999), (39, 999), (40, 999), (62, 999), (64, 999), (65, 999), (67, 999)]
def L_X9_off : List (Nat × Nat) := [(30, 11), (30, 12), (30, 13), (30, 14), (30, 15), (31, 999), (32, 999), (33, 999), (34, 999), (36, 999), (37, 999), (39, 999), (40, 999), (62, 999), (64, 999), (65, 999), (67, 999)]
def L_X2_share : List (Nat × Nat) := [(15, 4), (16, 999), (17, 999), (18, 999)]
def L_X9_fund : List (Nat × Nat) := [(15, 4), (16, 999), (17, 999), (18, 999)]
def L_X1_stepBack : List (Nat × Nat) := [(41, 5)]
def L_X9_undo : List (Nat × Nat) := [(2, 999), (7, 999), (8, 999), (41, 5)]
def L_X1_stepOn : List (Nat × Nat) := [(41, 5)]
def L_X9_redo : List (Nat × Nat) := [(2, 999), (7, 999), (8, 999), (41, 5)]
def L_X0_addBody : List (Nat × Nat) := [(48, 2), (49, 999)]
def L_X9_body : List (Nat × Nat) := [(48, 2), (49, 999)]
def L_X0_begin : List (Nat × Nat) := [(48, 3), (50, 999)]
def L_X0_from : List (Nat × Nat) := [(48, 3), (50, 999)]
def L_X0_self : List (Nat × Nat) := [(48, 3), (50, 999)]
def L_X0_run : List (Nat × Nat) := [(48, 3), (48, 4), (50, 999)]
def L_X9_act : List (Nat × Nat) := [(48, 3), (48, 4), (50, 999)]
def L_X6_clearShelf : List (Nat × Nat) := [(52, 999)]
def L_X6_holdBody : List (Nat × Nat) := [(52, 999), (53, 999)]
def L_X9_keep : List (Nat × Nat) := [(52, 999), (53, 999)]
def L_X6_holdRow : List (Nat × Nat) := [(52, 999), (54, 999), (56, 999), (57, 999), (58, 999), (59, 999), (60, 999), (61, 999)]
def L_X9_row : List (Nat × Nat) := [(52, 999), (54, 999), (56, 999), (57, 999), (58, 999), (59, 999), (60, 999), (61, 999)]
def L_X6_set : List (Nat × Nat) := [(56, 999), (57, 999), (58, 999), (59, 999), (60, 999), (61, 999)]
def L_X9_put : List (Nat × Nat) := [(56, 999), (57, 999), (58, 999), (59, 999), (60, 999), (61, 999)]
def L_X6_copy : List (Nat × Nat) := [(56, 999), (57, 999), (58, 999), (59, 999), (60, 999), (61, 999)]
def L_X9_shift : List (Nat × Nat) := [(56, 999), (57, 999), (58, 999), (59, 999), (60, 999), (61, 999)]
def L_X10_becomes : List (Nat × Nat) := [(68, 4), (68, 5), (69, 999), (70, 999), (71, 999), (72, 999)]
def L_X10_undo : List (Nat × Nat) := [(68, 5), (69, 999)]
def L_X10_redo : List (Nat × Nat) := [(68, 5), (69, 999)]
def L_X10_street : List (Nat × Nat) := [(68, 6), (69, 999), (73, 999), (74, 999), (75, 999)]
def L_X10_adds : List (Nat × Nat) := [(68, 10), (69, 999), (76, 999), (77, 999)]
def L_X10_window : List (Nat × Nat) := [(68, 10), (69, 999), (76, 999), (77, 999)]
def L_X10_windows : List (Nat × Nat) := [(68, 10), (69, 999), (76, 999), (77, 999)]
def L_X10_player : List (Nat × Nat) := [(68, 13), (78, 999), (79, 999), (80, 999), (81, 999)]
def L_X10_mend : List (Nat × Nat) := [(68, 4), (68, 5), (69, 999), (70, 999), (71, 999), (72, 999)]
def L_X10_pay : List (Nat × Nat) := [(74, 999), (75, 999)]
def L_X10_feed : List (Nat × Nat) := [(68, 19), (82, 999)]
def L_X10_wrong : List (Nat × Nat) := [(68, 25)]
def L_X10_takes : List (Nat × Nat) := [(68, 23)]
def L_X10_one : List (Nat × Nat) := [(68, 23), (68, 25), (68, 26)]
def L_X10_product : List (Nat × Nat) := [(68, 23), (68, 25), (68, 26)]
def L_X10_sums : List (Nat × Nat) := [(68, 23), (68, 25), (68, 26)]
def L_X10_compared : List (Nat × Nat) := [(68, 23), (68, 25), (68, 26)]
def L_X10_both : List (Nat × Nat) := [(68, 23), (68, 25), (68, 26)]
def L_X10_either : List (Nat × Nat) := [(68, 23), (68, 25), (68, 26)]
def L_X10_workOut : List (Nat × Nat) := [(68, 22), (68, 23), (68, 24), (68, 25), (68, 26)]
def L_X10_law : List (Nat × Nat) := [(68, 19), (68, 21), (68, 22), (68, 23), (68, 24), (68, 25), (68, 26), (83, 999)]
def L_X10_worthOf : List (Nat × Nat) := [(68, 22), (68, 23), (68, 24), (68, 25), (68, 26), (84, 999)]
def L_X10_countsThere : List (Nat × Nat) := [(87, 999)]
def L_X10_allGo : List (Nat × Nat) := [(68, 22), (68, 23), (68, 24), (68, 25), (68, 26), (84, 999), (85, 999), (86, 999)]
def L_X10_streetWeek : List (Nat × Nat) := [(88, 999), (89, 999), (90, 999)]
def L_X10_goesWeeks : List (Nat × Nat) := [(68, 22), (68, 23), (68, 24), (68, 25), (68, 26), (84, 999), (85, 999), (86, 999), (87, 999), (88, 999), (89, 999), (90, 999)]
def L_X10_weeks : List (Nat × Nat) := [(68, 22), (68, 23), (68, 24), (68, 25), (68, 26), (68, 34), (68, 35), (81, 999), (84, 999), (85, 999), (86, 999), (87, 999), (88, 999), (89, 999), (90, 999), (91, 999), (92, 999), (93, 999)]
def L_X10_best : List (Nat × Nat) := [(68, 22), (68, 23), (68, 24), (68, 25), (68, 26), (74, 999), (75, 999), (84, 999), (85, 999), (86, 999), (87, 999), (88, 999), (89, 999), (90, 999)]
def L_X10_called : List (Nat × Nat) := [(68, 22), (68, 23), (68, 24), (68, 25), (68, 26), (74, 999), (84, 999), (85, 999), (86, 999), (87, 999), (88, 999), (89, 999), (90, 999)]
def L_X10_off : List (Nat × Nat) := [(68, 22), (68, 23), (68, 24), (68, 25), (68, 26), (74, 999), (75, 999), (84, 999), (85, 999), (86, 999), (87, 999), (88, 999), (89, 999), (90, 999)]
def L_X10_body : List (Nat × Nat) := [(68, 39), (94, 999)]
def L_X10_begins : List (Nat × Nat) := [(68, 42), (95, 999)]
def L_X10_waitsAs : List (Nat × Nat) := [(68, 42), (95, 999)]
def L_X10_hearsAs : List (Nat × Nat) := [(68, 42), (95, 999)]
def L_X10_paysAs : List (Nat × Nat) := [(68, 42), (95, 999)]
def L_X10_tellsAs : List (Nat × Nat) := [(68, 42), (95, 999)]
def L_X10_act : List (Nat × Nat) := [(68, 42), (68, 43), (68, 44), (95, 999)]
def L_X10_keep : List (Nat × Nat) := [(96, 999), (97, 999)]
def L_X10_row : List (Nat × Nat) := [(96, 999), (97, 999), (98, 999)]
def L_X10_put : List (Nat × Nat) := [(98, 999)]
def L_X10_shift : List (Nat × Nat) := [(98, 999), (99, 999)]
theorem f_X7_addStreet (p0 : Int32) (p1 : Int32) (σ : ZSt) : Fo L_X7_addStreet σ (fun b : Int32 × ZSt => b.2) (s_X7_addStreet p0 p1 σ) := by
  have h0 : zKeep L_X7_addStreet σ σ := zKeep.rf
  unfold s_X7_addStreet
  refine Fo_ite ?_ ?_
  · skip
    refine Fo_sg (by assumption) (by first | rfl) fun σ1 hσ1 => ?_
    refine Fo_sg (by assumption) (by first | rfl) fun σ2 hσ2 => ?_
    refine Fo_st (by assumption) (by first | rfl) fun σ3 hσ3 => ?_
    exact Fo_some (by assumption)
  · skip
    exact Fo_some (by assumption)
theorem f_X9_street (p0 : Int32) (p1 : Int32) (σ : ZSt) : Fo L_X9_street σ (fun b : Int32 × ZSt => b.2) (s_X9_street p0 p1 σ) := by
  have h0 : zKeep L_X9_street σ σ := zKeep.rf
  unfold s_X9_street
  refine Fo_bindP fun r1 => ?_
  refine Fo_ite ?_ ?_
  · skip
    exact Fo_some (by assumption)
  · skip
    refine Fo_bindP fun r2 => ?_
    refine Fo_itn ?_ ?_
    · skip
      refine Fo_bindS (by apply f_X7_addStreet) (by first | rfl) (by assumption) fun r3 hr3 => ?_
      exact Fo_some (by assumption)
    · skip
      exact Fo_some (by assumption)
theorem f_X7_addWindow (p0 : Int32) (p1 : Int32) (p2 : Int32) (p3 : Int32) (σ : ZSt) : Fo L_X7_addWindow σ (fun b : Int32 × ZSt => b.2) (s_X7_addWindow p0 p1 p2 p3 σ) := by
  have h0 : zKeep L_X7_addWindow σ σ := zKeep.rf
  unfold s_X7_addWindow
  refine Fo_ite ?_ ?_
  · skip
    refine Fo_sg (by assumption) (by first | rfl) fun σ1 hσ1 => ?_
    refine Fo_sg (by assumption) (by first | rfl) fun σ2 hσ2 => ?_
    refine Fo_sg (by assumption) (by first | rfl) fun σ3 hσ3 => ?_
    refine Fo_sg (by assumption) (by first | rfl) fun σ4 hσ4 => ?_
    refine Fo_st (by assumption) (by first | rfl) fun σ5 hσ5 => ?_
    exact Fo_some (by assumption)
  · skip
    exact Fo_some (by assumption)
theorem f_X9_window (p0 : Int32) (p1 : Int32) (σ : ZSt) : Fo L_X9_window σ (fun b : Int32 × ZSt => b.2) (s_X9_window p0 p1 σ) := by
  have h0 : zKeep L_X9_window σ σ := zKeep.rf
  unfold s_X9_window
  refine Fo_ite ?_ ?_
  · skip
    exact Fo_some (by assumption)
  · skip
    refine Fo_ite ?_ ?_
    · skip
      refine Fo_bindP fun r1 => ?_
      refine Fo_itn ?_ ?_
      · skip
        refine Fo_bindS (by apply f_X7_addWindow) (by first | rfl) (by assumption) fun r2 hr2 => ?_
        exact Fo_some (by assumption)
      · skip
        exact Fo_some (by assumption)
    · skip
      exact Fo_some (by assumption)
theorem f_X9_comesFromRow (p0 : Int32) (p1 : Int32) (σ : ZSt) : Fo L_X9_comesFromRow σ (fun b : Int32 × ZSt => b.2) (s_X9_comesFromRow p0 p1 σ) := by
  have h0 : zKeep L_X9_comesFromRow σ σ := zKeep.rf
  unfold s_X9_comesFromRow
  refine Fo_bindP fun r1 => ?_
  refine Fo_itn ?_ ?_
  · skip
    refine Fo_bindP fun r2 => ?_
    refine Fo_bindP fun r3 => ?_
    refine Fo_bindP fun r4 => ?_
    refine Fo_bindP fun r5 => ?_
    refine Fo_bindP fun r6 => ?_
    refine Fo_ite ?_ ?_
    · skip
      exact Fo_some (by assumption)
    · skip
      refine Fo_bindS (by apply f_X7_addWindow) (by first | rfl) (by assumption) fun r7 hr7 => ?_
      refine Fo_ite ?_ ?_
      · skip
        exact Fo_some (by assumption)
      · skip
        exact Fo_some (by assumption)
  · skip
    exact Fo_some (by assumption)
theorem f_X9_windows_L53 (l1 : Int32) (l2 : Int32) (l3 : Int32) : ∀ (n : Nat) (l4 : Int32) (σ : ZSt), Fo L_X9_windows σ (fun b : Int32 × ZSt => b.2) (s_X9_windows_L53 l1 l2 l3 n l4 σ) := by
  intro n
  induction n with
  | zero => intros; exact Fo_none
  | succ n ih =>
    intro l4 σ
    have h0 : zKeep L_X9_windows σ σ := zKeep.rf
    rw [s_X9_windows_L53]
    refine Fo_ite ?_ ?_
    · skip
      exact Fo_some (by assumption)
    · skip
      refine Fo_bindS (by apply f_X9_comesFromRow) (by first | rfl) (by assumption) fun r1 hr1 => ?_
      refine Fo_ite ?_ ?_
      · skip
        exact Fo_some (by assumption)
      · skip
        exact Fo_tail (by assumption) (by apply ih)
theorem f_X9_windows (p0 : Int32) (p1 : Int32) (p2 : Int32) (σ : ZSt) : Fo L_X9_windows σ (fun b : Int32 × ZSt => b.2) (s_X9_windows p0 p1 p2 σ) := by
  have h0 : zKeep L_X9_windows σ σ := zKeep.rf
  unfold s_X9_windows
  refine Fo_bindP fun r1 => ?_
  refine Fo_ite ?_ ?_
  · skip
    exact Fo_some (by assumption)
  · skip
    refine Fo_bindP fun r2 => ?_
    refine Fo_itn ?_ ?_
    · skip
      refine Fo_bindP fun r3 => ?_
      refine Fo_ite ?_ ?_
      · skip
        refine Fo_bindP fun r4 => ?_
        refine Fo_itn ?_ ?_
        · skip
          exact Fo_tail (by assumption) (by apply f_X9_windows_L53 <;> assumption)
        · skip
          exact Fo_some (by assumption)
      · skip
        exact Fo_some (by assumption)
    · skip
      exact Fo_some (by assumption)
theorem f_X7_addPlayer (p0 : Int32) (p1 : Int32) (p2 : Int32) (p3 : Int32) (σ : ZSt) : Fo L_X7_addPlayer σ (fun b : Int32 × ZSt => b.2) (s_X7_addPlayer p0 p1 p2 p3 σ) := by
  have h0 : zKeep L_X7_addPlayer σ σ := zKeep.rf
  unfold s_X7_addPlayer
  refine Fo_ite ?_ ?_
  · skip
    refine Fo_sg (by assumption) (by first | rfl) fun σ1 hσ1 => ?_
    refine Fo_sg (by assumption) (by first | rfl) fun σ2 hσ2 => ?_
    refine Fo_sg (by assumption) (by first | rfl) fun σ3 hσ3 => ?_
    refine Fo_sg (by assumption) (by first | rfl) fun σ4 hσ4 => ?_
    refine Fo_st (by assumption) (by first | rfl) fun σ5 hσ5 => ?_
    exact Fo_some (by assumption)
  · skip
    exact Fo_some (by assumption)
theorem f_X9_player (p0 : Int32) (p1 : Int32) (p2 : Int32) (σ : ZSt) : Fo L_X9_player σ (fun b : Int32 × ZSt => b.2) (s_X9_player p0 p1 p2 σ) := by
  have h0 : zKeep L_X9_player σ σ := zKeep.rf
  unfold s_X9_player
  refine Fo_bindP fun r1 => ?_
  refine Fo_ite ?_ ?_
  · skip
    exact Fo_some (by assumption)
  · skip
    refine Fo_bindP fun r2 => ?_
    refine Fo_itn ?_ ?_
    · skip
      refine Fo_ite ?_ ?_
      · skip
        refine Fo_bindS (by apply f_X7_addPlayer) (by first | rfl) (by assumption) fun r3 hr3 => ?_
        exact Fo_some (by assumption)
      · skip
        refine Fo_bindP fun r4 => ?_
        refine Fo_itn ?_ ?_
        · skip
          refine Fo_bindS (by apply f_X7_addPlayer) (by first | rfl) (by assumption) fun r5 hr5 => ?_
          exact Fo_some (by assumption)
        · skip
          exact Fo_some (by assumption)
    · skip
      exact Fo_some (by assumption)
theorem f_X1_forgetOldest_L2 : ∀ (n : Nat) (l1 : Int32) (σ : ZSt), Fo L_X1_forgetOldest σ (fun b : ZSt => b) (s_X1_forgetOldest_L2 n l1 σ) := by
  intro n
  induction n with
  | zero => intros; exact Fo_none
  | succ n ih =>
    intro l1 σ
    have h0 : zKeep L_X1_forgetOldest σ σ := zKeep.rf
    rw [s_X1_forgetOldest_L2]
    refine Fo_ite ?_ ?_
    · skip
      refine Fo_st (by assumption) (by first | rfl) fun σ1 hσ1 => ?_
      exact Fo_some (by assumption)
    · skip
      refine Fo_ld fun v2 => ?_
      refine Fo_sg (by assumption) (by first | rfl) fun σ3 hσ3 => ?_
      refine Fo_ld fun v4 => ?_
      refine Fo_sg (by assumption) (by first | rfl) fun σ5 hσ5 => ?_
      refine Fo_ld fun v6 => ?_
      refine Fo_sg (by assumption) (by first | rfl) fun σ7 hσ7 => ?_
      refine Fo_ld fun v8 => ?_
      refine Fo_sg (by assumption) (by first | rfl) fun σ9 hσ9 => ?_
      exact Fo_tail (by assumption) (by apply ih)
theorem f_X1_forgetOldest (σ : ZSt) : Fo L_X1_forgetOldest σ (fun b : ZSt => b) (s_X1_forgetOldest σ) := by
  have h0 : zKeep L_X1_forgetOldest σ σ := zKeep.rf
  unfold s_X1_forgetOldest
  exact Fo_tail (by assumption) (by apply f_X1_forgetOldest_L2 <;> assumption)
theorem f_X1_add_C13 (l1 : Int32) (l2 : Int32) (l3 : Int32) (l4 : Int32) (σ : ZSt) : Fo L_X1_add σ (fun b : ZSt => b) (s_X1_add_C13 l1 l2 l3 l4 σ) := by
  have h0 : zKeep L_X1_add σ σ := zKeep.rf
  unfold s_X1_add_C13
  refine Fo_sg (by assumption) (by first | rfl) fun σ1 hσ1 => ?_
  refine Fo_sg (by assumption) (by first | rfl) fun σ2 hσ2 => ?_
  refine Fo_sg (by assumption) (by first | rfl) fun σ3 hσ3 => ?_
  refine Fo_sg (by assumption) (by first | rfl) fun σ4 hσ4 => ?_
  refine Fo_st (by assumption) (by first | rfl) fun σ5 hσ5 => ?_
  refine Fo_st (by assumption) (by first | rfl) fun σ6 hσ6 => ?_
  exact Fo_some (by assumption)
theorem f_X1_add (p0 : Int32) (p1 : Int32) (p2 : Int32) (p3 : Int32) (σ : ZSt) : Fo L_X1_add σ (fun b : ZSt => b) (s_X1_add p0 p1 p2 p3 σ) := by
  have h0 : zKeep L_X1_add σ σ := zKeep.rf
  unfold s_X1_add
  refine Fo_ite ?_ ?_
  · exact Fo_tail (by assumption) (by apply f_X1_add_C13 <;> assumption)
  · skip
    refine Fo_bindV (by apply f_X1_forgetOldest) (by first | rfl) (by assumption) fun σ1 hσ1 => ?_
    exact Fo_tail (by assumption) (by apply f_X1_add_C13 <;> assumption)
theorem f_X7_tell (p0 : Int32) (p1 : Int32) (p2 : Int32) (σ : ZSt) : Fo L_X7_tell σ (fun b : ZSt => b) (s_X7_tell p0 p1 p2 σ) := by
  have h0 : zKeep L_X7_tell σ σ := zKeep.rf
  unfold s_X7_tell
  refine Fo_itn ?_ ?_
  · skip
    refine Fo_bindP fun r1 => ?_
    refine Fo_ite ?_ ?_
    · exact Fo_some (by assumption)
    · skip
      refine Fo_itn ?_ ?_
      · skip
        refine Fo_sg (by assumption) (by first | rfl) fun σ2 hσ2 => ?_
        exact Fo_some (by assumption)
      · skip
        refine Fo_sg (by assumption) (by first | rfl) fun σ3 hσ3 => ?_
        exact Fo_some (by assumption)
  · skip
    refine Fo_bindP fun r4 => ?_
    refine Fo_ite ?_ ?_
    · exact Fo_some (by assumption)
    · skip
      refine Fo_sg (by assumption) (by first | rfl) fun σ5 hσ5 => ?_
      exact Fo_some (by assumption)
theorem f_X9_mend (p0 : Int32) (p1 : Int32) (p2 : Int32) (σ : ZSt) : Fo L_X9_mend σ (fun b : Int32 × ZSt => b.2) (s_X9_mend p0 p1 p2 σ) := by
  have h0 : zKeep L_X9_mend σ σ := zKeep.rf
  unfold s_X9_mend
  refine Fo_bindP fun r1 => ?_
  refine Fo_itn ?_ ?_
  · skip
    refine Fo_bindP fun r2 => ?_
    refine Fo_ite ?_ ?_
    · skip
      exact Fo_some (by assumption)
    · skip
      refine Fo_bindV (by apply f_X1_add) (by first | rfl) (by assumption) fun σ3 hσ3 => ?_
      refine Fo_bindV (by apply f_X7_tell) (by first | rfl) (by assumption) fun σ4 hσ4 => ?_
      exact Fo_some (by assumption)
  · skip
    exact Fo_some (by assumption)
theorem f_X7_setWay (p0 : Int32) (p1 : Int32) (p2 : Int32) (σ : ZSt) : Fo L_X7_setWay σ (fun b : ZSt => b) (s_X7_setWay p0 p1 p2 σ) := by
  have h0 : zKeep L_X7_setWay σ σ := zKeep.rf
  unfold s_X7_setWay
  refine Fo_bindP fun r1 => ?_
  refine Fo_itn ?_ ?_
  · skip
    refine Fo_sg (by assumption) (by first | rfl) fun σ2 hσ2 => ?_
    refine Fo_sg (by assumption) (by first | rfl) fun σ3 hσ3 => ?_
    exact Fo_some (by assumption)
  · exact Fo_some (by assumption)
theorem f_X9_pay (p0 : Int32) (p1 : Int32) (σ : ZSt) : Fo L_X9_pay σ (fun b : Int32 × ZSt => b.2) (s_X9_pay p0 p1 σ) := by
  have h0 : zKeep L_X9_pay σ σ := zKeep.rf
  unfold s_X9_pay
  refine Fo_bindP fun r1 => ?_
  refine Fo_ite ?_ ?_
  · skip
    exact Fo_some (by assumption)
  · skip
    refine Fo_bindP fun r2 => ?_
    refine Fo_itn ?_ ?_
    · skip
      refine Fo_bindP fun r3 => ?_
      refine Fo_bindV (by apply f_X7_setWay) (by first | rfl) (by assumption) fun σ4 hσ4 => ?_
      exact Fo_some (by assumption)
    · skip
      exact Fo_some (by assumption)
theorem f_X3_feedBytes_L16 (l1 : Int32) (l2 : Int32) : ∀ (n : Nat) (l3 : Int32) (σ : ZSt), Fo L_X3_feedBytes σ (fun b : Int32 × ZSt => b.2) (s_X3_feedBytes_L16 l1 l2 n l3 σ) := by
  intro n
  induction n with
  | zero => intros; exact Fo_none
  | succ n ih =>
    intro l3 σ
    have h0 : zKeep L_X3_feedBytes σ σ := zKeep.rf
    rw [s_X3_feedBytes_L16]
    refine Fo_ite ?_ ?_
    · skip
      exact Fo_some (by assumption)
    · skip
      refine Fo_st (by assumption) (by first | rfl) fun σ1 hσ1 => ?_
      refine Fo_sg (by assumption) (by first | rfl) fun σ2 hσ2 => ?_
      exact Fo_tail (by assumption) (by apply ih)
theorem f_X3_feedBytes (p0 : Int32) (p1 : Int32) (σ : ZSt) : Fo L_X3_feedBytes σ (fun b : Int32 × ZSt => b.2) (s_X3_feedBytes p0 p1 σ) := by
  have h0 : zKeep L_X3_feedBytes σ σ := zKeep.rf
  unfold s_X3_feedBytes
  refine Fo_ite ?_ ?_
  · skip
    exact Fo_tail (by assumption) (by apply f_X3_feedBytes_L16 <;> assumption)
  · skip
    exact Fo_some (by assumption)
theorem f_X9_feed (p0 : Int32) (p1 : Int32) (σ : ZSt) : Fo L_X9_feed σ (fun b : Int32 × ZSt => b.2) (s_X9_feed p0 p1 σ) := by
  have h0 : zKeep L_X9_feed σ σ := zKeep.rf
  unfold s_X9_feed
  refine Fo_bindP fun r1 => ?_
  refine Fo_itn ?_ ?_
  · skip
    refine Fo_bindS (by apply f_X3_feedBytes) (by first | rfl) (by assumption) fun r2 hr2 => ?_
    exact Fo_some (by assumption)
  · skip
    exact Fo_some (by assumption)
theorem f_X4_clearSteps (t : Nat) (ht : t = 62 ∨ t = 65) (σ : ZSt) : Fo L_X4_clearSteps σ (fun b : ZSt => b) (s_X4_clearSteps t σ) := by
  have h0 : zKeep L_X4_clearSteps σ σ := zKeep.rf
  unfold s_X4_clearSteps
  refine Fo_st (by assumption) (by first | rfl | (rcases ht with rfl | rfl <;> rfl)) fun σ1 hσ1 => ?_
  exact Fo_some (by assumption)
theorem f_X4_addStep (t : Nat) (ht : t = 62 ∨ t = 65) (p0 : Int32) (σ : ZSt) : Fo L_X4_addStep σ (fun b : ZSt => b) (s_X4_addStep t p0 σ) := by
  have h0 : zKeep L_X4_addStep σ σ := zKeep.rf
  unfold s_X4_addStep
  refine Fo_ite ?_ ?_
  · exact Fo_some (by assumption)
  · skip
    refine Fo_st (by assumption) (by first | rfl | (rcases ht with rfl | rfl <;> rfl)) fun σ1 hσ1 => ?_
    refine Fo_sg (by assumption) (by first | rfl | (rcases ht with rfl | rfl <;> rfl)) fun σ2 hσ2 => ?_
    exact Fo_some (by assumption)
theorem f_X3_readNumber_C48 (l1 : Int32) (σ : ZSt) : Fo L_X3_readNumber σ (fun b : Int32 × ZSt => b.2) (s_X3_readNumber_C48 l1 σ) := by
  have h0 : zKeep L_X3_readNumber σ σ := zKeep.rf
  unfold s_X3_readNumber_C48
  refine Fo_dyn fun t1 ht1 => ?_
  refine Fo_bindV (by apply f_X4_addStep <;> first | assumption | exact Or.inl rfl | exact kW9 ht | exact Or.inr rfl) (by first | rfl) (by assumption) fun σ2 hσ2 => ?_
  exact Fo_some (by assumption)
theorem f_X3_readNumber_L4 : ∀ (n : Nat) (l1 : Int32) (l2 : Int32) (σ : ZSt), Fo L_X3_readNumber σ (fun b : Int32 × ZSt => b.2) (s_X3_readNumber_L4 n l1 l2 σ) := by
  intro n
  induction n with
  | zero => intros; exact Fo_none
  | succ n ih =>
    intro l1 l2 σ
    have h0 : zKeep L_X3_readNumber σ σ := zKeep.rf
    rw [s_X3_readNumber_L4]
    refine Fo_ite ?_ ?_
    · exact Fo_tail (by assumption) (by apply f_X3_readNumber_C48 <;> assumption)
    · skip
      refine Fo_bindP fun r1 => ?_
      refine Fo_bindP fun r2 => ?_
      refine Fo_ite ?_ ?_
      · exact Fo_tail (by assumption) (by apply f_X3_readNumber_C48 <;> assumption)
      · skip
        refine Fo_bindP fun r3 => ?_
        refine Fo_st (by assumption) (by first | rfl) fun σ4 hσ4 => ?_
        exact Fo_tail (by assumption) (by apply ih)
theorem f_X3_readNumber (σ : ZSt) : Fo L_X3_readNumber σ (fun b : Int32 × ZSt => b.2) (s_X3_readNumber σ) := by
  have h0 : zKeep L_X3_readNumber σ σ := zKeep.rf
  unfold s_X3_readNumber
  exact Fo_tail (by assumption) (by apply f_X3_readNumber_L4 <;> assumption)
theorem f_X3_readBracket (f_X3_readPart : Int32 → Int32 → ZSt → Option (Int32 × ZSt)) (hw_X3_readPart : ∀ (p0 : Int32) (p1 : Int32) (σ : ZSt), Fo L_X3_readPart σ (fun b : Int32 × ZSt => b.2) (f_X3_readPart p0 p1 σ)) (p0 : Int32) (σ : ZSt) : Fo L_X3_readBracket σ (fun b : Int32 × ZSt => b.2) (s_X3_readBracket f_X3_readPart p0 σ) := by
  have h0 : zKeep L_X3_readBracket σ σ := zKeep.rf
  unfold s_X3_readBracket
  refine Fo_st (by assumption) (by first | rfl) fun σ1 hσ1 => ?_
  refine Fo_bindS (by apply hw_X3_readPart) (by first | rfl) (by assumption) fun r2 hr2 => ?_
  refine Fo_ite ?_ ?_
  · skip
    exact Fo_some (by assumption)
  · skip
    refine Fo_bindP fun r3 => ?_
    refine Fo_ite ?_ ?_
    · skip
      refine Fo_st (by assumption) (by first | rfl) fun σ4 hσ4 => ?_
      exact Fo_some (by assumption)
    · skip
      exact Fo_some (by assumption)
theorem f_X3_addSign (p0 : Int32) (σ : ZSt) : Fo L_X3_addSign σ (fun b : ZSt => b) (s_X3_addSign p0 σ) := by
  have h0 : zKeep L_X3_addSign σ σ := zKeep.rf
  unfold s_X3_addSign
  refine Fo_dyn fun t1 ht1 => ?_
  refine Fo_bindV (by apply f_X4_addStep <;> first | assumption | exact Or.inl rfl | exact kW9 ht | exact Or.inr rfl) (by first | rfl) (by assumption) fun σ2 hσ2 => ?_
  exact Fo_some (by assumption)
theorem f_X3_readOperand_C95 (f_X3_readBracket : Int32 → ZSt → Option (Int32 × ZSt)) (hw_X3_readBracket : ∀ (p0 : Int32) (σ : ZSt), Fo L_X3_readBracket σ (fun b : Int32 × ZSt => b.2) (f_X3_readBracket p0 σ)) (f_X3_readOperand : Int32 → ZSt → Option (Int32 × ZSt)) (hw_X3_readOperand : ∀ (p0 : Int32) (σ : ZSt), Fo L_X3_readOperand σ (fun b : Int32 × ZSt => b.2) (f_X3_readOperand p0 σ)) (l1 : Int32) (l2 : Int32) (σ : ZSt) : Fo L_X3_readOperand σ (fun b : Int32 × ZSt => b.2) (s_X3_readOperand_C95 f_X3_readBracket f_X3_readOperand l1 l2 σ) := by
  have h0 : zKeep L_X3_readOperand σ σ := zKeep.rf
  unfold s_X3_readOperand_C95
  refine Fo_st (by assumption) (by first | rfl) fun σ1 hσ1 => ?_
  refine Fo_bindS (by apply hw_X3_readOperand) (by first | rfl) (by assumption) fun r2 hr2 => ?_
  refine Fo_itn ?_ ?_
  · skip
    refine Fo_itn ?_ ?_
    · skip
      refine Fo_bindV (by apply f_X3_addSign) (by first | rfl) (by assumption) fun σ3 hσ3 => ?_
      exact Fo_some (by assumption)
    · skip
      refine Fo_bindV (by apply f_X3_addSign) (by first | rfl) (by assumption) fun σ4 hσ4 => ?_
      exact Fo_some (by assumption)
  · skip
    exact Fo_some (by assumption)
theorem f_X3_readOperand_C32 (f_X3_readBracket : Int32 → ZSt → Option (Int32 × ZSt)) (hw_X3_readBracket : ∀ (p0 : Int32) (σ : ZSt), Fo L_X3_readBracket σ (fun b : Int32 × ZSt => b.2) (f_X3_readBracket p0 σ)) (f_X3_readOperand : Int32 → ZSt → Option (Int32 × ZSt)) (hw_X3_readOperand : ∀ (p0 : Int32) (σ : ZSt), Fo L_X3_readOperand σ (fun b : Int32 × ZSt => b.2) (f_X3_readOperand p0 σ)) (l1 : Int32) (l2 : Int32) (k_0 : Int32) (σ : ZSt) : Fo L_X3_readOperand σ (fun b : Int32 × ZSt => b.2) (s_X3_readOperand_C32 f_X3_readBracket f_X3_readOperand l1 l2 k_0 σ) := by
  have h0 : zKeep L_X3_readOperand σ σ := zKeep.rf
  unfold s_X3_readOperand_C32
  refine Fo_ite ?_ ?_
  · skip
    refine Fo_ite ?_ ?_
    · skip
      refine Fo_itn ?_ ?_
      · skip
        refine Fo_ite ?_ ?_
        · exact Fo_tail (by assumption) (by apply f_X3_readOperand_C95 <;> assumption)
        · skip
          refine Fo_ite ?_ ?_
          · exact Fo_tail (by assumption) (by apply f_X3_readOperand_C95 <;> assumption)
          · skip
            exact Fo_some (by assumption)
      · skip
        refine Fo_bindS (by apply hw_X3_readBracket) (by first | rfl) (by assumption) fun r1 hr1 => ?_
        refine Fo_ite ?_ Fo_none
        exact Fo_some (by assumption)
    · skip
      exact Fo_some (by assumption)
  · skip
    refine Fo_st (by assumption) (by first | rfl) fun σ2 hσ2 => ?_
    refine Fo_dyn fun t3 ht3 => ?_
    refine Fo_bindV (by apply f_X4_addStep <;> first | assumption | exact Or.inl rfl | exact kW9 ht | exact Or.inr rfl) (by first | rfl) (by assumption) fun σ4 hσ4 => ?_
    exact Fo_some (by assumption)
theorem f_X3_readOperand (f_X3_readBracket : Int32 → ZSt → Option (Int32 × ZSt)) (hw_X3_readBracket : ∀ (p0 : Int32) (σ : ZSt), Fo L_X3_readBracket σ (fun b : Int32 × ZSt => b.2) (f_X3_readBracket p0 σ)) (f_X3_readOperand : Int32 → ZSt → Option (Int32 × ZSt)) (hw_X3_readOperand : ∀ (p0 : Int32) (σ : ZSt), Fo L_X3_readOperand σ (fun b : Int32 × ZSt => b.2) (f_X3_readOperand p0 σ)) (p0 : Int32) (σ : ZSt) : Fo L_X3_readOperand σ (fun b : Int32 × ZSt => b.2) (s_X3_readOperand f_X3_readBracket f_X3_readOperand p0 σ) := by
  have h0 : zKeep L_X3_readOperand σ σ := zKeep.rf
  unfold s_X3_readOperand
  refine Fo_bindP fun r1 => ?_
  refine Fo_bindP fun r2 => ?_
  refine Fo_ite ?_ ?_
  · skip
    refine Fo_ite ?_ ?_
    · skip
      refine Fo_bindP fun r3 => ?_
      exact Fo_tail (by assumption) (by apply f_X3_readOperand_C32 <;> assumption)
    · skip
      exact Fo_tail (by assumption) (by apply f_X3_readOperand_C32 <;> assumption)
  · skip
    refine Fo_bindS (by apply f_X3_readNumber) (by first | rfl) (by assumption) fun r4 hr4 => ?_
    refine Fo_ite ?_ Fo_none
    exact Fo_some (by assumption)
theorem f_X3_readPart_L39 (f_X3_readOperand : Int32 → ZSt → Option (Int32 × ZSt)) (hw_X3_readOperand : ∀ (p0 : Int32) (σ : ZSt), Fo L_X3_readOperand σ (fun b : Int32 × ZSt => b.2) (f_X3_readOperand p0 σ)) (f_X3_readPart : Int32 → Int32 → ZSt → Option (Int32 × ZSt)) (hw_X3_readPart : ∀ (p0 : Int32) (p1 : Int32) (σ : ZSt), Fo L_X3_readPart σ (fun b : Int32 × ZSt => b.2) (f_X3_readPart p0 p1 σ)) (l1 : Int32) (l2 : Int32) (l3 : Int32) : ∀ (n : Nat) (l4 : Int32) (σ : ZSt), Fo L_X3_readPart σ (fun b : Int32 × ZSt => b.2) (s_X3_readPart_L39 f_X3_readOperand f_X3_readPart l1 l2 l3 n l4 σ) := by
  intro n
  induction n with
  | zero => intros; exact Fo_none
  | succ n ih =>
    intro l4 σ
    have h0 : zKeep L_X3_readPart σ σ := zKeep.rf
    rw [s_X3_readPart_L39]
    refine Fo_ite ?_ ?_
    · skip
      exact Fo_some (by assumption)
    · skip
      refine Fo_bindP fun r1 => ?_
      refine Fo_bindP fun r2 => ?_
      refine Fo_itn ?_ ?_
      · skip
        exact Fo_some (by assumption)
      · skip
        refine Fo_bindP fun r3 => ?_
        refine Fo_st (by assumption) (by first | rfl) fun σ4 hσ4 => ?_
        refine Fo_bindS (by apply hw_X3_readPart) (by first | rfl) (by assumption) fun r5 hr5 => ?_
        refine Fo_itn ?_ ?_
        · skip
          refine Fo_bindV (by apply f_X3_addSign) (by first | rfl) (by assumption) fun σ6 hσ6 => ?_
          exact Fo_tail (by assumption) (by apply ih)
        · skip
          exact Fo_some (by assumption)
theorem f_X3_readPart (f_X3_readOperand : Int32 → ZSt → Option (Int32 × ZSt)) (hw_X3_readOperand : ∀ (p0 : Int32) (σ : ZSt), Fo L_X3_readOperand σ (fun b : Int32 × ZSt => b.2) (f_X3_readOperand p0 σ)) (f_X3_readPart : Int32 → Int32 → ZSt → Option (Int32 × ZSt)) (hw_X3_readPart : ∀ (p0 : Int32) (p1 : Int32) (σ : ZSt), Fo L_X3_readPart σ (fun b : Int32 × ZSt => b.2) (f_X3_readPart p0 p1 σ)) (p0 : Int32) (p1 : Int32) (σ : ZSt) : Fo L_X3_readPart σ (fun b : Int32 × ZSt => b.2) (s_X3_readPart f_X3_readOperand f_X3_readPart p0 p1 σ) := by
  have h0 : zKeep L_X3_readPart σ σ := zKeep.rf
  unfold s_X3_readPart
  refine Fo_ite ?_ ?_
  · skip
    refine Fo_bindS (by apply hw_X3_readPart) (by first | rfl) (by assumption) fun r1 hr1 => ?_
    refine Fo_itn ?_ ?_
    · skip
      refine Fo_itn ?_ ?_
      · skip
        exact Fo_tail (by assumption) (by apply f_X3_readPart_L39 <;> assumption)
      · skip
        exact Fo_tail (by assumption) (by apply f_X3_readPart_L39 <;> assumption)
    · skip
      exact Fo_some (by assumption)
  · skip
    refine Fo_bindS (by apply hw_X3_readOperand) (by first | rfl) (by assumption) fun r2 hr2 => ?_
    refine Fo_ite ?_ Fo_none
    exact Fo_some (by assumption)
theorem ft_X3_readBracket_readOperand_readPart : ∀ d : Nat, (∀ (p0 : Int32) (σ : ZSt), Fo L_X3_readBracket σ (fun b : Int32 × ZSt => b.2) (rd_X3_readBracket d p0 σ)) ∧ (∀ (p0 : Int32) (σ : ZSt), Fo L_X3_readOperand σ (fun b : Int32 × ZSt => b.2) (rd_X3_readOperand d p0 σ)) ∧ (∀ (p0 : Int32) (p1 : Int32) (σ : ZSt), Fo L_X3_readPart σ (fun b : Int32 × ZSt => b.2) (rd_X3_readPart d p0 p1 σ)) := by
  intro d
  induction d with
  | zero => exact ⟨(by intros; exact Fo_none), (by intros; exact Fo_none), (by intros; exact Fo_none)⟩
  | succ d ih =>
    obtain ⟨h0, h1, h2⟩ := ih
    exact ⟨fun p0 σ => f_X3_readBracket _ h2 p0 σ, fun p0 σ => f_X3_readOperand _ h0 _ h1 p0 σ, fun p0 p1 σ => f_X3_readPart _ h1 _ h2 p0 p1 σ⟩
theorem fr_X3_readBracket : ∀ (p0 : Int32) (σ : ZSt), Fo L_X3_readBracket σ (fun b : Int32 × ZSt => b.2) (r_X3_readBracket p0 σ) := (ft_X3_readBracket_readOperand_readPart 64).1
theorem fr_X3_readOperand : ∀ (p0 : Int32) (σ : ZSt), Fo L_X3_readOperand σ (fun b : Int32 × ZSt => b.2) (r_X3_readOperand p0 σ) := (ft_X3_readBracket_readOperand_readPart 64).2.1
theorem fr_X3_readPart : ∀ (p0 : Int32) (p1 : Int32) (σ : ZSt), Fo L_X3_readPart σ (fun b : Int32 × ZSt => b.2) (r_X3_readPart p0 p1 σ) := (ft_X3_readBracket_readOperand_readPart 64).2.2
theorem f_X3_readLine (σ : ZSt) : Fo L_X3_readLine σ (fun b : Int32 × ZSt => b.2) (s_X3_readLine σ) := by
  have h0 : zKeep L_X3_readLine σ σ := zKeep.rf
  unfold s_X3_readLine
  refine Fo_bindS (by apply fr_X3_readPart) (by first | rfl) (by assumption) fun r1 hr1 => ?_
  refine Fo_itn ?_ ?_
  · skip
    refine Fo_bindP fun r2 => ?_
    refine Fo_itn ?_ ?_
    · skip
      refine Fo_bindV (by apply f_X3_addSign) (by first | rfl) (by assumption) fun σ3 hσ3 => ?_
      exact Fo_some (by assumption)
    · skip
      refine Fo_st (by assumption) (by first | rfl) fun σ4 hσ4 => ?_
      refine Fo_bindV (by apply f_X3_addSign) (by first | rfl) (by assumption) fun σ5 hσ5 => ?_
      refine Fo_bindS (by apply fr_X3_readPart) (by first | rfl) (by assumption) fun r6 hr6 => ?_
      refine Fo_itn ?_ ?_
      · skip
        refine Fo_bindV (by apply f_X3_addSign) (by first | rfl) (by assumption) fun σ7 hσ7 => ?_
        exact Fo_some (by assumption)
      · skip
        exact Fo_some (by assumption)
  · skip
    exact Fo_some (by assumption)
theorem f_X3_read_C59 (p0 : Nat) (hp0 : p0 = 62 ∨ p0 = 65) (k24 : Int32 → Int32 → ZSt → Option (Int32 × ZSt)) (l3 : Int32) (k_0 : Int32) (σ : ZSt) (hk24 : ∀ (x2 : Int32) (x3 : Int32) (σx : ZSt), Fo L_X3_read σx (fun b : Int32 × ZSt => b.2) (k24 x2 x3 σx)) : Fo L_X3_read σ (fun b : Int32 × ZSt => b.2) (s_X3_read_C59 p0 k24 l3 k_0 σ) := by
  have h0 : zKeep L_X3_read σ σ := zKeep.rf
  unfold s_X3_read_C59
  refine Fo_ite ?_ ?_
  · skip
    exact Fo_tail (by assumption) (by apply hk24)
  · skip
    refine Fo_st (by assumption) (by first | rfl) fun σ1 hσ1 => ?_
    refine Fo_bindS (by apply f_X3_readLine) (by first | rfl) (by assumption) fun r2 hr2 => ?_
    exact Fo_tail (by assumption) (by apply hk24)
theorem f_X3_read_C85 (p0 : Nat) (hp0 : p0 = 62 ∨ p0 = 65) (l2 : Int32) (σ : ZSt) : Fo L_X3_read σ (fun b : Int32 × ZSt => b.2) (s_X3_read_C85 p0 l2 σ) := by
  have h0 : zKeep L_X3_read σ σ := zKeep.rf
  unfold s_X3_read_C85
  refine Fo_ite ?_ ?_
  · skip
    refine Fo_st (by assumption) (by first | rfl) fun σ1 hσ1 => ?_
    exact Fo_some (by assumption)
  · skip
    refine Fo_st (by assumption) (by first | rfl) fun σ2 hσ2 => ?_
    exact Fo_some (by assumption)
theorem f_X3_read_L24 (p0 : Nat) (hp0 : p0 = 62 ∨ p0 = 65) : ∀ (n : Nat) (l2 : Int32) (l3 : Int32) (σ : ZSt), Fo L_X3_read σ (fun b : Int32 × ZSt => b.2) (s_X3_read_L24 p0 n l2 l3 σ) := by
  intro n
  induction n with
  | zero => intros; exact Fo_none
  | succ n ih =>
    intro l2 l3 σ
    have h0 : zKeep L_X3_read σ σ := zKeep.rf
    rw [s_X3_read_L24]
    refine Fo_ite ?_ ?_
    · exact Fo_tail (by assumption) (by apply f_X3_read_C85 <;> assumption)
    · skip
      refine Fo_ite ?_ ?_
      · exact Fo_tail (by assumption) (by apply f_X3_read_C85 <;> assumption)
      · skip
        refine Fo_ite ?_ ?_
        · exact Fo_tail (by assumption) (by apply f_X3_read_C85 <;> assumption)
        · skip
          refine Fo_bindP fun r1 => ?_
          refine Fo_itn ?_ ?_
          · skip
            exact Fo_tail (by assumption) (by apply f_X3_read_C59 <;> assumption)
          · skip
            exact Fo_tail (by assumption) (by apply f_X3_read_C59 <;> assumption)
theorem f_X3_read (p0 : Nat) (hp0 : p0 = 62 ∨ p0 = 65) (σ : ZSt) : Fo L_X3_read σ (fun b : Int32 × ZSt => b.2) (s_X3_read p0 σ) := by
  have h0 : zKeep L_X3_read σ σ := zKeep.rf
  unfold s_X3_read
  refine Fo_st (by assumption) (by first | rfl) fun σ1 hσ1 => ?_
  refine Fo_dyn fun t2 ht2 => ?_
  refine Fo_bindV (by apply f_X4_clearSteps <;> first | assumption | exact Or.inl rfl | exact kW9 ht | exact Or.inr rfl) (by first | rfl) (by assumption) fun σ3 hσ3 => ?_
  refine Fo_st (by assumption) (by first | rfl) fun σ4 hσ4 => ?_
  refine Fo_bindS (by apply f_X3_readLine) (by first | rfl) (by assumption) fun r5 hr5 => ?_
  exact Fo_tail (by assumption) (by apply f_X3_read_L24 <;> assumption)
theorem f_X9_law (σ : ZSt) : Fo L_X9_law σ (fun b : Int32 × ZSt => b.2) (s_X9_law σ) := by
  have h0 : zKeep L_X9_law σ σ := zKeep.rf
  unfold s_X9_law
  refine Fo_dyn fun t1 ht1 => ?_
  refine Fo_bindS (by apply f_X3_read <;> first | assumption | exact Or.inl rfl | exact kW9 ht | exact Or.inr rfl) (by first | rfl) (by assumption) fun r2 hr2 => ?_
  refine Fo_ite ?_ ?_
  · skip
    refine Fo_dyn fun t3 ht3 => ?_
    refine Fo_dyn fun t4 ht4 => ?_
    refine Fo_st (by assumption) (by first | rfl) fun σ5 hσ5 => ?_
    refine Fo_st (by assumption) (by first | rfl) fun σ6 hσ6 => ?_
    exact Fo_some (by assumption)
  · skip
    exact Fo_some (by assumption)
theorem f_X8_takeWays_L2 (t : Nat) (ht : t = 19 ∨ t = 30) : ∀ (n : Nat) (l1 : Int32) (σ : ZSt), Fo (L_X8_takeWays t) σ (fun b : ZSt => b) (s_X8_takeWays_L2 t n l1 σ) := by
  intro n
  induction n with
  | zero => intros; exact Fo_none
  | succ n ih =>
    intro l1 σ
    have h0 : zKeep (L_X8_takeWays t) σ σ := zKeep.rf
    rw [s_X8_takeWays_L2]
    refine Fo_ite ?_ ?_
    · exact Fo_some (by assumption)
    · skip
      refine Fo_bindP fun r1 => ?_
      refine Fo_sg (by assumption) (by first | rfl | (rcases ht with rfl | rfl <;> rfl)) fun σ2 hσ2 => ?_
      refine Fo_sg (by assumption) (by first | rfl | (rcases ht with rfl | rfl <;> rfl)) fun σ3 hσ3 => ?_
      exact Fo_tail (by assumption) (by apply ih)
theorem f_X8_takeWays (t : Nat) (ht : t = 19 ∨ t = 30) (σ : ZSt) : Fo (L_X8_takeWays t) σ (fun b : ZSt => b) (s_X8_takeWays t σ) := by
  have h0 : zKeep (L_X8_takeWays t) σ σ := zKeep.rf
  unfold s_X8_takeWays
  exact Fo_tail (by assumption) (by apply f_X8_takeWays_L2 <;> assumption)
theorem f_X8_countThere_L23 (t : Nat) (ht : t = 19 ∨ t = 30) : ∀ (n : Nat) (l1 : Int32) (σ : ZSt), Fo (L_X8_countThere t) σ (fun b : ZSt => b) (s_X8_countThere_L23 t n l1 σ) := by
  intro n
  induction n with
  | zero => intros; exact Fo_none
  | succ n ih =>
    intro l1 σ
    have h0 : zKeep (L_X8_countThere t) σ σ := zKeep.rf
    rw [s_X8_countThere_L23]
    refine Fo_ite ?_ ?_
    · exact Fo_some (by assumption)
    · skip
      refine Fo_bindP fun r1 => ?_
      refine Fo_ite ?_ ?_
      · skip
        exact Fo_tail (by assumption) (by apply ih)
      · skip
        refine Fo_ld fun v2 => ?_
        refine Fo_ld fun v3 => ?_
        refine Fo_sg (by assumption) (by first | rfl | (rcases ht with rfl | rfl <;> rfl)) fun σ4 hσ4 => ?_
        exact Fo_tail (by assumption) (by apply ih)
theorem f_X8_countThere_L2 (t : Nat) (ht : t = 19 ∨ t = 30) : ∀ (n : Nat) (l1 : Int32) (σ : ZSt), Fo (L_X8_countThere t) σ (fun b : ZSt => b) (s_X8_countThere_L2 t n l1 σ) := by
  intro n
  induction n with
  | zero => intros; exact Fo_none
  | succ n ih =>
    intro l1 σ
    have h0 : zKeep (L_X8_countThere t) σ σ := zKeep.rf
    rw [s_X8_countThere_L2]
    refine Fo_ite ?_ ?_
    · skip
      exact Fo_tail (by assumption) (by apply f_X8_countThere_L23 <;> assumption)
    · skip
      refine Fo_sg (by assumption) (by first | rfl | (rcases ht with rfl | rfl <;> rfl)) fun σ1 hσ1 => ?_
      exact Fo_tail (by assumption) (by apply ih)
theorem f_X8_countThere (t : Nat) (ht : t = 19 ∨ t = 30) (σ : ZSt) : Fo (L_X8_countThere t) σ (fun b : ZSt => b) (s_X8_countThere t σ) := by
  have h0 : zKeep (L_X8_countThere t) σ σ := zKeep.rf
  unfold s_X8_countThere
  exact Fo_tail (by assumption) (by apply f_X8_countThere_L2 <;> assumption)
theorem f_X8_begin_L36 (t : Nat) (ht : t = 19 ∨ t = 30) : ∀ (n : Nat) (l1 : Int32) (σ : ZSt), Fo (L_X8_begin t) σ (fun b : ZSt => b) (s_X8_begin_L36 t n l1 σ) := by
  intro n
  induction n with
  | zero => intros; exact Fo_none
  | succ n ih =>
    intro l1 σ
    have h0 : zKeep (L_X8_begin t) σ σ := zKeep.rf
    rw [s_X8_begin_L36]
    refine Fo_ite ?_ ?_
    · exact Fo_some (by assumption)
    · skip
      refine Fo_sg (by assumption) (by first | rfl | (rcases ht with rfl | rfl <;> rfl)) fun σ1 hσ1 => ?_
      exact Fo_tail (by assumption) (by apply ih)
theorem f_X8_begin_L2 (t : Nat) (ht : t = 19 ∨ t = 30) : ∀ (n : Nat) (l1 : Int32) (σ : ZSt), Fo (L_X8_begin t) σ (fun b : ZSt => b) (s_X8_begin_L2 t n l1 σ) := by
  intro n
  induction n with
  | zero => intros; exact Fo_none
  | succ n ih =>
    intro l1 σ
    have h0 : zKeep (L_X8_begin t) σ σ := zKeep.rf
    rw [s_X8_begin_L2]
    refine Fo_ite ?_ ?_
    · skip
      refine Fo_bindV (by apply f_X8_countThere <;> first | assumption | exact Or.inl rfl | exact kW9 ht | exact Or.inr rfl) (by first | rfl | (rcases ht with rfl | rfl <;> rfl)) (by assumption) fun σ1 hσ1 => ?_
      exact Fo_tail (by assumption) (by apply f_X8_begin_L36 <;> assumption)
    · skip
      refine Fo_bindP fun r2 => ?_
      refine Fo_sg (by assumption) (by first | rfl | (rcases ht with rfl | rfl <;> rfl)) fun σ3 hσ3 => ?_
      exact Fo_tail (by assumption) (by apply ih)
theorem f_X8_begin (t : Nat) (ht : t = 19 ∨ t = 30) (σ : ZSt) : Fo (L_X8_begin t) σ (fun b : ZSt => b) (s_X8_begin t σ) := by
  have h0 : zKeep (L_X8_begin t) σ σ := zKeep.rf
  unfold s_X8_begin
  exact Fo_tail (by assumption) (by apply f_X8_begin_L2 <;> assumption)
theorem f_X4_push (t : Nat) (ht : t = 62 ∨ t = 65) (p0 : Int32) (σ : ZSt) : Fo L_X4_push σ (fun b : ZSt => b) (s_X4_push t p0 σ) := by
  have h0 : zKeep L_X4_push σ σ := zKeep.rf
  unfold s_X4_push
  refine Fo_ite ?_ ?_
  · exact Fo_some (by assumption)
  · skip
    refine Fo_ite ?_ ?_
    · exact Fo_some (by assumption)
    · skip
      refine Fo_st (by assumption) (by first | rfl | (rcases ht with rfl | rfl <;> rfl)) fun σ1 hσ1 => ?_
      refine Fo_sg (by assumption) (by first | rfl | (rcases ht with rfl | rfl <;> rfl)) fun σ2 hσ2 => ?_
      exact Fo_some (by assumption)
theorem f_X4_pop (t : Nat) (ht : t = 62 ∨ t = 65) (σ : ZSt) : Fo L_X4_pop σ (fun b : Int32 × ZSt => b.2) (s_X4_pop t σ) := by
  have h0 : zKeep L_X4_pop σ σ := zKeep.rf
  unfold s_X4_pop
  refine Fo_ite ?_ ?_
  · skip
    exact Fo_some (by assumption)
  · skip
    refine Fo_ite ?_ ?_
    · skip
      exact Fo_some (by assumption)
    · skip
      refine Fo_st (by assumption) (by first | rfl | (rcases ht with rfl | rfl <;> rfl)) fun σ1 hσ1 => ?_
      refine Fo_ld fun v2 => ?_
      exact Fo_some (by assumption)
theorem f_X4_worth_L31 (t : Nat) (p0 : Nat) (ht : t = 62 ∨ t = 65) (hp0 : zKd p0 = (1, 8)) : ∀ (n : Nat) (l2 : Int32) (l3 : Int32) (σ : ZSt), Fo L_X4_worth σ (fun b : Int32 × ZSt => b.2) (s_X4_worth_L31 t p0 n l2 l3 σ) := by
  intro n
  induction n with
  | zero => intros; exact Fo_none
  | succ n ih =>
    intro l2 l3 σ
    have h0 : zKeep L_X4_worth σ σ := zKeep.rf
    rw [s_X4_worth_L31]
    refine Fo_ite ?_ ?_
    · skip
      exact Fo_some (by assumption)
    · skip
      refine Fo_ld fun v1 => ?_
      refine Fo_ite ?_ ?_
      · skip
        refine Fo_itn ?_ ?_
        · skip
          refine Fo_ite ?_ ?_
          · skip
            refine Fo_ite ?_ ?_
            · skip
              refine Fo_st (by assumption) (by first | rfl | (rcases ht with rfl | rfl <;> rfl)) fun σ2 hσ2 => ?_
              exact Fo_tail (by assumption) (by apply ih)
            · skip
              refine Fo_bindS (by apply f_X4_pop <;> first | assumption | exact Or.inl rfl | exact kW9 ht | exact Or.inr rfl) (by first | rfl | (rcases ht with rfl | rfl <;> rfl)) (by assumption) fun r3 hr3 => ?_
              exact Fo_some (by assumption)
          · skip
            refine Fo_bindS (by apply f_X4_pop <;> first | assumption | exact Or.inl rfl | exact kW9 ht | exact Or.inr rfl) (by first | rfl | (rcases ht with rfl | rfl <;> rfl)) (by assumption) fun r4 hr4 => ?_
            refine Fo_ite ?_ ?_
            · skip
              refine Fo_bindP fun r5 => ?_
              refine Fo_bindV (by apply f_X4_push <;> first | assumption | exact Or.inl rfl | exact kW9 ht | exact Or.inr rfl) (by first | rfl | (rcases ht with rfl | rfl <;> rfl)) (by assumption) fun σ6 hσ6 => ?_
              exact Fo_tail (by assumption) (by apply ih)
            · skip
              refine Fo_itn ?_ ?_
              · skip
                refine Fo_bindS (by apply f_X4_pop <;> first | assumption | exact Or.inl rfl | exact kW9 ht | exact Or.inr rfl) (by first | rfl | (rcases ht with rfl | rfl <;> rfl)) (by assumption) fun r7 hr7 => ?_
                refine Fo_bindP fun r8 => ?_
                refine Fo_bindV (by apply f_X4_push <;> first | assumption | exact Or.inl rfl | exact kW9 ht | exact Or.inr rfl) (by first | rfl | (rcases ht with rfl | rfl <;> rfl)) (by assumption) fun σ9 hσ9 => ?_
                exact Fo_tail (by assumption) (by apply ih)
              · skip
                refine Fo_bindP fun r10 => ?_
                refine Fo_bindV (by apply f_X4_push <;> first | assumption | exact Or.inl rfl | exact kW9 ht | exact Or.inr rfl) (by first | rfl | (rcases ht with rfl | rfl <;> rfl)) (by assumption) fun σ11 hσ11 => ?_
                exact Fo_tail (by assumption) (by apply ih)
        · skip
          refine Fo_bindS (by apply f_X4_pop <;> first | assumption | exact Or.inl rfl | exact kW9 ht | exact Or.inr rfl) (by first | rfl | (rcases ht with rfl | rfl <;> rfl)) (by assumption) fun r12 hr12 => ?_
          refine Fo_ite ?_ ?_
          · skip
            exact Fo_tail (by assumption) (by apply ih)
          · skip
            exact Fo_tail (by assumption) (by apply ih)
      · skip
        refine Fo_ite ?_ ?_
        · skip
          refine Fo_bindP fun r13 => ?_
          refine Fo_bindV (by apply f_X4_push <;> first | assumption | exact Or.inl rfl | exact kW9 ht | exact Or.inr rfl) (by first | rfl | (rcases ht with rfl | rfl <;> rfl)) (by assumption) fun σ14 hσ14 => ?_
          exact Fo_tail (by assumption) (by apply ih)
        · skip
          refine Fo_bindV (by apply f_X4_push <;> first | assumption | exact Or.inl rfl | exact kW9 ht | exact Or.inr rfl) (by first | rfl | (rcases ht with rfl | rfl <;> rfl)) (by assumption) fun σ15 hσ15 => ?_
          exact Fo_tail (by assumption) (by apply ih)
theorem f_X4_worth (t : Nat) (p0 : Nat) (ht : t = 62 ∨ t = 65) (hp0 : zKd p0 = (1, 8)) (σ : ZSt) : Fo L_X4_worth σ (fun b : Int32 × ZSt => b.2) (s_X4_worth t p0 σ) := by
  have h0 : zKeep L_X4_worth σ σ := zKeep.rf
  unfold s_X4_worth
  refine Fo_itn ?_ ?_
  · skip
    refine Fo_st (by assumption) (by first | rfl | (rcases ht with rfl | rfl <;> rfl)) fun σ1 hσ1 => ?_
    exact Fo_tail (by assumption) (by apply f_X4_worth_L31 <;> assumption)
  · skip
    refine Fo_ld fun v2 => ?_
    refine Fo_ld fun v3 => ?_
    refine Fo_ld fun v4 => ?_
    exact Fo_some (by assumption)
theorem f_X8_choice_C131 (t : Nat) (p0 : Nat) (ht : t = 19 ∨ t = 30) (hp0 : p0 = 62 ∨ p0 = 65) (k50 : Int32 → Int32 → Int32 → ZSt → Option (Int32 × ZSt)) (l2 : Int32) (l3 : Int32) (l4 : Int32) (l5 : Int32) (k_1 : Int32) (k_2 : Int32) (σ : ZSt) (hk50 : ∀ (x3 : Int32) (x4 : Int32) (x5 : Int32) (σx : ZSt), Fo (L_X8_choice t) σx (fun b : Int32 × ZSt => b.2) (k50 x3 x4 x5 σx)) : Fo (L_X8_choice t) σ (fun b : Int32 × ZSt => b.2) (s_X8_choice_C131 t p0 k50 l2 l3 l4 l5 k_1 k_2 σ) := by
  have h0 : zKeep (L_X8_choice t) σ σ := zKeep.rf
  unfold s_X8_choice_C131
  refine Fo_sg (by assumption) (by first | rfl | (rcases ht with rfl | rfl <;> rfl)) fun σ1 hσ1 => ?_
  refine Fo_bindS (by apply f_X4_worth <;> first | assumption | exact Or.inl rfl | exact kW9 ht | exact Or.inr rfl) (by first | rfl | (rcases ht with rfl | rfl <;> rfl)) (by assumption) fun r2 hr2 => ?_
  refine Fo_ite ?_ ?_
  · skip
    exact Fo_tail (by assumption) (by apply hk50)
  · skip
    exact Fo_tail (by assumption) (by apply hk50)
theorem f_X8_choice_L50 (t : Nat) (p0 : Nat) (ht : t = 19 ∨ t = 30) (hp0 : p0 = 62 ∨ p0 = 65) (l2 : Int32) : ∀ (n : Nat) (l3 : Int32) (l4 : Int32) (l5 : Int32) (σ : ZSt), Fo (L_X8_choice t) σ (fun b : Int32 × ZSt => b.2) (s_X8_choice_L50 t p0 l2 n l3 l4 l5 σ) := by
  intro n
  induction n with
  | zero => intros; exact Fo_none
  | succ n ih =>
    intro l3 l4 l5 σ
    have h0 : zKeep (L_X8_choice t) σ σ := zKeep.rf
    rw [s_X8_choice_L50]
    refine Fo_ite ?_ ?_
    · skip
      exact Fo_some (by assumption)
    · skip
      refine Fo_bindP fun r1 => ?_
      refine Fo_sg (by assumption) (by first | rfl | (rcases ht with rfl | rfl <;> rfl)) fun σ2 hσ2 => ?_
      refine Fo_ld fun v3 => ?_
      refine Fo_sg (by assumption) (by first | rfl | (rcases ht with rfl | rfl <;> rfl)) fun σ4 hσ4 => ?_
      refine Fo_ld fun v5 => ?_
      refine Fo_sg (by assumption) (by first | rfl | (rcases ht with rfl | rfl <;> rfl)) fun σ6 hσ6 => ?_
      refine Fo_sg (by assumption) (by first | rfl | (rcases ht with rfl | rfl <;> rfl)) fun σ7 hσ7 => ?_
      refine Fo_ld fun v8 => ?_
      refine Fo_itn ?_ ?_
      · skip
        exact Fo_tail (by assumption) (by apply f_X8_choice_C131 <;> assumption)
      · skip
        exact Fo_tail (by assumption) (by apply f_X8_choice_C131 <;> assumption)
theorem f_X8_choice (t : Nat) (p0 : Nat) (ht : t = 19 ∨ t = 30) (hp0 : p0 = 62 ∨ p0 = 65) (p1 : Int32) (σ : ZSt) : Fo (L_X8_choice t) σ (fun b : Int32 × ZSt => b.2) (s_X8_choice t p0 p1 σ) := by
  have h0 : zKeep (L_X8_choice t) σ σ := zKeep.rf
  unfold s_X8_choice
  refine Fo_bindP fun r1 => ?_
  refine Fo_sg (by assumption) (by first | rfl | (rcases ht with rfl | rfl <;> rfl)) fun σ2 hσ2 => ?_
  refine Fo_bindP fun r3 => ?_
  refine Fo_sg (by assumption) (by first | rfl | (rcases ht with rfl | rfl <;> rfl)) fun σ4 hσ4 => ?_
  refine Fo_bindP fun r5 => ?_
  refine Fo_sg (by assumption) (by first | rfl | (rcases ht with rfl | rfl <;> rfl)) fun σ6 hσ6 => ?_
  exact Fo_tail (by assumption) (by apply f_X8_choice_L50 <;> assumption)
theorem f_X8_allGo_L30 (t : Nat) (p0 : Nat) (ht : t = 19 ∨ t = 30) (hp0 : p0 = 62 ∨ p0 = 65) : ∀ (n : Nat) (l2 : Int32) (σ : ZSt), Fo (L_X8_allGo t) σ (fun b : ZSt => b) (s_X8_allGo_L30 t p0 n l2 σ) := by
  intro n
  induction n with
  | zero => intros; exact Fo_none
  | succ n ih =>
    intro l2 σ
    have h0 : zKeep (L_X8_allGo t) σ σ := zKeep.rf
    rw [s_X8_allGo_L30]
    refine Fo_ite ?_ ?_
    · skip
      refine Fo_bindV (by apply f_X8_countThere <;> first | assumption | exact Or.inl rfl | exact kW9 ht | exact Or.inr rfl) (by first | rfl | (rcases ht with rfl | rfl <;> rfl)) (by assumption) fun σ1 hσ1 => ?_
      exact Fo_some (by assumption)
    · skip
      refine Fo_ld fun v2 => ?_
      refine Fo_sg (by assumption) (by first | rfl | (rcases ht with rfl | rfl <;> rfl)) fun σ3 hσ3 => ?_
      exact Fo_tail (by assumption) (by apply ih)
theorem f_X8_allGo_L2 (t : Nat) (p0 : Nat) (ht : t = 19 ∨ t = 30) (hp0 : p0 = 62 ∨ p0 = 65) : ∀ (n : Nat) (l2 : Int32) (σ : ZSt), Fo (L_X8_allGo t) σ (fun b : ZSt => b) (s_X8_allGo_L2 t p0 n l2 σ) := by
  intro n
  induction n with
  | zero => intros; exact Fo_none
  | succ n ih =>
    intro l2 σ
    have h0 : zKeep (L_X8_allGo t) σ σ := zKeep.rf
    rw [s_X8_allGo_L2]
    refine Fo_ite ?_ ?_
    · skip
      exact Fo_tail (by assumption) (by apply f_X8_allGo_L30 <;> assumption)
    · skip
      refine Fo_bindS (by apply f_X8_choice <;> first | assumption | exact Or.inl rfl | exact kW9 ht | exact Or.inr rfl) (by first | rfl | (rcases ht with rfl | rfl <;> rfl)) (by assumption) fun r1 hr1 => ?_
      refine Fo_sg (by assumption) (by first | rfl | (rcases ht with rfl | rfl <;> rfl)) fun σ2 hσ2 => ?_
      exact Fo_tail (by assumption) (by apply ih)
theorem f_X8_allGo (t : Nat) (p0 : Nat) (ht : t = 19 ∨ t = 30) (hp0 : p0 = 62 ∨ p0 = 65) (σ : ZSt) : Fo (L_X8_allGo t) σ (fun b : ZSt => b) (s_X8_allGo t p0 σ) := by
  have h0 : zKeep (L_X8_allGo t) σ σ := zKeep.rf
  unfold s_X8_allGo
  exact Fo_tail (by assumption) (by apply f_X8_allGo_L2 <;> assumption)
theorem f_X8_payOut_C35 (t : Nat) (ht : t = 19 ∨ t = 30) (k2 : Int32 → ZSt → Option ZSt) (l1 : Int32) (k_0 : Int32) (σ : ZSt) (hk2 : ∀ (x1 : Int32) (σx : ZSt), Fo (L_X8_payOut t) σx (fun b : ZSt => b) (k2 x1 σx)) : Fo (L_X8_payOut t) σ (fun b : ZSt => b) (s_X8_payOut_C35 t k2 l1 k_0 σ) := by
  have h0 : zKeep (L_X8_payOut t) σ σ := zKeep.rf
  unfold s_X8_payOut_C35
  refine Fo_ite ?_ ?_
  · skip
    refine Fo_ld fun v1 => ?_
    refine Fo_itn ?_ ?_
    · skip
      refine Fo_ld fun v2 => ?_
      refine Fo_sg (by assumption) (by first | rfl | (rcases ht with rfl | rfl <;> rfl)) fun σ3 hσ3 => ?_
      exact Fo_tail (by assumption) (by apply hk2)
    · skip
      refine Fo_ld fun v4 => ?_
      refine Fo_ld fun v5 => ?_
      refine Fo_sg (by assumption) (by first | rfl | (rcases ht with rfl | rfl <;> rfl)) fun σ6 hσ6 => ?_
      exact Fo_tail (by assumption) (by apply hk2)
  · skip
    refine Fo_ld fun v7 => ?_
    refine Fo_ld fun v8 => ?_
    refine Fo_sg (by assumption) (by first | rfl | (rcases ht with rfl | rfl <;> rfl)) fun σ9 hσ9 => ?_
    exact Fo_tail (by assumption) (by apply hk2)
theorem f_X8_payOut_L2 (t : Nat) (ht : t = 19 ∨ t = 30) : ∀ (n : Nat) (l1 : Int32) (σ : ZSt), Fo (L_X8_payOut t) σ (fun b : ZSt => b) (s_X8_payOut_L2 t n l1 σ) := by
  intro n
  induction n with
  | zero => intros; exact Fo_none
  | succ n ih =>
    intro l1 σ
    have h0 : zKeep (L_X8_payOut t) σ σ := zKeep.rf
    rw [s_X8_payOut_L2]
    refine Fo_ite ?_ ?_
    · exact Fo_some (by assumption)
    · skip
      refine Fo_ld fun v1 => ?_
      refine Fo_ite ?_ ?_
      · skip
        exact Fo_tail (by assumption) (by apply f_X8_payOut_C35 <;> assumption)
      · skip
        refine Fo_ld fun v2 => ?_
        refine Fo_itn ?_ ?_
        · skip
          exact Fo_tail (by assumption) (by apply f_X8_payOut_C35 <;> assumption)
        · skip
          exact Fo_tail (by assumption) (by apply f_X8_payOut_C35 <;> assumption)
theorem f_X8_payOut (t : Nat) (ht : t = 19 ∨ t = 30) (σ : ZSt) : Fo (L_X8_payOut t) σ (fun b : ZSt => b) (s_X8_payOut t σ) := by
  have h0 : zKeep (L_X8_payOut t) σ σ := zKeep.rf
  unfold s_X8_payOut
  exact Fo_tail (by assumption) (by apply f_X8_payOut_L2 <;> assumption)
theorem f_X8_unpack_L2 (t : Nat) (ht : t = 19 ∨ t = 30) (l1 : Int32) : ∀ (n : Nat) (l2 : Int32) (σ : ZSt), Fo (L_X8_unpack t) σ (fun b : ZSt => b) (s_X8_unpack_L2 t l1 n l2 σ) := by
  intro n
  induction n with
  | zero => intros; exact Fo_none
  | succ n ih =>
    intro l2 σ
    have h0 : zKeep (L_X8_unpack t) σ σ := zKeep.rf
    rw [s_X8_unpack_L2]
    refine Fo_ite ?_ ?_
    · skip
      refine Fo_bindV (by apply f_X8_countThere <;> first | assumption | exact Or.inl rfl | exact kW9 ht | exact Or.inr rfl) (by first | rfl | (rcases ht with rfl | rfl <;> rfl)) (by assumption) fun σ1 hσ1 => ?_
      exact Fo_some (by assumption)
    · skip
      refine Fo_sg (by assumption) (by first | rfl | (rcases ht with rfl | rfl <;> rfl)) fun σ2 hσ2 => ?_
      exact Fo_tail (by assumption) (by apply ih)
theorem f_X8_unpack (t : Nat) (ht : t = 19 ∨ t = 30) (p0 : Int32) (σ : ZSt) : Fo (L_X8_unpack t) σ (fun b : ZSt => b) (s_X8_unpack t p0 σ) := by
  have h0 : zKeep (L_X8_unpack t) σ σ := zKeep.rf
  unfold s_X8_unpack
  exact Fo_tail (by assumption) (by apply f_X8_unpack_L2 <;> assumption)
theorem f_X8_follow_C119 (t : Nat) (p0 : Nat) (ht : t = 19 ∨ t = 30) (hp0 : p0 = 62 ∨ p0 = 65) (σ : ZSt) : Fo (L_X8_follow t) σ (fun b : ZSt => b) (s_X8_follow_C119 t p0 σ) := by
  have h0 : zKeep (L_X8_follow t) σ σ := zKeep.rf
  unfold s_X8_follow_C119
  refine Fo_bindP fun r1 => ?_
  refine Fo_ld fun v2 => ?_
  refine Fo_bindV (by apply f_X8_unpack <;> first | assumption | exact Or.inl rfl | exact kW9 ht | exact Or.inr rfl) (by first | rfl | (rcases ht with rfl | rfl <;> rfl)) (by assumption) fun σ3 hσ3 => ?_
  exact Fo_some (by assumption)
theorem f_X8_follow_L53 (t : Nat) (p0 : Nat) (ht : t = 19 ∨ t = 30) (hp0 : p0 = 62 ∨ p0 = 65) (l2 : Int32) : ∀ (n : Nat) (l3 : Int32) (σ : ZSt), Fo (L_X8_follow t) σ (fun b : ZSt => b) (s_X8_follow_L53 t p0 l2 n l3 σ) := by
  intro n
  induction n with
  | zero => intros; exact Fo_none
  | succ n ih =>
    intro l3 σ
    have h0 : zKeep (L_X8_follow t) σ σ := zKeep.rf
    rw [s_X8_follow_L53]
    refine Fo_ite ?_ ?_
    · exact Fo_tail (by assumption) (by apply f_X8_follow_C119 <;> assumption)
    · skip
      refine Fo_ite ?_ ?_
      · exact Fo_tail (by assumption) (by apply f_X8_follow_C119 <;> assumption)
      · skip
        refine Fo_itn ?_ ?_
        · exact Fo_tail (by assumption) (by apply f_X8_follow_C119 <;> assumption)
        · skip
          refine Fo_bindV (by apply f_X8_allGo <;> first | assumption | exact Or.inl rfl | exact kW9 ht | exact Or.inr rfl) (by first | rfl | (rcases ht with rfl | rfl <;> rfl)) (by assumption) fun σ1 hσ1 => ?_
          refine Fo_bindV (by apply f_X8_payOut <;> first | assumption | exact Or.inl rfl | exact kW9 ht | exact Or.inr rfl) (by first | rfl | (rcases ht with rfl | rfl <;> rfl)) (by assumption) fun σ2 hσ2 => ?_
          refine Fo_bindP fun r3 => ?_
          refine Fo_sg (by assumption) (by first | rfl | (rcases ht with rfl | rfl <;> rfl)) fun σ4 hσ4 => ?_
          refine Fo_bindP fun r5 => ?_
          refine Fo_st (by assumption) (by first | rfl | (rcases ht with rfl | rfl <;> rfl)) fun σ6 hσ6 => ?_
          refine Fo_itn ?_ ?_
          · skip
            exact Fo_tail (by assumption) (by apply ih)
          · skip
            refine Fo_st (by assumption) (by first | rfl | (rcases ht with rfl | rfl <;> rfl)) fun σ7 hσ7 => ?_
            exact Fo_tail (by assumption) (by apply ih)
theorem f_X8_follow (t : Nat) (p0 : Nat) (ht : t = 19 ∨ t = 30) (hp0 : p0 = 62 ∨ p0 = 65) (p1 : Int32) (σ : ZSt) : Fo (L_X8_follow t) σ (fun b : ZSt => b) (s_X8_follow t p0 p1 σ) := by
  have h0 : zKeep (L_X8_follow t) σ σ := zKeep.rf
  unfold s_X8_follow
  refine Fo_bindP fun r1 => ?_
  refine Fo_st (by assumption) (by first | rfl | (rcases ht with rfl | rfl <;> rfl)) fun σ2 hσ2 => ?_
  refine Fo_bindP fun r3 => ?_
  refine Fo_st (by assumption) (by first | rfl | (rcases ht with rfl | rfl <;> rfl)) fun σ4 hσ4 => ?_
  refine Fo_st (by assumption) (by first | rfl | (rcases ht with rfl | rfl <;> rfl)) fun σ5 hσ5 => ?_
  refine Fo_st (by assumption) (by first | rfl | (rcases ht with rfl | rfl <;> rfl)) fun σ6 hσ6 => ?_
  refine Fo_st (by assumption) (by first | rfl | (rcases ht with rfl | rfl <;> rfl)) fun σ7 hσ7 => ?_
  refine Fo_bindV (by apply f_X8_begin <;> first | assumption | exact Or.inl rfl | exact kW9 ht | exact Or.inr rfl) (by first | rfl | (rcases ht with rfl | rfl <;> rfl)) (by assumption) fun σ8 hσ8 => ?_
  exact Fo_tail (by assumption) (by apply f_X8_follow_L53 <;> assumption)
theorem f_X8_settle_C88 (t : Nat) (ht : t = 19 ∨ t = 30) (l1 : Int32) (l2 : Int32) (l3 : Int32) (l5 : Int32) (l7 : Int32) (l8 : Int32) (k_0 : Int32) (σ : ZSt) : Fo (L_X8_settle t) σ (fun b : ZSt => b) (s_X8_settle_C88 t l1 l2 l3 l5 l7 l8 k_0 σ) := by
  have h0 : zKeep (L_X8_settle t) σ σ := zKeep.rf
  unfold s_X8_settle_C88
  refine Fo_ld fun v1 => ?_
  refine Fo_sg (by assumption) (by first | rfl | (rcases ht with rfl | rfl <;> rfl)) fun σ2 hσ2 => ?_
  refine Fo_ld fun v3 => ?_
  refine Fo_bindP fun r4 => ?_
  refine Fo_sg (by assumption) (by first | rfl | (rcases ht with rfl | rfl <;> rfl)) fun σ5 hσ5 => ?_
  exact Fo_some (by assumption)
theorem f_X8_settle_C51 (t : Nat) (ht : t = 19 ∨ t = 30) (l1 : Int32) (l2 : Int32) (l3 : Int32) (l4 : Int32) (l5 : Int32) (l6 : Int32) (k_0 : Int32) (σ : ZSt) : Fo (L_X8_settle t) σ (fun b : ZSt => b) (s_X8_settle_C51 t l1 l2 l3 l4 l5 l6 k_0 σ) := by
  have h0 : zKeep (L_X8_settle t) σ σ := zKeep.rf
  unfold s_X8_settle_C51
  refine Fo_ld fun v1 => ?_
  refine Fo_itn ?_ ?_
  · skip
    refine Fo_ite ?_ ?_
    · skip
      exact Fo_tail (by assumption) (by apply f_X8_settle_C88 <;> assumption)
    · skip
      refine Fo_bindP fun r2 => ?_
      exact Fo_tail (by assumption) (by apply f_X8_settle_C88 <;> assumption)
  · skip
    refine Fo_ite ?_ ?_
    · skip
      exact Fo_tail (by assumption) (by apply f_X8_settle_C88 <;> assumption)
    · skip
      refine Fo_bindP fun r3 => ?_
      exact Fo_tail (by assumption) (by apply f_X8_settle_C88 <;> assumption)
theorem f_X8_settle (t : Nat) (ht : t = 19 ∨ t = 30) (p0 : Int32) (p1 : Int32) (p2 : Int32) (σ : ZSt) : Fo (L_X8_settle t) σ (fun b : ZSt => b) (s_X8_settle t p0 p1 p2 σ) := by
  have h0 : zKeep (L_X8_settle t) σ σ := zKeep.rf
  unfold s_X8_settle
  refine Fo_bindP fun r1 => ?_
  refine Fo_bindP fun r2 => ?_
  refine Fo_bindP fun r3 => ?_
  refine Fo_ite ?_ ?_
  · skip
    exact Fo_tail (by assumption) (by apply f_X8_settle_C51 <;> assumption)
  · skip
    refine Fo_bindP fun r4 => ?_
    refine Fo_bindP fun r5 => ?_
    exact Fo_tail (by assumption) (by apply f_X8_settle_C51 <;> assumption)
theorem f_X8_settleAll_L64 (t : Nat) (ht : t = 19 ∨ t = 30) (k44 : Int32 → ZSt → Option ZSt) (l1 : Int32) (hk44 : ∀ (x1 : Int32) (σx : ZSt), Fo (L_X8_settleAll t) σx (fun b : ZSt => b) (k44 x1 σx)) : ∀ (n : Nat) (l2 : Int32) (σ : ZSt), Fo (L_X8_settleAll t) σ (fun b : ZSt => b) (s_X8_settleAll_L64 t k44 l1 n l2 σ) := by
  intro n
  induction n with
  | zero => intros; exact Fo_none
  | succ n ih =>
    intro l2 σ
    have h0 : zKeep (L_X8_settleAll t) σ σ := zKeep.rf
    rw [s_X8_settleAll_L64]
    refine Fo_ite ?_ ?_
    · skip
      exact Fo_tail (by assumption) (by apply hk44)
    · skip
      refine Fo_bindP fun r1 => ?_
      refine Fo_ite ?_ ?_
      · skip
        exact Fo_tail (by assumption) (by apply ih)
      · skip
        refine Fo_ld fun v2 => ?_
        refine Fo_bindP fun r3 => ?_
        refine Fo_bindV (by apply f_X8_settle <;> first | assumption | exact Or.inl rfl | exact kW9 ht | exact Or.inr rfl) (by first | rfl | (rcases ht with rfl | rfl <;> rfl)) (by assumption) fun σ4 hσ4 => ?_
        exact Fo_tail (by assumption) (by apply ih)
theorem f_X8_settleAll_C108 (t : Nat) (ht : t = 19 ∨ t = 30) (σ : ZSt) : Fo (L_X8_settleAll t) σ (fun b : ZSt => b) (s_X8_settleAll_C108 t σ) := by
  have h0 : zKeep (L_X8_settleAll t) σ σ := zKeep.rf
  unfold s_X8_settleAll_C108
  refine Fo_bindP fun r1 => ?_
  refine Fo_ld fun v2 => ?_
  refine Fo_bindV (by apply f_X8_unpack <;> first | assumption | exact Or.inl rfl | exact kW9 ht | exact Or.inr rfl) (by first | rfl | (rcases ht with rfl | rfl <;> rfl)) (by assumption) fun σ3 hσ3 => ?_
  exact Fo_some (by assumption)
theorem f_X8_settleAll_L44 (t : Nat) (ht : t = 19 ∨ t = 30) : ∀ (n : Nat) (l1 : Int32) (σ : ZSt), Fo (L_X8_settleAll t) σ (fun b : ZSt => b) (s_X8_settleAll_L44 t n l1 σ) := by
  intro n
  induction n with
  | zero => intros; exact Fo_none
  | succ n ih =>
    intro l1 σ
    have h0 : zKeep (L_X8_settleAll t) σ σ := zKeep.rf
    rw [s_X8_settleAll_L44]
    refine Fo_ite ?_ ?_
    · exact Fo_tail (by assumption) (by apply f_X8_settleAll_C108 <;> assumption)
    · skip
      refine Fo_ld fun v1 => ?_
      refine Fo_bindV (by apply f_X8_unpack <;> first | assumption | exact Or.inl rfl | exact kW9 ht | exact Or.inr rfl) (by first | rfl | (rcases ht with rfl | rfl <;> rfl)) (by assumption) fun σ2 hσ2 => ?_
      exact Fo_tail (by assumption) (by apply f_X8_settleAll_L64 <;> assumption)
theorem f_X8_settleAll_L23 (t : Nat) (ht : t = 19 ∨ t = 30) : ∀ (n : Nat) (l1 : Int32) (σ : ZSt), Fo (L_X8_settleAll t) σ (fun b : ZSt => b) (s_X8_settleAll_L23 t n l1 σ) := by
  intro n
  induction n with
  | zero => intros; exact Fo_none
  | succ n ih =>
    intro l1 σ
    have h0 : zKeep (L_X8_settleAll t) σ σ := zKeep.rf
    rw [s_X8_settleAll_L23]
    refine Fo_ite ?_ ?_
    · skip
      exact Fo_tail (by assumption) (by apply f_X8_settleAll_L44 <;> assumption)
    · skip
      refine Fo_sg (by assumption) (by first | rfl | (rcases ht with rfl | rfl <;> rfl)) fun σ1 hσ1 => ?_
      exact Fo_tail (by assumption) (by apply ih)
theorem f_X8_settleAll_L2 (t : Nat) (ht : t = 19 ∨ t = 30) : ∀ (n : Nat) (l1 : Int32) (σ : ZSt), Fo (L_X8_settleAll t) σ (fun b : ZSt => b) (s_X8_settleAll_L2 t n l1 σ) := by
  intro n
  induction n with
  | zero => intros; exact Fo_none
  | succ n ih =>
    intro l1 σ
    have h0 : zKeep (L_X8_settleAll t) σ σ := zKeep.rf
    rw [s_X8_settleAll_L2]
    refine Fo_ite ?_ ?_
    · skip
      exact Fo_tail (by assumption) (by apply f_X8_settleAll_L23 <;> assumption)
    · skip
      refine Fo_sg (by assumption) (by first | rfl | (rcases ht with rfl | rfl <;> rfl)) fun σ1 hσ1 => ?_
      exact Fo_tail (by assumption) (by apply ih)
theorem f_X8_settleAll (t : Nat) (ht : t = 19 ∨ t = 30) (σ : ZSt) : Fo (L_X8_settleAll t) σ (fun b : ZSt => b) (s_X8_settleAll t σ) := by
  have h0 : zKeep (L_X8_settleAll t) σ σ := zKeep.rf
  unfold s_X8_settleAll
  exact Fo_tail (by assumption) (by apply f_X8_settleAll_L2 <;> assumption)
theorem f_X7_setPlace (p0 : Int32) (p1 : Int32) (σ : ZSt) : Fo L_X7_setPlace σ (fun b : ZSt => b) (s_X7_setPlace p0 p1 σ) := by
  have h0 : zKeep L_X7_setPlace σ σ := zKeep.rf
  unfold s_X7_setPlace
  refine Fo_bindP fun r1 => ?_
  refine Fo_ite ?_ ?_
  · exact Fo_some (by assumption)
  · skip
    refine Fo_sg (by assumption) (by first | rfl) fun σ2 hσ2 => ?_
    exact Fo_some (by assumption)
theorem f_X8_leaveThemThere_L2 (t : Nat) (ht : t = 19 ∨ t = 30) : ∀ (n : Nat) (l1 : Int32) (σ : ZSt), Fo (L_X8_leaveThemThere t) σ (fun b : ZSt => b) (s_X8_leaveThemThere_L2 t n l1 σ) := by
  intro n
  induction n with
  | zero => intros; exact Fo_none
  | succ n ih =>
    intro l1 σ
    have h0 : zKeep (L_X8_leaveThemThere t) σ σ := zKeep.rf
    rw [s_X8_leaveThemThere_L2]
    refine Fo_ite ?_ ?_
    · exact Fo_some (by assumption)
    · skip
      refine Fo_ld fun v1 => ?_
      refine Fo_bindV (by apply f_X7_setPlace) (by first | rfl | (rcases ht with rfl | rfl <;> rfl)) (by assumption) fun σ2 hσ2 => ?_
      exact Fo_tail (by assumption) (by apply ih)
theorem f_X8_leaveThemThere (t : Nat) (ht : t = 19 ∨ t = 30) (σ : ZSt) : Fo (L_X8_leaveThemThere t) σ (fun b : ZSt => b) (s_X8_leaveThemThere t σ) := by
  have h0 : zKeep (L_X8_leaveThemThere t) σ σ := zKeep.rf
  unfold s_X8_leaveThemThere
  exact Fo_tail (by assumption) (by apply f_X8_leaveThemThere_L2 <;> assumption)
theorem f_X9_weeks (p0 : Int32) (p1 : Int32) (σ : ZSt) : Fo L_X9_weeks σ (fun b : Int32 × ZSt => b.2) (s_X9_weeks p0 p1 σ) := by
  have h0 : zKeep L_X9_weeks σ σ := zKeep.rf
  unfold s_X9_weeks
  refine Fo_bindP fun r1 => ?_
  refine Fo_ite ?_ ?_
  · skip
    exact Fo_some (by assumption)
  · skip
    refine Fo_bindP fun r2 => ?_
    refine Fo_itn ?_ ?_
    · skip
      refine Fo_bindV (by apply f_X8_takeWays <;> first | assumption | exact Or.inl rfl | exact kW9 ht | exact Or.inr rfl) (by first | rfl) (by assumption) fun σ3 hσ3 => ?_
      refine Fo_dyn fun t4 ht4 => ?_
      refine Fo_bindV (by apply f_X8_follow <;> first | assumption | exact Or.inl rfl | exact kW9 ht | exact Or.inr rfl) (by first | rfl) (by assumption) fun σ5 hσ5 => ?_
      refine Fo_bindV (by apply f_X8_settleAll <;> first | assumption | exact Or.inl rfl | exact kW9 ht | exact Or.inr rfl) (by first | rfl) (by assumption) fun σ6 hσ6 => ?_
      refine Fo_itn ?_ ?_
      · skip
        refine Fo_bindP fun r7 => ?_
        exact Fo_some (by assumption)
      · skip
        refine Fo_bindV (by apply f_X8_leaveThemThere <;> first | assumption | exact Or.inl rfl | exact kW9 ht | exact Or.inr rfl) (by first | rfl) (by assumption) fun σ8 hσ8 => ?_
        refine Fo_bindP fun r9 => ?_
        exact Fo_some (by assumption)
    · skip
      exact Fo_some (by assumption)
theorem f_X8_supposeWay (t : Nat) (ht : t = 19 ∨ t = 30) (p0 : Int32) (p1 : Int32) (p2 : Int32) (σ : ZSt) : Fo (L_X8_supposeWay t) σ (fun b : ZSt => b) (s_X8_supposeWay t p0 p1 p2 σ) := by
  have h0 : zKeep (L_X8_supposeWay t) σ σ := zKeep.rf
  unfold s_X8_supposeWay
  refine Fo_ite ?_ ?_
  · exact Fo_some (by assumption)
  · skip
    refine Fo_ite ?_ ?_
    · skip
      refine Fo_sg (by assumption) (by first | rfl | (rcases ht with rfl | rfl <;> rfl)) fun σ1 hσ1 => ?_
      refine Fo_sg (by assumption) (by first | rfl | (rcases ht with rfl | rfl <;> rfl)) fun σ2 hσ2 => ?_
      exact Fo_some (by assumption)
    · exact Fo_some (by assumption)
theorem f_X9_costInThought (p0 : Int32) (p1 : Int32) (p2 : Int32) (p3 : Int32) (σ : ZSt) : Fo L_X9_costInThought σ (fun b : Int32 × ZSt => b.2) (s_X9_costInThought p0 p1 p2 p3 σ) := by
  have h0 : zKeep L_X9_costInThought σ σ := zKeep.rf
  unfold s_X9_costInThought
  refine Fo_bindV (by apply f_X8_takeWays <;> first | assumption | exact Or.inl rfl | exact kW9 ht | exact Or.inr rfl) (by first | rfl) (by assumption) fun σ1 hσ1 => ?_
  refine Fo_bindV (by apply f_X8_supposeWay <;> first | assumption | exact Or.inl rfl | exact kW9 ht | exact Or.inr rfl) (by first | rfl) (by assumption) fun σ2 hσ2 => ?_
  refine Fo_dyn fun t3 ht3 => ?_
  refine Fo_bindV (by apply f_X8_follow <;> first | assumption | exact Or.inl rfl | exact kW9 ht | exact Or.inr rfl) (by first | rfl) (by assumption) fun σ4 hσ4 => ?_
  refine Fo_bindV (by apply f_X8_settleAll <;> first | assumption | exact Or.inl rfl | exact kW9 ht | exact Or.inr rfl) (by first | rfl) (by assumption) fun σ5 hσ5 => ?_
  refine Fo_bindP fun r6 => ?_
  exact Fo_some (by assumption)
theorem f_X9_best_L59 (k31 : Int32 → Int32 → Int32 → ZSt → Option (Int32 × ZSt)) (l1 : Int32) (l2 : Int32) (l3 : Int32) (l6 : Int32) (l7 : Int32) (hk31 : ∀ (x4 : Int32) (x5 : Int32) (x6 : Int32) (σx : ZSt), Fo L_X9_best σx (fun b : Int32 × ZSt => b.2) (k31 x4 x5 x6 σx)) : ∀ (n : Nat) (l4 : Int32) (l5 : Int32) (l8 : Int32) (σ : ZSt), Fo L_X9_best σ (fun b : Int32 × ZSt => b.2) (s_X9_best_L59 k31 l1 l2 l3 l6 l7 n l4 l5 l8 σ) := by
  intro n
  induction n with
  | zero => intros; exact Fo_none
  | succ n ih =>
    intro l4 l5 l8 σ
    have h0 : zKeep L_X9_best σ σ := zKeep.rf
    rw [s_X9_best_L59]
    refine Fo_ite ?_ ?_
    · skip
      exact Fo_tail (by assumption) (by apply hk31)
    · skip
      refine Fo_bindS (by apply f_X9_costInThought) (by first | rfl) (by assumption) fun r1 hr1 => ?_
      refine Fo_ite ?_ ?_
      · skip
        exact Fo_tail (by assumption) (by apply ih)
      · skip
        refine Fo_ite ?_ ?_
        · skip
          exact Fo_tail (by assumption) (by apply ih)
        · skip
          exact Fo_tail (by assumption) (by apply ih)
theorem f_X9_best_C118 (l3 : Int32) (l4 : Int32) (l5 : Int32) (σ : ZSt) : Fo L_X9_best σ (fun b : Int32 × ZSt => b.2) (s_X9_best_C118 l3 l4 l5 σ) := by
  have h0 : zKeep L_X9_best σ σ := zKeep.rf
  unfold s_X9_best_C118
  refine Fo_itn ?_ ?_
  · skip
    exact Fo_some (by assumption)
  · skip
    exact Fo_some (by assumption)
theorem f_X9_best_L31 (l1 : Int32) (l2 : Int32) (l3 : Int32) : ∀ (n : Nat) (l4 : Int32) (l5 : Int32) (l6 : Int32) (σ : ZSt), Fo L_X9_best σ (fun b : Int32 × ZSt => b.2) (s_X9_best_L31 l1 l2 l3 n l4 l5 l6 σ) := by
  intro n
  induction n with
  | zero => intros; exact Fo_none
  | succ n ih =>
    intro l4 l5 l6 σ
    have h0 : zKeep L_X9_best σ σ := zKeep.rf
    rw [s_X9_best_L31]
    refine Fo_ite ?_ ?_
    · exact Fo_tail (by assumption) (by apply f_X9_best_C118 <;> assumption)
    · skip
      refine Fo_ite ?_ ?_
      · skip
        exact Fo_tail (by assumption) (by apply f_X9_best_L59 <;> assumption)
      · skip
        refine Fo_itn ?_ ?_
        · skip
          exact Fo_tail (by assumption) (by apply f_X9_best_L59 <;> assumption)
        · skip
          exact Fo_tail (by assumption) (by apply f_X9_best_L59 <;> assumption)
theorem f_X9_best (p0 : Int32) (p1 : Int32) (p2 : Int32) (σ : ZSt) : Fo L_X9_best σ (fun b : Int32 × ZSt => b.2) (s_X9_best p0 p1 p2 σ) := by
  have h0 : zKeep L_X9_best σ σ := zKeep.rf
  unfold s_X9_best
  refine Fo_bindP fun r1 => ?_
  refine Fo_ite ?_ ?_
  · skip
    exact Fo_some (by assumption)
  · skip
    refine Fo_bindP fun r2 => ?_
    refine Fo_itn ?_ ?_
    · skip
      exact Fo_tail (by assumption) (by apply f_X9_best_L31 <;> assumption)
    · skip
      exact Fo_some (by assumption)
theorem f_X9_thereInThought (p0 : Int32) (p1 : Int32) (p2 : Int32) (p3 : Int32) (σ : ZSt) : Fo L_X9_thereInThought σ (fun b : Int32 × ZSt => b.2) (s_X9_thereInThought p0 p1 p2 p3 σ) := by
  have h0 : zKeep L_X9_thereInThought σ σ := zKeep.rf
  unfold s_X9_thereInThought
  refine Fo_bindV (by apply f_X8_takeWays <;> first | assumption | exact Or.inl rfl | exact kW9 ht | exact Or.inr rfl) (by first | rfl) (by assumption) fun σ1 hσ1 => ?_
  refine Fo_bindV (by apply f_X8_supposeWay <;> first | assumption | exact Or.inl rfl | exact kW9 ht | exact Or.inr rfl) (by first | rfl) (by assumption) fun σ2 hσ2 => ?_
  refine Fo_dyn fun t3 ht3 => ?_
  refine Fo_bindV (by apply f_X8_follow <;> first | assumption | exact Or.inl rfl | exact kW9 ht | exact Or.inr rfl) (by first | rfl) (by assumption) fun σ4 hσ4 => ?_
  refine Fo_bindP fun r5 => ?_
  exact Fo_some (by assumption)
theorem f_X9_called (p0 : Int32) (p1 : Int32) (σ : ZSt) : Fo L_X9_called σ (fun b : Int32 × ZSt => b.2) (s_X9_called p0 p1 σ) := by
  have h0 : zKeep L_X9_called σ σ := zKeep.rf
  unfold s_X9_called
  refine Fo_bindP fun r1 => ?_
  refine Fo_itn ?_ ?_
  · skip
    refine Fo_bindP fun r2 => ?_
    refine Fo_bindS (by apply f_X9_thereInThought) (by first | rfl) (by assumption) fun r3 hr3 => ?_
    refine Fo_bindS (by apply f_X9_thereInThought) (by first | rfl) (by assumption) fun r4 hr4 => ?_
    exact Fo_some (by assumption)
  · skip
    exact Fo_some (by assumption)
theorem f_X9_off_L13 (l1 : Int32) (l2 : Int32) : ∀ (n : Nat) (l3 : Int32) (σ : ZSt), Fo L_X9_off σ (fun b : Int32 × ZSt => b.2) (s_X9_off_L13 l1 l2 n l3 σ) := by
  intro n
  induction n with
  | zero => intros; exact Fo_none
  | succ n ih =>
    intro l3 σ
    have h0 : zKeep L_X9_off σ σ := zKeep.rf
    rw [s_X9_off_L13]
    refine Fo_ite ?_ ?_
    · skip
      exact Fo_some (by assumption)
    · skip
      refine Fo_bindS (by apply f_X9_thereInThought) (by first | rfl) (by assumption) fun r1 hr1 => ?_
      refine Fo_ite ?_ ?_
      · skip
        exact Fo_tail (by assumption) (by apply ih)
      · skip
        exact Fo_some (by assumption)
theorem f_X9_off (p0 : Int32) (p1 : Int32) (σ : ZSt) : Fo L_X9_off σ (fun b : Int32 × ZSt => b.2) (s_X9_off p0 p1 σ) := by
  have h0 : zKeep L_X9_off σ σ := zKeep.rf
  unfold s_X9_off
  refine Fo_bindP fun r1 => ?_
  refine Fo_itn ?_ ?_
  · skip
    exact Fo_tail (by assumption) (by apply f_X9_off_L13 <;> assumption)
  · skip
    exact Fo_some (by assumption)
theorem f_X2_share_C128 (k25 : Int32 → Int32 → Int32 → ZSt → Option ZSt) (l1 : Int32) (l2 : Int32) (l3 : Int32) (l4 : Int32) (l5 : Int32) (l6 : Int32) (l7 : Int32) (k_1 : Int32) (k_2 : Int32) (σ : ZSt) (hk25 : ∀ (x5 : Int32) (x6 : Int32) (x7 : Int32) (σx : ZSt), Fo L_X2_share σx (fun b : ZSt => b) (k25 x5 x6 x7 σx)) : Fo L_X2_share σ (fun b : ZSt => b) (s_X2_share_C128 k25 l1 l2 l3 l4 l5 l6 l7 k_1 k_2 σ) := by
  have h0 : zKeep L_X2_share σ σ := zKeep.rf
  unfold s_X2_share_C128
  refine Fo_sg (by assumption) (by first | rfl) fun σ1 hσ1 => ?_
  refine Fo_ld fun v2 => ?_
  refine Fo_itn ?_ ?_
  · skip
    refine Fo_st (by assumption) (by first | rfl) fun σ3 hσ3 => ?_
    exact Fo_tail (by assumption) (by apply hk25)
  · skip
    refine Fo_ld fun v4 => ?_
    refine Fo_ite ?_ ?_
    · skip
      refine Fo_st (by assumption) (by first | rfl) fun σ5 hσ5 => ?_
      exact Fo_tail (by assumption) (by apply hk25)
    · skip
      refine Fo_st (by assumption) (by first | rfl) fun σ6 hσ6 => ?_
      exact Fo_tail (by assumption) (by apply hk25)
theorem f_X2_share_C183 (l5 : Int32) (l6 : Int32) (σ : ZSt) : Fo L_X2_share σ (fun b : ZSt => b) (s_X2_share_C183 l5 l6 σ) := by
  have h0 : zKeep L_X2_share σ σ := zKeep.rf
  unfold s_X2_share_C183
  refine Fo_ite ?_ ?_
  · exact Fo_some (by assumption)
  · skip
    refine Fo_ld fun v1 => ?_
    refine Fo_sg (by assumption) (by first | rfl) fun σ2 hσ2 => ?_
    exact Fo_some (by assumption)
theorem f_X2_share_L25 (l1 : Int32) (l2 : Int32) (l3 : Int32) (l4 : Int32) : ∀ (n : Nat) (l5 : Int32) (l6 : Int32) (l7 : Int32) (σ : ZSt), Fo L_X2_share σ (fun b : ZSt => b) (s_X2_share_L25 l1 l2 l3 l4 n l5 l6 l7 σ) := by
  intro n
  induction n with
  | zero => intros; exact Fo_none
  | succ n ih =>
    intro l5 l6 l7 σ
    have h0 : zKeep L_X2_share σ σ := zKeep.rf
    rw [s_X2_share_L25]
    refine Fo_ite ?_ ?_
    · exact Fo_tail (by assumption) (by apply f_X2_share_C183 <;> assumption)
    · skip
      refine Fo_bindP fun r1 => ?_
      refine Fo_itn ?_ ?_
      · skip
        refine Fo_bindP fun r2 => ?_
        refine Fo_sg (by assumption) (by first | rfl) fun σ3 hσ3 => ?_
        refine Fo_bindP fun r4 => ?_
        refine Fo_sg (by assumption) (by first | rfl) fun σ5 hσ5 => ?_
        refine Fo_ld fun v6 => ?_
        refine Fo_ite ?_ ?_
        · skip
          exact Fo_tail (by assumption) (by apply f_X2_share_C128 <;> assumption)
        · skip
          refine Fo_ite ?_ ?_
          · skip
            exact Fo_tail (by assumption) (by apply f_X2_share_C128 <;> assumption)
          · skip
            refine Fo_ld fun v7 => ?_
            refine Fo_ite Fo_none ?_
            exact Fo_tail (by assumption) (by apply f_X2_share_C128 <;> assumption)
      · skip
        exact Fo_tail (by assumption) (by apply ih)
theorem f_X2_share (p0 : Int32) (p1 : Int32) (p2 : Int32) (σ : ZSt) : Fo L_X2_share σ (fun b : ZSt => b) (s_X2_share p0 p1 p2 σ) := by
  have h0 : zKeep L_X2_share σ σ := zKeep.rf
  unfold s_X2_share
  refine Fo_bindP fun r1 => ?_
  refine Fo_st (by assumption) (by first | rfl) fun σ2 hσ2 => ?_
  exact Fo_tail (by assumption) (by apply f_X2_share_L25 <;> assumption)
theorem f_X9_fund (p0 : Int32) (p1 : Int32) (p2 : Int32) (σ : ZSt) : Fo L_X9_fund σ (fun b : Int32 × ZSt => b.2) (s_X9_fund p0 p1 p2 σ) := by
  have h0 : zKeep L_X9_fund σ σ := zKeep.rf
  unfold s_X9_fund
  refine Fo_bindP fun r1 => ?_
  refine Fo_ite ?_ ?_
  · skip
    exact Fo_some (by assumption)
  · skip
    refine Fo_bindP fun r2 => ?_
    refine Fo_itn ?_ ?_
    · skip
      refine Fo_ite ?_ ?_
      · skip
        exact Fo_some (by assumption)
      · skip
        refine Fo_bindP fun r3 => ?_
        refine Fo_ite ?_ ?_
        · skip
          refine Fo_bindP fun r4 => ?_
          refine Fo_bindV (by apply f_X2_share) (by first | rfl) (by assumption) fun σ5 hσ5 => ?_
          refine Fo_itn ?_ ?_
          · skip
            refine Fo_itn ?_ ?_
            · skip
              refine Fo_bindP fun r6 => ?_
              exact Fo_some (by assumption)
            · skip
              refine Fo_bindP fun r7 => ?_
              exact Fo_some (by assumption)
          · skip
            refine Fo_bindP fun r8 => ?_
            refine Fo_ite ?_ ?_
            · skip
              exact Fo_some (by assumption)
            · skip
              exact Fo_some (by assumption)
        · skip
          exact Fo_some (by assumption)
    · skip
      exact Fo_some (by assumption)
theorem f_X1_stepBack (σ : ZSt) : Fo L_X1_stepBack σ (fun b : Int32 × ZSt => b.2) (s_X1_stepBack σ) := by
  have h0 : zKeep L_X1_stepBack σ σ := zKeep.rf
  unfold s_X1_stepBack
  refine Fo_ite ?_ ?_
  · skip
    exact Fo_some (by assumption)
  · skip
    refine Fo_st (by assumption) (by first | rfl) fun σ1 hσ1 => ?_
    exact Fo_some (by assumption)
theorem f_X9_undo (σ : ZSt) : Fo L_X9_undo σ (fun b : Int32 × ZSt => b.2) (s_X9_undo σ) := by
  have h0 : zKeep L_X9_undo σ σ := zKeep.rf
  unfold s_X9_undo
  refine Fo_bindS (by apply f_X1_stepBack) (by first | rfl) (by assumption) fun r1 hr1 => ?_
  refine Fo_ite ?_ ?_
  · skip
    refine Fo_bindP fun r2 => ?_
    refine Fo_bindP fun r3 => ?_
    refine Fo_bindP fun r4 => ?_
    refine Fo_bindV (by apply f_X7_tell) (by first | rfl) (by assumption) fun σ5 hσ5 => ?_
    refine Fo_bindP fun r6 => ?_
    exact Fo_some (by assumption)
  · skip
    exact Fo_some (by assumption)
theorem f_X1_stepOn (σ : ZSt) : Fo L_X1_stepOn σ (fun b : Int32 × ZSt => b.2) (s_X1_stepOn σ) := by
  have h0 : zKeep L_X1_stepOn σ σ := zKeep.rf
  unfold s_X1_stepOn
  refine Fo_ite ?_ ?_
  · skip
    exact Fo_some (by assumption)
  · skip
    refine Fo_st (by assumption) (by first | rfl) fun σ1 hσ1 => ?_
    exact Fo_some (by assumption)
theorem f_X9_redo (σ : ZSt) : Fo L_X9_redo σ (fun b : Int32 × ZSt => b.2) (s_X9_redo σ) := by
  have h0 : zKeep L_X9_redo σ σ := zKeep.rf
  unfold s_X9_redo
  refine Fo_bindS (by apply f_X1_stepOn) (by first | rfl) (by assumption) fun r1 hr1 => ?_
  refine Fo_ite ?_ ?_
  · skip
    refine Fo_bindP fun r2 => ?_
    refine Fo_bindP fun r3 => ?_
    refine Fo_bindP fun r4 => ?_
    refine Fo_bindV (by apply f_X7_tell) (by first | rfl) (by assumption) fun σ5 hσ5 => ?_
    refine Fo_bindP fun r6 => ?_
    exact Fo_some (by assumption)
  · skip
    exact Fo_some (by assumption)
theorem f_X0_addBody (p0 : Int32) (σ : ZSt) : Fo L_X0_addBody σ (fun b : Int32 × ZSt => b.2) (s_X0_addBody p0 σ) := by
  have h0 : zKeep L_X0_addBody σ σ := zKeep.rf
  unfold s_X0_addBody
  refine Fo_ite ?_ ?_
  · skip
    refine Fo_sg (by assumption) (by first | rfl) fun σ1 hσ1 => ?_
    refine Fo_st (by assumption) (by first | rfl) fun σ2 hσ2 => ?_
    exact Fo_some (by assumption)
  · skip
    exact Fo_some (by assumption)
theorem f_X9_body (p0 : Int32) (σ : ZSt) : Fo L_X9_body σ (fun b : Int32 × ZSt => b.2) (s_X9_body p0 σ) := by
  have h0 : zKeep L_X9_body σ σ := zKeep.rf
  unfold s_X9_body
  refine Fo_bindP fun r1 => ?_
  refine Fo_itn ?_ ?_
  · skip
    refine Fo_bindS (by apply f_X0_addBody) (by first | rfl) (by assumption) fun r2 hr2 => ?_
    exact Fo_some (by assumption)
  · skip
    exact Fo_some (by assumption)
theorem f_X0_begin_C28 (f_X0_from : Int32 → Int32 → Int32 → Int32 → ZSt → Option (Int32 × ZSt)) (hw_X0_from : ∀ (p0 : Int32) (p1 : Int32) (p2 : Int32) (p3 : Int32) (σ : ZSt), Fo L_X0_from σ (fun b : Int32 × ZSt => b.2) (f_X0_from p0 p1 p2 p3 σ)) (f_X0_self : Int32 → Int32 → Int32 → ZSt → Option (Int32 × ZSt)) (hw_X0_self : ∀ (p0 : Int32) (p1 : Int32) (p2 : Int32) (σ : ZSt), Fo L_X0_self σ (fun b : Int32 × ZSt => b.2) (f_X0_self p0 p1 p2 σ)) (l1 : Int32) (l2 : Int32) (l3 : Int32) (l4 : Int32) (σ : ZSt) : Fo L_X0_begin σ (fun b : Int32 × ZSt => b.2) (s_X0_begin_C28 f_X0_from f_X0_self l1 l2 l3 l4 σ) := by
  have h0 : zKeep L_X0_begin σ σ := zKeep.rf
  unfold s_X0_begin_C28
  refine Fo_st (by assumption) (by first | rfl) fun σ1 hσ1 => ?_
  refine Fo_bindP fun r2 => ?_
  refine Fo_ite ?_ ?_
  · skip
    exact Fo_some (by assumption)
  refine Fo_ite ?_ ?_
  · skip
    refine Fo_bindS (by apply hw_X0_self) (by first | rfl) (by assumption) fun r3 hr3 => ?_
    refine Fo_bindS (by apply hw_X0_self) (by first | rfl) (by assumption) fun r4 hr4 => ?_
    exact Fo_some (by assumption)
  refine Fo_ite ?_ ?_
  · skip
    refine Fo_bindS (by apply hw_X0_self) (by first | rfl) (by assumption) fun r5 hr5 => ?_
    exact Fo_some (by assumption)
  refine Fo_ite ?_ ?_
  · skip
    exact Fo_some (by assumption)
  refine Fo_ite ?_ ?_
  · skip
    refine Fo_bindS (by apply hw_X0_from) (by first | rfl) (by assumption) fun r6 hr6 => ?_
    exact Fo_some (by assumption)
  refine Fo_ite ?_ ?_
  · skip
    refine Fo_bindS (by apply hw_X0_from) (by first | rfl) (by assumption) fun r7 hr7 => ?_
    exact Fo_some (by assumption)
  refine Fo_ite ?_ ?_
  · skip
    refine Fo_bindS (by apply hw_X0_from) (by first | rfl) (by assumption) fun r8 hr8 => ?_
    exact Fo_some (by assumption)
  refine Fo_ite ?_ ?_
  · skip
    refine Fo_bindS (by apply hw_X0_from) (by first | rfl) (by assumption) fun r9 hr9 => ?_
    exact Fo_some (by assumption)
  refine Fo_ite ?_ ?_
  · skip
    refine Fo_bindS (by apply hw_X0_from) (by first | rfl) (by assumption) fun r10 hr10 => ?_
    refine Fo_bindS (by apply hw_X0_self) (by first | rfl) (by assumption) fun r11 hr11 => ?_
    exact Fo_some (by assumption)
  refine Fo_ite ?_ ?_
  · skip
    refine Fo_bindS (by apply hw_X0_from) (by first | rfl) (by assumption) fun r12 hr12 => ?_
    exact Fo_some (by assumption)
  refine Fo_ite ?_ ?_
  · skip
    refine Fo_bindS (by apply hw_X0_from) (by first | rfl) (by assumption) fun r13 hr13 => ?_
    exact Fo_some (by assumption)
  refine Fo_ite ?_ ?_
  · skip
    refine Fo_bindS (by apply hw_X0_from) (by first | rfl) (by assumption) fun r14 hr14 => ?_
    refine Fo_bindS (by apply hw_X0_self) (by first | rfl) (by assumption) fun r15 hr15 => ?_
    exact Fo_some (by assumption)
  refine Fo_ite ?_ ?_
  · skip
    refine Fo_bindS (by apply hw_X0_from) (by first | rfl) (by assumption) fun r16 hr16 => ?_
    exact Fo_some (by assumption)
  exact Fo_some (by assumption)
theorem f_X0_begin (f_X0_from : Int32 → Int32 → Int32 → Int32 → ZSt → Option (Int32 × ZSt)) (hw_X0_from : ∀ (p0 : Int32) (p1 : Int32) (p2 : Int32) (p3 : Int32) (σ : ZSt), Fo L_X0_from σ (fun b : Int32 × ZSt => b.2) (f_X0_from p0 p1 p2 p3 σ)) (f_X0_self : Int32 → Int32 → Int32 → ZSt → Option (Int32 × ZSt)) (hw_X0_self : ∀ (p0 : Int32) (p1 : Int32) (p2 : Int32) (σ : ZSt), Fo L_X0_self σ (fun b : Int32 × ZSt => b.2) (f_X0_self p0 p1 p2 σ)) (p0 : Int32) (p1 : Int32) (p2 : Int32) (p3 : Int32) (σ : ZSt) : Fo L_X0_begin σ (fun b : Int32 × ZSt => b.2) (s_X0_begin f_X0_from f_X0_self p0 p1 p2 p3 σ) := by
  have h0 : zKeep L_X0_begin σ σ := zKeep.rf
  unfold s_X0_begin
  refine Fo_ite ?_ ?_
  · skip
    refine Fo_ite ?_ ?_
    · exact Fo_tail (by assumption) (by apply f_X0_begin_C28 <;> assumption)
    · skip
      refine Fo_sg (by assumption) (by first | rfl) fun σ1 hσ1 => ?_
      exact Fo_tail (by assumption) (by apply f_X0_begin_C28 <;> assumption)
  · skip
    exact Fo_some (by assumption)
theorem f_X0_from_C27 (f_X0_begin : Int32 → Int32 → Int32 → Int32 → ZSt → Option (Int32 × ZSt)) (hw_X0_begin : ∀ (p0 : Int32) (p1 : Int32) (p2 : Int32) (p3 : Int32) (σ : ZSt), Fo L_X0_begin σ (fun b : Int32 × ZSt => b.2) (f_X0_begin p0 p1 p2 p3 σ)) (l2 : Int32) (l3 : Int32) (l4 : Int32) (l5 : Int32) (σ : ZSt) : Fo L_X0_from σ (fun b : Int32 × ZSt => b.2) (s_X0_from_C27 f_X0_begin l2 l3 l4 l5 σ) := by
  have h0 : zKeep L_X0_from σ σ := zKeep.rf
  unfold s_X0_from_C27
  refine Fo_bindP fun r1 => ?_
  refine Fo_bindS (by apply hw_X0_begin) (by first | rfl) (by assumption) fun r2 hr2 => ?_
  exact Fo_some (by assumption)
theorem f_X0_from_L6 (f_X0_begin : Int32 → Int32 → Int32 → Int32 → ZSt → Option (Int32 × ZSt)) (hw_X0_begin : ∀ (p0 : Int32) (p1 : Int32) (p2 : Int32) (p3 : Int32) (σ : ZSt), Fo L_X0_begin σ (fun b : Int32 × ZSt => b.2) (f_X0_begin p0 p1 p2 p3 σ)) (l2 : Int32) (l3 : Int32) (l4 : Int32) (σ : ZSt) : ∀ (n : Nat) (l5 : Int32) (l6 : Int32), Fo L_X0_from σ (fun b : Int32 × ZSt => b.2) (s_X0_from_L6 f_X0_begin l2 l3 l4 σ n l5 l6) := by
  intro n
  induction n with
  | zero => intros; exact Fo_none
  | succ n ih =>
    intro l5 l6
    have h0 : zKeep L_X0_from σ σ := zKeep.rf
    rw [s_X0_from_L6]
    refine Fo_ite ?_ ?_
    · skip
      exact Fo_some (by assumption)
    · skip
      refine Fo_ite ?_ ?_
      · skip
        exact Fo_some (by assumption)
      · skip
        refine Fo_bindP fun r1 => ?_
        refine Fo_ite ?_ ?_
        · skip
          refine Fo_bindP fun r2 => ?_
          exact Fo_tail (by assumption) (by apply ih)
        · exact Fo_tail (by assumption) (by apply f_X0_from_C27 <;> assumption)
theorem f_X0_from (f_X0_begin : Int32 → Int32 → Int32 → Int32 → ZSt → Option (Int32 × ZSt)) (hw_X0_begin : ∀ (p0 : Int32) (p1 : Int32) (p2 : Int32) (p3 : Int32) (σ : ZSt), Fo L_X0_begin σ (fun b : Int32 × ZSt => b.2) (f_X0_begin p0 p1 p2 p3 σ)) (p0 : Int32) (p1 : Int32) (p2 : Int32) (p3 : Int32) (σ : ZSt) : Fo L_X0_from σ (fun b : Int32 × ZSt => b.2) (s_X0_from f_X0_begin p0 p1 p2 p3 σ) := by
  have h0 : zKeep L_X0_from σ σ := zKeep.rf
  unfold s_X0_from
  exact Fo_tail (by assumption) (by apply f_X0_from_L6 <;> assumption)
theorem f_X0_self (f_X0_from : Int32 → Int32 → Int32 → Int32 → ZSt → Option (Int32 × ZSt)) (hw_X0_from : ∀ (p0 : Int32) (p1 : Int32) (p2 : Int32) (p3 : Int32) (σ : ZSt), Fo L_X0_from σ (fun b : Int32 × ZSt => b.2) (f_X0_from p0 p1 p2 p3 σ)) (p0 : Int32) (p1 : Int32) (p2 : Int32) (σ : ZSt) : Fo L_X0_self σ (fun b : Int32 × ZSt => b.2) (s_X0_self f_X0_from p0 p1 p2 σ) := by
  have h0 : zKeep L_X0_self σ σ := zKeep.rf
  unfold s_X0_self
  refine Fo_bindP fun r1 => ?_
  refine Fo_bindS (by apply hw_X0_from) (by first | rfl) (by assumption) fun r2 hr2 => ?_
  exact Fo_some (by assumption)
theorem ft_X0_begin_from_self : ∀ d : Nat, (∀ (p0 : Int32) (p1 : Int32) (p2 : Int32) (p3 : Int32) (σ : ZSt), Fo L_X0_begin σ (fun b : Int32 × ZSt => b.2) (rd_X0_begin d p0 p1 p2 p3 σ)) ∧ (∀ (p0 : Int32) (p1 : Int32) (p2 : Int32) (p3 : Int32) (σ : ZSt), Fo L_X0_from σ (fun b : Int32 × ZSt => b.2) (rd_X0_from d p0 p1 p2 p3 σ)) ∧ (∀ (p0 : Int32) (p1 : Int32) (p2 : Int32) (σ : ZSt), Fo L_X0_self σ (fun b : Int32 × ZSt => b.2) (rd_X0_self d p0 p1 p2 σ)) := by
  intro d
  induction d with
  | zero => exact ⟨(by intros; exact Fo_none), (by intros; exact Fo_none), (by intros; exact Fo_none)⟩
  | succ d ih =>
    obtain ⟨h0, h1, h2⟩ := ih
    exact ⟨fun p0 p1 p2 p3 σ => f_X0_begin _ h1 _ h2 p0 p1 p2 p3 σ, fun p0 p1 p2 p3 σ => f_X0_from _ h0 p0 p1 p2 p3 σ, fun p0 p1 p2 σ => f_X0_self _ h1 p0 p1 p2 σ⟩
theorem fr_X0_begin : ∀ (p0 : Int32) (p1 : Int32) (p2 : Int32) (p3 : Int32) (σ : ZSt), Fo L_X0_begin σ (fun b : Int32 × ZSt => b.2) (r_X0_begin p0 p1 p2 p3 σ) := (ft_X0_begin_from_self 100).1
theorem fr_X0_from : ∀ (p0 : Int32) (p1 : Int32) (p2 : Int32) (p3 : Int32) (σ : ZSt), Fo L_X0_from σ (fun b : Int32 × ZSt => b.2) (r_X0_from p0 p1 p2 p3 σ) := (ft_X0_begin_from_self 100).2.1
theorem fr_X0_self : ∀ (p0 : Int32) (p1 : Int32) (p2 : Int32) (σ : ZSt), Fo L_X0_self σ (fun b : Int32 × ZSt => b.2) (r_X0_self p0 p1 p2 σ) := (ft_X0_begin_from_self 100).2.2
theorem f_X0_run (p0 : Int32) (p1 : Int32) (p2 : Int32) (σ : ZSt) : Fo L_X0_run σ (fun b : Int32 × ZSt => b.2) (s_X0_run p0 p1 p2 σ) := by
  have h0 : zKeep L_X0_run σ σ := zKeep.rf
  unfold s_X0_run
  refine Fo_st (by assumption) (by first | rfl) fun σ1 hσ1 => ?_
  refine Fo_bindP fun r2 => ?_
  refine Fo_ite ?_ ?_
  · skip
    exact Fo_some (by assumption)
  · skip
    refine Fo_bindP fun r3 => ?_
    refine Fo_itn ?_ ?_
    · skip
      refine Fo_st (by assumption) (by first | rfl) fun σ4 hσ4 => ?_
      refine Fo_bindS (by apply fr_X0_self) (by first | rfl) (by assumption) fun r5 hr5 => ?_
      exact Fo_some (by assumption)
    · skip
      exact Fo_some (by assumption)
theorem f_X9_act (p0 : Int32) (p1 : Int32) (p2 : Int32) (σ : ZSt) : Fo L_X9_act σ (fun b : Int32 × ZSt => b.2) (s_X9_act p0 p1 p2 σ) := by
  have h0 : zKeep L_X9_act σ σ := zKeep.rf
  unfold s_X9_act
  refine Fo_bindS (by apply f_X0_run) (by first | rfl) (by assumption) fun r1 hr1 => ?_
  exact Fo_some (by assumption)
theorem f_X6_clearShelf (p0 : Int32) (σ : ZSt) : Fo L_X6_clearShelf σ (fun b : ZSt => b) (s_X6_clearShelf p0 σ) := by
  have h0 : zKeep L_X6_clearShelf σ σ := zKeep.rf
  unfold s_X6_clearShelf
  refine Fo_bindP fun r1 => ?_
  refine Fo_ite ?_ ?_
  · exact Fo_some (by assumption)
  · skip
    refine Fo_sg (by assumption) (by first | rfl) fun σ2 hσ2 => ?_
    exact Fo_some (by assumption)
theorem f_X6_holdBody (p0 : Int32) (p1 : Int32) (σ : ZSt) : Fo L_X6_holdBody σ (fun b : ZSt => b) (s_X6_holdBody p0 p1 σ) := by
  have h0 : zKeep L_X6_holdBody σ σ := zKeep.rf
  unfold s_X6_holdBody
  refine Fo_bindP fun r1 => ?_
  refine Fo_itn ?_ ?_
  · skip
    refine Fo_sg (by assumption) (by first | rfl) fun σ2 hσ2 => ?_
    refine Fo_sg (by assumption) (by first | rfl) fun σ3 hσ3 => ?_
    exact Fo_some (by assumption)
  · exact Fo_some (by assumption)
theorem f_X9_keep_C31 (l1 : Int32) (l2 : Int32) (σ : ZSt) : Fo L_X9_keep σ (fun b : Int32 × ZSt => b.2) (s_X9_keep_C31 l1 l2 σ) := by
  have h0 : zKeep L_X9_keep σ σ := zKeep.rf
  unfold s_X9_keep_C31
  refine Fo_itn ?_ ?_
  · skip
    refine Fo_bindV (by apply f_X6_holdBody) (by first | rfl) (by assumption) fun σ1 hσ1 => ?_
    exact Fo_some (by assumption)
  · skip
    refine Fo_bindV (by apply f_X6_clearShelf) (by first | rfl) (by assumption) fun σ2 hσ2 => ?_
    exact Fo_some (by assumption)
theorem f_X9_keep (p0 : Int32) (p1 : Int32) (σ : ZSt) : Fo L_X9_keep σ (fun b : Int32 × ZSt => b.2) (s_X9_keep p0 p1 σ) := by
  have h0 : zKeep L_X9_keep σ σ := zKeep.rf
  unfold s_X9_keep
  refine Fo_bindP fun r1 => ?_
  refine Fo_itn ?_ ?_
  · skip
    refine Fo_ite ?_ ?_
    · exact Fo_tail (by assumption) (by apply f_X9_keep_C31 <;> assumption)
    · skip
      refine Fo_bindP fun r2 => ?_
      refine Fo_itn ?_ ?_
      · exact Fo_tail (by assumption) (by apply f_X9_keep_C31 <;> assumption)
      · skip
        exact Fo_some (by assumption)
  · skip
    exact Fo_some (by assumption)
theorem f_X6_holdRow_L26 (l1 : Int32) : ∀ (n : Nat) (l4 : Int32) (σ : ZSt), Fo L_X6_holdRow σ (fun b : ZSt => b) (s_X6_holdRow_L26 l1 n l4 σ) := by
  intro n
  induction n with
  | zero => intros; exact Fo_none
  | succ n ih =>
    intro l4 σ
    have h0 : zKeep L_X6_holdRow σ σ := zKeep.rf
    rw [s_X6_holdRow_L26]
    refine Fo_ite ?_ ?_
    · exact Fo_some (by assumption)
    · skip
      refine Fo_row fun j2 hj2 => ?_
      refine Fo_sgE (by assumption) (by rcases hj2 with rfl | rfl | rfl | rfl | rfl | rfl <;> rfl) fun σ3 hσ3 => ?_
      exact Fo_tail (by assumption) (by apply ih)
theorem f_X6_holdRow (p0 : Int32) (p1 : Int32) (p2 : Int32) (σ : ZSt) : Fo L_X6_holdRow σ (fun b : ZSt => b) (s_X6_holdRow p0 p1 p2 σ) := by
  have h0 : zKeep L_X6_holdRow σ σ := zKeep.rf
  unfold s_X6_holdRow
  refine Fo_bindP fun r1 => ?_
  refine Fo_itn ?_ ?_
  · skip
    refine Fo_sg (by assumption) (by first | rfl) fun σ2 hσ2 => ?_
    refine Fo_sg (by assumption) (by first | rfl) fun σ3 hσ3 => ?_
    exact Fo_tail (by assumption) (by apply f_X6_holdRow_L26 <;> assumption)
  · exact Fo_some (by assumption)
theorem f_X9_row (p0 : Int32) (p1 : Int32) (p2 : Int32) (σ : ZSt) : Fo L_X9_row σ (fun b : Int32 × ZSt => b.2) (s_X9_row p0 p1 p2 σ) := by
  have h0 : zKeep L_X9_row σ σ := zKeep.rf
  unfold s_X9_row
  refine Fo_bindP fun r1 => ?_
  refine Fo_ite ?_ ?_
  · skip
    exact Fo_some (by assumption)
  · skip
    refine Fo_bindP fun r2 => ?_
    refine Fo_ite ?_ ?_
    · skip
      exact Fo_some (by assumption)
    · skip
      refine Fo_ite ?_ ?_
      · skip
        refine Fo_ite ?_ ?_
        · skip
          refine Fo_bindV (by apply f_X6_holdRow) (by first | rfl) (by assumption) fun σ3 hσ3 => ?_
          exact Fo_some (by assumption)
        · skip
          exact Fo_some (by assumption)
      · skip
        exact Fo_some (by assumption)
theorem f_X6_set (p0 : Int32) (p1 : Int32) (p2 : Int64) (σ : ZSt) : Fo L_X6_set σ (fun b : ZSt => b) (s_X6_set p0 p1 p2 σ) := by
  have h0 : zKeep L_X6_set σ σ := zKeep.rf
  unfold s_X6_set
  refine Fo_bindP fun r1 => ?_
  refine Fo_ite ?_ ?_
  · exact Fo_some (by assumption)
  · skip
    refine Fo_row fun j3 hj3 => ?_
    refine Fo_ld fun v4 => ?_
    refine Fo_bindP fun r5 => ?_
    refine Fo_sgE (by assumption) (by rcases hj3 with rfl | rfl | rfl | rfl | rfl | rfl <;> rfl) fun σ6 hσ6 => ?_
    exact Fo_some (by assumption)
theorem f_X9_put (p0 : Int32) (p1 : Int32) (p2 : Int64) (σ : ZSt) : Fo L_X9_put σ (fun b : Int32 × ZSt => b.2) (s_X9_put p0 p1 p2 σ) := by
  have h0 : zKeep L_X9_put σ σ := zKeep.rf
  unfold s_X9_put
  refine Fo_bindP fun r1 => ?_
  refine Fo_ite ?_ ?_
  · skip
    refine Fo_bindV (by apply f_X6_set) (by first | rfl) (by assumption) fun σ2 hσ2 => ?_
    exact Fo_some (by assumption)
  · skip
    exact Fo_some (by assumption)
theorem f_X6_copy (p0 : Int32) (p1 : Int32) (p2 : Int32) (p3 : Int32) (p4 : Int32) (σ : ZSt) : Fo L_X6_copy σ (fun b : ZSt => b) (s_X6_copy p0 p1 p2 p3 p4 σ) := by
  have h0 : zKeep L_X6_copy σ σ := zKeep.rf
  unfold s_X6_copy
  refine Fo_bindP fun r1 => ?_
  refine Fo_ite ?_ ?_
  · exact Fo_some (by assumption)
  · skip
    refine Fo_bindP fun r2 => ?_
    refine Fo_itn ?_ ?_
    · skip
      refine Fo_row fun j4 hj4 => ?_
      refine Fo_row fun j6 hj6 => ?_
      refine Fo_sgC (by assumption) (by intro f; rcases hj6 with rfl | rfl | rfl | rfl | rfl | rfl <;> rfl) fun σ7 hσ7 => ?_
      exact Fo_some (by assumption)
    · exact Fo_some (by assumption)
theorem f_X9_shift (p0 : Int32) (p1 : Int32) (p2 : Int32) (p3 : Int32) (p4 : Int32) (σ : ZSt) : Fo L_X9_shift σ (fun b : Int32 × ZSt => b.2) (s_X9_shift p0 p1 p2 p3 p4 σ) := by
  have h0 : zKeep L_X9_shift σ σ := zKeep.rf
  unfold s_X9_shift
  refine Fo_bindP fun r1 => ?_
  refine Fo_ite ?_ ?_
  · skip
    exact Fo_some (by assumption)
  · skip
    refine Fo_bindP fun r2 => ?_
    refine Fo_itn ?_ ?_
    · skip
      refine Fo_bindP fun r3 => ?_
      refine Fo_itn ?_ ?_
      · skip
        exact Fo_some (by assumption)
      · skip
        refine Fo_bindP fun r4 => ?_
        refine Fo_ite ?_ ?_
        · skip
          refine Fo_bindP fun r5 => ?_
          refine Fo_itn ?_ ?_
          · skip
            refine Fo_bindP fun r6 => ?_
            refine Fo_ite ?_ ?_
            · skip
              exact Fo_some (by assumption)
            · skip
              refine Fo_bindP fun r7 => ?_
              refine Fo_itn ?_ ?_
              · skip
                refine Fo_bindV (by apply f_X6_copy) (by first | rfl) (by assumption) fun σ8 hσ8 => ?_
                exact Fo_some (by assumption)
              · skip
                exact Fo_some (by assumption)
          · skip
            exact Fo_some (by assumption)
        · skip
          exact Fo_some (by assumption)
    · skip
      exact Fo_some (by assumption)
theorem f_X10_becomes_C97 (l1 : Int32) (l2 : Int32) (l3 : Int32) (σ : ZSt) : Fo L_X10_becomes σ (fun b : Int32 × ZSt => b.2) (s_X10_becomes_C97 l1 l2 l3 σ) := by
  have h0 : zKeep L_X10_becomes σ σ := zKeep.rf
  unfold s_X10_becomes_C97
  refine Fo_sg (by assumption) (by first | rfl) fun σ1 hσ1 => ?_
  refine Fo_sg (by assumption) (by first | rfl) fun σ2 hσ2 => ?_
  refine Fo_sg (by assumption) (by first | rfl) fun σ3 hσ3 => ?_
  refine Fo_st (by assumption) (by first | rfl) fun σ4 hσ4 => ?_
  refine Fo_st (by assumption) (by first | rfl) fun σ5 hσ5 => ?_
  refine Fo_sg (by assumption) (by first | rfl) fun σ6 hσ6 => ?_
  exact Fo_some (by assumption)
theorem f_X10_becomes_C87 (l1 : Int32) (l2 : Int32) (l3 : Int32) (σ : ZSt) : Fo L_X10_becomes σ (fun b : Int32 × ZSt => b.2) (s_X10_becomes_C87 l1 l2 l3 σ) := by
  have h0 : zKeep L_X10_becomes σ σ := zKeep.rf
  unfold s_X10_becomes_C87
  refine Fo_st (by assumption) (by first | rfl) fun σ1 hσ1 => ?_
  exact Fo_tail (by assumption) (by apply f_X10_becomes_C97 <;> assumption)
theorem f_X10_becomes_L26 (l1 : Int32) (l2 : Int32) (l3 : Int32) : ∀ (n : Nat) (l4 : Int32) (σ : ZSt), Fo L_X10_becomes σ (fun b : Int32 × ZSt => b.2) (s_X10_becomes_L26 l1 l2 l3 n l4 σ) := by
  intro n
  induction n with
  | zero => intros; exact Fo_none
  | succ n ih =>
    intro l4 σ
    have h0 : zKeep L_X10_becomes σ σ := zKeep.rf
    rw [s_X10_becomes_L26]
    refine Fo_ite ?_ ?_
    · exact Fo_tail (by assumption) (by apply f_X10_becomes_C87 <;> assumption)
    · skip
      refine Fo_ld fun v1 => ?_
      refine Fo_sg (by assumption) (by first | rfl) fun σ2 hσ2 => ?_
      refine Fo_ld fun v3 => ?_
      refine Fo_sg (by assumption) (by first | rfl) fun σ4 hσ4 => ?_
      refine Fo_ld fun v5 => ?_
      refine Fo_sg (by assumption) (by first | rfl) fun σ6 hσ6 => ?_
      exact Fo_tail (by assumption) (by apply ih)
theorem f_X10_becomes (p0 : Int32) (p1 : Int32) (σ : ZSt) : Fo L_X10_becomes σ (fun b : Int32 × ZSt => b.2) (s_X10_becomes p0 p1 σ) := by
  have h0 : zKeep L_X10_becomes σ σ := zKeep.rf
  unfold s_X10_becomes
  refine Fo_ld fun v1 => ?_
  refine Fo_itn ?_ ?_
  · skip
    refine Fo_itn ?_ ?_
    · exact Fo_tail (by assumption) (by apply f_X10_becomes_C97 <;> assumption)
    · skip
      exact Fo_tail (by assumption) (by apply f_X10_becomes_L26 <;> assumption)
  · skip
    exact Fo_some (by assumption)
theorem f_X10_undo (σ : ZSt) : Fo L_X10_undo σ (fun b : Int32 × ZSt => b.2) (s_X10_undo σ) := by
  have h0 : zKeep L_X10_undo σ σ := zKeep.rf
  unfold s_X10_undo
  refine Fo_itn ?_ ?_
  · skip
    refine Fo_st (by assumption) (by first | rfl) fun σ1 hσ1 => ?_
    refine Fo_ld fun v2 => ?_
    refine Fo_ld fun v3 => ?_
    refine Fo_sg (by assumption) (by first | rfl) fun σ4 hσ4 => ?_
    exact Fo_some (by assumption)
  · skip
    exact Fo_some (by assumption)
theorem f_X10_redo (σ : ZSt) : Fo L_X10_redo σ (fun b : Int32 × ZSt => b.2) (s_X10_redo σ) := by
  have h0 : zKeep L_X10_redo σ σ := zKeep.rf
  unfold s_X10_redo
  refine Fo_itn ?_ ?_
  · skip
    refine Fo_ld fun v1 => ?_
    refine Fo_ld fun v2 => ?_
    refine Fo_sg (by assumption) (by first | rfl) fun σ3 hσ3 => ?_
    refine Fo_st (by assumption) (by first | rfl) fun σ4 hσ4 => ?_
    exact Fo_some (by assumption)
  · skip
    exact Fo_some (by assumption)
theorem f_X10_street (p0 : Int32) (p1 : Int32) (σ : ZSt) : Fo L_X10_street σ (fun b : Int32 × ZSt => b.2) (s_X10_street p0 p1 σ) := by
  have h0 : zKeep L_X10_street σ σ := zKeep.rf
  unfold s_X10_street
  refine Fo_bindP fun r1 => ?_
  refine Fo_ite ?_ ?_
  · skip
    exact Fo_some (by assumption)
  · skip
    refine Fo_bindP fun r2 => ?_
    refine Fo_itn ?_ ?_
    · skip
      refine Fo_itn ?_ ?_
      · skip
        refine Fo_sg (by assumption) (by first | rfl) fun σ3 hσ3 => ?_
        refine Fo_sg (by assumption) (by first | rfl) fun σ4 hσ4 => ?_
        refine Fo_sg (by assumption) (by first | rfl) fun σ5 hσ5 => ?_
        refine Fo_sg (by assumption) (by first | rfl) fun σ6 hσ6 => ?_
        refine Fo_st (by assumption) (by first | rfl) fun σ7 hσ7 => ?_
        exact Fo_some (by assumption)
      · skip
        exact Fo_some (by assumption)
    · skip
      exact Fo_some (by assumption)
theorem f_X10_adds (p0 : Int32) (p1 : Int32) (p2 : Int32) (p3 : Int32) (σ : ZSt) : Fo L_X10_adds σ (fun b : ZSt => b) (s_X10_adds p0 p1 p2 p3 σ) := by
  have h0 : zKeep L_X10_adds σ σ := zKeep.rf
  unfold s_X10_adds
  refine Fo_sg (by assumption) (by first | rfl) fun σ1 hσ1 => ?_
  refine Fo_sg (by assumption) (by first | rfl) fun σ2 hσ2 => ?_
  refine Fo_sg (by assumption) (by first | rfl) fun σ3 hσ3 => ?_
  refine Fo_sg (by assumption) (by first | rfl) fun σ4 hσ4 => ?_
  refine Fo_st (by assumption) (by first | rfl) fun σ5 hσ5 => ?_
  exact Fo_some (by assumption)
theorem f_X10_window (p0 : Int32) (p1 : Int32) (σ : ZSt) : Fo L_X10_window σ (fun b : Int32 × ZSt => b.2) (s_X10_window p0 p1 σ) := by
  have h0 : zKeep L_X10_window σ σ := zKeep.rf
  unfold s_X10_window
  refine Fo_ite ?_ ?_
  · skip
    exact Fo_some (by assumption)
  · skip
    refine Fo_ite ?_ ?_
    · skip
      exact Fo_some (by assumption)
    · skip
      refine Fo_bindP fun r1 => ?_
      refine Fo_itn ?_ ?_
      · skip
        refine Fo_itn ?_ ?_
        · skip
          refine Fo_bindV (by apply f_X10_adds) (by first | rfl) (by assumption) fun σ2 hσ2 => ?_
          exact Fo_some (by assumption)
        · skip
          exact Fo_some (by assumption)
      · skip
        exact Fo_some (by assumption)
theorem f_X10_windows_C177 (k69 : Int32 → Int32 → ZSt → Option (Int32 × ZSt)) (l1 : Int32) (l2 : Int32) (l3 : Int32) (l4 : Int32) (l6 : Int32) (k_0 : Int32) (σ : ZSt) (hk69 : ∀ (x4 : Int32) (x5 : Int32) (σx : ZSt), Fo L_X10_windows σx (fun b : Int32 × ZSt => b.2) (k69 x4 x5 σx)) : Fo L_X10_windows σ (fun b : Int32 × ZSt => b.2) (s_X10_windows_C177 k69 l1 l2 l3 l4 l6 k_0 σ) := by
  have h0 : zKeep L_X10_windows σ σ := zKeep.rf
  unfold s_X10_windows_C177
  refine Fo_ite ?_ ?_
  · skip
    exact Fo_tail (by assumption) (by apply hk69)
  · skip
    refine Fo_ld fun v1 => ?_
    refine Fo_ld fun v2 => ?_
    refine Fo_ld fun v3 => ?_
    refine Fo_ld fun v4 => ?_
    refine Fo_bindV (by apply f_X10_adds) (by first | rfl) (by assumption) fun σ5 hσ5 => ?_
    exact Fo_tail (by assumption) (by apply hk69)
theorem f_X10_windows_C111 (k69 : Int32 → Int32 → ZSt → Option (Int32 × ZSt)) (l1 : Int32) (l2 : Int32) (l3 : Int32) (l4 : Int32) (k_0 : Int32) (σ : ZSt) (hk69 : ∀ (x4 : Int32) (x5 : Int32) (σx : ZSt), Fo L_X10_windows σx (fun b : Int32 × ZSt => b.2) (k69 x4 x5 σx)) : Fo L_X10_windows σ (fun b : Int32 × ZSt => b.2) (s_X10_windows_C111 k69 l1 l2 l3 l4 k_0 σ) := by
  have h0 : zKeep L_X10_windows σ σ := zKeep.rf
  unfold s_X10_windows_C111
  refine Fo_ite ?_ ?_
  · skip
    exact Fo_tail (by assumption) (by apply f_X10_windows_C177 <;> assumption)
  · skip
    refine Fo_ld fun v1 => ?_
    refine Fo_ld fun v2 => ?_
    refine Fo_ld fun v3 => ?_
    refine Fo_ld fun v4 => ?_
    refine Fo_bindP fun r5 => ?_
    refine Fo_ite ?_ ?_
    · skip
      exact Fo_tail (by assumption) (by apply f_X10_windows_C177 <;> assumption)
    · skip
      exact Fo_tail (by assumption) (by apply f_X10_windows_C177 <;> assumption)
theorem f_X10_windows_L69 (l1 : Int32) (l2 : Int32) (l3 : Int32) : ∀ (n : Nat) (l4 : Int32) (l5 : Int32) (σ : ZSt), Fo L_X10_windows σ (fun b : Int32 × ZSt => b.2) (s_X10_windows_L69 l1 l2 l3 n l4 l5 σ) := by
  intro n
  induction n with
  | zero => intros; exact Fo_none
  | succ n ih =>
    intro l4 l5 σ
    have h0 : zKeep L_X10_windows σ σ := zKeep.rf
    rw [s_X10_windows_L69]
    refine Fo_ite ?_ ?_
    · skip
      exact Fo_some (by assumption)
    · skip
      refine Fo_ite ?_ ?_
      · skip
        exact Fo_some (by assumption)
      · skip
        refine Fo_ld fun v1 => ?_
        refine Fo_ite ?_ ?_
        · skip
          exact Fo_tail (by assumption) (by apply f_X10_windows_C111 <;> assumption)
        · skip
          refine Fo_ite ?_ ?_
          · skip
            exact Fo_tail (by assumption) (by apply f_X10_windows_C111 <;> assumption)
          · skip
            exact Fo_tail (by assumption) (by apply f_X10_windows_C111 <;> assumption)
theorem f_X10_windows_C44 (l1 : Int32) (l2 : Int32) (l3 : Int32) (σ : ZSt) : Fo L_X10_windows σ (fun b : Int32 × ZSt => b.2) (s_X10_windows_C44 l1 l2 l3 σ) := by
  have h0 : zKeep L_X10_windows σ σ := zKeep.rf
  unfold s_X10_windows_C44
  refine Fo_ld fun v1 => ?_
  refine Fo_itn ?_ ?_
  · skip
    exact Fo_tail (by assumption) (by apply f_X10_windows_L69 <;> assumption)
  · skip
    refine Fo_ite ?_ ?_
    · skip
      exact Fo_tail (by assumption) (by apply f_X10_windows_L69 <;> assumption)
    · skip
      exact Fo_tail (by assumption) (by apply f_X10_windows_L69 <;> assumption)
theorem f_X10_windows (p0 : Int32) (p1 : Int32) (p2 : Int32) (σ : ZSt) : Fo L_X10_windows σ (fun b : Int32 × ZSt => b.2) (s_X10_windows p0 p1 p2 σ) := by
  have h0 : zKeep L_X10_windows σ σ := zKeep.rf
  unfold s_X10_windows
  refine Fo_bindP fun r1 => ?_
  refine Fo_ite ?_ ?_
  · skip
    exact Fo_some (by assumption)
  · skip
    refine Fo_bindP fun r2 => ?_
    refine Fo_itn ?_ ?_
    · skip
      refine Fo_ld fun v3 => ?_
      refine Fo_ite ?_ ?_
      · exact Fo_tail (by assumption) (by apply f_X10_windows_C44 <;> assumption)
      · skip
        refine Fo_ld fun v4 => ?_
        refine Fo_ite ?_ ?_
        · exact Fo_tail (by assumption) (by apply f_X10_windows_C44 <;> assumption)
        · skip
          exact Fo_some (by assumption)
    · skip
      exact Fo_some (by assumption)
theorem f_X10_player_C39 (l1 : Int32) (l2 : Int32) (l3 : Int32) (σ : ZSt) : Fo L_X10_player σ (fun b : Int32 × ZSt => b.2) (s_X10_player_C39 l1 l2 l3 σ) := by
  have h0 : zKeep L_X10_player σ σ := zKeep.rf
  unfold s_X10_player_C39
  refine Fo_itn ?_ ?_
  · skip
    refine Fo_sg (by assumption) (by first | rfl) fun σ1 hσ1 => ?_
    refine Fo_sg (by assumption) (by first | rfl) fun σ2 hσ2 => ?_
    refine Fo_sg (by assumption) (by first | rfl) fun σ3 hσ3 => ?_
    refine Fo_sg (by assumption) (by first | rfl) fun σ4 hσ4 => ?_
    refine Fo_st (by assumption) (by first | rfl) fun σ5 hσ5 => ?_
    exact Fo_some (by assumption)
  · skip
    exact Fo_some (by assumption)
theorem f_X10_player (p0 : Int32) (p1 : Int32) (p2 : Int32) (σ : ZSt) : Fo L_X10_player σ (fun b : Int32 × ZSt => b.2) (s_X10_player p0 p1 p2 σ) := by
  have h0 : zKeep L_X10_player σ σ := zKeep.rf
  unfold s_X10_player
  refine Fo_bindP fun r1 => ?_
  refine Fo_ite ?_ ?_
  · skip
    exact Fo_some (by assumption)
  · skip
    refine Fo_bindP fun r2 => ?_
    refine Fo_ite ?_ ?_
    · skip
      exact Fo_some (by assumption)
    · skip
      refine Fo_ite ?_ ?_
      · exact Fo_tail (by assumption) (by apply f_X10_player_C39 <;> assumption)
      · skip
        refine Fo_bindP fun r3 => ?_
        refine Fo_itn ?_ ?_
        · exact Fo_tail (by assumption) (by apply f_X10_player_C39 <;> assumption)
        · skip
          exact Fo_some (by assumption)
theorem f_X10_mend (p0 : Int32) (p1 : Int32) (p2 : Int32) (σ : ZSt) : Fo L_X10_mend σ (fun b : Int32 × ZSt => b.2) (s_X10_mend p0 p1 p2 σ) := by
  have h0 : zKeep L_X10_mend σ σ := zKeep.rf
  unfold s_X10_mend
  refine Fo_ite ?_ ?_
  · skip
    refine Fo_bindP fun r1 => ?_
    refine Fo_ite ?_ ?_
    · skip
      exact Fo_some (by assumption)
    · skip
      refine Fo_bindP fun r2 => ?_
      refine Fo_ite ?_ ?_
      · skip
        exact Fo_some (by assumption)
      · skip
        refine Fo_bindS (by apply f_X10_becomes) (by first | rfl) (by assumption) fun r3 hr3 => ?_
        exact Fo_some (by assumption)
  refine Fo_ite ?_ ?_
  · skip
    refine Fo_bindP fun r4 => ?_
    refine Fo_ite ?_ ?_
    · skip
      exact Fo_some (by assumption)
    · skip
      refine Fo_bindP fun r5 => ?_
      refine Fo_ite ?_ ?_
      · skip
        exact Fo_some (by assumption)
      · skip
        refine Fo_bindS (by apply f_X10_becomes) (by first | rfl) (by assumption) fun r6 hr6 => ?_
        exact Fo_some (by assumption)
  refine Fo_ite ?_ ?_
  · skip
    refine Fo_bindP fun r7 => ?_
    refine Fo_ite ?_ ?_
    · skip
      exact Fo_some (by assumption)
    · skip
      refine Fo_bindP fun r8 => ?_
      refine Fo_ite ?_ ?_
      · skip
        exact Fo_some (by assumption)
      · skip
        refine Fo_bindS (by apply f_X10_becomes) (by first | rfl) (by assumption) fun r9 hr9 => ?_
        exact Fo_some (by assumption)
  exact Fo_some (by assumption)
theorem f_X10_pay (p0 : Int32) (p1 : Int32) (σ : ZSt) : Fo L_X10_pay σ (fun b : Int32 × ZSt => b.2) (s_X10_pay p0 p1 σ) := by
  have h0 : zKeep L_X10_pay σ σ := zKeep.rf
  unfold s_X10_pay
  refine Fo_bindP fun r1 => ?_
  refine Fo_ite ?_ ?_
  · skip
    exact Fo_some (by assumption)
  · skip
    refine Fo_bindP fun r2 => ?_
    refine Fo_itn ?_ ?_
    · skip
      refine Fo_ld fun v3 => ?_
      refine Fo_ld fun v4 => ?_
      refine Fo_sg (by assumption) (by first | rfl) fun σ5 hσ5 => ?_
      refine Fo_sg (by assumption) (by first | rfl) fun σ6 hσ6 => ?_
      exact Fo_some (by assumption)
    · skip
      exact Fo_some (by assumption)
theorem f_X10_feed_L30 (l1 : Int32) (l2 : Int32) : ∀ (n : Nat) (l3 : Int32) (σ : ZSt), Fo L_X10_feed σ (fun b : Int32 × ZSt => b.2) (s_X10_feed_L30 l1 l2 n l3 σ) := by
  intro n
  induction n with
  | zero => intros; exact Fo_none
  | succ n ih =>
    intro l3 σ
    have h0 : zKeep L_X10_feed σ σ := zKeep.rf
    rw [s_X10_feed_L30]
    refine Fo_ite ?_ ?_
    · skip
      exact Fo_some (by assumption)
    · skip
      refine Fo_sg (by assumption) (by first | rfl) fun σ1 hσ1 => ?_
      refine Fo_st (by assumption) (by first | rfl) fun σ2 hσ2 => ?_
      exact Fo_tail (by assumption) (by apply ih)
theorem f_X10_feed (p0 : Int32) (p1 : Int32) (σ : ZSt) : Fo L_X10_feed σ (fun b : Int32 × ZSt => b.2) (s_X10_feed p0 p1 σ) := by
  have h0 : zKeep L_X10_feed σ σ := zKeep.rf
  unfold s_X10_feed
  refine Fo_bindP fun r1 => ?_
  refine Fo_itn ?_ ?_
  · skip
    refine Fo_ite ?_ ?_
    · skip
      exact Fo_tail (by assumption) (by apply f_X10_feed_L30 <;> assumption)
    · skip
      exact Fo_some (by assumption)
  · skip
    exact Fo_some (by assumption)
theorem f_X10_wrong (σ : ZSt) : Fo L_X10_wrong σ (fun b : Int32 × ZSt => b.2) (s_X10_wrong σ) := by
  have h0 : zKeep L_X10_wrong σ σ := zKeep.rf
  unfold s_X10_wrong
  refine Fo_ite ?_ ?_
  · skip
    refine Fo_st (by assumption) (by first | rfl) fun σ1 hσ1 => ?_
    exact Fo_some (by assumption)
  · skip
    refine Fo_st (by assumption) (by first | rfl) fun σ2 hσ2 => ?_
    exact Fo_some (by assumption)
theorem f_X10_takes (p0 : Int32) (σ : ZSt) : Fo L_X10_takes σ (fun b : Int32 × ZSt => b.2) (s_X10_takes p0 σ) := by
  have h0 : zKeep L_X10_takes σ σ := zKeep.rf
  unfold s_X10_takes
  refine Fo_ite ?_ ?_
  · skip
    exact Fo_some (by assumption)
  · skip
    refine Fo_bindP fun r1 => ?_
    refine Fo_ite ?_ ?_
    · skip
      refine Fo_st (by assumption) (by first | rfl) fun σ2 hσ2 => ?_
      exact Fo_some (by assumption)
    · skip
      exact Fo_some (by assumption)
theorem f_X10_one_C104 (f_X10_either : ZSt → Option (Int32 × ZSt)) (hw_X10_either : ∀ (σ : ZSt), Fo L_X10_either σ (fun b : Int32 × ZSt => b.2) (f_X10_either  σ)) (f_X10_one : ZSt → Option (Int32 × ZSt)) (hw_X10_one : ∀ (σ : ZSt), Fo L_X10_one σ (fun b : Int32 × ZSt => b.2) (f_X10_one  σ)) (l1 : Int32) (l2 : Int32) (σ : ZSt) : Fo L_X10_one σ (fun b : Int32 × ZSt => b.2) (s_X10_one_C104 f_X10_either f_X10_one l1 l2 σ) := by
  have h0 : zKeep L_X10_one σ σ := zKeep.rf
  unfold s_X10_one_C104
  refine Fo_st (by assumption) (by first | rfl) fun σ1 hσ1 => ?_
  refine Fo_itn ?_ ?_
  · skip
    refine Fo_itn ?_ ?_
    · skip
      refine Fo_itn ?_ ?_
      · skip
        exact Fo_some (by assumption)
      · skip
        exact Fo_some (by assumption)
    · skip
      exact Fo_some (by assumption)
  · skip
    exact Fo_some (by assumption)
theorem f_X10_one_C32 (f_X10_either : ZSt → Option (Int32 × ZSt)) (hw_X10_either : ∀ (σ : ZSt), Fo L_X10_either σ (fun b : Int32 × ZSt => b.2) (f_X10_either  σ)) (f_X10_one : ZSt → Option (Int32 × ZSt)) (hw_X10_one : ∀ (σ : ZSt), Fo L_X10_one σ (fun b : Int32 × ZSt => b.2) (f_X10_one  σ)) (l1 : Int32) (σ : ZSt) : Fo L_X10_one σ (fun b : Int32 × ZSt => b.2) (s_X10_one_C32 f_X10_either f_X10_one l1 σ) := by
  have h0 : zKeep L_X10_one σ σ := zKeep.rf
  unfold s_X10_one_C32
  refine Fo_itn ?_ ?_
  · skip
    refine Fo_st (by assumption) (by first | rfl) fun σ1 hσ1 => ?_
    refine Fo_st (by assumption) (by first | rfl) fun σ2 hσ2 => ?_
    refine Fo_itn ?_ ?_
    · skip
      refine Fo_bindS (by apply hw_X10_one) (by first | rfl) (by assumption) fun r3 hr3 => ?_
      refine Fo_itn ?_ ?_
      · exact Fo_tail (by assumption) (by apply f_X10_one_C104 <;> assumption)
      · skip
        refine Fo_bindS (by apply f_X10_takes) (by first | rfl) (by assumption) fun r4 hr4 => ?_
        refine Fo_itn ?_ ?_
        · exact Fo_tail (by assumption) (by apply f_X10_one_C104 <;> assumption)
        · skip
          refine Fo_bindS (by apply f_X10_wrong) (by first | rfl) (by assumption) fun r5 hr5 => ?_
          exact Fo_some (by assumption)
    · skip
      refine Fo_bindS (by apply hw_X10_either) (by first | rfl) (by assumption) fun r6 hr6 => ?_
      refine Fo_itn ?_ ?_
      · exact Fo_tail (by assumption) (by apply f_X10_one_C104 <;> assumption)
      · skip
        refine Fo_bindS (by apply f_X10_takes) (by first | rfl) (by assumption) fun r7 hr7 => ?_
        refine Fo_itn ?_ ?_
        · exact Fo_tail (by assumption) (by apply f_X10_one_C104 <;> assumption)
        · skip
          refine Fo_bindS (by apply f_X10_wrong) (by first | rfl) (by assumption) fun r8 hr8 => ?_
          exact Fo_some (by assumption)
  · skip
    refine Fo_bindS (by apply f_X10_wrong) (by first | rfl) (by assumption) fun r9 hr9 => ?_
    exact Fo_some (by assumption)
theorem f_X10_one_C229 (f_X10_either : ZSt → Option (Int32 × ZSt)) (hw_X10_either : ∀ (σ : ZSt), Fo L_X10_either σ (fun b : Int32 × ZSt => b.2) (f_X10_either  σ)) (f_X10_one : ZSt → Option (Int32 × ZSt)) (hw_X10_one : ∀ (σ : ZSt), Fo L_X10_one σ (fun b : Int32 × ZSt => b.2) (f_X10_one  σ)) (l3 : Int32) (l4 : Int32) (σ : ZSt) : Fo L_X10_one σ (fun b : Int32 × ZSt => b.2) (s_X10_one_C229 f_X10_either f_X10_one l3 l4 σ) := by
  have h0 : zKeep L_X10_one σ σ := zKeep.rf
  unfold s_X10_one_C229
  refine Fo_itn ?_ ?_
  · skip
    exact Fo_some (by assumption)
  · skip
    refine Fo_bindS (by apply f_X10_wrong) (by first | rfl) (by assumption) fun r1 hr1 => ?_
    exact Fo_some (by assumption)
theorem f_X10_one_L176 (f_X10_either : ZSt → Option (Int32 × ZSt)) (hw_X10_either : ∀ (σ : ZSt), Fo L_X10_either σ (fun b : Int32 × ZSt => b.2) (f_X10_either  σ)) (f_X10_one : ZSt → Option (Int32 × ZSt)) (hw_X10_one : ∀ (σ : ZSt), Fo L_X10_one σ (fun b : Int32 × ZSt => b.2) (f_X10_one  σ)) : ∀ (n : Nat) (l3 : Int32) (l4 : Int32) (σ : ZSt), Fo L_X10_one σ (fun b : Int32 × ZSt => b.2) (s_X10_one_L176 f_X10_either f_X10_one n l3 l4 σ) := by
  intro n
  induction n with
  | zero => intros; exact Fo_none
  | succ n ih =>
    intro l3 l4 σ
    have h0 : zKeep L_X10_one σ σ := zKeep.rf
    rw [s_X10_one_L176]
    refine Fo_ite ?_ ?_
    · exact Fo_tail (by assumption) (by apply f_X10_one_C229 <;> assumption)
    · skip
      refine Fo_bindP fun r1 => ?_
      refine Fo_ite ?_ ?_
      · exact Fo_tail (by assumption) (by apply f_X10_one_C229 <;> assumption)
      · skip
        refine Fo_bindP fun r2 => ?_
        refine Fo_ite ?_ ?_
        · exact Fo_tail (by assumption) (by apply f_X10_one_C229 <;> assumption)
        · skip
          refine Fo_bindP fun r3 => ?_
          refine Fo_st (by assumption) (by first | rfl) fun σ4 hσ4 => ?_
          exact Fo_tail (by assumption) (by apply ih)
theorem f_X10_one (f_X10_either : ZSt → Option (Int32 × ZSt)) (hw_X10_either : ∀ (σ : ZSt), Fo L_X10_either σ (fun b : Int32 × ZSt => b.2) (f_X10_either  σ)) (f_X10_one : ZSt → Option (Int32 × ZSt)) (hw_X10_one : ∀ (σ : ZSt), Fo L_X10_one σ (fun b : Int32 × ZSt => b.2) (f_X10_one  σ)) (σ : ZSt) : Fo L_X10_one σ (fun b : Int32 × ZSt => b.2) (s_X10_one f_X10_either f_X10_one σ) := by
  have h0 : zKeep L_X10_one σ σ := zKeep.rf
  unfold s_X10_one
  refine Fo_ite ?_ ?_
  · skip
    refine Fo_bindP fun r1 => ?_
    refine Fo_ite ?_ ?_
    · exact Fo_tail (by assumption) (by apply f_X10_one_C32 <;> assumption)
    · skip
      refine Fo_ite ?_ ?_
      · exact Fo_tail (by assumption) (by apply f_X10_one_C32 <;> assumption)
      · skip
        refine Fo_itn ?_ ?_
        · skip
          refine Fo_bindP fun r2 => ?_
          refine Fo_ite ?_ ?_
          · skip
            exact Fo_tail (by assumption) (by apply f_X10_one_L176 <;> assumption)
          · skip
            refine Fo_st (by assumption) (by first | rfl) fun σ3 hσ3 => ?_
            refine Fo_ld fun v4 => ?_
            exact Fo_some (by assumption)
        · exact Fo_tail (by assumption) (by apply f_X10_one_C32 <;> assumption)
  · skip
    exact Fo_some (by assumption)
theorem f_X10_product_C35 (f_X10_one : ZSt → Option (Int32 × ZSt)) (hw_X10_one : ∀ (σ : ZSt), Fo L_X10_one σ (fun b : Int32 × ZSt => b.2) (f_X10_one  σ)) (k10 : Int32 → Int32 → ZSt → Option (Int32 × ZSt)) (l1 : Int32) (l2 : Int32) (σ : ZSt) (hk10 : ∀ (x1 : Int32) (x2 : Int32) (σx : ZSt), Fo L_X10_product σx (fun b : Int32 × ZSt => b.2) (k10 x1 x2 σx)) : Fo L_X10_product σ (fun b : Int32 × ZSt => b.2) (s_X10_product_C35 f_X10_one k10 l1 l2 σ) := by
  have h0 : zKeep L_X10_product σ σ := zKeep.rf
  unfold s_X10_product_C35
  refine Fo_st (by assumption) (by first | rfl) fun σ1 hσ1 => ?_
  refine Fo_bindS (by apply hw_X10_one) (by first | rfl) (by assumption) fun r2 hr2 => ?_
  refine Fo_itn ?_ ?_
  · skip
    refine Fo_itn ?_ ?_
    · skip
      refine Fo_itn ?_ ?_
      · skip
        refine Fo_ite Fo_none ?_
        refine Fo_bindP fun r4 => ?_
        exact Fo_tail (by assumption) (by apply hk10)
      · skip
        refine Fo_ite Fo_none ?_
        refine Fo_bindP fun r6 => ?_
        exact Fo_tail (by assumption) (by apply hk10)
    · skip
      refine Fo_bindP fun r7 => ?_
      exact Fo_tail (by assumption) (by apply hk10)
  · skip
    refine Fo_bindP fun r8 => ?_
    exact Fo_tail (by assumption) (by apply hk10)
theorem f_X10_product_L10 (f_X10_one : ZSt → Option (Int32 × ZSt)) (hw_X10_one : ∀ (σ : ZSt), Fo L_X10_one σ (fun b : Int32 × ZSt => b.2) (f_X10_one  σ)) : ∀ (n : Nat) (l1 : Int32) (l2 : Int32) (σ : ZSt), Fo L_X10_product σ (fun b : Int32 × ZSt => b.2) (s_X10_product_L10 f_X10_one n l1 l2 σ) := by
  intro n
  induction n with
  | zero => intros; exact Fo_none
  | succ n ih =>
    intro l1 l2 σ
    have h0 : zKeep L_X10_product σ σ := zKeep.rf
    rw [s_X10_product_L10]
    refine Fo_ite ?_ ?_
    · skip
      exact Fo_some (by assumption)
    · skip
      refine Fo_ite ?_ ?_
      · exact Fo_tail (by assumption) (by apply f_X10_product_C35 <;> assumption)
      · skip
        refine Fo_ite ?_ ?_
        · exact Fo_tail (by assumption) (by apply f_X10_product_C35 <;> assumption)
        · skip
          refine Fo_itn ?_ ?_
          · skip
            exact Fo_some (by assumption)
          · exact Fo_tail (by assumption) (by apply f_X10_product_C35 <;> assumption)
theorem f_X10_product (f_X10_one : ZSt → Option (Int32 × ZSt)) (hw_X10_one : ∀ (σ : ZSt), Fo L_X10_one σ (fun b : Int32 × ZSt => b.2) (f_X10_one  σ)) (σ : ZSt) : Fo L_X10_product σ (fun b : Int32 × ZSt => b.2) (s_X10_product f_X10_one σ) := by
  have h0 : zKeep L_X10_product σ σ := zKeep.rf
  unfold s_X10_product
  refine Fo_bindS (by apply hw_X10_one) (by first | rfl) (by assumption) fun r1 hr1 => ?_
  refine Fo_bindP fun r2 => ?_
  exact Fo_tail (by assumption) (by apply f_X10_product_L10 <;> assumption)
theorem f_X10_sums_C44 (f_X10_product : ZSt → Option (Int32 × ZSt)) (hw_X10_product : ∀ (σ : ZSt), Fo L_X10_product σ (fun b : Int32 × ZSt => b.2) (f_X10_product  σ)) (k5 : Int32 → ZSt → Option (Int32 × ZSt)) (l1 : Int32) (k_0 : Int32) (σ : ZSt) (hk5 : ∀ (x1 : Int32) (σx : ZSt), Fo L_X10_sums σx (fun b : Int32 × ZSt => b.2) (k5 x1 σx)) : Fo L_X10_sums σ (fun b : Int32 × ZSt => b.2) (s_X10_sums_C44 f_X10_product k5 l1 k_0 σ) := by
  have h0 : zKeep L_X10_sums σ σ := zKeep.rf
  unfold s_X10_sums_C44
  refine Fo_st (by assumption) (by first | rfl) fun σ1 hσ1 => ?_
  refine Fo_bindS (by apply hw_X10_product) (by first | rfl) (by assumption) fun r2 hr2 => ?_
  refine Fo_ite ?_ ?_
  · skip
    exact Fo_tail (by assumption) (by apply hk5)
  · skip
    exact Fo_tail (by assumption) (by apply hk5)
theorem f_X10_sums_L5 (f_X10_product : ZSt → Option (Int32 × ZSt)) (hw_X10_product : ∀ (σ : ZSt), Fo L_X10_product σ (fun b : Int32 × ZSt => b.2) (f_X10_product  σ)) : ∀ (n : Nat) (l1 : Int32) (σ : ZSt), Fo L_X10_sums σ (fun b : Int32 × ZSt => b.2) (s_X10_sums_L5 f_X10_product n l1 σ) := by
  intro n
  induction n with
  | zero => intros; exact Fo_none
  | succ n ih =>
    intro l1 σ
    have h0 : zKeep L_X10_sums σ σ := zKeep.rf
    rw [s_X10_sums_L5]
    refine Fo_ite ?_ ?_
    · skip
      exact Fo_some (by assumption)
    · skip
      refine Fo_bindP fun r1 => ?_
      refine Fo_ite ?_ ?_
      · skip
        refine Fo_bindP fun r2 => ?_
        refine Fo_itn ?_ ?_
        · skip
          exact Fo_tail (by assumption) (by apply f_X10_sums_C44 <;> assumption)
        · skip
          exact Fo_tail (by assumption) (by apply f_X10_sums_C44 <;> assumption)
      · skip
        refine Fo_bindP fun r3 => ?_
        refine Fo_itn ?_ ?_
        · skip
          exact Fo_some (by assumption)
        · skip
          refine Fo_bindP fun r4 => ?_
          refine Fo_itn ?_ ?_
          · skip
            exact Fo_tail (by assumption) (by apply f_X10_sums_C44 <;> assumption)
          · skip
            exact Fo_tail (by assumption) (by apply f_X10_sums_C44 <;> assumption)
theorem f_X10_sums (f_X10_product : ZSt → Option (Int32 × ZSt)) (hw_X10_product : ∀ (σ : ZSt), Fo L_X10_product σ (fun b : Int32 × ZSt => b.2) (f_X10_product  σ)) (σ : ZSt) : Fo L_X10_sums σ (fun b : Int32 × ZSt => b.2) (s_X10_sums f_X10_product σ) := by
  have h0 : zKeep L_X10_sums σ σ := zKeep.rf
  unfold s_X10_sums
  refine Fo_bindS (by apply hw_X10_product) (by first | rfl) (by assumption) fun r1 hr1 => ?_
  exact Fo_tail (by assumption) (by apply f_X10_sums_L5 <;> assumption)
theorem f_X10_compared_C37 (f_X10_sums : ZSt → Option (Int32 × ZSt)) (hw_X10_sums : ∀ (σ : ZSt), Fo L_X10_sums σ (fun b : Int32 × ZSt => b.2) (f_X10_sums  σ)) (l1 : Int32) (l2 : Int32) (σ : ZSt) : Fo L_X10_compared σ (fun b : Int32 × ZSt => b.2) (s_X10_compared_C37 f_X10_sums l1 l2 σ) := by
  have h0 : zKeep L_X10_compared σ σ := zKeep.rf
  unfold s_X10_compared_C37
  refine Fo_st (by assumption) (by first | rfl) fun σ1 hσ1 => ?_
  refine Fo_bindS (by apply hw_X10_sums) (by first | rfl) (by assumption) fun r2 hr2 => ?_
  refine Fo_itn ?_ ?_
  · skip
    refine Fo_itn ?_ ?_
    · skip
      refine Fo_ite ?_ ?_
      · skip
        exact Fo_some (by assumption)
      · skip
        exact Fo_some (by assumption)
    · skip
      refine Fo_itn ?_ ?_
      · skip
        exact Fo_some (by assumption)
      · skip
        exact Fo_some (by assumption)
  · skip
    refine Fo_ite ?_ ?_
    · skip
      exact Fo_some (by assumption)
    · skip
      exact Fo_some (by assumption)
theorem f_X10_compared (f_X10_sums : ZSt → Option (Int32 × ZSt)) (hw_X10_sums : ∀ (σ : ZSt), Fo L_X10_sums σ (fun b : Int32 × ZSt => b.2) (f_X10_sums  σ)) (σ : ZSt) : Fo L_X10_compared σ (fun b : Int32 × ZSt => b.2) (s_X10_compared f_X10_sums σ) := by
  have h0 : zKeep L_X10_compared σ σ := zKeep.rf
  unfold s_X10_compared
  refine Fo_bindS (by apply hw_X10_sums) (by first | rfl) (by assumption) fun r1 hr1 => ?_
  refine Fo_bindP fun r2 => ?_
  refine Fo_ite ?_ ?_
  · skip
    exact Fo_some (by assumption)
  · skip
    refine Fo_ite ?_ ?_
    · exact Fo_tail (by assumption) (by apply f_X10_compared_C37 <;> assumption)
    · skip
      refine Fo_ite ?_ ?_
      · exact Fo_tail (by assumption) (by apply f_X10_compared_C37 <;> assumption)
      · skip
        refine Fo_ite ?_ ?_
        · exact Fo_tail (by assumption) (by apply f_X10_compared_C37 <;> assumption)
        · skip
          exact Fo_some (by assumption)
theorem f_X10_both_L5 (f_X10_compared : ZSt → Option (Int32 × ZSt)) (hw_X10_compared : ∀ (σ : ZSt), Fo L_X10_compared σ (fun b : Int32 × ZSt => b.2) (f_X10_compared  σ)) : ∀ (n : Nat) (l1 : Int32) (σ : ZSt), Fo L_X10_both σ (fun b : Int32 × ZSt => b.2) (s_X10_both_L5 f_X10_compared n l1 σ) := by
  intro n
  induction n with
  | zero => intros; exact Fo_none
  | succ n ih =>
    intro l1 σ
    have h0 : zKeep L_X10_both σ σ := zKeep.rf
    rw [s_X10_both_L5]
    refine Fo_bindS (by apply f_X10_takes) (by first | rfl) (by assumption) fun r1 hr1 => ?_
    refine Fo_ite ?_ ?_
    · skip
      exact Fo_some (by assumption)
    · skip
      refine Fo_bindS (by apply hw_X10_compared) (by first | rfl) (by assumption) fun r2 hr2 => ?_
      refine Fo_ite ?_ ?_
      · skip
        exact Fo_tail (by assumption) (by apply ih)
      · skip
        refine Fo_ite ?_ ?_
        · skip
          exact Fo_tail (by assumption) (by apply ih)
        · skip
          exact Fo_tail (by assumption) (by apply ih)
theorem f_X10_both (f_X10_compared : ZSt → Option (Int32 × ZSt)) (hw_X10_compared : ∀ (σ : ZSt), Fo L_X10_compared σ (fun b : Int32 × ZSt => b.2) (f_X10_compared  σ)) (σ : ZSt) : Fo L_X10_both σ (fun b : Int32 × ZSt => b.2) (s_X10_both f_X10_compared σ) := by
  have h0 : zKeep L_X10_both σ σ := zKeep.rf
  unfold s_X10_both
  refine Fo_bindS (by apply hw_X10_compared) (by first | rfl) (by assumption) fun r1 hr1 => ?_
  exact Fo_tail (by assumption) (by apply f_X10_both_L5 <;> assumption)
theorem f_X10_either_L5 (f_X10_both : ZSt → Option (Int32 × ZSt)) (hw_X10_both : ∀ (σ : ZSt), Fo L_X10_both σ (fun b : Int32 × ZSt => b.2) (f_X10_both  σ)) : ∀ (n : Nat) (l1 : Int32) (σ : ZSt), Fo L_X10_either σ (fun b : Int32 × ZSt => b.2) (s_X10_either_L5 f_X10_both n l1 σ) := by
  intro n
  induction n with
  | zero => intros; exact Fo_none
  | succ n ih =>
    intro l1 σ
    have h0 : zKeep L_X10_either σ σ := zKeep.rf
    rw [s_X10_either_L5]
    refine Fo_bindS (by apply f_X10_takes) (by first | rfl) (by assumption) fun r1 hr1 => ?_
    refine Fo_ite ?_ ?_
    · skip
      exact Fo_some (by assumption)
    · skip
      refine Fo_bindS (by apply hw_X10_both) (by first | rfl) (by assumption) fun r2 hr2 => ?_
      refine Fo_itn ?_ ?_
      · skip
        exact Fo_tail (by assumption) (by apply ih)
      · skip
        refine Fo_ite ?_ ?_
        · skip
          exact Fo_tail (by assumption) (by apply ih)
        · skip
          exact Fo_tail (by assumption) (by apply ih)
theorem f_X10_either (f_X10_both : ZSt → Option (Int32 × ZSt)) (hw_X10_both : ∀ (σ : ZSt), Fo L_X10_both σ (fun b : Int32 × ZSt => b.2) (f_X10_both  σ)) (σ : ZSt) : Fo L_X10_either σ (fun b : Int32 × ZSt => b.2) (s_X10_either f_X10_both σ) := by
  have h0 : zKeep L_X10_either σ σ := zKeep.rf
  unfold s_X10_either
  refine Fo_bindS (by apply hw_X10_both) (by first | rfl) (by assumption) fun r1 hr1 => ?_
  exact Fo_tail (by assumption) (by apply f_X10_either_L5 <;> assumption)
theorem ft_X10_both_compared_either_one_product_sums : ∀ d : Nat, (∀ (σ : ZSt), Fo L_X10_both σ (fun b : Int32 × ZSt => b.2) (rd_X10_both d  σ)) ∧ (∀ (σ : ZSt), Fo L_X10_compared σ (fun b : Int32 × ZSt => b.2) (rd_X10_compared d  σ)) ∧ (∀ (σ : ZSt), Fo L_X10_either σ (fun b : Int32 × ZSt => b.2) (rd_X10_either d  σ)) ∧ (∀ (σ : ZSt), Fo L_X10_one σ (fun b : Int32 × ZSt => b.2) (rd_X10_one d  σ)) ∧ (∀ (σ : ZSt), Fo L_X10_product σ (fun b : Int32 × ZSt => b.2) (rd_X10_product d  σ)) ∧ (∀ (σ : ZSt), Fo L_X10_sums σ (fun b : Int32 × ZSt => b.2) (rd_X10_sums d  σ)) := by
  intro d
  induction d with
  | zero => exact ⟨(by intros; exact Fo_none), (by intros; exact Fo_none), (by intros; exact Fo_none), (by intros; exact Fo_none), (by intros; exact Fo_none), (by intros; exact Fo_none)⟩
  | succ d ih =>
    obtain ⟨h0, h1, h2, h3, h4, h5⟩ := ih
    exact ⟨fun  σ => f_X10_both _ h1  σ, fun  σ => f_X10_compared _ h5  σ, fun  σ => f_X10_either _ h0  σ, fun  σ => f_X10_one _ h2 _ h3  σ, fun  σ => f_X10_product _ h3  σ, fun  σ => f_X10_sums _ h4  σ⟩
theorem fr_X10_both : ∀ (σ : ZSt), Fo L_X10_both σ (fun b : Int32 × ZSt => b.2) (r_X10_both  σ) := (ft_X10_both_compared_either_one_product_sums 64).1
theorem fr_X10_compared : ∀ (σ : ZSt), Fo L_X10_compared σ (fun b : Int32 × ZSt => b.2) (r_X10_compared  σ) := (ft_X10_both_compared_either_one_product_sums 64).2.1
theorem fr_X10_either : ∀ (σ : ZSt), Fo L_X10_either σ (fun b : Int32 × ZSt => b.2) (r_X10_either  σ) := (ft_X10_both_compared_either_one_product_sums 64).2.2.1
theorem fr_X10_one : ∀ (σ : ZSt), Fo L_X10_one σ (fun b : Int32 × ZSt => b.2) (r_X10_one  σ) := (ft_X10_both_compared_either_one_product_sums 64).2.2.2.1
theorem fr_X10_product : ∀ (σ : ZSt), Fo L_X10_product σ (fun b : Int32 × ZSt => b.2) (r_X10_product  σ) := (ft_X10_both_compared_either_one_product_sums 64).2.2.2.2.1
theorem fr_X10_sums : ∀ (σ : ZSt), Fo L_X10_sums σ (fun b : Int32 × ZSt => b.2) (r_X10_sums  σ) := (ft_X10_both_compared_either_one_product_sums 64).2.2.2.2.2
theorem f_X10_workOut_C74 (k33 : Int32 → Int32 → Int32 → ZSt → Option (Int32 × ZSt)) (l3 : Int32) (l4 : Int32) (l6 : Int32) (l7 : Int32) (σ : ZSt) (hk33 : ∀ (x3 : Int32) (x4 : Int32) (x5 : Int32) (σx : ZSt), Fo L_X10_workOut σx (fun b : Int32 × ZSt => b.2) (k33 x3 x4 x5 σx)) : Fo L_X10_workOut σ (fun b : Int32 × ZSt => b.2) (s_X10_workOut_C74 k33 l3 l4 l6 l7 σ) := by
  have h0 : zKeep L_X10_workOut σ σ := zKeep.rf
  unfold s_X10_workOut_C74
  refine Fo_ite ?_ ?_
  · skip
    refine Fo_bindS (by apply f_X10_takes) (by first | rfl) (by assumption) fun r1 hr1 => ?_
    exact Fo_tail (by assumption) (by apply hk33)
  · skip
    refine Fo_ite ?_ ?_
    · skip
      refine Fo_bindS (by apply f_X10_takes) (by first | rfl) (by assumption) fun r2 hr2 => ?_
      exact Fo_tail (by assumption) (by apply hk33)
    · skip
      refine Fo_itn ?_ ?_
      · skip
        refine Fo_bindS (by apply f_X10_takes) (by first | rfl) (by assumption) fun r3 hr3 => ?_
        exact Fo_tail (by assumption) (by apply hk33)
      · skip
        refine Fo_bindS (by apply f_X10_takes) (by first | rfl) (by assumption) fun r4 hr4 => ?_
        exact Fo_tail (by assumption) (by apply hk33)
theorem f_X10_workOut_C107 (l4 : Int32) (σ : ZSt) : Fo L_X10_workOut σ (fun b : Int32 × ZSt => b.2) (s_X10_workOut_C107 l4 σ) := by
  have h0 : zKeep L_X10_workOut σ σ := zKeep.rf
  unfold s_X10_workOut_C107
  refine Fo_ite ?_ ?_
  · skip
    exact Fo_some (by assumption)
  · skip
    refine Fo_ite ?_ ?_
    · skip
      exact Fo_some (by assumption)
    · skip
      refine Fo_bindS (by apply f_X10_wrong) (by first | rfl) (by assumption) fun r1 hr1 => ?_
      exact Fo_some (by assumption)
theorem f_X10_workOut_L33 : ∀ (n : Nat) (l3 : Int32) (l4 : Int32) (l5 : Int32) (σ : ZSt), Fo L_X10_workOut σ (fun b : Int32 × ZSt => b.2) (s_X10_workOut_L33 n l3 l4 l5 σ) := by
  intro n
  induction n with
  | zero => intros; exact Fo_none
  | succ n ih =>
    intro l3 l4 l5 σ
    have h0 : zKeep L_X10_workOut σ σ := zKeep.rf
    rw [s_X10_workOut_L33]
    refine Fo_ite ?_ ?_
    · exact Fo_tail (by assumption) (by apply f_X10_workOut_C107 <;> assumption)
    · skip
      refine Fo_bindS (by apply fr_X10_either) (by first | rfl) (by assumption) fun r1 hr1 => ?_
      refine Fo_bindS (by apply f_X10_takes) (by first | rfl) (by assumption) fun r2 hr2 => ?_
      refine Fo_ite ?_ ?_
      · exact Fo_tail (by assumption) (by apply f_X10_workOut_C74 <;> assumption)
      · skip
        refine Fo_ite ?_ ?_
        · skip
          refine Fo_bindS (by apply fr_X10_either) (by first | rfl) (by assumption) fun r3 hr3 => ?_
          exact Fo_tail (by assumption) (by apply f_X10_workOut_C74 <;> assumption)
        · skip
          refine Fo_bindS (by apply fr_X10_either) (by first | rfl) (by assumption) fun r4 hr4 => ?_
          exact Fo_tail (by assumption) (by apply f_X10_workOut_C74 <;> assumption)
theorem f_X10_workOut (p0 : Int32) (p1 : Int32) (σ : ZSt) : Fo L_X10_workOut σ (fun b : Int32 × ZSt => b.2) (s_X10_workOut p0 p1 σ) := by
  have h0 : zKeep L_X10_workOut σ σ := zKeep.rf
  unfold s_X10_workOut
  refine Fo_st (by assumption) (by first | rfl) fun σ1 hσ1 => ?_
  refine Fo_st (by assumption) (by first | rfl) fun σ2 hσ2 => ?_
  refine Fo_st (by assumption) (by first | rfl) fun σ3 hσ3 => ?_
  refine Fo_st (by assumption) (by first | rfl) fun σ4 hσ4 => ?_
  refine Fo_st (by assumption) (by first | rfl) fun σ5 hσ5 => ?_
  exact Fo_tail (by assumption) (by apply f_X10_workOut_L33 <;> assumption)
theorem f_X10_law_C60 (l2 : Int32) (σ : ZSt) : Fo L_X10_law σ (fun b : Int32 × ZSt => b.2) (s_X10_law_C60 l2 σ) := by
  have h0 : zKeep L_X10_law σ σ := zKeep.rf
  unfold s_X10_law_C60
  refine Fo_st (by assumption) (by first | rfl) fun σ1 hσ1 => ?_
  exact Fo_some (by assumption)
theorem f_X10_law_L37 (l2 : Int32) : ∀ (n : Nat) (l3 : Int32) (σ : ZSt), Fo L_X10_law σ (fun b : Int32 × ZSt => b.2) (s_X10_law_L37 l2 n l3 σ) := by
  intro n
  induction n with
  | zero => intros; exact Fo_none
  | succ n ih =>
    intro l3 σ
    have h0 : zKeep L_X10_law σ σ := zKeep.rf
    rw [s_X10_law_L37]
    refine Fo_ite ?_ ?_
    · exact Fo_tail (by assumption) (by apply f_X10_law_C60 <;> assumption)
    · skip
      refine Fo_ld fun v1 => ?_
      refine Fo_sg (by assumption) (by first | rfl) fun σ2 hσ2 => ?_
      exact Fo_tail (by assumption) (by apply ih)
theorem f_X10_law (σ : ZSt) : Fo L_X10_law σ (fun b : Int32 × ZSt => b.2) (s_X10_law σ) := by
  have h0 : zKeep L_X10_law σ σ := zKeep.rf
  unfold s_X10_law
  refine Fo_bindS (by apply f_X10_workOut) (by first | rfl) (by assumption) fun r1 hr1 => ?_
  refine Fo_st (by assumption) (by first | rfl) fun σ2 hσ2 => ?_
  refine Fo_ite ?_ ?_
  · skip
    exact Fo_tail (by assumption) (by apply f_X10_law_L37 <;> assumption)
  · skip
    exact Fo_some (by assumption)
theorem f_X10_worthOf (p0 : Int32) (p1 : Int32) (σ : ZSt) : Fo L_X10_worthOf σ (fun b : Int32 × ZSt => b.2) (s_X10_worthOf p0 p1 σ) := by
  have h0 : zKeep L_X10_worthOf σ σ := zKeep.rf
  unfold s_X10_worthOf
  refine Fo_ite ?_ ?_
  · skip
    refine Fo_bindP fun r1 => ?_
    refine Fo_sg (by assumption) (by first | rfl) fun σ2 hσ2 => ?_
    refine Fo_ld fun v3 => ?_
    refine Fo_sg (by assumption) (by first | rfl) fun σ4 hσ4 => ?_
    refine Fo_ld fun v5 => ?_
    refine Fo_sg (by assumption) (by first | rfl) fun σ6 hσ6 => ?_
    refine Fo_ld fun v7 => ?_
    refine Fo_sg (by assumption) (by first | rfl) fun σ8 hσ8 => ?_
    refine Fo_ld fun v9 => ?_
    refine Fo_sg (by assumption) (by first | rfl) fun σ10 hσ10 => ?_
    refine Fo_ld fun v11 => ?_
    refine Fo_sg (by assumption) (by first | rfl) fun σ12 hσ12 => ?_
    refine Fo_sg (by assumption) (by first | rfl) fun σ13 hσ13 => ?_
    refine Fo_ld fun v14 => ?_
    refine Fo_itn ?_ ?_
    · skip
      refine Fo_sg (by assumption) (by first | rfl) fun σ15 hσ15 => ?_
      refine Fo_bindS (by apply f_X10_workOut) (by first | rfl) (by assumption) fun r16 hr16 => ?_
      exact Fo_some (by assumption)
    · skip
      refine Fo_sg (by assumption) (by first | rfl) fun σ17 hσ17 => ?_
      refine Fo_bindS (by apply f_X10_workOut) (by first | rfl) (by assumption) fun r18 hr18 => ?_
      exact Fo_some (by assumption)
  · skip
    refine Fo_bindP fun r19 => ?_
    refine Fo_ld fun v20 => ?_
    refine Fo_ld fun v21 => ?_
    exact Fo_some (by assumption)
theorem f_X10_countsThere_L25 : ∀ (n : Nat) (l1 : Int32) (σ : ZSt), Fo L_X10_countsThere σ (fun b : ZSt => b) (s_X10_countsThere_L25 n l1 σ) := by
  intro n
  induction n with
  | zero => intros; exact Fo_none
  | succ n ih =>
    intro l1 σ
    have h0 : zKeep L_X10_countsThere σ σ := zKeep.rf
    rw [s_X10_countsThere_L25]
    refine Fo_ite ?_ ?_
    · exact Fo_some (by assumption)
    · skip
      refine Fo_ld fun v1 => ?_
      refine Fo_ite ?_ ?_
      · skip
        exact Fo_tail (by assumption) (by apply ih)
      · skip
        refine Fo_ld fun v2 => ?_
        refine Fo_ld fun v3 => ?_
        refine Fo_sg (by assumption) (by first | rfl) fun σ4 hσ4 => ?_
        exact Fo_tail (by assumption) (by apply ih)
theorem f_X10_countsThere_L2 : ∀ (n : Nat) (l1 : Int32) (σ : ZSt), Fo L_X10_countsThere σ (fun b : ZSt => b) (s_X10_countsThere_L2 n l1 σ) := by
  intro n
  induction n with
  | zero => intros; exact Fo_none
  | succ n ih =>
    intro l1 σ
    have h0 : zKeep L_X10_countsThere σ σ := zKeep.rf
    rw [s_X10_countsThere_L2]
    refine Fo_ite ?_ ?_
    · skip
      exact Fo_tail (by assumption) (by apply f_X10_countsThere_L25 <;> assumption)
    · skip
      refine Fo_sg (by assumption) (by first | rfl) fun σ1 hσ1 => ?_
      exact Fo_tail (by assumption) (by apply ih)
theorem f_X10_countsThere (σ : ZSt) : Fo L_X10_countsThere σ (fun b : ZSt => b) (s_X10_countsThere σ) := by
  have h0 : zKeep L_X10_countsThere σ σ := zKeep.rf
  unfold s_X10_countsThere
  exact Fo_tail (by assumption) (by apply f_X10_countsThere_L2 <;> assumption)
theorem f_X10_allGo_C81 (k30 : Int32 → ZSt → Option ZSt) (l1 : Int32) (l2 : Int32) (σ : ZSt) (hk30 : ∀ (x1 : Int32) (σx : ZSt), Fo L_X10_allGo σx (fun b : ZSt => b) (k30 x1 σx)) : Fo L_X10_allGo σ (fun b : ZSt => b) (s_X10_allGo_C81 k30 l1 l2 σ) := by
  have h0 : zKeep L_X10_allGo σ σ := zKeep.rf
  unfold s_X10_allGo_C81
  refine Fo_sg (by assumption) (by first | rfl) fun σ1 hσ1 => ?_
  exact Fo_tail (by assumption) (by apply hk30)
theorem f_X10_allGo_L45 (k30 : Int32 → ZSt → Option ZSt) (l1 : Int32) (hk30 : ∀ (x1 : Int32) (σx : ZSt), Fo L_X10_allGo σx (fun b : ZSt => b) (k30 x1 σx)) : ∀ (n : Nat) (l2 : Int32) (l3 : Int32) (l4 : Int32) (σ : ZSt), Fo L_X10_allGo σ (fun b : ZSt => b) (s_X10_allGo_L45 k30 l1 n l2 l3 l4 σ) := by
  intro n
  induction n with
  | zero => intros; exact Fo_none
  | succ n ih =>
    intro l2 l3 l4 σ
    have h0 : zKeep L_X10_allGo σ σ := zKeep.rf
    rw [s_X10_allGo_L45]
    refine Fo_ite ?_ ?_
    · exact Fo_tail (by assumption) (by apply f_X10_allGo_C81 <;> assumption)
    · skip
      refine Fo_bindS (by apply f_X10_worthOf) (by first | rfl) (by assumption) fun r1 hr1 => ?_
      refine Fo_ite ?_ ?_
      · skip
        exact Fo_tail (by assumption) (by apply ih)
      · skip
        exact Fo_tail (by assumption) (by apply ih)
theorem f_X10_allGo_L30 : ∀ (n : Nat) (l1 : Int32) (σ : ZSt), Fo L_X10_allGo σ (fun b : ZSt => b) (s_X10_allGo_L30 n l1 σ) := by
  intro n
  induction n with
  | zero => intros; exact Fo_none
  | succ n ih =>
    intro l1 σ
    have h0 : zKeep L_X10_allGo σ σ := zKeep.rf
    rw [s_X10_allGo_L30]
    refine Fo_ite ?_ ?_
    · exact Fo_some (by assumption)
    · skip
      exact Fo_tail (by assumption) (by apply f_X10_allGo_L45 <;> assumption)
theorem f_X10_allGo_L2 : ∀ (n : Nat) (l1 : Int32) (σ : ZSt), Fo L_X10_allGo σ (fun b : ZSt => b) (s_X10_allGo_L2 n l1 σ) := by
  intro n
  induction n with
  | zero => intros; exact Fo_none
  | succ n ih =>
    intro l1 σ
    have h0 : zKeep L_X10_allGo σ σ := zKeep.rf
    rw [s_X10_allGo_L2]
    refine Fo_ite ?_ ?_
    · skip
      exact Fo_tail (by assumption) (by apply f_X10_allGo_L30 <;> assumption)
    · skip
      refine Fo_ld fun v1 => ?_
      refine Fo_sg (by assumption) (by first | rfl) fun σ2 hσ2 => ?_
      exact Fo_tail (by assumption) (by apply ih)
theorem f_X10_allGo (σ : ZSt) : Fo L_X10_allGo σ (fun b : ZSt => b) (s_X10_allGo σ) := by
  have h0 : zKeep L_X10_allGo σ σ := zKeep.rf
  unfold s_X10_allGo
  exact Fo_tail (by assumption) (by apply f_X10_allGo_L2 <;> assumption)
theorem f_X10_streetWeek_C176 (k42 : Int32 → Int32 → ZSt → Option ZSt) (l1 : Int32) (l2 : Int32) (l3 : Int32) (l4 : Int32) (l5 : Int32) (l6 : Int32) (k_1 : Int32) (k_2 : Int32) (k_3 : Int32) (σ : ZSt) (hk42 : ∀ (x3 : Int32) (x4 : Int32) (σx : ZSt), Fo L_X10_streetWeek σx (fun b : ZSt => b) (k42 x3 x4 σx)) : Fo L_X10_streetWeek σ (fun b : ZSt => b) (s_X10_streetWeek_C176 k42 l1 l2 l3 l4 l5 l6 k_1 k_2 k_3 σ) := by
  have h0 : zKeep L_X10_streetWeek σ σ := zKeep.rf
  unfold s_X10_streetWeek_C176
  refine Fo_sg (by assumption) (by first | rfl) fun σ1 hσ1 => ?_
  refine Fo_ld fun v2 => ?_
  refine Fo_ite ?_ ?_
  · skip
    refine Fo_ld fun v3 => ?_
    refine Fo_sg (by assumption) (by first | rfl) fun σ4 hσ4 => ?_
    exact Fo_tail (by assumption) (by apply hk42)
  · skip
    refine Fo_bindP fun r5 => ?_
    refine Fo_ld fun v6 => ?_
    refine Fo_sg (by assumption) (by first | rfl) fun σ7 hσ7 => ?_
    exact Fo_tail (by assumption) (by apply hk42)
theorem f_X10_streetWeek_C135 (k42 : Int32 → Int32 → ZSt → Option ZSt) (l1 : Int32) (l2 : Int32) (l3 : Int32) (l4 : Int32) (l5 : Int32) (k_0 : Int32) (σ : ZSt) (hk42 : ∀ (x3 : Int32) (x4 : Int32) (σx : ZSt), Fo L_X10_streetWeek σx (fun b : ZSt => b) (k42 x3 x4 σx)) : Fo L_X10_streetWeek σ (fun b : ZSt => b) (s_X10_streetWeek_C135 k42 l1 l2 l3 l4 l5 k_0 σ) := by
  have h0 : zKeep L_X10_streetWeek σ σ := zKeep.rf
  unfold s_X10_streetWeek_C135
  refine Fo_ld fun v1 => ?_
  refine Fo_sg (by assumption) (by first | rfl) fun σ2 hσ2 => ?_
  refine Fo_ld fun v3 => ?_
  refine Fo_ite ?_ ?_
  · skip
    exact Fo_tail (by assumption) (by apply f_X10_streetWeek_C176 <;> assumption)
  · skip
    refine Fo_ld fun v4 => ?_
    refine Fo_bindP fun r5 => ?_
    exact Fo_tail (by assumption) (by apply f_X10_streetWeek_C176 <;> assumption)
theorem f_X10_streetWeek_C107 (k42 : Int32 → Int32 → ZSt → Option ZSt) (l1 : Int32) (l2 : Int32) (l3 : Int32) (l4 : Int32) (k_0 : Int32) (σ : ZSt) (hk42 : ∀ (x3 : Int32) (x4 : Int32) (σx : ZSt), Fo L_X10_streetWeek σx (fun b : ZSt => b) (k42 x3 x4 σx)) : Fo L_X10_streetWeek σ (fun b : ZSt => b) (s_X10_streetWeek_C107 k42 l1 l2 l3 l4 k_0 σ) := by
  have h0 : zKeep L_X10_streetWeek σ σ := zKeep.rf
  unfold s_X10_streetWeek_C107
  refine Fo_ld fun v1 => ?_
  refine Fo_ite ?_ ?_
  · skip
    refine Fo_ld fun v2 => ?_
    exact Fo_tail (by assumption) (by apply f_X10_streetWeek_C135 <;> assumption)
  · skip
    refine Fo_itn ?_ ?_
    · skip
      exact Fo_tail (by assumption) (by apply f_X10_streetWeek_C135 <;> assumption)
    · skip
      refine Fo_ld fun v3 => ?_
      exact Fo_tail (by assumption) (by apply f_X10_streetWeek_C135 <;> assumption)
theorem f_X10_streetWeek_C219 (l1 : Int32) (l3 : Int32) (σ : ZSt) : Fo L_X10_streetWeek σ (fun b : ZSt => b) (s_X10_streetWeek_C219 l1 l3 σ) := by
  have h0 : zKeep L_X10_streetWeek σ σ := zKeep.rf
  unfold s_X10_streetWeek_C219
  refine Fo_ld fun v1 => ?_
  refine Fo_ld fun v2 => ?_
  refine Fo_ld fun v3 => ?_
  refine Fo_itn ?_ ?_
  · skip
    refine Fo_sg (by assumption) (by first | rfl) fun σ4 hσ4 => ?_
    exact Fo_some (by assumption)
  · skip
    refine Fo_ld fun v5 => ?_
    refine Fo_sg (by assumption) (by first | rfl) fun σ6 hσ6 => ?_
    exact Fo_some (by assumption)
theorem f_X10_streetWeek_L42 (l1 : Int32) (l2 : Int32) : ∀ (n : Nat) (l3 : Int32) (l4 : Int32) (σ : ZSt), Fo L_X10_streetWeek σ (fun b : ZSt => b) (s_X10_streetWeek_L42 l1 l2 n l3 l4 σ) := by
  intro n
  induction n with
  | zero => intros; exact Fo_none
  | succ n ih =>
    intro l3 l4 σ
    have h0 : zKeep L_X10_streetWeek σ σ := zKeep.rf
    rw [s_X10_streetWeek_L42]
    refine Fo_ite ?_ ?_
    · exact Fo_tail (by assumption) (by apply f_X10_streetWeek_C219 <;> assumption)
    · skip
      refine Fo_ld fun v1 => ?_
      refine Fo_ite ?_ ?_
      · skip
        refine Fo_ld fun v2 => ?_
        refine Fo_ite ?_ ?_
        · skip
          exact Fo_tail (by assumption) (by apply f_X10_streetWeek_C107 <;> assumption)
        · skip
          refine Fo_ld fun v3 => ?_
          refine Fo_itn ?_ ?_
          · skip
            refine Fo_itn ?_ ?_
            · skip
              exact Fo_tail (by assumption) (by apply f_X10_streetWeek_C107 <;> assumption)
            · skip
              exact Fo_tail (by assumption) (by apply f_X10_streetWeek_C107 <;> assumption)
          · skip
            refine Fo_ld fun v4 => ?_
            refine Fo_ite ?_ ?_
            · skip
              exact Fo_tail (by assumption) (by apply f_X10_streetWeek_C107 <;> assumption)
            · skip
              refine Fo_itn ?_ ?_
              · skip
                exact Fo_tail (by assumption) (by apply f_X10_streetWeek_C107 <;> assumption)
              · skip
                exact Fo_tail (by assumption) (by apply f_X10_streetWeek_C107 <;> assumption)
      · skip
        exact Fo_tail (by assumption) (by apply ih)
theorem f_X10_streetWeek (p0 : Int32) (σ : ZSt) : Fo L_X10_streetWeek σ (fun b : ZSt => b) (s_X10_streetWeek p0 σ) := by
  have h0 : zKeep L_X10_streetWeek σ σ := zKeep.rf
  unfold s_X10_streetWeek
  refine Fo_ld fun v1 => ?_
  refine Fo_ite ?_ ?_
  · skip
    refine Fo_bindP fun r2 => ?_
    refine Fo_sg (by assumption) (by first | rfl) fun σ3 hσ3 => ?_
    exact Fo_tail (by assumption) (by apply f_X10_streetWeek_L42 <;> assumption)
  · skip
    refine Fo_ld fun v4 => ?_
    refine Fo_itn ?_ ?_
    · skip
      refine Fo_sg (by assumption) (by first | rfl) fun σ5 hσ5 => ?_
      exact Fo_tail (by assumption) (by apply f_X10_streetWeek_L42 <;> assumption)
    · skip
      refine Fo_bindP fun r6 => ?_
      refine Fo_sg (by assumption) (by first | rfl) fun σ7 hσ7 => ?_
      exact Fo_tail (by assumption) (by apply f_X10_streetWeek_L42 <;> assumption)
theorem f_X10_goesWeeks_L82 (k71 : Int32 → ZSt → Option ZSt) (l1 : Int32) (l2 : Int32) (hk71 : ∀ (x2 : Int32) (σx : ZSt), Fo L_X10_goesWeeks σx (fun b : ZSt => b) (k71 x2 σx)) : ∀ (n : Nat) (l3 : Int32) (σ : ZSt), Fo L_X10_goesWeeks σ (fun b : ZSt => b) (s_X10_goesWeeks_L82 k71 l1 l2 n l3 σ) := by
  intro n
  induction n with
  | zero => intros; exact Fo_none
  | succ n ih =>
    intro l3 σ
    have h0 : zKeep L_X10_goesWeeks σ σ := zKeep.rf
    rw [s_X10_goesWeeks_L82]
    refine Fo_ite ?_ ?_
    · skip
      refine Fo_bindV (by apply f_X10_countsThere) (by first | rfl) (by assumption) fun σ1 hσ1 => ?_
      exact Fo_tail (by assumption) (by apply hk71)
    · skip
      refine Fo_bindV (by apply f_X10_streetWeek) (by first | rfl) (by assumption) fun σ2 hσ2 => ?_
      exact Fo_tail (by assumption) (by apply ih)
theorem f_X10_goesWeeks_L71 (l1 : Int32) : ∀ (n : Nat) (l2 : Int32) (σ : ZSt), Fo L_X10_goesWeeks σ (fun b : ZSt => b) (s_X10_goesWeeks_L71 l1 n l2 σ) := by
  intro n
  induction n with
  | zero => intros; exact Fo_none
  | succ n ih =>
    intro l2 σ
    have h0 : zKeep L_X10_goesWeeks σ σ := zKeep.rf
    rw [s_X10_goesWeeks_L71]
    refine Fo_ite ?_ ?_
    · exact Fo_some (by assumption)
    · skip
      refine Fo_bindV (by apply f_X10_allGo) (by first | rfl) (by assumption) fun σ1 hσ1 => ?_
      exact Fo_tail (by assumption) (by apply f_X10_goesWeeks_L82 <;> assumption)
theorem f_X10_goesWeeks_L37 (l1 : Int32) : ∀ (n : Nat) (l2 : Int32) (σ : ZSt), Fo L_X10_goesWeeks σ (fun b : ZSt => b) (s_X10_goesWeeks_L37 l1 n l2 σ) := by
  intro n
  induction n with
  | zero => intros; exact Fo_none
  | succ n ih =>
    intro l2 σ
    have h0 : zKeep L_X10_goesWeeks σ σ := zKeep.rf
    rw [s_X10_goesWeeks_L37]
    refine Fo_ite ?_ ?_
    · skip
      refine Fo_bindV (by apply f_X10_countsThere) (by first | rfl) (by assumption) fun σ1 hσ1 => ?_
      exact Fo_tail (by assumption) (by apply f_X10_goesWeeks_L71 <;> assumption)
    · skip
      refine Fo_sg (by assumption) (by first | rfl) fun σ2 hσ2 => ?_
      refine Fo_sg (by assumption) (by first | rfl) fun σ3 hσ3 => ?_
      exact Fo_tail (by assumption) (by apply ih)
theorem f_X10_goesWeeks_L2 (l1 : Int32) : ∀ (n : Nat) (l2 : Int32) (σ : ZSt), Fo L_X10_goesWeeks σ (fun b : ZSt => b) (s_X10_goesWeeks_L2 l1 n l2 σ) := by
  intro n
  induction n with
  | zero => intros; exact Fo_none
  | succ n ih =>
    intro l2 σ
    have h0 : zKeep L_X10_goesWeeks σ σ := zKeep.rf
    rw [s_X10_goesWeeks_L2]
    refine Fo_ite ?_ ?_
    · skip
      exact Fo_tail (by assumption) (by apply f_X10_goesWeeks_L37 <;> assumption)
    · skip
      refine Fo_ld fun v1 => ?_
      refine Fo_sg (by assumption) (by first | rfl) fun σ2 hσ2 => ?_
      refine Fo_sg (by assumption) (by first | rfl) fun σ3 hσ3 => ?_
      exact Fo_tail (by assumption) (by apply ih)
theorem f_X10_goesWeeks (p0 : Int32) (σ : ZSt) : Fo L_X10_goesWeeks σ (fun b : ZSt => b) (s_X10_goesWeeks p0 σ) := by
  have h0 : zKeep L_X10_goesWeeks σ σ := zKeep.rf
  unfold s_X10_goesWeeks
  exact Fo_tail (by assumption) (by apply f_X10_goesWeeks_L2 <;> assumption)
theorem f_X10_weeks_C110 (k45 : Int32 → Int32 → ZSt → Option (Int32 × ZSt)) (l2 : Int32) (l3 : Int32) (l4 : Int32) (k_1 : Int32) (k_2 : Int32) (σ : ZSt) (hk45 : ∀ (x3 : Int32) (x4 : Int32) (σx : ZSt), Fo L_X10_weeks σx (fun b : Int32 × ZSt => b.2) (k45 x3 x4 σx)) : Fo L_X10_weeks σ (fun b : Int32 × ZSt => b.2) (s_X10_weeks_C110 k45 l2 l3 l4 k_1 k_2 σ) := by
  have h0 : zKeep L_X10_weeks σ σ := zKeep.rf
  unfold s_X10_weeks_C110
  refine Fo_sg (by assumption) (by first | rfl) fun σ1 hσ1 => ?_
  refine Fo_ld fun v2 => ?_
  refine Fo_ite ?_ ?_
  · skip
    exact Fo_tail (by assumption) (by apply hk45)
  · skip
    exact Fo_tail (by assumption) (by apply hk45)
theorem f_X10_weeks_L138 (l3 : Int32) : ∀ (n : Nat) (l4 : Int32) (σ : ZSt), Fo L_X10_weeks σ (fun b : Int32 × ZSt => b.2) (s_X10_weeks_L138 l3 n l4 σ) := by
  intro n
  induction n with
  | zero => intros; exact Fo_none
  | succ n ih =>
    intro l4 σ
    have h0 : zKeep L_X10_weeks σ σ := zKeep.rf
    rw [s_X10_weeks_L138]
    refine Fo_ite ?_ ?_
    · skip
      exact Fo_some (by assumption)
    · skip
      refine Fo_ld fun v1 => ?_
      refine Fo_sg (by assumption) (by first | rfl) fun σ2 hσ2 => ?_
      exact Fo_tail (by assumption) (by apply ih)
theorem f_X10_weeks_L45 (l2 : Int32) : ∀ (n : Nat) (l3 : Int32) (l4 : Int32) (σ : ZSt), Fo L_X10_weeks σ (fun b : Int32 × ZSt => b.2) (s_X10_weeks_L45 l2 n l3 l4 σ) := by
  intro n
  induction n with
  | zero => intros; exact Fo_none
  | succ n ih =>
    intro l3 l4 σ
    have h0 : zKeep L_X10_weeks σ σ := zKeep.rf
    rw [s_X10_weeks_L45]
    refine Fo_ite ?_ ?_
    · skip
      exact Fo_tail (by assumption) (by apply f_X10_weeks_L138 <;> assumption)
    · skip
      refine Fo_ld fun v1 => ?_
      refine Fo_sg (by assumption) (by first | rfl) fun σ2 hσ2 => ?_
      refine Fo_ld fun v3 => ?_
      refine Fo_sg (by assumption) (by first | rfl) fun σ4 hσ4 => ?_
      refine Fo_itn ?_ ?_
      · skip
        refine Fo_ld fun v5 => ?_
        exact Fo_tail (by assumption) (by apply f_X10_weeks_C110 <;> assumption)
      · skip
        refine Fo_ld fun v6 => ?_
        exact Fo_tail (by assumption) (by apply f_X10_weeks_C110 <;> assumption)
theorem f_X10_weeks (p0 : Int32) (p1 : Int32) (σ : ZSt) : Fo L_X10_weeks σ (fun b : Int32 × ZSt => b.2) (s_X10_weeks p0 p1 σ) := by
  have h0 : zKeep L_X10_weeks σ σ := zKeep.rf
  unfold s_X10_weeks
  refine Fo_bindP fun r1 => ?_
  refine Fo_ite ?_ ?_
  · skip
    exact Fo_some (by assumption)
  · skip
    refine Fo_bindP fun r2 => ?_
    refine Fo_itn ?_ ?_
    · skip
      refine Fo_bindV (by apply f_X10_goesWeeks) (by first | rfl) (by assumption) fun σ3 hσ3 => ?_
      refine Fo_st (by assumption) (by first | rfl) fun σ4 hσ4 => ?_
      refine Fo_st (by assumption) (by first | rfl) fun σ5 hσ5 => ?_
      exact Fo_tail (by assumption) (by apply f_X10_weeks_L45 <;> assumption)
    · skip
      exact Fo_some (by assumption)
theorem f_X10_best_C81 (k53 : Int32 → Int32 → Int32 → ZSt → Option (Int32 × ZSt)) (k62 : Int32 → Int32 → Int32 → ZSt → Option (Int32 × ZSt)) (l1 : Int32) (l2 : Int32) (l3 : Int32) (l4 : Int32) (l5 : Int32) (l6 : Int32) (l7 : Int32) (l8 : Int32) (l9 : Int32) (k_0 : Int32) (k_1 : Int32) (σ : ZSt) (hk53 : ∀ (x6 : Int32) (x7 : Int32) (x8 : Int32) (σx : ZSt), Fo L_X10_best σx (fun b : Int32 × ZSt => b.2) (k53 x6 x7 x8 σx)) (hk62 : ∀ (x6 : Int32) (x7 : Int32) (x9 : Int32) (σx : ZSt), Fo L_X10_best σx (fun b : Int32 × ZSt => b.2) (k62 x6 x7 x9 σx)) : Fo L_X10_best σ (fun b : Int32 × ZSt => b.2) (s_X10_best_C81 k53 k62 l1 l2 l3 l4 l5 l6 l7 l8 l9 k_0 k_1 σ) := by
  have h0 : zKeep L_X10_best σ σ := zKeep.rf
  unfold s_X10_best_C81
  refine Fo_ite ?_ ?_
  · skip
    exact Fo_tail (by assumption) (by apply hk53)
  · skip
    refine Fo_sg (by assumption) (by first | rfl) fun σ1 hσ1 => ?_
    refine Fo_sg (by assumption) (by first | rfl) fun σ2 hσ2 => ?_
    refine Fo_bindV (by apply f_X10_goesWeeks) (by first | rfl) (by assumption) fun σ3 hσ3 => ?_
    refine Fo_ite ?_ ?_
    · skip
      refine Fo_ld fun v4 => ?_
      exact Fo_tail (by assumption) (by apply hk62)
    · skip
      refine Fo_ld fun v5 => ?_
      refine Fo_ite ?_ ?_
      · skip
        exact Fo_tail (by assumption) (by apply hk62)
      · skip
        refine Fo_ld fun v6 => ?_
        exact Fo_tail (by assumption) (by apply hk62)
theorem f_X10_best_L62 (k53 : Int32 → Int32 → Int32 → ZSt → Option (Int32 × ZSt)) (l1 : Int32) (l2 : Int32) (l3 : Int32) (l4 : Int32) (l5 : Int32) (l8 : Int32) (hk53 : ∀ (x6 : Int32) (x7 : Int32) (x8 : Int32) (σx : ZSt), Fo L_X10_best σx (fun b : Int32 × ZSt => b.2) (k53 x6 x7 x8 σx)) : ∀ (n : Nat) (l6 : Int32) (l7 : Int32) (l9 : Int32) (σ : ZSt), Fo L_X10_best σ (fun b : Int32 × ZSt => b.2) (s_X10_best_L62 k53 l1 l2 l3 l4 l5 l8 n l6 l7 l9 σ) := by
  intro n
  induction n with
  | zero => intros; exact Fo_none
  | succ n ih =>
    intro l6 l7 l9 σ
    have h0 : zKeep L_X10_best σ σ := zKeep.rf
    rw [s_X10_best_L62]
    refine Fo_ite ?_ ?_
    · skip
      exact Fo_tail (by assumption) (by apply f_X10_best_C81 <;> assumption)
    · skip
      refine Fo_itn ?_ ?_
      · skip
        exact Fo_tail (by assumption) (by apply f_X10_best_C81 <;> assumption)
      · skip
        exact Fo_tail (by assumption) (by apply f_X10_best_C81 <;> assumption)
theorem f_X10_best_C151 (l1 : Int32) (l3 : Int32) (l4 : Int32) (l5 : Int32) (l6 : Int32) (l7 : Int32) (σ : ZSt) : Fo L_X10_best σ (fun b : Int32 × ZSt => b.2) (s_X10_best_C151 l1 l3 l4 l5 l6 l7 σ) := by
  have h0 : zKeep L_X10_best σ σ := zKeep.rf
  unfold s_X10_best_C151
  refine Fo_sg (by assumption) (by first | rfl) fun σ1 hσ1 => ?_
  refine Fo_sg (by assumption) (by first | rfl) fun σ2 hσ2 => ?_
  refine Fo_itn ?_ ?_
  · skip
    exact Fo_some (by assumption)
  · skip
    exact Fo_some (by assumption)
theorem f_X10_best_L53 (l1 : Int32) (l2 : Int32) (l3 : Int32) (l4 : Int32) (l5 : Int32) : ∀ (n : Nat) (l6 : Int32) (l7 : Int32) (l8 : Int32) (σ : ZSt), Fo L_X10_best σ (fun b : Int32 × ZSt => b.2) (s_X10_best_L53 l1 l2 l3 l4 l5 n l6 l7 l8 σ) := by
  intro n
  induction n with
  | zero => intros; exact Fo_none
  | succ n ih =>
    intro l6 l7 l8 σ
    have h0 : zKeep L_X10_best σ σ := zKeep.rf
    rw [s_X10_best_L53]
    refine Fo_ite ?_ ?_
    · exact Fo_tail (by assumption) (by apply f_X10_best_C151 <;> assumption)
    · skip
      exact Fo_tail (by assumption) (by apply f_X10_best_L62 <;> assumption)
theorem f_X10_best (p0 : Int32) (p1 : Int32) (p2 : Int32) (σ : ZSt) : Fo L_X10_best σ (fun b : Int32 × ZSt => b.2) (s_X10_best p0 p1 p2 σ) := by
  have h0 : zKeep L_X10_best σ σ := zKeep.rf
  unfold s_X10_best
  refine Fo_bindP fun r1 => ?_
  refine Fo_ite ?_ ?_
  · skip
    exact Fo_some (by assumption)
  · skip
    refine Fo_bindP fun r2 => ?_
    refine Fo_ite ?_ ?_
    · skip
      exact Fo_some (by assumption)
    · skip
      refine Fo_bindP fun r3 => ?_
      refine Fo_itn ?_ ?_
      · skip
        refine Fo_ld fun v4 => ?_
        refine Fo_ld fun v5 => ?_
        exact Fo_tail (by assumption) (by apply f_X10_best_L53 <;> assumption)
      · skip
        exact Fo_some (by assumption)
theorem f_X10_called (p0 : Int32) (p1 : Int32) (σ : ZSt) : Fo L_X10_called σ (fun b : Int32 × ZSt => b.2) (s_X10_called p0 p1 σ) := by
  have h0 : zKeep L_X10_called σ σ := zKeep.rf
  unfold s_X10_called
  refine Fo_bindP fun r1 => ?_
  refine Fo_ite ?_ ?_
  · skip
    exact Fo_some (by assumption)
  · skip
    refine Fo_bindP fun r2 => ?_
    refine Fo_itn ?_ ?_
    · skip
      refine Fo_bindV (by apply f_X10_goesWeeks) (by first | rfl) (by assumption) fun σ3 hσ3 => ?_
      refine Fo_ld fun v4 => ?_
      refine Fo_ld fun v5 => ?_
      refine Fo_sg (by assumption) (by first | rfl) fun σ6 hσ6 => ?_
      refine Fo_bindV (by apply f_X10_goesWeeks) (by first | rfl) (by assumption) fun σ7 hσ7 => ?_
      refine Fo_sg (by assumption) (by first | rfl) fun σ8 hσ8 => ?_
      refine Fo_ld fun v9 => ?_
      exact Fo_some (by assumption)
    · skip
      exact Fo_some (by assumption)
theorem f_X10_off_C96 (l1 : Int32) (l3 : Int32) (l4 : Int32) (l5 : Int32) (σ : ZSt) : Fo L_X10_off σ (fun b : Int32 × ZSt => b.2) (s_X10_off_C96 l1 l3 l4 l5 σ) := by
  have h0 : zKeep L_X10_off σ σ := zKeep.rf
  unfold s_X10_off_C96
  refine Fo_sg (by assumption) (by first | rfl) fun σ1 hσ1 => ?_
  refine Fo_sg (by assumption) (by first | rfl) fun σ2 hσ2 => ?_
  exact Fo_some (by assumption)
theorem f_X10_off_L46 (l1 : Int32) (l2 : Int32) (l3 : Int32) (l4 : Int32) : ∀ (n : Nat) (l5 : Int32) (l6 : Int32) (σ : ZSt), Fo L_X10_off σ (fun b : Int32 × ZSt => b.2) (s_X10_off_L46 l1 l2 l3 l4 n l5 l6 σ) := by
  intro n
  induction n with
  | zero => intros; exact Fo_none
  | succ n ih =>
    intro l5 l6 σ
    have h0 : zKeep L_X10_off σ σ := zKeep.rf
    rw [s_X10_off_L46]
    refine Fo_ite ?_ ?_
    · exact Fo_tail (by assumption) (by apply f_X10_off_C96 <;> assumption)
    · skip
      refine Fo_ite ?_ ?_
      · exact Fo_tail (by assumption) (by apply f_X10_off_C96 <;> assumption)
      · skip
        refine Fo_sg (by assumption) (by first | rfl) fun σ1 hσ1 => ?_
        refine Fo_bindV (by apply f_X10_goesWeeks) (by first | rfl) (by assumption) fun σ2 hσ2 => ?_
        refine Fo_ld fun v3 => ?_
        refine Fo_ite ?_ ?_
        · skip
          exact Fo_tail (by assumption) (by apply ih)
        · skip
          exact Fo_tail (by assumption) (by apply ih)
theorem f_X10_off (p0 : Int32) (p1 : Int32) (σ : ZSt) : Fo L_X10_off σ (fun b : Int32 × ZSt => b.2) (s_X10_off p0 p1 σ) := by
  have h0 : zKeep L_X10_off σ σ := zKeep.rf
  unfold s_X10_off
  refine Fo_bindP fun r1 => ?_
  refine Fo_ite ?_ ?_
  · skip
    exact Fo_some (by assumption)
  · skip
    refine Fo_bindP fun r2 => ?_
    refine Fo_itn ?_ ?_
    · skip
      refine Fo_ld fun v3 => ?_
      refine Fo_ld fun v4 => ?_
      refine Fo_sg (by assumption) (by first | rfl) fun σ5 hσ5 => ?_
      exact Fo_tail (by assumption) (by apply f_X10_off_L46 <;> assumption)
    · skip
      exact Fo_some (by assumption)
theorem f_X10_body (p0 : Int32) (σ : ZSt) : Fo L_X10_body σ (fun b : Int32 × ZSt => b.2) (s_X10_body p0 σ) := by
  have h0 : zKeep L_X10_body σ σ := zKeep.rf
  unfold s_X10_body
  refine Fo_bindP fun r1 => ?_
  refine Fo_itn ?_ ?_
  · skip
    refine Fo_itn ?_ ?_
    · skip
      refine Fo_sg (by assumption) (by first | rfl) fun σ2 hσ2 => ?_
      refine Fo_st (by assumption) (by first | rfl) fun σ3 hσ3 => ?_
      exact Fo_some (by assumption)
    · skip
      exact Fo_some (by assumption)
  · skip
    exact Fo_some (by assumption)
theorem f_X10_begins (p0 : Int32) (σ : ZSt) : Fo L_X10_begins σ (fun b : ZSt => b) (s_X10_begins p0 σ) := by
  have h0 : zKeep L_X10_begins σ σ := zKeep.rf
  unfold s_X10_begins
  refine Fo_ite ?_ ?_
  · skip
    refine Fo_st (by assumption) (by first | rfl) fun σ1 hσ1 => ?_
    exact Fo_some (by assumption)
  · skip
    refine Fo_sg (by assumption) (by first | rfl) fun σ2 hσ2 => ?_
    refine Fo_st (by assumption) (by first | rfl) fun σ3 hσ3 => ?_
    exact Fo_some (by assumption)
theorem f_X10_waitsAs (f_X10_waitsAs : Int32 → Int32 → ZSt → Option (Int32 × ZSt)) (hw_X10_waitsAs : ∀ (p0 : Int32) (p1 : Int32) (σ : ZSt), Fo L_X10_waitsAs σ (fun b : Int32 × ZSt => b.2) (f_X10_waitsAs p0 p1 σ)) (p0 : Int32) (p1 : Int32) (σ : ZSt) : Fo L_X10_waitsAs σ (fun b : Int32 × ZSt => b.2) (s_X10_waitsAs f_X10_waitsAs p0 p1 σ) := by
  have h0 : zKeep L_X10_waitsAs σ σ := zKeep.rf
  unfold s_X10_waitsAs
  refine Fo_itn ?_ ?_
  · skip
    refine Fo_itn ?_ ?_
    · skip
      refine Fo_itn ?_ ?_
      · skip
        refine Fo_bindV (by apply f_X10_begins) (by first | rfl) (by assumption) fun σ1 hσ1 => ?_
        exact Fo_some (by assumption)
      · skip
        refine Fo_bindV (by apply f_X10_begins) (by first | rfl) (by assumption) fun σ2 hσ2 => ?_
        refine Fo_bindS (by apply hw_X10_waitsAs) (by first | rfl) (by assumption) fun r3 hr3 => ?_
        exact Fo_some (by assumption)
    · skip
      refine Fo_bindV (by apply f_X10_begins) (by first | rfl) (by assumption) fun σ4 hσ4 => ?_
      refine Fo_bindS (by apply hw_X10_waitsAs) (by first | rfl) (by assumption) fun r5 hr5 => ?_
      exact Fo_some (by assumption)
  · skip
    refine Fo_bindV (by apply f_X10_begins) (by first | rfl) (by assumption) fun σ6 hσ6 => ?_
    refine Fo_bindS (by apply hw_X10_waitsAs) (by first | rfl) (by assumption) fun r7 hr7 => ?_
    exact Fo_some (by assumption)
theorem ft_X10_waitsAs : ∀ d : Nat, (∀ (p0 : Int32) (p1 : Int32) (σ : ZSt), Fo L_X10_waitsAs σ (fun b : Int32 × ZSt => b.2) (rd_X10_waitsAs d p0 p1 σ)) := by
  intro d
  induction d with
  | zero => exact (by intros; exact Fo_none)
  | succ d ih =>
    have h0 := ih
    exact fun p0 p1 σ => f_X10_waitsAs _ h0 p0 p1 σ
theorem fr_X10_waitsAs : ∀ (p0 : Int32) (p1 : Int32) (σ : ZSt), Fo L_X10_waitsAs σ (fun b : Int32 × ZSt => b.2) (r_X10_waitsAs p0 p1 σ) := (ft_X10_waitsAs 16)
theorem f_X10_hearsAs_C31 (f_X10_hearsAs : Int32 → Int32 → ZSt → Option (Int32 × ZSt)) (hw_X10_hearsAs : ∀ (p0 : Int32) (p1 : Int32) (σ : ZSt), Fo L_X10_hearsAs σ (fun b : Int32 × ZSt => b.2) (f_X10_hearsAs p0 p1 σ)) (l2 : Int32) (σ : ZSt) : Fo L_X10_hearsAs σ (fun b : Int32 × ZSt => b.2) (s_X10_hearsAs_C31 f_X10_hearsAs l2 σ) := by
  have h0 : zKeep L_X10_hearsAs σ σ := zKeep.rf
  unfold s_X10_hearsAs_C31
  refine Fo_bindV (by apply f_X10_begins) (by first | rfl) (by assumption) fun σ1 hσ1 => ?_
  refine Fo_bindS (by apply hw_X10_hearsAs) (by first | rfl) (by assumption) fun r2 hr2 => ?_
  refine Fo_bindS (by apply fr_X10_waitsAs) (by first | rfl) (by assumption) fun r3 hr3 => ?_
  exact Fo_some (by assumption)
theorem f_X10_hearsAs (f_X10_hearsAs : Int32 → Int32 → ZSt → Option (Int32 × ZSt)) (hw_X10_hearsAs : ∀ (p0 : Int32) (p1 : Int32) (σ : ZSt), Fo L_X10_hearsAs σ (fun b : Int32 × ZSt => b.2) (f_X10_hearsAs p0 p1 σ)) (p0 : Int32) (p1 : Int32) (σ : ZSt) : Fo L_X10_hearsAs σ (fun b : Int32 × ZSt => b.2) (s_X10_hearsAs f_X10_hearsAs p0 p1 σ) := by
  have h0 : zKeep L_X10_hearsAs σ σ := zKeep.rf
  unfold s_X10_hearsAs
  refine Fo_itn ?_ ?_
  · skip
    refine Fo_ite ?_ ?_
    · exact Fo_tail (by assumption) (by apply f_X10_hearsAs_C31 <;> assumption)
    · skip
      refine Fo_itn ?_ ?_
      · skip
        refine Fo_bindV (by apply f_X10_begins) (by first | rfl) (by assumption) fun σ1 hσ1 => ?_
        exact Fo_some (by assumption)
      · exact Fo_tail (by assumption) (by apply f_X10_hearsAs_C31 <;> assumption)
  · skip
    refine Fo_bindV (by apply f_X10_begins) (by first | rfl) (by assumption) fun σ2 hσ2 => ?_
    refine Fo_bindS (by apply hw_X10_hearsAs) (by first | rfl) (by assumption) fun r3 hr3 => ?_
    exact Fo_some (by assumption)
theorem ft_X10_hearsAs : ∀ d : Nat, (∀ (p0 : Int32) (p1 : Int32) (σ : ZSt), Fo L_X10_hearsAs σ (fun b : Int32 × ZSt => b.2) (rd_X10_hearsAs d p0 p1 σ)) := by
  intro d
  induction d with
  | zero => exact (by intros; exact Fo_none)
  | succ d ih =>
    have h0 := ih
    exact fun p0 p1 σ => f_X10_hearsAs _ h0 p0 p1 σ
theorem fr_X10_hearsAs : ∀ (p0 : Int32) (p1 : Int32) (σ : ZSt), Fo L_X10_hearsAs σ (fun b : Int32 × ZSt => b.2) (r_X10_hearsAs p0 p1 σ) := (ft_X10_hearsAs 16)
theorem f_X10_paysAs (f_X10_paysAs : Int32 → Int32 → ZSt → Option (Int32 × ZSt)) (hw_X10_paysAs : ∀ (p0 : Int32) (p1 : Int32) (σ : ZSt), Fo L_X10_paysAs σ (fun b : Int32 × ZSt => b.2) (f_X10_paysAs p0 p1 σ)) (p0 : Int32) (p1 : Int32) (σ : ZSt) : Fo L_X10_paysAs σ (fun b : Int32 × ZSt => b.2) (s_X10_paysAs f_X10_paysAs p0 p1 σ) := by
  have h0 : zKeep L_X10_paysAs σ σ := zKeep.rf
  unfold s_X10_paysAs
  refine Fo_itn ?_ ?_
  · skip
    refine Fo_ite ?_ ?_
    · skip
      refine Fo_bindV (by apply f_X10_begins) (by first | rfl) (by assumption) fun σ1 hσ1 => ?_
      refine Fo_bindS (by apply hw_X10_paysAs) (by first | rfl) (by assumption) fun r2 hr2 => ?_
      exact Fo_some (by assumption)
    · skip
      refine Fo_itn ?_ ?_
      · skip
        refine Fo_bindV (by apply f_X10_begins) (by first | rfl) (by assumption) fun σ3 hσ3 => ?_
        refine Fo_bindS (by apply fr_X10_waitsAs) (by first | rfl) (by assumption) fun r4 hr4 => ?_
        exact Fo_some (by assumption)
      · skip
        refine Fo_bindV (by apply f_X10_begins) (by first | rfl) (by assumption) fun σ5 hσ5 => ?_
        refine Fo_bindS (by apply hw_X10_paysAs) (by first | rfl) (by assumption) fun r6 hr6 => ?_
        exact Fo_some (by assumption)
  · skip
    refine Fo_bindV (by apply f_X10_begins) (by first | rfl) (by assumption) fun σ7 hσ7 => ?_
    refine Fo_bindS (by apply hw_X10_paysAs) (by first | rfl) (by assumption) fun r8 hr8 => ?_
    refine Fo_bindS (by apply fr_X10_hearsAs) (by first | rfl) (by assumption) fun r9 hr9 => ?_
    exact Fo_some (by assumption)
theorem ft_X10_paysAs : ∀ d : Nat, (∀ (p0 : Int32) (p1 : Int32) (σ : ZSt), Fo L_X10_paysAs σ (fun b : Int32 × ZSt => b.2) (rd_X10_paysAs d p0 p1 σ)) := by
  intro d
  induction d with
  | zero => exact (by intros; exact Fo_none)
  | succ d ih =>
    have h0 := ih
    exact fun p0 p1 σ => f_X10_paysAs _ h0 p0 p1 σ
theorem fr_X10_paysAs : ∀ (p0 : Int32) (p1 : Int32) (σ : ZSt), Fo L_X10_paysAs σ (fun b : Int32 × ZSt => b.2) (r_X10_paysAs p0 p1 σ) := (ft_X10_paysAs 16)
theorem f_X10_tellsAs (f_X10_tellsAs : Int32 → Int32 → ZSt → Option (Int32 × ZSt)) (hw_X10_tellsAs : ∀ (p0 : Int32) (p1 : Int32) (σ : ZSt), Fo L_X10_tellsAs σ (fun b : Int32 × ZSt => b.2) (f_X10_tellsAs p0 p1 σ)) (p0 : Int32) (p1 : Int32) (σ : ZSt) : Fo L_X10_tellsAs σ (fun b : Int32 × ZSt => b.2) (s_X10_tellsAs f_X10_tellsAs p0 p1 σ) := by
  have h0 : zKeep L_X10_tellsAs σ σ := zKeep.rf
  unfold s_X10_tellsAs
  refine Fo_itn ?_ ?_
  · skip
    refine Fo_itn ?_ ?_
    · skip
      refine Fo_bindV (by apply f_X10_begins) (by first | rfl) (by assumption) fun σ1 hσ1 => ?_
      refine Fo_bindS (by apply fr_X10_paysAs) (by first | rfl) (by assumption) fun r2 hr2 => ?_
      refine Fo_bindS (by apply fr_X10_hearsAs) (by first | rfl) (by assumption) fun r3 hr3 => ?_
      exact Fo_some (by assumption)
    · skip
      refine Fo_bindV (by apply f_X10_begins) (by first | rfl) (by assumption) fun σ4 hσ4 => ?_
      refine Fo_bindS (by apply hw_X10_tellsAs) (by first | rfl) (by assumption) fun r5 hr5 => ?_
      exact Fo_some (by assumption)
  · skip
    refine Fo_bindV (by apply f_X10_begins) (by first | rfl) (by assumption) fun σ6 hσ6 => ?_
    refine Fo_bindS (by apply hw_X10_tellsAs) (by first | rfl) (by assumption) fun r7 hr7 => ?_
    exact Fo_some (by assumption)
theorem ft_X10_tellsAs : ∀ d : Nat, (∀ (p0 : Int32) (p1 : Int32) (σ : ZSt), Fo L_X10_tellsAs σ (fun b : Int32 × ZSt => b.2) (rd_X10_tellsAs d p0 p1 σ)) := by
  intro d
  induction d with
  | zero => exact (by intros; exact Fo_none)
  | succ d ih =>
    have h0 := ih
    exact fun p0 p1 σ => f_X10_tellsAs _ h0 p0 p1 σ
theorem fr_X10_tellsAs : ∀ (p0 : Int32) (p1 : Int32) (σ : ZSt), Fo L_X10_tellsAs σ (fun b : Int32 × ZSt => b.2) (r_X10_tellsAs p0 p1 σ) := (ft_X10_tellsAs 16)
theorem f_X10_act (p0 : Int32) (p1 : Int32) (p2 : Int32) (σ : ZSt) : Fo L_X10_act σ (fun b : Int32 × ZSt => b.2) (s_X10_act p0 p1 p2 σ) := by
  have h0 : zKeep L_X10_act σ σ := zKeep.rf
  unfold s_X10_act
  refine Fo_st (by assumption) (by first | rfl) fun σ1 hσ1 => ?_
  refine Fo_bindP fun r2 => ?_
  refine Fo_itn ?_ ?_
  · skip
    refine Fo_ld fun v3 => ?_
    refine Fo_st (by assumption) (by first | rfl) fun σ4 hσ4 => ?_
    refine Fo_st (by assumption) (by first | rfl) fun σ5 hσ5 => ?_
    refine Fo_ite ?_ ?_
    · skip
      refine Fo_bindS (by apply fr_X10_waitsAs) (by first | rfl) (by assumption) fun r6 hr6 => ?_
      exact Fo_some (by assumption)
    refine Fo_ite ?_ ?_
    · skip
      refine Fo_bindS (by apply fr_X10_paysAs) (by first | rfl) (by assumption) fun r7 hr7 => ?_
      exact Fo_some (by assumption)
    refine Fo_ite ?_ ?_
    · skip
      refine Fo_bindS (by apply fr_X10_hearsAs) (by first | rfl) (by assumption) fun r8 hr8 => ?_
      exact Fo_some (by assumption)
    refine Fo_ite ?_ ?_
    · skip
      refine Fo_bindS (by apply fr_X10_tellsAs) (by first | rfl) (by assumption) fun r9 hr9 => ?_
      exact Fo_some (by assumption)
    exact Fo_some (by assumption)
  · skip
    exact Fo_some (by assumption)
theorem f_X10_keep (p0 : Int32) (p1 : Int32) (σ : ZSt) : Fo L_X10_keep σ (fun b : Int32 × ZSt => b.2) (s_X10_keep p0 p1 σ) := by
  have h0 : zKeep L_X10_keep σ σ := zKeep.rf
  unfold s_X10_keep
  refine Fo_bindP fun r1 => ?_
  refine Fo_ite ?_ ?_
  · skip
    exact Fo_some (by assumption)
  · skip
    refine Fo_ite ?_ ?_
    · skip
      refine Fo_sg (by assumption) (by first | rfl) fun σ2 hσ2 => ?_
      refine Fo_sg (by assumption) (by first | rfl) fun σ3 hσ3 => ?_
      exact Fo_some (by assumption)
    · skip
      refine Fo_bindP fun r4 => ?_
      refine Fo_itn ?_ ?_
      · skip
        refine Fo_sg (by assumption) (by first | rfl) fun σ5 hσ5 => ?_
        refine Fo_sg (by assumption) (by first | rfl) fun σ6 hσ6 => ?_
        exact Fo_some (by assumption)
      · skip
        exact Fo_some (by assumption)
theorem f_X10_row_L57 (l1 : Int32) : ∀ (n : Nat) (l4 : Int32) (σ : ZSt), Fo L_X10_row σ (fun b : Int32 × ZSt => b.2) (s_X10_row_L57 l1 n l4 σ) := by
  intro n
  induction n with
  | zero => intros; exact Fo_none
  | succ n ih =>
    intro l4 σ
    have h0 : zKeep L_X10_row σ σ := zKeep.rf
    rw [s_X10_row_L57]
    refine Fo_ite ?_ ?_
    · skip
      exact Fo_some (by assumption)
    · skip
      refine Fo_sgE (by assumption) (by first | rfl) fun σ1 hσ1 => ?_
      exact Fo_tail (by assumption) (by apply ih)
theorem f_X10_row (p0 : Int32) (p1 : Int32) (p2 : Int32) (σ : ZSt) : Fo L_X10_row σ (fun b : Int32 × ZSt => b.2) (s_X10_row p0 p1 p2 σ) := by
  have h0 : zKeep L_X10_row σ σ := zKeep.rf
  unfold s_X10_row
  refine Fo_bindP fun r1 => ?_
  refine Fo_ite ?_ ?_
  · skip
    exact Fo_some (by assumption)
  · skip
    refine Fo_bindP fun r2 => ?_
    refine Fo_ite ?_ ?_
    · skip
      exact Fo_some (by assumption)
    · skip
      refine Fo_ite ?_ ?_
      · skip
        refine Fo_ite ?_ ?_
        · skip
          refine Fo_sg (by assumption) (by first | rfl) fun σ3 hσ3 => ?_
          refine Fo_sg (by assumption) (by first | rfl) fun σ4 hσ4 => ?_
          exact Fo_tail (by assumption) (by apply f_X10_row_L57 <;> assumption)
        · skip
          exact Fo_some (by assumption)
      · skip
        exact Fo_some (by assumption)
theorem f_X10_put (p0 : Int32) (p1 : Int32) (p2 : Int64) (σ : ZSt) : Fo L_X10_put σ (fun b : Int32 × ZSt => b.2) (s_X10_put p0 p1 p2 σ) := by
  have h0 : zKeep L_X10_put σ σ := zKeep.rf
  unfold s_X10_put
  refine Fo_bindP fun r1 => ?_
  refine Fo_itn ?_ ?_
  · skip
    refine Fo_itn ?_ ?_
    · skip
      exact Fo_some (by assumption)
    · skip
      exact Fo_some (by assumption)
  · skip
    refine Fo_ld fun v2 => ?_
    refine Fo_bindP fun r3 => ?_
    refine Fo_sgE (by assumption) (by first | rfl) fun σ4 hσ4 => ?_
    refine Fo_itn ?_ ?_
    · skip
      exact Fo_some (by assumption)
    · skip
      exact Fo_some (by assumption)
theorem f_X10_shift_L150 (l3 : Int32) (l4 : Int32) (l5 : Int32) : ∀ (n : Nat) (l6 : Int32) (σ : ZSt), Fo L_X10_shift σ (fun b : Int32 × ZSt => b.2) (s_X10_shift_L150 l3 l4 l5 n l6 σ) := by
  intro n
  induction n with
  | zero => intros; exact Fo_none
  | succ n ih =>
    intro l6 σ
    have h0 : zKeep L_X10_shift σ σ := zKeep.rf
    rw [s_X10_shift_L150]
    refine Fo_ite ?_ ?_
    · skip
      exact Fo_some (by assumption)
    · skip
      refine Fo_ld fun v1 => ?_
      refine Fo_sgE (by assumption) (by first | rfl) fun σ2 hσ2 => ?_
      exact Fo_tail (by assumption) (by apply ih)
theorem f_X10_shift_L113 (l1 : Int32) (l2 : Int32) (l3 : Int32) (l4 : Int32) (l5 : Int32) : ∀ (n : Nat) (l6 : Int32) (σ : ZSt), Fo L_X10_shift σ (fun b : Int32 × ZSt => b.2) (s_X10_shift_L113 l1 l2 l3 l4 l5 n l6 σ) := by
  intro n
  induction n with
  | zero => intros; exact Fo_none
  | succ n ih =>
    intro l6 σ
    have h0 : zKeep L_X10_shift σ σ := zKeep.rf
    rw [s_X10_shift_L113]
    refine Fo_ite ?_ ?_
    · skip
      exact Fo_tail (by assumption) (by apply f_X10_shift_L150 <;> assumption)
    · skip
      refine Fo_ld fun v1 => ?_
      refine Fo_sgE (by assumption) (by first | rfl) fun σ2 hσ2 => ?_
      exact Fo_tail (by assumption) (by apply ih)
theorem f_X10_shift (p0 : Int32) (p1 : Int32) (p2 : Int32) (p3 : Int32) (p4 : Int32) (σ : ZSt) : Fo L_X10_shift σ (fun b : Int32 × ZSt => b.2) (s_X10_shift p0 p1 p2 p3 p4 σ) := by
  have h0 : zKeep L_X10_shift σ σ := zKeep.rf
  unfold s_X10_shift
  refine Fo_bindP fun r1 => ?_
  refine Fo_ite ?_ ?_
  · skip
    exact Fo_some (by assumption)
  · skip
    refine Fo_bindP fun r2 => ?_
    refine Fo_itn ?_ ?_
    · skip
      refine Fo_ld fun v3 => ?_
      refine Fo_ite ?_ ?_
      · skip
        exact Fo_some (by assumption)
      · skip
        refine Fo_ld fun v4 => ?_
        refine Fo_ite ?_ ?_
        · skip
          refine Fo_ld fun v5 => ?_
          refine Fo_ite ?_ ?_
          · skip
            exact Fo_some (by assumption)
          · skip
            refine Fo_ld fun v6 => ?_
            refine Fo_ld fun v7 => ?_
            refine Fo_ite ?_ ?_
            · skip
              refine Fo_ite ?_ ?_
              · skip
                exact Fo_some (by assumption)
              · skip
                refine Fo_ite ?_ ?_
                · skip
                  exact Fo_some (by assumption)
                · skip
                  refine Fo_ite ?_ ?_
                  · skip
                    exact Fo_some (by assumption)
                  · skip
                    refine Fo_ld fun v8 => ?_
                    refine Fo_ite ?_ ?_
                    · skip
                      exact Fo_some (by assumption)
                    · skip
                      refine Fo_ld fun v9 => ?_
                      refine Fo_ite ?_ ?_
                      · skip
                        exact Fo_tail (by assumption) (by apply f_X10_shift_L113 <;> assumption)
                      · skip
                        exact Fo_some (by assumption)
            · skip
              exact Fo_some (by assumption)
        · skip
          exact Fo_some (by assumption)
    · skip
      exact Fo_some (by assumption)
