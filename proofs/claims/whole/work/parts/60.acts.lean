/-! Acts -/
theorem bI_n {α : Type} {p : Prop} [Decidable p] {A B : α} : (if bI p = (0 : Int32) then A else B) = if ¬ p then A else B := by
  by_cases h : p
  · rw [bI_t h, if_neg (by decide), if_neg (fun q => q h)]
  · rw [bI_f h, if_pos rfl, if_pos h]
def psh (τ : ZSt) (n : Nat) (b : Int32) : ZSt := zWD (zWD τ 50 n b) 48 3 (nI (n + 1))
def pshM1 (τ : ZSt) (n : Nat) (b : Int32) : ZSt := zWD (zWD τ 95 n b) 68 42 (nI (n + 1))
def pshC : ZSt → Nat → List Int32 → ZSt
  | τ, _, [] => τ
  | τ, n, b :: T => pshC (psh τ n b) (n + 1) T
def pshM : ZSt → Nat → List Int32 → ZSt
  | τ, _, [] => τ
  | τ, n, b :: T => pshM (pshM1 τ n b) (n + 1) T
theorem pshC_app : ∀ (A B : List Int32) (τ : ZSt) (n : Nat), pshC τ n (A ++ B) = pshC (pshC τ n A) (n + A.length) B
  | [], B, τ, n => rfl
  | a :: A, B, τ, n => by
    show pshC (psh τ n a) (n + 1) (A ++ B) = pshC (pshC (psh τ n a) (n + 1) A) (n + (A.length + 1)) B
    rw [pshC_app A B, Nat.add_assoc, Nat.add_comm 1]
theorem pshM_app : ∀ (A B : List Int32) (τ : ZSt) (n : Nat), pshM τ n (A ++ B) = pshM (pshM τ n A) (n + A.length) B
  | [], B, τ, n => rfl
  | a :: A, B, τ, n => by
    show pshM (pshM1 τ n a) (n + 1) (A ++ B) = pshM (pshM (pshM1 τ n a) (n + 1) A) (n + (A.length + 1)) B
    rw [pshM_app A B, Nat.add_assoc, Nat.add_comm 1]
theorem psh_fr {τ : ZSt} {n : Nat} {b : Int32} (c f : Nat) (h1 : ¬ (c = 48 ∧ f = 3)) (h2 : ¬ c = 50) : (psh τ n b).1 c f = τ.1 c f := by
  unfold psh
  rw [wd1, if_neg h1, wd1, if_neg (by omega)]
theorem pshM1_fr {τ : ZSt} {n : Nat} {b : Int32} (c f : Nat) (h1 : ¬ (c = 68 ∧ f = 42)) (h2 : ¬ c = 95) : (pshM1 τ n b).1 c f = τ.1 c f := by
  unfold pshM1
  rw [wd1, if_neg h1, wd1, if_neg (by omega)]
theorem pshC_fr : ∀ (T : List Int32) (τ : ZSt) (n : Nat) (c f : Nat), ¬ (c = 48 ∧ f = 3) → ¬ c = 50 → (pshC τ n T).1 c f = τ.1 c f
  | [], τ, n, c, f, _, _ => rfl
  | b :: T, τ, n, c, f, h1, h2 => by
    show (pshC (psh τ n b) (n + 1) T).1 c f = _
    rw [pshC_fr T _ _ c f h1 h2, psh_fr c f h1 h2]
theorem pshM_fr : ∀ (T : List Int32) (τ : ZSt) (n : Nat) (c f : Nat), ¬ (c = 68 ∧ f = 42) → ¬ c = 95 → (pshM τ n T).1 c f = τ.1 c f
  | [], τ, n, c, f, _, _ => rfl
  | b :: T, τ, n, c, f, h1, h2 => by
    show (pshM (pshM1 τ n b) (n + 1) T).1 c f = _
    rw [pshM_fr T _ _ c f h1 h2, pshM1_fr c f h1 h2]
theorem pshC_tr : ∀ (T : List Int32) (τ : ZSt) (n : Nat), τ.1 48 3 = nI n → (pshC τ n T).1 48 3 = nI (n + T.length) ∧ (∀ i, i < n → (pshC τ n T).1 50 i = τ.1 50 i) ∧ ∀ j, j < T.length → (pshC τ n T).1 50 (n + j) = T.getD j 0
  | [], τ, n, h => ⟨h, fun _ _ => rfl, fun j hj => absurd hj (Nat.not_lt_zero j)⟩
  | b :: T, τ, n, h => by
    obtain ⟨a1, a2, a3⟩ := pshC_tr T (psh τ n b) (n + 1) (by unfold psh; rw [wd1, if_pos ⟨rfl, rfl⟩])
    refine ⟨?_, fun i hi => ?_, fun j hj => ?_⟩
    · show (pshC (psh τ n b) (n + 1) T).1 48 3 = nI (n + (T.length + 1))
      rw [a1, Nat.add_assoc, Nat.add_comm 1]
    · show (pshC (psh τ n b) (n + 1) T).1 50 i = _
      rw [a2 i (by omega)]
      unfold psh
      rw [wd1, if_neg (by omega), wd1, if_neg (by omega)]
    · show (pshC (psh τ n b) (n + 1) T).1 50 (n + j) = _
      match j, hj with
      | 0, _ =>
        rw [a2 (n + 0) (by omega)]
        unfold psh
        rw [wd1, if_neg (by omega), wd1, if_pos ⟨rfl, rfl⟩]
        rfl
      | j + 1, hj =>
        have := a3 j (by simpa using hj)
        rw [show n + (j + 1) = n + 1 + j by omega, this]
        rfl
theorem pshM_tr : ∀ (T : List Int32) (τ : ZSt) (n : Nat), τ.1 68 42 = nI n → (pshM τ n T).1 68 42 = nI (n + T.length) ∧ (∀ i, i < n → (pshM τ n T).1 95 i = τ.1 95 i) ∧ ∀ j, j < T.length → (pshM τ n T).1 95 (n + j) = T.getD j 0
  | [], τ, n, h => ⟨h, fun _ _ => rfl, fun j hj => absurd hj (Nat.not_lt_zero j)⟩
  | b :: T, τ, n, h => by
    obtain ⟨a1, a2, a3⟩ := pshM_tr T (pshM1 τ n b) (n + 1) (by unfold pshM1; rw [wd1, if_pos ⟨rfl, rfl⟩])
    refine ⟨?_, fun i hi => ?_, fun j hj => ?_⟩
    · show (pshM (pshM1 τ n b) (n + 1) T).1 68 42 = nI (n + (T.length + 1))
      rw [a1, Nat.add_assoc, Nat.add_comm 1]
    · show (pshM (pshM1 τ n b) (n + 1) T).1 95 i = _
      rw [a2 i (by omega)]
      unfold pshM1
      rw [wd1, if_neg (by omega), wd1, if_neg (by omega)]
    · show (pshM (pshM1 τ n b) (n + 1) T).1 95 (n + j) = _
      match j, hj with
      | 0, _ =>
        rw [a2 (n + 0) (by omega)]
        unfold pshM1
        rw [wd1, if_neg (by omega), wd1, if_pos ⟨rfl, rfl⟩]
        rfl
      | j + 1, hj =>
        have := a3 j (by simpa using hj)
        rw [show n + (j + 1) = n + 1 + j by omega, this]
        rfl
/-- class and model in the midst of an act of body b, of kind K, with n bodies of acts begun -/
def cA (τ : ZSt) (n : Nat) (b : Int32) (K : Nat) : Prop := τ.1 48 3 = nI n ∧ τ.1 48 4 = b ∧ s_X0_kindOf b τ = some (nI K)
def mA (τ : ZSt) (n : Nat) (b : Int32) (K : Nat) : Prop := τ.1 68 42 = nI n ∧ τ.1 68 44 = b ∧ τ.1 68 43 = nI K
theorem kindOf_c {σ σ' : ZSt} (h : σ'.1 48 2 = σ.1 48 2) (h2 : σ'.1 49 = σ.1 49) (b : Int32) : s_X0_kindOf b σ' = s_X0_kindOf b σ := by
  unfold s_X0_kindOf s_X0_isBody
  rw [h, h2]
theorem cA_p {τ : ZSt} {n K : Nat} {b : Int32} (h : cA τ n b K) (T : List Int32) : cA (pshC τ n T) (n + T.length) b K := by
  refine ⟨(pshC_tr T τ n h.1).1, ?_, ?_⟩
  · rw [pshC_fr T τ n 48 4 (by omega) (by omega)]
    exact h.2.1
  · rw [kindOf_c (σ := τ) (pshC_fr T τ n 48 2 (by omega) (by omega)) (funext fun f => pshC_fr T τ n 49 f (by omega) (by omega))]
    exact h.2.2
theorem mA_p {τ : ZSt} {n K : Nat} {b : Int32} (h : mA τ n b K) (T : List Int32) : mA (pshM τ n T) (n + T.length) b K := by
  refine ⟨(pshM_tr T τ n h.1).1, ?_, ?_⟩
  · rw [pshM_fr T τ n 68 44 (by omega) (by omega)]
    exact h.2.1
  · rw [pshM_fr T τ n 68 43 (by omega) (by omega)]
    exact h.2.2
theorem cA_1 {τ : ZSt} {n K : Nat} {b : Int32} (h : cA τ n b K) (B : Int32) : cA (psh τ n B) (n + 1) b K := cA_p h [B]
theorem mA_1 {τ : ZSt} {n K : Nat} {b : Int32} (h : mA τ n b K) (B : Int32) : mA (pshM1 τ n B) (n + 1) b K := mA_p h [B]
theorem own_tab : ∀ k, k < 8 → ∀ a, a < 4 → s_X0_ownBody (nI k) (nI a) zO = some (zOWN (4 * k + a)) := by decide +kernel
theorem abv_tab : ∀ k, k < 8 → s_X0_above (nI k) zO = some (zABV k) := by decide +kernel
theorem rd_fromF (d : Nat) : rd_X0_from (d + 1) = s_X0_from (rd_X0_begin d) := by
  unfold rd_X0_from rd_X0_begin
  rw [R_X0_begin_from_self]
theorem rd_self (d : Nat) (a x p : Int32) (σ : ZSt) : rd_X0_self (d + 1) a x p σ = s_X0_self (rd_X0_from d) a x p σ := rfl
theorem rd_from (d : Nat) (k a x p : Int32) (σ : ZSt) : rd_X0_from (d + 1) k a x p σ = s_X0_from (rd_X0_begin d) k a x p σ := by rw [rd_fromF]
theorem rd_begin (d : Nat) (B k x p : Int32) (σ : ZSt) : rd_X0_begin (d + 1) B k x p σ = s_X0_begin (rd_X0_from d) (rd_X0_self d) B k x p σ := rfl
theorem rd_waits (d : Nat) (k x : Int32) (σ : ZSt) : rd_X10_waitsAs (d + 1) k x σ = s_X10_waitsAs (rd_X10_waitsAs d) k x σ := rfl
theorem rd_hears (d : Nat) (k x : Int32) (σ : ZSt) : rd_X10_hearsAs (d + 1) k x σ = s_X10_hearsAs (rd_X10_hearsAs d) k x σ := rfl
theorem rd_pays (d : Nat) (k x : Int32) (σ : ZSt) : rd_X10_paysAs (d + 1) k x σ = s_X10_paysAs (rd_X10_paysAs d) k x σ := rfl
theorem rd_tells (d : Nat) (k x : Int32) (σ : ZSt) : rd_X10_tellsAs (d + 1) k x σ = s_X10_tellsAs (rd_X10_tellsAs d) k x σ := rfl
theorem self_at {τ : ZSt} {n K : Nat} {b : Int32} (h : cA τ n b K) (d : Nat) (a x p : Int32) {v : Int32} {τ' : ZSt} (e : rd_X0_from d (nI K) a x p τ = some (v, τ')) : rd_X0_self (d + 1) a x p τ = some (v, τ') := by
  rw [rd_self, s_X0_self, h.2.1, h.2.2, Option.bind_some, e, Option.bind_some]
theorem begins_at {τ : ZSt} {n K : Nat} {b : Int32} (h : mA τ n b K) (hn : n < 24) (B : Int32) : s_X10_begins B τ = some (pshM1 τ n B) := by
  unfold s_X10_begins
  rw [h.1, if_neg (by rw [show (24 : Int32) = nI 24 by decide, nI_leI (by decide) (by omega)]; omega), zSg_t (zIn_nI hn (by decide)), nI_clamp (by omega), zSt_e, wd1, if_neg (by omega), h.1, nI_1]
  rfl
theorem bg_at {τ : ZSt} {n K : Nat} {b : Int32} (h : cA τ n b K) (hn : n < 24) {dp : Nat} (hd : dp < 30) (ff : Int32 → Int32 → Int32 → Int32 → ZSt → Option (Int32 × ZSt)) (fs : Int32 → Int32 → Int32 → ZSt → Option (Int32 × ZSt)) (B k x : Int32) : s_X0_begin ff fs B k x (nI dp) τ = s_X0_begin_C28 ff fs B k x (nI dp) (zWD τ 50 n B) := by
  unfold s_X0_begin
  rw [if_pos (by rw [show (30 : Int32) = nI 30 by decide, nI_ltI (by omega) (by decide)]; omega), h.1, if_neg (by rw [show (24 : Int32) = nI 24 by decide, nI_leI (by decide) (by omega)]; omega), zSg_t (zIn_nI hn (by decide)), nI_clamp (by omega)]
theorem ab_0 (σ : ZSt) : s_X0_above (0 : Int32) σ = some (-1 : Int32) := (show s_X0_above (nI 0) zO = some (zABV 0) from abv_tab 0 (by decide))
theorem ob_0_0 (σ : ZSt) : s_X0_ownBody (0 : Int32) (0 : Int32) σ = some (1 : Int32) := (show s_X0_ownBody (nI 0) (nI 0) zO = some (zOWN 0) from own_tab 0 (by decide) 0 (by decide))
theorem ob_0_1 (σ : ZSt) : s_X0_ownBody (0 : Int32) (1 : Int32) σ = some (10 : Int32) := (show s_X0_ownBody (nI 0) (nI 1) zO = some (zOWN 1) from own_tab 0 (by decide) 1 (by decide))
theorem ob_0_2 (σ : ZSt) : s_X0_ownBody (0 : Int32) (2 : Int32) σ = some (11 : Int32) := (show s_X0_ownBody (nI 0) (nI 2) zO = some (zOWN 2) from own_tab 0 (by decide) 2 (by decide))
theorem ob_0_3 (σ : ZSt) : s_X0_ownBody (0 : Int32) (3 : Int32) σ = some (2 : Int32) := (show s_X0_ownBody (nI 0) (nI 3) zO = some (zOWN 3) from own_tab 0 (by decide) 3 (by decide))
theorem ab_1 (σ : ZSt) : s_X0_above (1 : Int32) σ = some (0 : Int32) := (show s_X0_above (nI 1) zO = some (zABV 1) from abv_tab 1 (by decide))
theorem ob_1_0 (σ : ZSt) : s_X0_ownBody (1 : Int32) (0 : Int32) σ = some (20 : Int32) := (show s_X0_ownBody (nI 1) (nI 0) zO = some (zOWN 4) from own_tab 1 (by decide) 0 (by decide))
theorem ob_1_1 (σ : ZSt) : s_X0_ownBody (1 : Int32) (1 : Int32) σ = some (0 : Int32) := (show s_X0_ownBody (nI 1) (nI 1) zO = some (zOWN 5) from own_tab 1 (by decide) 1 (by decide))
theorem ob_1_2 (σ : ZSt) : s_X0_ownBody (1 : Int32) (2 : Int32) σ = some (0 : Int32) := (show s_X0_ownBody (nI 1) (nI 2) zO = some (zOWN 6) from own_tab 1 (by decide) 2 (by decide))
theorem ob_1_3 (σ : ZSt) : s_X0_ownBody (1 : Int32) (3 : Int32) σ = some (0 : Int32) := (show s_X0_ownBody (nI 1) (nI 3) zO = some (zOWN 7) from own_tab 1 (by decide) 3 (by decide))
theorem ab_2 (σ : ZSt) : s_X0_above (2 : Int32) σ = some (0 : Int32) := (show s_X0_above (nI 2) zO = some (zABV 2) from abv_tab 2 (by decide))
theorem ob_2_0 (σ : ZSt) : s_X0_ownBody (2 : Int32) (0 : Int32) σ = some (0 : Int32) := (show s_X0_ownBody (nI 2) (nI 0) zO = some (zOWN 8) from own_tab 2 (by decide) 0 (by decide))
theorem ob_2_1 (σ : ZSt) : s_X0_ownBody (2 : Int32) (1 : Int32) σ = some (30 : Int32) := (show s_X0_ownBody (nI 2) (nI 1) zO = some (zOWN 9) from own_tab 2 (by decide) 1 (by decide))
theorem ob_2_2 (σ : ZSt) : s_X0_ownBody (2 : Int32) (2 : Int32) σ = some (0 : Int32) := (show s_X0_ownBody (nI 2) (nI 2) zO = some (zOWN 10) from own_tab 2 (by decide) 2 (by decide))
theorem ob_2_3 (σ : ZSt) : s_X0_ownBody (2 : Int32) (3 : Int32) σ = some (0 : Int32) := (show s_X0_ownBody (nI 2) (nI 3) zO = some (zOWN 11) from own_tab 2 (by decide) 3 (by decide))
theorem ab_3 (σ : ZSt) : s_X0_above (3 : Int32) σ = some (1 : Int32) := (show s_X0_above (nI 3) zO = some (zABV 3) from abv_tab 3 (by decide))
theorem ob_3_0 (σ : ZSt) : s_X0_ownBody (3 : Int32) (0 : Int32) σ = some (41 : Int32) := (show s_X0_ownBody (nI 3) (nI 0) zO = some (zOWN 12) from own_tab 3 (by decide) 0 (by decide))
theorem ob_3_1 (σ : ZSt) : s_X0_ownBody (3 : Int32) (1 : Int32) σ = some (0 : Int32) := (show s_X0_ownBody (nI 3) (nI 1) zO = some (zOWN 13) from own_tab 3 (by decide) 1 (by decide))
theorem ob_3_2 (σ : ZSt) : s_X0_ownBody (3 : Int32) (2 : Int32) σ = some (40 : Int32) := (show s_X0_ownBody (nI 3) (nI 2) zO = some (zOWN 14) from own_tab 3 (by decide) 2 (by decide))
theorem ob_3_3 (σ : ZSt) : s_X0_ownBody (3 : Int32) (3 : Int32) σ = some (0 : Int32) := (show s_X0_ownBody (nI 3) (nI 3) zO = some (zOWN 15) from own_tab 3 (by decide) 3 (by decide))
theorem ab_4 (σ : ZSt) : s_X0_above (4 : Int32) σ = some (2 : Int32) := (show s_X0_above (nI 4) zO = some (zABV 4) from abv_tab 4 (by decide))
theorem ob_4_0 (σ : ZSt) : s_X0_ownBody (4 : Int32) (0 : Int32) σ = some (0 : Int32) := (show s_X0_ownBody (nI 4) (nI 0) zO = some (zOWN 16) from own_tab 4 (by decide) 0 (by decide))
theorem ob_4_1 (σ : ZSt) : s_X0_ownBody (4 : Int32) (1 : Int32) σ = some (0 : Int32) := (show s_X0_ownBody (nI 4) (nI 1) zO = some (zOWN 17) from own_tab 4 (by decide) 1 (by decide))
theorem ob_4_2 (σ : ZSt) : s_X0_ownBody (4 : Int32) (2 : Int32) σ = some (50 : Int32) := (show s_X0_ownBody (nI 4) (nI 2) zO = some (zOWN 18) from own_tab 4 (by decide) 2 (by decide))
theorem ob_4_3 (σ : ZSt) : s_X0_ownBody (4 : Int32) (3 : Int32) σ = some (0 : Int32) := (show s_X0_ownBody (nI 4) (nI 3) zO = some (zOWN 19) from own_tab 4 (by decide) 3 (by decide))
theorem ab_5 (σ : ZSt) : s_X0_above (5 : Int32) σ = some (0 : Int32) := (show s_X0_above (nI 5) zO = some (zABV 5) from abv_tab 5 (by decide))
theorem ob_5_0 (σ : ZSt) : s_X0_ownBody (5 : Int32) (0 : Int32) σ = some (0 : Int32) := (show s_X0_ownBody (nI 5) (nI 0) zO = some (zOWN 20) from own_tab 5 (by decide) 0 (by decide))
theorem ob_5_1 (σ : ZSt) : s_X0_ownBody (5 : Int32) (1 : Int32) σ = some (0 : Int32) := (show s_X0_ownBody (nI 5) (nI 1) zO = some (zOWN 21) from own_tab 5 (by decide) 1 (by decide))
theorem ob_5_2 (σ : ZSt) : s_X0_ownBody (5 : Int32) (2 : Int32) σ = some (0 : Int32) := (show s_X0_ownBody (nI 5) (nI 2) zO = some (zOWN 22) from own_tab 5 (by decide) 2 (by decide))
theorem ob_5_3 (σ : ZSt) : s_X0_ownBody (5 : Int32) (3 : Int32) σ = some (60 : Int32) := (show s_X0_ownBody (nI 5) (nI 3) zO = some (zOWN 23) from own_tab 5 (by decide) 3 (by decide))
theorem ab_6 (σ : ZSt) : s_X0_above (6 : Int32) σ = some (0 : Int32) := (show s_X0_above (nI 6) zO = some (zABV 6) from abv_tab 6 (by decide))
theorem ob_6_0 (σ : ZSt) : s_X0_ownBody (6 : Int32) (0 : Int32) σ = some (70 : Int32) := (show s_X0_ownBody (nI 6) (nI 0) zO = some (zOWN 24) from own_tab 6 (by decide) 0 (by decide))
theorem ob_6_1 (σ : ZSt) : s_X0_ownBody (6 : Int32) (1 : Int32) σ = some (0 : Int32) := (show s_X0_ownBody (nI 6) (nI 1) zO = some (zOWN 25) from own_tab 6 (by decide) 1 (by decide))
theorem ob_6_2 (σ : ZSt) : s_X0_ownBody (6 : Int32) (2 : Int32) σ = some (0 : Int32) := (show s_X0_ownBody (nI 6) (nI 2) zO = some (zOWN 26) from own_tab 6 (by decide) 2 (by decide))
theorem ob_6_3 (σ : ZSt) : s_X0_ownBody (6 : Int32) (3 : Int32) σ = some (0 : Int32) := (show s_X0_ownBody (nI 6) (nI 3) zO = some (zOWN 27) from own_tab 6 (by decide) 3 (by decide))
theorem ab_7 (σ : ZSt) : s_X0_above (7 : Int32) σ = some (4 : Int32) := (show s_X0_above (nI 7) zO = some (zABV 7) from abv_tab 7 (by decide))
theorem ob_7_0 (σ : ZSt) : s_X0_ownBody (7 : Int32) (0 : Int32) σ = some (0 : Int32) := (show s_X0_ownBody (nI 7) (nI 0) zO = some (zOWN 28) from own_tab 7 (by decide) 0 (by decide))
theorem ob_7_1 (σ : ZSt) : s_X0_ownBody (7 : Int32) (1 : Int32) σ = some (80 : Int32) := (show s_X0_ownBody (nI 7) (nI 1) zO = some (zOWN 29) from own_tab 7 (by decide) 1 (by decide))
theorem ob_7_2 (σ : ZSt) : s_X0_ownBody (7 : Int32) (2 : Int32) σ = some (0 : Int32) := (show s_X0_ownBody (nI 7) (nI 2) zO = some (zOWN 30) from own_tab 7 (by decide) 2 (by decide))
theorem ob_7_3 (σ : ZSt) : s_X0_ownBody (7 : Int32) (3 : Int32) σ = some (81 : Int32) := (show s_X0_ownBody (nI 7) (nI 3) zO = some (zOWN 31) from own_tab 7 (by decide) 3 (by decide))
theorem fl_0_0 (f : Int32 → Int32 → Int32 → Int32 → ZSt → Option (Int32 × ZSt)) (x p : Int32) (σ : ZSt) (n : Nat) : s_X0_from_L6 f (0 : Int32) x p σ (n + 5) (0 : Int32) 0 = s_X0_from_C27 f (0 : Int32) x p (0 : Int32) σ := by
  rw [s_X0_from_L6, if_neg (by decide), if_neg (by decide), ob_0_0, Option.bind_some, if_neg (by decide)]
theorem fr_0_0 (f : Int32 → Int32 → Int32 → Int32 → ZSt → Option (Int32 × ZSt)) (x p : Int32) (σ : ZSt) : s_X0_from f (0 : Int32) (0 : Int32) x p σ = (f (1 : Int32) (0 : Int32) x p σ).bind fun r => some (r.1, r.2) := by
  have h : s_X0_from f (0 : Int32) (0 : Int32) x p σ = s_X0_from_C27 f (0 : Int32) x p (0 : Int32) σ := fl_0_0 f x p σ 195
  rw [h, s_X0_from_C27, ob_0_0, Option.bind_some]
theorem fl_0_1 (f : Int32 → Int32 → Int32 → Int32 → ZSt → Option (Int32 × ZSt)) (x p : Int32) (σ : ZSt) (n : Nat) : s_X0_from_L6 f (1 : Int32) x p σ (n + 5) (0 : Int32) 0 = s_X0_from_C27 f (1 : Int32) x p (0 : Int32) σ := by
  rw [s_X0_from_L6, if_neg (by decide), if_neg (by decide), ob_0_1, Option.bind_some, if_neg (by decide)]
theorem fr_0_1 (f : Int32 → Int32 → Int32 → Int32 → ZSt → Option (Int32 × ZSt)) (x p : Int32) (σ : ZSt) : s_X0_from f (0 : Int32) (1 : Int32) x p σ = (f (10 : Int32) (0 : Int32) x p σ).bind fun r => some (r.1, r.2) := by
  have h : s_X0_from f (0 : Int32) (1 : Int32) x p σ = s_X0_from_C27 f (1 : Int32) x p (0 : Int32) σ := fl_0_1 f x p σ 195
  rw [h, s_X0_from_C27, ob_0_1, Option.bind_some]
theorem fl_0_2 (f : Int32 → Int32 → Int32 → Int32 → ZSt → Option (Int32 × ZSt)) (x p : Int32) (σ : ZSt) (n : Nat) : s_X0_from_L6 f (2 : Int32) x p σ (n + 5) (0 : Int32) 0 = s_X0_from_C27 f (2 : Int32) x p (0 : Int32) σ := by
  rw [s_X0_from_L6, if_neg (by decide), if_neg (by decide), ob_0_2, Option.bind_some, if_neg (by decide)]
theorem fr_0_2 (f : Int32 → Int32 → Int32 → Int32 → ZSt → Option (Int32 × ZSt)) (x p : Int32) (σ : ZSt) : s_X0_from f (0 : Int32) (2 : Int32) x p σ = (f (11 : Int32) (0 : Int32) x p σ).bind fun r => some (r.1, r.2) := by
  have h : s_X0_from f (0 : Int32) (2 : Int32) x p σ = s_X0_from_C27 f (2 : Int32) x p (0 : Int32) σ := fl_0_2 f x p σ 195
  rw [h, s_X0_from_C27, ob_0_2, Option.bind_some]
theorem fl_0_3 (f : Int32 → Int32 → Int32 → Int32 → ZSt → Option (Int32 × ZSt)) (x p : Int32) (σ : ZSt) (n : Nat) : s_X0_from_L6 f (3 : Int32) x p σ (n + 5) (0 : Int32) 0 = s_X0_from_C27 f (3 : Int32) x p (0 : Int32) σ := by
  rw [s_X0_from_L6, if_neg (by decide), if_neg (by decide), ob_0_3, Option.bind_some, if_neg (by decide)]
theorem fr_0_3 (f : Int32 → Int32 → Int32 → Int32 → ZSt → Option (Int32 × ZSt)) (x p : Int32) (σ : ZSt) : s_X0_from f (0 : Int32) (3 : Int32) x p σ = (f (2 : Int32) (0 : Int32) x p σ).bind fun r => some (r.1, r.2) := by
  have h : s_X0_from f (0 : Int32) (3 : Int32) x p σ = s_X0_from_C27 f (3 : Int32) x p (0 : Int32) σ := fl_0_3 f x p σ 195
  rw [h, s_X0_from_C27, ob_0_3, Option.bind_some]
theorem fl_1_0 (f : Int32 → Int32 → Int32 → Int32 → ZSt → Option (Int32 × ZSt)) (x p : Int32) (σ : ZSt) (n : Nat) : s_X0_from_L6 f (0 : Int32) x p σ (n + 5) (1 : Int32) 0 = s_X0_from_C27 f (0 : Int32) x p (1 : Int32) σ := by
  rw [s_X0_from_L6, if_neg (by decide), if_neg (by decide), ob_1_0, Option.bind_some, if_neg (by decide)]
theorem fr_1_0 (f : Int32 → Int32 → Int32 → Int32 → ZSt → Option (Int32 × ZSt)) (x p : Int32) (σ : ZSt) : s_X0_from f (1 : Int32) (0 : Int32) x p σ = (f (20 : Int32) (1 : Int32) x p σ).bind fun r => some (r.1, r.2) := by
  have h : s_X0_from f (1 : Int32) (0 : Int32) x p σ = s_X0_from_C27 f (0 : Int32) x p (1 : Int32) σ := fl_1_0 f x p σ 195
  rw [h, s_X0_from_C27, ob_1_0, Option.bind_some]
theorem fl_1_1 (f : Int32 → Int32 → Int32 → Int32 → ZSt → Option (Int32 × ZSt)) (x p : Int32) (σ : ZSt) (n : Nat) : s_X0_from_L6 f (1 : Int32) x p σ (n + 5) (1 : Int32) 0 = s_X0_from_C27 f (1 : Int32) x p (0 : Int32) σ := by
  rw [s_X0_from_L6, if_neg (by decide), if_neg (by decide), ob_1_1, Option.bind_some, if_pos rfl, ab_1, Option.bind_some]
  rw [s_X0_from_L6, if_neg (by decide), if_neg (by decide), ob_0_1, Option.bind_some, if_neg (by decide)]
theorem fr_1_1 (f : Int32 → Int32 → Int32 → Int32 → ZSt → Option (Int32 × ZSt)) (x p : Int32) (σ : ZSt) : s_X0_from f (1 : Int32) (1 : Int32) x p σ = (f (10 : Int32) (0 : Int32) x p σ).bind fun r => some (r.1, r.2) := by
  have h : s_X0_from f (1 : Int32) (1 : Int32) x p σ = s_X0_from_C27 f (1 : Int32) x p (0 : Int32) σ := fl_1_1 f x p σ 195
  rw [h, s_X0_from_C27, ob_0_1, Option.bind_some]
theorem fl_1_2 (f : Int32 → Int32 → Int32 → Int32 → ZSt → Option (Int32 × ZSt)) (x p : Int32) (σ : ZSt) (n : Nat) : s_X0_from_L6 f (2 : Int32) x p σ (n + 5) (1 : Int32) 0 = s_X0_from_C27 f (2 : Int32) x p (0 : Int32) σ := by
  rw [s_X0_from_L6, if_neg (by decide), if_neg (by decide), ob_1_2, Option.bind_some, if_pos rfl, ab_1, Option.bind_some]
  rw [s_X0_from_L6, if_neg (by decide), if_neg (by decide), ob_0_2, Option.bind_some, if_neg (by decide)]
theorem fr_1_2 (f : Int32 → Int32 → Int32 → Int32 → ZSt → Option (Int32 × ZSt)) (x p : Int32) (σ : ZSt) : s_X0_from f (1 : Int32) (2 : Int32) x p σ = (f (11 : Int32) (0 : Int32) x p σ).bind fun r => some (r.1, r.2) := by
  have h : s_X0_from f (1 : Int32) (2 : Int32) x p σ = s_X0_from_C27 f (2 : Int32) x p (0 : Int32) σ := fl_1_2 f x p σ 195
  rw [h, s_X0_from_C27, ob_0_2, Option.bind_some]
theorem fl_1_3 (f : Int32 → Int32 → Int32 → Int32 → ZSt → Option (Int32 × ZSt)) (x p : Int32) (σ : ZSt) (n : Nat) : s_X0_from_L6 f (3 : Int32) x p σ (n + 5) (1 : Int32) 0 = s_X0_from_C27 f (3 : Int32) x p (0 : Int32) σ := by
  rw [s_X0_from_L6, if_neg (by decide), if_neg (by decide), ob_1_3, Option.bind_some, if_pos rfl, ab_1, Option.bind_some]
  rw [s_X0_from_L6, if_neg (by decide), if_neg (by decide), ob_0_3, Option.bind_some, if_neg (by decide)]
theorem fr_1_3 (f : Int32 → Int32 → Int32 → Int32 → ZSt → Option (Int32 × ZSt)) (x p : Int32) (σ : ZSt) : s_X0_from f (1 : Int32) (3 : Int32) x p σ = (f (2 : Int32) (0 : Int32) x p σ).bind fun r => some (r.1, r.2) := by
  have h : s_X0_from f (1 : Int32) (3 : Int32) x p σ = s_X0_from_C27 f (3 : Int32) x p (0 : Int32) σ := fl_1_3 f x p σ 195
  rw [h, s_X0_from_C27, ob_0_3, Option.bind_some]
theorem fl_2_0 (f : Int32 → Int32 → Int32 → Int32 → ZSt → Option (Int32 × ZSt)) (x p : Int32) (σ : ZSt) (n : Nat) : s_X0_from_L6 f (0 : Int32) x p σ (n + 5) (2 : Int32) 0 = s_X0_from_C27 f (0 : Int32) x p (0 : Int32) σ := by
  rw [s_X0_from_L6, if_neg (by decide), if_neg (by decide), ob_2_0, Option.bind_some, if_pos rfl, ab_2, Option.bind_some]
  rw [s_X0_from_L6, if_neg (by decide), if_neg (by decide), ob_0_0, Option.bind_some, if_neg (by decide)]
theorem fr_2_0 (f : Int32 → Int32 → Int32 → Int32 → ZSt → Option (Int32 × ZSt)) (x p : Int32) (σ : ZSt) : s_X0_from f (2 : Int32) (0 : Int32) x p σ = (f (1 : Int32) (0 : Int32) x p σ).bind fun r => some (r.1, r.2) := by
  have h : s_X0_from f (2 : Int32) (0 : Int32) x p σ = s_X0_from_C27 f (0 : Int32) x p (0 : Int32) σ := fl_2_0 f x p σ 195
  rw [h, s_X0_from_C27, ob_0_0, Option.bind_some]
theorem fl_2_1 (f : Int32 → Int32 → Int32 → Int32 → ZSt → Option (Int32 × ZSt)) (x p : Int32) (σ : ZSt) (n : Nat) : s_X0_from_L6 f (1 : Int32) x p σ (n + 5) (2 : Int32) 0 = s_X0_from_C27 f (1 : Int32) x p (2 : Int32) σ := by
  rw [s_X0_from_L6, if_neg (by decide), if_neg (by decide), ob_2_1, Option.bind_some, if_neg (by decide)]
theorem fr_2_1 (f : Int32 → Int32 → Int32 → Int32 → ZSt → Option (Int32 × ZSt)) (x p : Int32) (σ : ZSt) : s_X0_from f (2 : Int32) (1 : Int32) x p σ = (f (30 : Int32) (2 : Int32) x p σ).bind fun r => some (r.1, r.2) := by
  have h : s_X0_from f (2 : Int32) (1 : Int32) x p σ = s_X0_from_C27 f (1 : Int32) x p (2 : Int32) σ := fl_2_1 f x p σ 195
  rw [h, s_X0_from_C27, ob_2_1, Option.bind_some]
theorem fl_2_2 (f : Int32 → Int32 → Int32 → Int32 → ZSt → Option (Int32 × ZSt)) (x p : Int32) (σ : ZSt) (n : Nat) : s_X0_from_L6 f (2 : Int32) x p σ (n + 5) (2 : Int32) 0 = s_X0_from_C27 f (2 : Int32) x p (0 : Int32) σ := by
  rw [s_X0_from_L6, if_neg (by decide), if_neg (by decide), ob_2_2, Option.bind_some, if_pos rfl, ab_2, Option.bind_some]
  rw [s_X0_from_L6, if_neg (by decide), if_neg (by decide), ob_0_2, Option.bind_some, if_neg (by decide)]
theorem fr_2_2 (f : Int32 → Int32 → Int32 → Int32 → ZSt → Option (Int32 × ZSt)) (x p : Int32) (σ : ZSt) : s_X0_from f (2 : Int32) (2 : Int32) x p σ = (f (11 : Int32) (0 : Int32) x p σ).bind fun r => some (r.1, r.2) := by
  have h : s_X0_from f (2 : Int32) (2 : Int32) x p σ = s_X0_from_C27 f (2 : Int32) x p (0 : Int32) σ := fl_2_2 f x p σ 195
  rw [h, s_X0_from_C27, ob_0_2, Option.bind_some]
theorem fl_2_3 (f : Int32 → Int32 → Int32 → Int32 → ZSt → Option (Int32 × ZSt)) (x p : Int32) (σ : ZSt) (n : Nat) : s_X0_from_L6 f (3 : Int32) x p σ (n + 5) (2 : Int32) 0 = s_X0_from_C27 f (3 : Int32) x p (0 : Int32) σ := by
  rw [s_X0_from_L6, if_neg (by decide), if_neg (by decide), ob_2_3, Option.bind_some, if_pos rfl, ab_2, Option.bind_some]
  rw [s_X0_from_L6, if_neg (by decide), if_neg (by decide), ob_0_3, Option.bind_some, if_neg (by decide)]
theorem fr_2_3 (f : Int32 → Int32 → Int32 → Int32 → ZSt → Option (Int32 × ZSt)) (x p : Int32) (σ : ZSt) : s_X0_from f (2 : Int32) (3 : Int32) x p σ = (f (2 : Int32) (0 : Int32) x p σ).bind fun r => some (r.1, r.2) := by
  have h : s_X0_from f (2 : Int32) (3 : Int32) x p σ = s_X0_from_C27 f (3 : Int32) x p (0 : Int32) σ := fl_2_3 f x p σ 195
  rw [h, s_X0_from_C27, ob_0_3, Option.bind_some]
theorem fl_3_0 (f : Int32 → Int32 → Int32 → Int32 → ZSt → Option (Int32 × ZSt)) (x p : Int32) (σ : ZSt) (n : Nat) : s_X0_from_L6 f (0 : Int32) x p σ (n + 5) (3 : Int32) 0 = s_X0_from_C27 f (0 : Int32) x p (3 : Int32) σ := by
  rw [s_X0_from_L6, if_neg (by decide), if_neg (by decide), ob_3_0, Option.bind_some, if_neg (by decide)]
theorem fr_3_0 (f : Int32 → Int32 → Int32 → Int32 → ZSt → Option (Int32 × ZSt)) (x p : Int32) (σ : ZSt) : s_X0_from f (3 : Int32) (0 : Int32) x p σ = (f (41 : Int32) (3 : Int32) x p σ).bind fun r => some (r.1, r.2) := by
  have h : s_X0_from f (3 : Int32) (0 : Int32) x p σ = s_X0_from_C27 f (0 : Int32) x p (3 : Int32) σ := fl_3_0 f x p σ 195
  rw [h, s_X0_from_C27, ob_3_0, Option.bind_some]
theorem fl_3_1 (f : Int32 → Int32 → Int32 → Int32 → ZSt → Option (Int32 × ZSt)) (x p : Int32) (σ : ZSt) (n : Nat) : s_X0_from_L6 f (1 : Int32) x p σ (n + 5) (3 : Int32) 0 = s_X0_from_C27 f (1 : Int32) x p (0 : Int32) σ := by
  rw [s_X0_from_L6, if_neg (by decide), if_neg (by decide), ob_3_1, Option.bind_some, if_pos rfl, ab_3, Option.bind_some]
  rw [s_X0_from_L6, if_neg (by decide), if_neg (by decide), ob_1_1, Option.bind_some, if_pos rfl, ab_1, Option.bind_some]
  rw [s_X0_from_L6, if_neg (by decide), if_neg (by decide), ob_0_1, Option.bind_some, if_neg (by decide)]
theorem fr_3_1 (f : Int32 → Int32 → Int32 → Int32 → ZSt → Option (Int32 × ZSt)) (x p : Int32) (σ : ZSt) : s_X0_from f (3 : Int32) (1 : Int32) x p σ = (f (10 : Int32) (0 : Int32) x p σ).bind fun r => some (r.1, r.2) := by
  have h : s_X0_from f (3 : Int32) (1 : Int32) x p σ = s_X0_from_C27 f (1 : Int32) x p (0 : Int32) σ := fl_3_1 f x p σ 195
  rw [h, s_X0_from_C27, ob_0_1, Option.bind_some]
theorem fl_3_2 (f : Int32 → Int32 → Int32 → Int32 → ZSt → Option (Int32 × ZSt)) (x p : Int32) (σ : ZSt) (n : Nat) : s_X0_from_L6 f (2 : Int32) x p σ (n + 5) (3 : Int32) 0 = s_X0_from_C27 f (2 : Int32) x p (3 : Int32) σ := by
  rw [s_X0_from_L6, if_neg (by decide), if_neg (by decide), ob_3_2, Option.bind_some, if_neg (by decide)]
theorem fr_3_2 (f : Int32 → Int32 → Int32 → Int32 → ZSt → Option (Int32 × ZSt)) (x p : Int32) (σ : ZSt) : s_X0_from f (3 : Int32) (2 : Int32) x p σ = (f (40 : Int32) (3 : Int32) x p σ).bind fun r => some (r.1, r.2) := by
  have h : s_X0_from f (3 : Int32) (2 : Int32) x p σ = s_X0_from_C27 f (2 : Int32) x p (3 : Int32) σ := fl_3_2 f x p σ 195
  rw [h, s_X0_from_C27, ob_3_2, Option.bind_some]
theorem fl_3_3 (f : Int32 → Int32 → Int32 → Int32 → ZSt → Option (Int32 × ZSt)) (x p : Int32) (σ : ZSt) (n : Nat) : s_X0_from_L6 f (3 : Int32) x p σ (n + 5) (3 : Int32) 0 = s_X0_from_C27 f (3 : Int32) x p (0 : Int32) σ := by
  rw [s_X0_from_L6, if_neg (by decide), if_neg (by decide), ob_3_3, Option.bind_some, if_pos rfl, ab_3, Option.bind_some]
  rw [s_X0_from_L6, if_neg (by decide), if_neg (by decide), ob_1_3, Option.bind_some, if_pos rfl, ab_1, Option.bind_some]
  rw [s_X0_from_L6, if_neg (by decide), if_neg (by decide), ob_0_3, Option.bind_some, if_neg (by decide)]
theorem fr_3_3 (f : Int32 → Int32 → Int32 → Int32 → ZSt → Option (Int32 × ZSt)) (x p : Int32) (σ : ZSt) : s_X0_from f (3 : Int32) (3 : Int32) x p σ = (f (2 : Int32) (0 : Int32) x p σ).bind fun r => some (r.1, r.2) := by
  have h : s_X0_from f (3 : Int32) (3 : Int32) x p σ = s_X0_from_C27 f (3 : Int32) x p (0 : Int32) σ := fl_3_3 f x p σ 195
  rw [h, s_X0_from_C27, ob_0_3, Option.bind_some]
theorem fl_4_0 (f : Int32 → Int32 → Int32 → Int32 → ZSt → Option (Int32 × ZSt)) (x p : Int32) (σ : ZSt) (n : Nat) : s_X0_from_L6 f (0 : Int32) x p σ (n + 5) (4 : Int32) 0 = s_X0_from_C27 f (0 : Int32) x p (0 : Int32) σ := by
  rw [s_X0_from_L6, if_neg (by decide), if_neg (by decide), ob_4_0, Option.bind_some, if_pos rfl, ab_4, Option.bind_some]
  rw [s_X0_from_L6, if_neg (by decide), if_neg (by decide), ob_2_0, Option.bind_some, if_pos rfl, ab_2, Option.bind_some]
  rw [s_X0_from_L6, if_neg (by decide), if_neg (by decide), ob_0_0, Option.bind_some, if_neg (by decide)]
theorem fr_4_0 (f : Int32 → Int32 → Int32 → Int32 → ZSt → Option (Int32 × ZSt)) (x p : Int32) (σ : ZSt) : s_X0_from f (4 : Int32) (0 : Int32) x p σ = (f (1 : Int32) (0 : Int32) x p σ).bind fun r => some (r.1, r.2) := by
  have h : s_X0_from f (4 : Int32) (0 : Int32) x p σ = s_X0_from_C27 f (0 : Int32) x p (0 : Int32) σ := fl_4_0 f x p σ 195
  rw [h, s_X0_from_C27, ob_0_0, Option.bind_some]
theorem fl_4_1 (f : Int32 → Int32 → Int32 → Int32 → ZSt → Option (Int32 × ZSt)) (x p : Int32) (σ : ZSt) (n : Nat) : s_X0_from_L6 f (1 : Int32) x p σ (n + 5) (4 : Int32) 0 = s_X0_from_C27 f (1 : Int32) x p (2 : Int32) σ := by
  rw [s_X0_from_L6, if_neg (by decide), if_neg (by decide), ob_4_1, Option.bind_some, if_pos rfl, ab_4, Option.bind_some]
  rw [s_X0_from_L6, if_neg (by decide), if_neg (by decide), ob_2_1, Option.bind_some, if_neg (by decide)]
theorem fr_4_1 (f : Int32 → Int32 → Int32 → Int32 → ZSt → Option (Int32 × ZSt)) (x p : Int32) (σ : ZSt) : s_X0_from f (4 : Int32) (1 : Int32) x p σ = (f (30 : Int32) (2 : Int32) x p σ).bind fun r => some (r.1, r.2) := by
  have h : s_X0_from f (4 : Int32) (1 : Int32) x p σ = s_X0_from_C27 f (1 : Int32) x p (2 : Int32) σ := fl_4_1 f x p σ 195
  rw [h, s_X0_from_C27, ob_2_1, Option.bind_some]
theorem fl_4_2 (f : Int32 → Int32 → Int32 → Int32 → ZSt → Option (Int32 × ZSt)) (x p : Int32) (σ : ZSt) (n : Nat) : s_X0_from_L6 f (2 : Int32) x p σ (n + 5) (4 : Int32) 0 = s_X0_from_C27 f (2 : Int32) x p (4 : Int32) σ := by
  rw [s_X0_from_L6, if_neg (by decide), if_neg (by decide), ob_4_2, Option.bind_some, if_neg (by decide)]
theorem fr_4_2 (f : Int32 → Int32 → Int32 → Int32 → ZSt → Option (Int32 × ZSt)) (x p : Int32) (σ : ZSt) : s_X0_from f (4 : Int32) (2 : Int32) x p σ = (f (50 : Int32) (4 : Int32) x p σ).bind fun r => some (r.1, r.2) := by
  have h : s_X0_from f (4 : Int32) (2 : Int32) x p σ = s_X0_from_C27 f (2 : Int32) x p (4 : Int32) σ := fl_4_2 f x p σ 195
  rw [h, s_X0_from_C27, ob_4_2, Option.bind_some]
theorem fl_4_3 (f : Int32 → Int32 → Int32 → Int32 → ZSt → Option (Int32 × ZSt)) (x p : Int32) (σ : ZSt) (n : Nat) : s_X0_from_L6 f (3 : Int32) x p σ (n + 5) (4 : Int32) 0 = s_X0_from_C27 f (3 : Int32) x p (0 : Int32) σ := by
  rw [s_X0_from_L6, if_neg (by decide), if_neg (by decide), ob_4_3, Option.bind_some, if_pos rfl, ab_4, Option.bind_some]
  rw [s_X0_from_L6, if_neg (by decide), if_neg (by decide), ob_2_3, Option.bind_some, if_pos rfl, ab_2, Option.bind_some]
  rw [s_X0_from_L6, if_neg (by decide), if_neg (by decide), ob_0_3, Option.bind_some, if_neg (by decide)]
theorem fr_4_3 (f : Int32 → Int32 → Int32 → Int32 → ZSt → Option (Int32 × ZSt)) (x p : Int32) (σ : ZSt) : s_X0_from f (4 : Int32) (3 : Int32) x p σ = (f (2 : Int32) (0 : Int32) x p σ).bind fun r => some (r.1, r.2) := by
  have h : s_X0_from f (4 : Int32) (3 : Int32) x p σ = s_X0_from_C27 f (3 : Int32) x p (0 : Int32) σ := fl_4_3 f x p σ 195
  rw [h, s_X0_from_C27, ob_0_3, Option.bind_some]
theorem fl_5_0 (f : Int32 → Int32 → Int32 → Int32 → ZSt → Option (Int32 × ZSt)) (x p : Int32) (σ : ZSt) (n : Nat) : s_X0_from_L6 f (0 : Int32) x p σ (n + 5) (5 : Int32) 0 = s_X0_from_C27 f (0 : Int32) x p (0 : Int32) σ := by
  rw [s_X0_from_L6, if_neg (by decide), if_neg (by decide), ob_5_0, Option.bind_some, if_pos rfl, ab_5, Option.bind_some]
  rw [s_X0_from_L6, if_neg (by decide), if_neg (by decide), ob_0_0, Option.bind_some, if_neg (by decide)]
theorem fr_5_0 (f : Int32 → Int32 → Int32 → Int32 → ZSt → Option (Int32 × ZSt)) (x p : Int32) (σ : ZSt) : s_X0_from f (5 : Int32) (0 : Int32) x p σ = (f (1 : Int32) (0 : Int32) x p σ).bind fun r => some (r.1, r.2) := by
  have h : s_X0_from f (5 : Int32) (0 : Int32) x p σ = s_X0_from_C27 f (0 : Int32) x p (0 : Int32) σ := fl_5_0 f x p σ 195
  rw [h, s_X0_from_C27, ob_0_0, Option.bind_some]
theorem fl_5_1 (f : Int32 → Int32 → Int32 → Int32 → ZSt → Option (Int32 × ZSt)) (x p : Int32) (σ : ZSt) (n : Nat) : s_X0_from_L6 f (1 : Int32) x p σ (n + 5) (5 : Int32) 0 = s_X0_from_C27 f (1 : Int32) x p (0 : Int32) σ := by
  rw [s_X0_from_L6, if_neg (by decide), if_neg (by decide), ob_5_1, Option.bind_some, if_pos rfl, ab_5, Option.bind_some]
  rw [s_X0_from_L6, if_neg (by decide), if_neg (by decide), ob_0_1, Option.bind_some, if_neg (by decide)]
theorem fr_5_1 (f : Int32 → Int32 → Int32 → Int32 → ZSt → Option (Int32 × ZSt)) (x p : Int32) (σ : ZSt) : s_X0_from f (5 : Int32) (1 : Int32) x p σ = (f (10 : Int32) (0 : Int32) x p σ).bind fun r => some (r.1, r.2) := by
  have h : s_X0_from f (5 : Int32) (1 : Int32) x p σ = s_X0_from_C27 f (1 : Int32) x p (0 : Int32) σ := fl_5_1 f x p σ 195
  rw [h, s_X0_from_C27, ob_0_1, Option.bind_some]
theorem fl_5_2 (f : Int32 → Int32 → Int32 → Int32 → ZSt → Option (Int32 × ZSt)) (x p : Int32) (σ : ZSt) (n : Nat) : s_X0_from_L6 f (2 : Int32) x p σ (n + 5) (5 : Int32) 0 = s_X0_from_C27 f (2 : Int32) x p (0 : Int32) σ := by
  rw [s_X0_from_L6, if_neg (by decide), if_neg (by decide), ob_5_2, Option.bind_some, if_pos rfl, ab_5, Option.bind_some]
  rw [s_X0_from_L6, if_neg (by decide), if_neg (by decide), ob_0_2, Option.bind_some, if_neg (by decide)]
theorem fr_5_2 (f : Int32 → Int32 → Int32 → Int32 → ZSt → Option (Int32 × ZSt)) (x p : Int32) (σ : ZSt) : s_X0_from f (5 : Int32) (2 : Int32) x p σ = (f (11 : Int32) (0 : Int32) x p σ).bind fun r => some (r.1, r.2) := by
  have h : s_X0_from f (5 : Int32) (2 : Int32) x p σ = s_X0_from_C27 f (2 : Int32) x p (0 : Int32) σ := fl_5_2 f x p σ 195
  rw [h, s_X0_from_C27, ob_0_2, Option.bind_some]
theorem fl_5_3 (f : Int32 → Int32 → Int32 → Int32 → ZSt → Option (Int32 × ZSt)) (x p : Int32) (σ : ZSt) (n : Nat) : s_X0_from_L6 f (3 : Int32) x p σ (n + 5) (5 : Int32) 0 = s_X0_from_C27 f (3 : Int32) x p (5 : Int32) σ := by
  rw [s_X0_from_L6, if_neg (by decide), if_neg (by decide), ob_5_3, Option.bind_some, if_neg (by decide)]
theorem fr_5_3 (f : Int32 → Int32 → Int32 → Int32 → ZSt → Option (Int32 × ZSt)) (x p : Int32) (σ : ZSt) : s_X0_from f (5 : Int32) (3 : Int32) x p σ = (f (60 : Int32) (5 : Int32) x p σ).bind fun r => some (r.1, r.2) := by
  have h : s_X0_from f (5 : Int32) (3 : Int32) x p σ = s_X0_from_C27 f (3 : Int32) x p (5 : Int32) σ := fl_5_3 f x p σ 195
  rw [h, s_X0_from_C27, ob_5_3, Option.bind_some]
theorem fl_6_0 (f : Int32 → Int32 → Int32 → Int32 → ZSt → Option (Int32 × ZSt)) (x p : Int32) (σ : ZSt) (n : Nat) : s_X0_from_L6 f (0 : Int32) x p σ (n + 5) (6 : Int32) 0 = s_X0_from_C27 f (0 : Int32) x p (6 : Int32) σ := by
  rw [s_X0_from_L6, if_neg (by decide), if_neg (by decide), ob_6_0, Option.bind_some, if_neg (by decide)]
theorem fr_6_0 (f : Int32 → Int32 → Int32 → Int32 → ZSt → Option (Int32 × ZSt)) (x p : Int32) (σ : ZSt) : s_X0_from f (6 : Int32) (0 : Int32) x p σ = (f (70 : Int32) (6 : Int32) x p σ).bind fun r => some (r.1, r.2) := by
  have h : s_X0_from f (6 : Int32) (0 : Int32) x p σ = s_X0_from_C27 f (0 : Int32) x p (6 : Int32) σ := fl_6_0 f x p σ 195
  rw [h, s_X0_from_C27, ob_6_0, Option.bind_some]
theorem fl_6_1 (f : Int32 → Int32 → Int32 → Int32 → ZSt → Option (Int32 × ZSt)) (x p : Int32) (σ : ZSt) (n : Nat) : s_X0_from_L6 f (1 : Int32) x p σ (n + 5) (6 : Int32) 0 = s_X0_from_C27 f (1 : Int32) x p (0 : Int32) σ := by
  rw [s_X0_from_L6, if_neg (by decide), if_neg (by decide), ob_6_1, Option.bind_some, if_pos rfl, ab_6, Option.bind_some]
  rw [s_X0_from_L6, if_neg (by decide), if_neg (by decide), ob_0_1, Option.bind_some, if_neg (by decide)]
theorem fr_6_1 (f : Int32 → Int32 → Int32 → Int32 → ZSt → Option (Int32 × ZSt)) (x p : Int32) (σ : ZSt) : s_X0_from f (6 : Int32) (1 : Int32) x p σ = (f (10 : Int32) (0 : Int32) x p σ).bind fun r => some (r.1, r.2) := by
  have h : s_X0_from f (6 : Int32) (1 : Int32) x p σ = s_X0_from_C27 f (1 : Int32) x p (0 : Int32) σ := fl_6_1 f x p σ 195
  rw [h, s_X0_from_C27, ob_0_1, Option.bind_some]
theorem fl_6_2 (f : Int32 → Int32 → Int32 → Int32 → ZSt → Option (Int32 × ZSt)) (x p : Int32) (σ : ZSt) (n : Nat) : s_X0_from_L6 f (2 : Int32) x p σ (n + 5) (6 : Int32) 0 = s_X0_from_C27 f (2 : Int32) x p (0 : Int32) σ := by
  rw [s_X0_from_L6, if_neg (by decide), if_neg (by decide), ob_6_2, Option.bind_some, if_pos rfl, ab_6, Option.bind_some]
  rw [s_X0_from_L6, if_neg (by decide), if_neg (by decide), ob_0_2, Option.bind_some, if_neg (by decide)]
theorem fr_6_2 (f : Int32 → Int32 → Int32 → Int32 → ZSt → Option (Int32 × ZSt)) (x p : Int32) (σ : ZSt) : s_X0_from f (6 : Int32) (2 : Int32) x p σ = (f (11 : Int32) (0 : Int32) x p σ).bind fun r => some (r.1, r.2) := by
  have h : s_X0_from f (6 : Int32) (2 : Int32) x p σ = s_X0_from_C27 f (2 : Int32) x p (0 : Int32) σ := fl_6_2 f x p σ 195
  rw [h, s_X0_from_C27, ob_0_2, Option.bind_some]
theorem fl_6_3 (f : Int32 → Int32 → Int32 → Int32 → ZSt → Option (Int32 × ZSt)) (x p : Int32) (σ : ZSt) (n : Nat) : s_X0_from_L6 f (3 : Int32) x p σ (n + 5) (6 : Int32) 0 = s_X0_from_C27 f (3 : Int32) x p (0 : Int32) σ := by
  rw [s_X0_from_L6, if_neg (by decide), if_neg (by decide), ob_6_3, Option.bind_some, if_pos rfl, ab_6, Option.bind_some]
  rw [s_X0_from_L6, if_neg (by decide), if_neg (by decide), ob_0_3, Option.bind_some, if_neg (by decide)]
theorem fr_6_3 (f : Int32 → Int32 → Int32 → Int32 → ZSt → Option (Int32 × ZSt)) (x p : Int32) (σ : ZSt) : s_X0_from f (6 : Int32) (3 : Int32) x p σ = (f (2 : Int32) (0 : Int32) x p σ).bind fun r => some (r.1, r.2) := by
  have h : s_X0_from f (6 : Int32) (3 : Int32) x p σ = s_X0_from_C27 f (3 : Int32) x p (0 : Int32) σ := fl_6_3 f x p σ 195
  rw [h, s_X0_from_C27, ob_0_3, Option.bind_some]
theorem fl_7_0 (f : Int32 → Int32 → Int32 → Int32 → ZSt → Option (Int32 × ZSt)) (x p : Int32) (σ : ZSt) (n : Nat) : s_X0_from_L6 f (0 : Int32) x p σ (n + 5) (7 : Int32) 0 = s_X0_from_C27 f (0 : Int32) x p (0 : Int32) σ := by
  rw [s_X0_from_L6, if_neg (by decide), if_neg (by decide), ob_7_0, Option.bind_some, if_pos rfl, ab_7, Option.bind_some]
  rw [s_X0_from_L6, if_neg (by decide), if_neg (by decide), ob_4_0, Option.bind_some, if_pos rfl, ab_4, Option.bind_some]
  rw [s_X0_from_L6, if_neg (by decide), if_neg (by decide), ob_2_0, Option.bind_some, if_pos rfl, ab_2, Option.bind_some]
  rw [s_X0_from_L6, if_neg (by decide), if_neg (by decide), ob_0_0, Option.bind_some, if_neg (by decide)]
theorem fr_7_0 (f : Int32 → Int32 → Int32 → Int32 → ZSt → Option (Int32 × ZSt)) (x p : Int32) (σ : ZSt) : s_X0_from f (7 : Int32) (0 : Int32) x p σ = (f (1 : Int32) (0 : Int32) x p σ).bind fun r => some (r.1, r.2) := by
  have h : s_X0_from f (7 : Int32) (0 : Int32) x p σ = s_X0_from_C27 f (0 : Int32) x p (0 : Int32) σ := fl_7_0 f x p σ 195
  rw [h, s_X0_from_C27, ob_0_0, Option.bind_some]
theorem fl_7_1 (f : Int32 → Int32 → Int32 → Int32 → ZSt → Option (Int32 × ZSt)) (x p : Int32) (σ : ZSt) (n : Nat) : s_X0_from_L6 f (1 : Int32) x p σ (n + 5) (7 : Int32) 0 = s_X0_from_C27 f (1 : Int32) x p (7 : Int32) σ := by
  rw [s_X0_from_L6, if_neg (by decide), if_neg (by decide), ob_7_1, Option.bind_some, if_neg (by decide)]
theorem fr_7_1 (f : Int32 → Int32 → Int32 → Int32 → ZSt → Option (Int32 × ZSt)) (x p : Int32) (σ : ZSt) : s_X0_from f (7 : Int32) (1 : Int32) x p σ = (f (80 : Int32) (7 : Int32) x p σ).bind fun r => some (r.1, r.2) := by
  have h : s_X0_from f (7 : Int32) (1 : Int32) x p σ = s_X0_from_C27 f (1 : Int32) x p (7 : Int32) σ := fl_7_1 f x p σ 195
  rw [h, s_X0_from_C27, ob_7_1, Option.bind_some]
theorem fl_7_2 (f : Int32 → Int32 → Int32 → Int32 → ZSt → Option (Int32 × ZSt)) (x p : Int32) (σ : ZSt) (n : Nat) : s_X0_from_L6 f (2 : Int32) x p σ (n + 5) (7 : Int32) 0 = s_X0_from_C27 f (2 : Int32) x p (4 : Int32) σ := by
  rw [s_X0_from_L6, if_neg (by decide), if_neg (by decide), ob_7_2, Option.bind_some, if_pos rfl, ab_7, Option.bind_some]
  rw [s_X0_from_L6, if_neg (by decide), if_neg (by decide), ob_4_2, Option.bind_some, if_neg (by decide)]
theorem fr_7_2 (f : Int32 → Int32 → Int32 → Int32 → ZSt → Option (Int32 × ZSt)) (x p : Int32) (σ : ZSt) : s_X0_from f (7 : Int32) (2 : Int32) x p σ = (f (50 : Int32) (4 : Int32) x p σ).bind fun r => some (r.1, r.2) := by
  have h : s_X0_from f (7 : Int32) (2 : Int32) x p σ = s_X0_from_C27 f (2 : Int32) x p (4 : Int32) σ := fl_7_2 f x p σ 195
  rw [h, s_X0_from_C27, ob_4_2, Option.bind_some]
theorem fl_7_3 (f : Int32 → Int32 → Int32 → Int32 → ZSt → Option (Int32 × ZSt)) (x p : Int32) (σ : ZSt) (n : Nat) : s_X0_from_L6 f (3 : Int32) x p σ (n + 5) (7 : Int32) 0 = s_X0_from_C27 f (3 : Int32) x p (7 : Int32) σ := by
  rw [s_X0_from_L6, if_neg (by decide), if_neg (by decide), ob_7_3, Option.bind_some, if_neg (by decide)]
theorem fr_7_3 (f : Int32 → Int32 → Int32 → Int32 → ZSt → Option (Int32 × ZSt)) (x p : Int32) (σ : ZSt) : s_X0_from f (7 : Int32) (3 : Int32) x p σ = (f (81 : Int32) (7 : Int32) x p σ).bind fun r => some (r.1, r.2) := by
  have h : s_X0_from f (7 : Int32) (3 : Int32) x p σ = s_X0_from_C27 f (3 : Int32) x p (7 : Int32) σ := fl_7_3 f x p σ 195
  rw [h, s_X0_from_C27, ob_7_3, Option.bind_some]
theorem bg_1 {τ : ZSt} {n K : Nat} {b : Int32} (h : cA τ n b K) (hn : n < 24) {dp : Nat} (hd : dp < 30) (ff : Int32 → Int32 → Int32 → Int32 → ZSt → Option (Int32 × ZSt)) (fs : Int32 → Int32 → Int32 → ZSt → Option (Int32 × ZSt)) (x : Int32) : s_X0_begin ff fs (1 : Int32) (0 : Int32) x (nI dp) τ = some (x + b, psh τ n 1) := by
  rw [bg_at h hn hd, s_X0_begin_C28, zSt_e, ab_0, Option.bind_some, if_pos rfl, wd1, if_neg (by omega), wd1, if_neg (by omega), h.2.1, wd1, if_neg (by omega), h.1, nI_1 n]
  rfl
theorem bg_2 {τ : ZSt} {n K : Nat} {b : Int32} (h : cA τ n b K) (hn : n < 24) {dp : Nat} (hd : dp < 30) (ff : Int32 → Int32 → Int32 → Int32 → ZSt → Option (Int32 × ZSt)) (fs : Int32 → Int32 → Int32 → ZSt → Option (Int32 × ZSt)) (x : Int32) : s_X0_begin ff fs (2 : Int32) (0 : Int32) x (nI dp) τ = (fs 1 x (nI dp + 1) (psh τ n 2)).bind fun r3 => (fs 2 1 (nI dp + 1) r3.2).bind fun r4 => some (r3.1 - r4.1, r4.2) := by
  rw [bg_at h hn hd, s_X0_begin_C28, zSt_e, ab_0, Option.bind_some, if_neg (by decide), if_pos rfl, wd1, if_neg (by omega), h.1, nI_1 n]
  rfl
theorem bg_10 {τ : ZSt} {n K : Nat} {b : Int32} (h : cA τ n b K) (hn : n < 24) {dp : Nat} (hd : dp < 30) (ff : Int32 → Int32 → Int32 → Int32 → ZSt → Option (Int32 × ZSt)) (fs : Int32 → Int32 → Int32 → ZSt → Option (Int32 × ZSt)) (x : Int32) : s_X0_begin ff fs (10 : Int32) (0 : Int32) x (nI dp) τ = (fs 0 x (nI dp + 1) (psh τ n 10)).bind fun r5 => some (r5.1 * 2, r5.2) := by
  rw [bg_at h hn hd, s_X0_begin_C28, zSt_e, ab_0, Option.bind_some, if_neg (by decide), if_neg (by decide), if_pos rfl, wd1, if_neg (by omega), h.1, nI_1 n]
  rfl
theorem bg_11 {τ : ZSt} {n K : Nat} {b : Int32} (h : cA τ n b K) (hn : n < 24) {dp : Nat} (hd : dp < 30) (ff : Int32 → Int32 → Int32 → Int32 → ZSt → Option (Int32 × ZSt)) (fs : Int32 → Int32 → Int32 → ZSt → Option (Int32 × ZSt)) (x : Int32) : s_X0_begin ff fs (11 : Int32) (0 : Int32) x (nI dp) τ = some (x ^^^ b, psh τ n 11) := by
  rw [bg_at h hn hd, s_X0_begin_C28, zSt_e, ab_0, Option.bind_some, if_neg (by decide), if_neg (by decide), if_neg (by decide), if_pos rfl, wd1, if_neg (by omega), wd1, if_neg (by omega), h.2.1, wd1, if_neg (by omega), h.1, nI_1 n]
  rfl
theorem bg_20 {τ : ZSt} {n K : Nat} {b : Int32} (h : cA τ n b K) (hn : n < 24) {dp : Nat} (hd : dp < 30) (ff : Int32 → Int32 → Int32 → Int32 → ZSt → Option (Int32 × ZSt)) (fs : Int32 → Int32 → Int32 → ZSt → Option (Int32 × ZSt)) (x : Int32) : s_X0_begin ff fs (20 : Int32) (1 : Int32) x (nI dp) τ = (ff (0 : Int32) 0 x (nI dp + 1) (psh τ n 20)).bind fun r6 => some (r6.1 + 3, r6.2) := by
  rw [bg_at h hn hd, s_X0_begin_C28, zSt_e, ab_1, Option.bind_some, if_neg (by decide), if_neg (by decide), if_neg (by decide), if_neg (by decide), if_pos rfl, wd1, if_neg (by omega), h.1, nI_1 n]
  rfl
theorem bg_30 {τ : ZSt} {n K : Nat} {b : Int32} (h : cA τ n b K) (hn : n < 24) {dp : Nat} (hd : dp < 30) (ff : Int32 → Int32 → Int32 → Int32 → ZSt → Option (Int32 × ZSt)) (fs : Int32 → Int32 → Int32 → ZSt → Option (Int32 × ZSt)) (x : Int32) : s_X0_begin ff fs (30 : Int32) (2 : Int32) x (nI dp) τ = (ff (0 : Int32) 1 x (nI dp + 1) (psh τ n 30)).bind fun r7 => some (-r7.1, r7.2) := by
  rw [bg_at h hn hd, s_X0_begin_C28, zSt_e, ab_2, Option.bind_some, if_neg (by decide), if_neg (by decide), if_neg (by decide), if_neg (by decide), if_neg (by decide), if_pos rfl, wd1, if_neg (by omega), h.1, nI_1 n]
  rfl
theorem bg_40 {τ : ZSt} {n K : Nat} {b : Int32} (h : cA τ n b K) (hn : n < 24) {dp : Nat} (hd : dp < 30) (ff : Int32 → Int32 → Int32 → Int32 → ZSt → Option (Int32 × ZSt)) (fs : Int32 → Int32 → Int32 → ZSt → Option (Int32 × ZSt)) (x : Int32) : s_X0_begin ff fs (40 : Int32) (3 : Int32) x (nI dp) τ = (ff (1 : Int32) 2 x (nI dp + 1) (psh τ n 40)).bind fun r8 => some (r8.1 * 3, r8.2) := by
  rw [bg_at h hn hd, s_X0_begin_C28, zSt_e, ab_3, Option.bind_some, if_neg (by decide), if_neg (by decide), if_neg (by decide), if_neg (by decide), if_neg (by decide), if_neg (by decide), if_pos rfl, wd1, if_neg (by omega), h.1, nI_1 n]
  rfl
theorem bg_41 {τ : ZSt} {n K : Nat} {b : Int32} (h : cA τ n b K) (hn : n < 24) {dp : Nat} (hd : dp < 30) (ff : Int32 → Int32 → Int32 → Int32 → ZSt → Option (Int32 × ZSt)) (fs : Int32 → Int32 → Int32 → ZSt → Option (Int32 × ZSt)) (x : Int32) : s_X0_begin ff fs (41 : Int32) (3 : Int32) x (nI dp) τ = (ff (1 : Int32) 0 (x + 1) (nI dp + 1) (psh τ n 41)).bind fun r9 => some (r9.1, r9.2) := by
  rw [bg_at h hn hd, s_X0_begin_C28, zSt_e, ab_3, Option.bind_some, if_neg (by decide), if_neg (by decide), if_neg (by decide), if_neg (by decide), if_neg (by decide), if_neg (by decide), if_neg (by decide), if_pos rfl, wd1, if_neg (by omega), h.1, nI_1 n]
  rfl
theorem bg_50 {τ : ZSt} {n K : Nat} {b : Int32} (h : cA τ n b K) (hn : n < 24) {dp : Nat} (hd : dp < 30) (ff : Int32 → Int32 → Int32 → Int32 → ZSt → Option (Int32 × ZSt)) (fs : Int32 → Int32 → Int32 → ZSt → Option (Int32 × ZSt)) (x : Int32) : s_X0_begin ff fs (50 : Int32) (4 : Int32) x (nI dp) τ = (ff (2 : Int32) 2 x (nI dp + 1) (psh τ n 50)).bind fun r10 => (fs 0 2 (nI dp + 1) r10.2).bind fun r11 => some (r10.1 - r11.1, r11.2) := by
  rw [bg_at h hn hd, s_X0_begin_C28, zSt_e, ab_4, Option.bind_some, if_neg (by decide), if_neg (by decide), if_neg (by decide), if_neg (by decide), if_neg (by decide), if_neg (by decide), if_neg (by decide), if_neg (by decide), if_pos rfl, wd1, if_neg (by omega), h.1, nI_1 n]
  rfl
theorem bg_60 {τ : ZSt} {n K : Nat} {b : Int32} (h : cA τ n b K) (hn : n < 24) {dp : Nat} (hd : dp < 30) (ff : Int32 → Int32 → Int32 → Int32 → ZSt → Option (Int32 × ZSt)) (fs : Int32 → Int32 → Int32 → ZSt → Option (Int32 × ZSt)) (x : Int32) : s_X0_begin ff fs (60 : Int32) (5 : Int32) x (nI dp) τ = (ff (0 : Int32) 3 x (nI dp + 1) (psh τ n 60)).bind fun r12 => some (r12.1 ^^^ 5, r12.2) := by
  rw [bg_at h hn hd, s_X0_begin_C28, zSt_e, ab_5, Option.bind_some, if_neg (by decide), if_neg (by decide), if_neg (by decide), if_neg (by decide), if_neg (by decide), if_neg (by decide), if_neg (by decide), if_neg (by decide), if_neg (by decide), if_pos rfl, wd1, if_neg (by omega), h.1, nI_1 n]
  rfl
theorem bg_70 {τ : ZSt} {n K : Nat} {b : Int32} (h : cA τ n b K) (hn : n < 24) {dp : Nat} (hd : dp < 30) (ff : Int32 → Int32 → Int32 → Int32 → ZSt → Option (Int32 × ZSt)) (fs : Int32 → Int32 → Int32 → ZSt → Option (Int32 × ZSt)) (x : Int32) : s_X0_begin ff fs (70 : Int32) (6 : Int32) x (nI dp) τ = (ff (0 : Int32) 0 x (nI dp + 1) (psh τ n 70)).bind fun r13 => some (r13.1 * 2, r13.2) := by
  rw [bg_at h hn hd, s_X0_begin_C28, zSt_e, ab_6, Option.bind_some, if_neg (by decide), if_neg (by decide), if_neg (by decide), if_neg (by decide), if_neg (by decide), if_neg (by decide), if_neg (by decide), if_neg (by decide), if_neg (by decide), if_neg (by decide), if_pos rfl, wd1, if_neg (by omega), h.1, nI_1 n]
  rfl
theorem bg_80 {τ : ZSt} {n K : Nat} {b : Int32} (h : cA τ n b K) (hn : n < 24) {dp : Nat} (hd : dp < 30) (ff : Int32 → Int32 → Int32 → Int32 → ZSt → Option (Int32 × ZSt)) (fs : Int32 → Int32 → Int32 → ZSt → Option (Int32 × ZSt)) (x : Int32) : s_X0_begin ff fs (80 : Int32) (7 : Int32) x (nI dp) τ = (ff (4 : Int32) 1 x (nI dp + 1) (psh τ n 80)).bind fun r14 => (fs 2 2 (nI dp + 1) r14.2).bind fun r15 => some (r14.1 + r15.1, r15.2) := by
  rw [bg_at h hn hd, s_X0_begin_C28, zSt_e, ab_7, Option.bind_some, if_neg (by decide), if_neg (by decide), if_neg (by decide), if_neg (by decide), if_neg (by decide), if_neg (by decide), if_neg (by decide), if_neg (by decide), if_neg (by decide), if_neg (by decide), if_neg (by decide), if_pos rfl, wd1, if_neg (by omega), h.1, nI_1 n]
  rfl
theorem bg_81 {τ : ZSt} {n K : Nat} {b : Int32} (h : cA τ n b K) (hn : n < 24) {dp : Nat} (hd : dp < 30) (ff : Int32 → Int32 → Int32 → Int32 → ZSt → Option (Int32 × ZSt)) (fs : Int32 → Int32 → Int32 → ZSt → Option (Int32 × ZSt)) (x : Int32) : s_X0_begin ff fs (81 : Int32) (7 : Int32) x (nI dp) τ = (ff (4 : Int32) 3 x (nI dp + 1) (psh τ n 81)).bind fun r16 => some (r16.1 - 1, r16.2) := by
  rw [bg_at h hn hd, s_X0_begin_C28, zSt_e, ab_7, Option.bind_some, if_neg (by decide), if_neg (by decide), if_neg (by decide), if_neg (by decide), if_neg (by decide), if_neg (by decide), if_neg (by decide), if_neg (by decide), if_neg (by decide), if_neg (by decide), if_neg (by decide), if_neg (by decide), if_pos rfl, wd1, if_neg (by omega), h.1, nI_1 n]
  rfl
/-- class and model come to v by the bodies T: act a of kind k, x; L at most so many bodies -/
def JA (L M : Nat) (a k : Int32) (K : Nat) (b x : Int32) (F : Nat → Int32 → Int32 → ZSt → Option (Int32 × ZSt)) (T : List Int32) (v : Int32) : Prop :=
  T.length ≤ L ∧ (∀ (d n dp : Nat) (τ : ZSt), cA τ n b K → n + L ≤ 24 → dp + L ≤ 30 → 4 * L ≤ d → rd_X0_from d k a x (nI dp) τ = some (v, pshC τ n T)) ∧ (∀ (d n : Nat) (τ : ZSt), mA τ n b K → n + L ≤ 24 → M ≤ d → F d k x τ = some (v, pshM τ n T))
theorem JA_mono {L L' M M' : Nat} {a k : Int32} {K : Nat} {b x : Int32} {F : Nat → Int32 → Int32 → ZSt → Option (Int32 × ZSt)} {T : List Int32} {v : Int32} (h : JA L M a k K b x F T v) (hl : L ≤ L') (hm : M ≤ M') : JA L' M' a k K b x F T v := ⟨Nat.le_trans h.1 hl, fun d n dp τ q1 q2 q3 q4 => h.2.1 d n dp τ q1 (by omega) (by omega) (by omega), fun d n τ q1 q2 q3 => h.2.2 d n τ q1 (by omega) (by omega)⟩
theorem JW0 (K : Nat) (hK : K < 8) (b x : Int32) : ∃ T v, JA 1 1 (0 : Int32) (0 : Int32) K b x rd_X10_waitsAs T v := by
  refine ⟨[1], x + b, ?_, ?_, ?_⟩
  · simp only [List.length_cons, List.length_append, List.length_nil]
    omega
  · intro d n dp τ h hn hdp hd
    obtain ⟨d', rfl⟩ : ∃ d', d = d' + 3 := ⟨d - 3, by omega⟩
    rw [rd_from, fr_0_0, rd_begin, bg_1 h (by omega) (by omega)]
    rfl
  · intro d n τ h hn hd
    obtain ⟨d', rfl⟩ : ∃ d', d = d' + 1 := ⟨d - 1, by omega⟩
    rw [rd_waits, s_X10_waitsAs, if_neg (by decide), if_neg (by decide), if_neg (by decide), begins_at h (by omega), Option.bind_some]
    rw [(mA_1 h 1).2.1]
    rfl
theorem JW2 (K : Nat) (hK : K < 8) (b x : Int32) : ∃ T v, JA 1 1 (0 : Int32) (2 : Int32) K b x rd_X10_waitsAs T v := by
  refine ⟨[1], x + b, ?_, ?_, ?_⟩
  · simp only [List.length_cons, List.length_append, List.length_nil]
    omega
  · intro d n dp τ h hn hdp hd
    obtain ⟨d', rfl⟩ : ∃ d', d = d' + 3 := ⟨d - 3, by omega⟩
    rw [rd_from, fr_2_0, rd_begin, bg_1 h (by omega) (by omega)]
    rfl
  · intro d n τ h hn hd
    obtain ⟨d', rfl⟩ : ∃ d', d = d' + 1 := ⟨d - 1, by omega⟩
    rw [rd_waits, s_X10_waitsAs, if_neg (by decide), if_neg (by decide), if_neg (by decide), begins_at h (by omega), Option.bind_some]
    rw [(mA_1 h 1).2.1]
    rfl
theorem JW4 (K : Nat) (hK : K < 8) (b x : Int32) : ∃ T v, JA 1 1 (0 : Int32) (4 : Int32) K b x rd_X10_waitsAs T v := by
  refine ⟨[1], x + b, ?_, ?_, ?_⟩
  · simp only [List.length_cons, List.length_append, List.length_nil]
    omega
  · intro d n dp τ h hn hdp hd
    obtain ⟨d', rfl⟩ : ∃ d', d = d' + 3 := ⟨d - 3, by omega⟩
    rw [rd_from, fr_4_0, rd_begin, bg_1 h (by omega) (by omega)]
    rfl
  · intro d n τ h hn hd
    obtain ⟨d', rfl⟩ : ∃ d', d = d' + 1 := ⟨d - 1, by omega⟩
    rw [rd_waits, s_X10_waitsAs, if_neg (by decide), if_neg (by decide), if_neg (by decide), begins_at h (by omega), Option.bind_some]
    rw [(mA_1 h 1).2.1]
    rfl
theorem JW5 (K : Nat) (hK : K < 8) (b x : Int32) : ∃ T v, JA 1 1 (0 : Int32) (5 : Int32) K b x rd_X10_waitsAs T v := by
  refine ⟨[1], x + b, ?_, ?_, ?_⟩
  · simp only [List.length_cons, List.length_append, List.length_nil]
    omega
  · intro d n dp τ h hn hdp hd
    obtain ⟨d', rfl⟩ : ∃ d', d = d' + 3 := ⟨d - 3, by omega⟩
    rw [rd_from, fr_5_0, rd_begin, bg_1 h (by omega) (by omega)]
    rfl
  · intro d n τ h hn hd
    obtain ⟨d', rfl⟩ : ∃ d', d = d' + 1 := ⟨d - 1, by omega⟩
    rw [rd_waits, s_X10_waitsAs, if_neg (by decide), if_neg (by decide), if_neg (by decide), begins_at h (by omega), Option.bind_some]
    rw [(mA_1 h 1).2.1]
    rfl
theorem JW7 (K : Nat) (hK : K < 8) (b x : Int32) : ∃ T v, JA 1 1 (0 : Int32) (7 : Int32) K b x rd_X10_waitsAs T v := by
  refine ⟨[1], x + b, ?_, ?_, ?_⟩
  · simp only [List.length_cons, List.length_append, List.length_nil]
    omega
  · intro d n dp τ h hn hdp hd
    obtain ⟨d', rfl⟩ : ∃ d', d = d' + 3 := ⟨d - 3, by omega⟩
    rw [rd_from, fr_7_0, rd_begin, bg_1 h (by omega) (by omega)]
    rfl
  · intro d n τ h hn hd
    obtain ⟨d', rfl⟩ : ∃ d', d = d' + 1 := ⟨d - 1, by omega⟩
    rw [rd_waits, s_X10_waitsAs, if_neg (by decide), if_neg (by decide), if_neg (by decide), begins_at h (by omega), Option.bind_some]
    rw [(mA_1 h 1).2.1]
    rfl
theorem JW1 (K : Nat) (hK : K < 8) (b x : Int32) : ∃ T v, JA 2 2 (0 : Int32) (1 : Int32) K b x rd_X10_waitsAs T v := by
  obtain ⟨T0, v0, l0, c0, m0⟩ := JW0 K hK b x
  refine ⟨(20 : Int32) :: T0, v0 + 3, ?_, ?_, ?_⟩
  · simp only [List.length_cons, List.length_append, List.length_nil]
    omega
  · intro d n dp τ h hn hdp hd
    obtain ⟨d', rfl⟩ : ∃ d', d = d' + 3 := ⟨d - 3, by omega⟩
    rw [rd_from, fr_1_0, rd_begin, bg_20 h (by omega) (by omega)]
    rw [nI_1, c0 (d' + 1) (n + 1) (dp + 1) _ (cA_1 h 20) (by omega) (by omega) (by omega)]
    rfl
  · intro d n τ h hn hd
    obtain ⟨d', rfl⟩ : ∃ d', d = d' + 1 := ⟨d - 1, by omega⟩
    rw [rd_waits, s_X10_waitsAs, if_neg (by decide), if_pos rfl, begins_at h (by omega), Option.bind_some]
    rw [m0 d' (n + 1) _ (mA_1 h 20) (by omega) (by omega)]
    rfl
theorem JW3 (K : Nat) (hK : K < 8) (b x : Int32) : ∃ T v, JA 3 3 (0 : Int32) (3 : Int32) K b x rd_X10_waitsAs T v := by
  obtain ⟨T0, v0, l0, c0, m0⟩ := JW1 K hK b (x + 1)
  refine ⟨(41 : Int32) :: T0, v0, ?_, ?_, ?_⟩
  · simp only [List.length_cons, List.length_append, List.length_nil]
    omega
  · intro d n dp τ h hn hdp hd
    obtain ⟨d', rfl⟩ : ∃ d', d = d' + 3 := ⟨d - 3, by omega⟩
    rw [rd_from, fr_3_0, rd_begin, bg_41 h (by omega) (by omega)]
    rw [nI_1, c0 (d' + 1) (n + 1) (dp + 1) _ (cA_1 h 41) (by omega) (by omega) (by omega)]
    rfl
  · intro d n τ h hn hd
    obtain ⟨d', rfl⟩ : ∃ d', d = d' + 1 := ⟨d - 1, by omega⟩
    rw [rd_waits, s_X10_waitsAs, if_pos rfl, begins_at h (by omega), Option.bind_some]
    rw [m0 d' (n + 1) _ (mA_1 h 41) (by omega) (by omega)]
    rfl
theorem JW6 (K : Nat) (hK : K < 8) (b x : Int32) : ∃ T v, JA 2 2 (0 : Int32) (6 : Int32) K b x rd_X10_waitsAs T v := by
  obtain ⟨T0, v0, l0, c0, m0⟩ := JW0 K hK b x
  refine ⟨(70 : Int32) :: T0, v0 * 2, ?_, ?_, ?_⟩
  · simp only [List.length_cons, List.length_append, List.length_nil]
    omega
  · intro d n dp τ h hn hdp hd
    obtain ⟨d', rfl⟩ : ∃ d', d = d' + 3 := ⟨d - 3, by omega⟩
    rw [rd_from, fr_6_0, rd_begin, bg_70 h (by omega) (by omega)]
    rw [nI_1, c0 (d' + 1) (n + 1) (dp + 1) _ (cA_1 h 70) (by omega) (by omega) (by omega)]
    rfl
  · intro d n τ h hn hd
    obtain ⟨d', rfl⟩ : ∃ d', d = d' + 1 := ⟨d - 1, by omega⟩
    rw [rd_waits, s_X10_waitsAs, if_neg (by decide), if_neg (by decide), if_pos rfl, begins_at h (by omega), Option.bind_some]
    rw [m0 d' (n + 1) _ (mA_1 h 70) (by omega) (by omega)]
    rfl
theorem JW (K : Nat) (hK : K < 8) (b x : Int32) : ∃ T v, JA 3 3 (0 : Int32) (nI K) K b x rd_X10_waitsAs T v := by
  rcases (show K = 0 ∨ K = 1 ∨ K = 2 ∨ K = 3 ∨ K = 4 ∨ K = 5 ∨ K = 6 ∨ K = 7 by omega) with rfl | rfl | rfl | rfl | rfl | rfl | rfl | rfl
  · obtain ⟨T, v, h⟩ := JW0 0 hK b x
    exact ⟨T, v, JA_mono h (by decide) (by decide)⟩
  · obtain ⟨T, v, h⟩ := JW1 1 hK b x
    exact ⟨T, v, JA_mono h (by decide) (by decide)⟩
  · obtain ⟨T, v, h⟩ := JW2 2 hK b x
    exact ⟨T, v, JA_mono h (by decide) (by decide)⟩
  · obtain ⟨T, v, h⟩ := JW3 3 hK b x
    exact ⟨T, v, JA_mono h (by decide) (by decide)⟩
  · obtain ⟨T, v, h⟩ := JW4 4 hK b x
    exact ⟨T, v, JA_mono h (by decide) (by decide)⟩
  · obtain ⟨T, v, h⟩ := JW5 5 hK b x
    exact ⟨T, v, JA_mono h (by decide) (by decide)⟩
  · obtain ⟨T, v, h⟩ := JW6 6 hK b x
    exact ⟨T, v, JA_mono h (by decide) (by decide)⟩
  · obtain ⟨T, v, h⟩ := JW7 7 hK b x
    exact ⟨T, v, JA_mono h (by decide) (by decide)⟩
theorem JH0 (K : Nat) (hK : K < 8) (b x : Int32) : ∃ T v, JA 1 1 (2 : Int32) (0 : Int32) K b x rd_X10_hearsAs T v := by
  refine ⟨[11], x ^^^ b, ?_, ?_, ?_⟩
  · simp only [List.length_cons, List.length_append, List.length_nil]
    omega
  · intro d n dp τ h hn hdp hd
    obtain ⟨d', rfl⟩ : ∃ d', d = d' + 3 := ⟨d - 3, by omega⟩
    rw [rd_from, fr_0_2, rd_begin, bg_11 h (by omega) (by omega)]
    rfl
  · intro d n τ h hn hd
    obtain ⟨d', rfl⟩ : ∃ d', d = d' + 1 := ⟨d - 1, by omega⟩
    rw [rd_hears, s_X10_hearsAs, if_neg (by decide), if_neg (by decide), if_neg (by decide), begins_at h (by omega), Option.bind_some]
    rw [(mA_1 h 11).2.1]
    rfl
theorem JH1 (K : Nat) (hK : K < 8) (b x : Int32) : ∃ T v, JA 1 1 (2 : Int32) (1 : Int32) K b x rd_X10_hearsAs T v := by
  refine ⟨[11], x ^^^ b, ?_, ?_, ?_⟩
  · simp only [List.length_cons, List.length_append, List.length_nil]
    omega
  · intro d n dp τ h hn hdp hd
    obtain ⟨d', rfl⟩ : ∃ d', d = d' + 3 := ⟨d - 3, by omega⟩
    rw [rd_from, fr_1_2, rd_begin, bg_11 h (by omega) (by omega)]
    rfl
  · intro d n τ h hn hd
    obtain ⟨d', rfl⟩ : ∃ d', d = d' + 1 := ⟨d - 1, by omega⟩
    rw [rd_hears, s_X10_hearsAs, if_neg (by decide), if_neg (by decide), if_neg (by decide), begins_at h (by omega), Option.bind_some]
    rw [(mA_1 h 11).2.1]
    rfl
theorem JH2 (K : Nat) (hK : K < 8) (b x : Int32) : ∃ T v, JA 1 1 (2 : Int32) (2 : Int32) K b x rd_X10_hearsAs T v := by
  refine ⟨[11], x ^^^ b, ?_, ?_, ?_⟩
  · simp only [List.length_cons, List.length_append, List.length_nil]
    omega
  · intro d n dp τ h hn hdp hd
    obtain ⟨d', rfl⟩ : ∃ d', d = d' + 3 := ⟨d - 3, by omega⟩
    rw [rd_from, fr_2_2, rd_begin, bg_11 h (by omega) (by omega)]
    rfl
  · intro d n τ h hn hd
    obtain ⟨d', rfl⟩ : ∃ d', d = d' + 1 := ⟨d - 1, by omega⟩
    rw [rd_hears, s_X10_hearsAs, if_neg (by decide), if_neg (by decide), if_neg (by decide), begins_at h (by omega), Option.bind_some]
    rw [(mA_1 h 11).2.1]
    rfl
theorem JH5 (K : Nat) (hK : K < 8) (b x : Int32) : ∃ T v, JA 1 1 (2 : Int32) (5 : Int32) K b x rd_X10_hearsAs T v := by
  refine ⟨[11], x ^^^ b, ?_, ?_, ?_⟩
  · simp only [List.length_cons, List.length_append, List.length_nil]
    omega
  · intro d n dp τ h hn hdp hd
    obtain ⟨d', rfl⟩ : ∃ d', d = d' + 3 := ⟨d - 3, by omega⟩
    rw [rd_from, fr_5_2, rd_begin, bg_11 h (by omega) (by omega)]
    rfl
  · intro d n τ h hn hd
    obtain ⟨d', rfl⟩ : ∃ d', d = d' + 1 := ⟨d - 1, by omega⟩
    rw [rd_hears, s_X10_hearsAs, if_neg (by decide), if_neg (by decide), if_neg (by decide), begins_at h (by omega), Option.bind_some]
    rw [(mA_1 h 11).2.1]
    rfl
theorem JH6 (K : Nat) (hK : K < 8) (b x : Int32) : ∃ T v, JA 1 1 (2 : Int32) (6 : Int32) K b x rd_X10_hearsAs T v := by
  refine ⟨[11], x ^^^ b, ?_, ?_, ?_⟩
  · simp only [List.length_cons, List.length_append, List.length_nil]
    omega
  · intro d n dp τ h hn hdp hd
    obtain ⟨d', rfl⟩ : ∃ d', d = d' + 3 := ⟨d - 3, by omega⟩
    rw [rd_from, fr_6_2, rd_begin, bg_11 h (by omega) (by omega)]
    rfl
  · intro d n τ h hn hd
    obtain ⟨d', rfl⟩ : ∃ d', d = d' + 1 := ⟨d - 1, by omega⟩
    rw [rd_hears, s_X10_hearsAs, if_neg (by decide), if_neg (by decide), if_neg (by decide), begins_at h (by omega), Option.bind_some]
    rw [(mA_1 h 11).2.1]
    rfl
theorem JH3 (K : Nat) (hK : K < 8) (b x : Int32) : ∃ T v, JA 2 2 (2 : Int32) (3 : Int32) K b x rd_X10_hearsAs T v := by
  obtain ⟨T0, v0, l0, c0, m0⟩ := JH1 K hK b x
  refine ⟨(40 : Int32) :: T0, v0 * 3, ?_, ?_, ?_⟩
  · simp only [List.length_cons, List.length_append, List.length_nil]
    omega
  · intro d n dp τ h hn hdp hd
    obtain ⟨d', rfl⟩ : ∃ d', d = d' + 3 := ⟨d - 3, by omega⟩
    rw [rd_from, fr_3_2, rd_begin, bg_40 h (by omega) (by omega)]
    rw [nI_1, c0 (d' + 1) (n + 1) (dp + 1) _ (cA_1 h 40) (by omega) (by omega) (by omega)]
    rfl
  · intro d n τ h hn hd
    obtain ⟨d', rfl⟩ : ∃ d', d = d' + 1 := ⟨d - 1, by omega⟩
    rw [rd_hears, s_X10_hearsAs, if_pos rfl, begins_at h (by omega), Option.bind_some]
    rw [m0 d' (n + 1) _ (mA_1 h 40) (by omega) (by omega)]
    rfl
theorem JH4 (K : Nat) (hK : K < 8) (b x : Int32) : ∃ T v, JA 5 2 (2 : Int32) (4 : Int32) K b x rd_X10_hearsAs T v := by
  obtain ⟨T0, v0, l0, c0, m0⟩ := JH2 K hK b x
  obtain ⟨T1, v1, l1, c1, m1⟩ := JW K hK b 2
  refine ⟨50 :: (T0 ++ T1), v0 - v1, ?_, ?_, ?_⟩
  · simp only [List.length_cons, List.length_append, List.length_nil]
    omega
  · intro d n dp τ h hn hdp hd
    obtain ⟨d', rfl⟩ : ∃ d', d = d' + 3 := ⟨d - 3, by omega⟩
    rw [rd_from, fr_4_2, rd_begin, bg_50 h (by omega) (by omega)]
    rw [nI_1, c0 (d' + 1) (n + 1) (dp + 1) _ (cA_1 h 50) (by omega) (by omega) (by omega), Option.bind_some]
    rw [self_at (cA_p (cA_1 h 50) T0) d' 0 2 (nI (dp + 1)) (c1 d' (n + 1 + T0.length) (dp + 1) _ (cA_p (cA_1 h 50) T0) (by omega) (by omega) (by omega))]
    show _ = some (_, pshC (psh τ n 50) (n + 1) (T0 ++ T1))
    rw [pshC_app]
    rfl
  · intro d n τ h hn hd
    obtain ⟨d', rfl⟩ : ∃ d', d = d' + 1 := ⟨d - 1, by omega⟩
    rw [rd_hears, s_X10_hearsAs, if_neg (by decide), if_pos rfl, s_X10_hearsAs_C31, begins_at h (by omega), Option.bind_some]
    rw [m0 d' (n + 1) _ (mA_1 h 50) (by omega) (by omega), Option.bind_some]
    dsimp only [r_X10_waitsAs, r_X10_hearsAs, r_X10_paysAs]
    rw [(mA_p (mA_1 h 50) T0).2.2, m1 16 (n + 1 + T0.length) _ (mA_p (mA_1 h 50) T0) (by omega) (by omega)]
    show _ = some (_, pshM (pshM1 τ n 50) (n + 1) (T0 ++ T1))
    rw [pshM_app]
    rfl
theorem JH7 (K : Nat) (hK : K < 8) (b x : Int32) : ∃ T v, JA 5 2 (2 : Int32) (7 : Int32) K b x rd_X10_hearsAs T v := by
  obtain ⟨T0, v0, l0, c0, m0⟩ := JH2 K hK b x
  obtain ⟨T1, v1, l1, c1, m1⟩ := JW K hK b 2
  refine ⟨50 :: (T0 ++ T1), v0 - v1, ?_, ?_, ?_⟩
  · simp only [List.length_cons, List.length_append, List.length_nil]
    omega
  · intro d n dp τ h hn hdp hd
    obtain ⟨d', rfl⟩ : ∃ d', d = d' + 3 := ⟨d - 3, by omega⟩
    rw [rd_from, fr_7_2, rd_begin, bg_50 h (by omega) (by omega)]
    rw [nI_1, c0 (d' + 1) (n + 1) (dp + 1) _ (cA_1 h 50) (by omega) (by omega) (by omega), Option.bind_some]
    rw [self_at (cA_p (cA_1 h 50) T0) d' 0 2 (nI (dp + 1)) (c1 d' (n + 1 + T0.length) (dp + 1) _ (cA_p (cA_1 h 50) T0) (by omega) (by omega) (by omega))]
    show _ = some (_, pshC (psh τ n 50) (n + 1) (T0 ++ T1))
    rw [pshC_app]
    rfl
  · intro d n τ h hn hd
    obtain ⟨d', rfl⟩ : ∃ d', d = d' + 1 := ⟨d - 1, by omega⟩
    rw [rd_hears, s_X10_hearsAs, if_neg (by decide), if_neg (by decide), if_pos rfl, s_X10_hearsAs_C31, begins_at h (by omega), Option.bind_some]
    rw [m0 d' (n + 1) _ (mA_1 h 50) (by omega) (by omega), Option.bind_some]
    dsimp only [r_X10_waitsAs, r_X10_hearsAs, r_X10_paysAs]
    rw [(mA_p (mA_1 h 50) T0).2.2, m1 16 (n + 1 + T0.length) _ (mA_p (mA_1 h 50) T0) (by omega) (by omega)]
    show _ = some (_, pshM (pshM1 τ n 50) (n + 1) (T0 ++ T1))
    rw [pshM_app]
    rfl
theorem JH (K : Nat) (hK : K < 8) (b x : Int32) : ∃ T v, JA 5 3 (2 : Int32) (nI K) K b x rd_X10_hearsAs T v := by
  rcases (show K = 0 ∨ K = 1 ∨ K = 2 ∨ K = 3 ∨ K = 4 ∨ K = 5 ∨ K = 6 ∨ K = 7 by omega) with rfl | rfl | rfl | rfl | rfl | rfl | rfl | rfl
  · obtain ⟨T, v, h⟩ := JH0 0 hK b x
    exact ⟨T, v, JA_mono h (by decide) (by decide)⟩
  · obtain ⟨T, v, h⟩ := JH1 1 hK b x
    exact ⟨T, v, JA_mono h (by decide) (by decide)⟩
  · obtain ⟨T, v, h⟩ := JH2 2 hK b x
    exact ⟨T, v, JA_mono h (by decide) (by decide)⟩
  · obtain ⟨T, v, h⟩ := JH3 3 hK b x
    exact ⟨T, v, JA_mono h (by decide) (by decide)⟩
  · obtain ⟨T, v, h⟩ := JH4 4 hK b x
    exact ⟨T, v, JA_mono h (by decide) (by decide)⟩
  · obtain ⟨T, v, h⟩ := JH5 5 hK b x
    exact ⟨T, v, JA_mono h (by decide) (by decide)⟩
  · obtain ⟨T, v, h⟩ := JH6 6 hK b x
    exact ⟨T, v, JA_mono h (by decide) (by decide)⟩
  · obtain ⟨T, v, h⟩ := JH7 7 hK b x
    exact ⟨T, v, JA_mono h (by decide) (by decide)⟩
theorem JP0 (K : Nat) (hK : K < 8) (b x : Int32) : ∃ T v, JA 4 1 (1 : Int32) (0 : Int32) K b x rd_X10_paysAs T v := by
  obtain ⟨T1, v1, l1, c1, m1⟩ := JW K hK b x
  refine ⟨10 :: T1, v1 * 2, ?_, ?_, ?_⟩
  · simp only [List.length_cons, List.length_append, List.length_nil]
    omega
  · intro d n dp τ h hn hdp hd
    obtain ⟨d', rfl⟩ : ∃ d', d = d' + 3 := ⟨d - 3, by omega⟩
    rw [rd_from, fr_0_1, rd_begin, bg_10 h (by omega) (by omega)]
    rw [nI_1, self_at (cA_1 h 10) d' 0 x (nI (dp + 1)) (c1 d' (n + 1) (dp + 1) _ (cA_1 h 10) (by omega) (by omega) (by omega))]
    rfl
  · intro d n τ h hn hd
    obtain ⟨d', rfl⟩ : ∃ d', d = d' + 1 := ⟨d - 1, by omega⟩
    rw [rd_pays, s_X10_paysAs, if_neg (by decide), if_neg (by decide), if_neg (by decide), begins_at h (by omega), Option.bind_some]
    dsimp only [r_X10_waitsAs, r_X10_hearsAs, r_X10_paysAs]
    rw [(mA_1 h 10).2.2, m1 16 (n + 1) _ (mA_1 h 10) (by omega) (by omega)]
    rfl
theorem JP1 (K : Nat) (hK : K < 8) (b x : Int32) : ∃ T v, JA 4 1 (1 : Int32) (1 : Int32) K b x rd_X10_paysAs T v := by
  obtain ⟨T1, v1, l1, c1, m1⟩ := JW K hK b x
  refine ⟨10 :: T1, v1 * 2, ?_, ?_, ?_⟩
  · simp only [List.length_cons, List.length_append, List.length_nil]
    omega
  · intro d n dp τ h hn hdp hd
    obtain ⟨d', rfl⟩ : ∃ d', d = d' + 3 := ⟨d - 3, by omega⟩
    rw [rd_from, fr_1_1, rd_begin, bg_10 h (by omega) (by omega)]
    rw [nI_1, self_at (cA_1 h 10) d' 0 x (nI (dp + 1)) (c1 d' (n + 1) (dp + 1) _ (cA_1 h 10) (by omega) (by omega) (by omega))]
    rfl
  · intro d n τ h hn hd
    obtain ⟨d', rfl⟩ : ∃ d', d = d' + 1 := ⟨d - 1, by omega⟩
    rw [rd_pays, s_X10_paysAs, if_neg (by decide), if_neg (by decide), if_neg (by decide), begins_at h (by omega), Option.bind_some]
    dsimp only [r_X10_waitsAs, r_X10_hearsAs, r_X10_paysAs]
    rw [(mA_1 h 10).2.2, m1 16 (n + 1) _ (mA_1 h 10) (by omega) (by omega)]
    rfl
theorem JP3 (K : Nat) (hK : K < 8) (b x : Int32) : ∃ T v, JA 4 1 (1 : Int32) (3 : Int32) K b x rd_X10_paysAs T v := by
  obtain ⟨T1, v1, l1, c1, m1⟩ := JW K hK b x
  refine ⟨10 :: T1, v1 * 2, ?_, ?_, ?_⟩
  · simp only [List.length_cons, List.length_append, List.length_nil]
    omega
  · intro d n dp τ h hn hdp hd
    obtain ⟨d', rfl⟩ : ∃ d', d = d' + 3 := ⟨d - 3, by omega⟩
    rw [rd_from, fr_3_1, rd_begin, bg_10 h (by omega) (by omega)]
    rw [nI_1, self_at (cA_1 h 10) d' 0 x (nI (dp + 1)) (c1 d' (n + 1) (dp + 1) _ (cA_1 h 10) (by omega) (by omega) (by omega))]
    rfl
  · intro d n τ h hn hd
    obtain ⟨d', rfl⟩ : ∃ d', d = d' + 1 := ⟨d - 1, by omega⟩
    rw [rd_pays, s_X10_paysAs, if_neg (by decide), if_neg (by decide), if_neg (by decide), begins_at h (by omega), Option.bind_some]
    dsimp only [r_X10_waitsAs, r_X10_hearsAs, r_X10_paysAs]
    rw [(mA_1 h 10).2.2, m1 16 (n + 1) _ (mA_1 h 10) (by omega) (by omega)]
    rfl
theorem JP5 (K : Nat) (hK : K < 8) (b x : Int32) : ∃ T v, JA 4 1 (1 : Int32) (5 : Int32) K b x rd_X10_paysAs T v := by
  obtain ⟨T1, v1, l1, c1, m1⟩ := JW K hK b x
  refine ⟨10 :: T1, v1 * 2, ?_, ?_, ?_⟩
  · simp only [List.length_cons, List.length_append, List.length_nil]
    omega
  · intro d n dp τ h hn hdp hd
    obtain ⟨d', rfl⟩ : ∃ d', d = d' + 3 := ⟨d - 3, by omega⟩
    rw [rd_from, fr_5_1, rd_begin, bg_10 h (by omega) (by omega)]
    rw [nI_1, self_at (cA_1 h 10) d' 0 x (nI (dp + 1)) (c1 d' (n + 1) (dp + 1) _ (cA_1 h 10) (by omega) (by omega) (by omega))]
    rfl
  · intro d n τ h hn hd
    obtain ⟨d', rfl⟩ : ∃ d', d = d' + 1 := ⟨d - 1, by omega⟩
    rw [rd_pays, s_X10_paysAs, if_neg (by decide), if_neg (by decide), if_neg (by decide), begins_at h (by omega), Option.bind_some]
    dsimp only [r_X10_waitsAs, r_X10_hearsAs, r_X10_paysAs]
    rw [(mA_1 h 10).2.2, m1 16 (n + 1) _ (mA_1 h 10) (by omega) (by omega)]
    rfl
theorem JP6 (K : Nat) (hK : K < 8) (b x : Int32) : ∃ T v, JA 4 1 (1 : Int32) (6 : Int32) K b x rd_X10_paysAs T v := by
  obtain ⟨T1, v1, l1, c1, m1⟩ := JW K hK b x
  refine ⟨10 :: T1, v1 * 2, ?_, ?_, ?_⟩
  · simp only [List.length_cons, List.length_append, List.length_nil]
    omega
  · intro d n dp τ h hn hdp hd
    obtain ⟨d', rfl⟩ : ∃ d', d = d' + 3 := ⟨d - 3, by omega⟩
    rw [rd_from, fr_6_1, rd_begin, bg_10 h (by omega) (by omega)]
    rw [nI_1, self_at (cA_1 h 10) d' 0 x (nI (dp + 1)) (c1 d' (n + 1) (dp + 1) _ (cA_1 h 10) (by omega) (by omega) (by omega))]
    rfl
  · intro d n τ h hn hd
    obtain ⟨d', rfl⟩ : ∃ d', d = d' + 1 := ⟨d - 1, by omega⟩
    rw [rd_pays, s_X10_paysAs, if_neg (by decide), if_neg (by decide), if_neg (by decide), begins_at h (by omega), Option.bind_some]
    dsimp only [r_X10_waitsAs, r_X10_hearsAs, r_X10_paysAs]
    rw [(mA_1 h 10).2.2, m1 16 (n + 1) _ (mA_1 h 10) (by omega) (by omega)]
    rfl
theorem JP2 (K : Nat) (hK : K < 8) (b x : Int32) : ∃ T v, JA 5 2 (1 : Int32) (2 : Int32) K b x rd_X10_paysAs T v := by
  obtain ⟨T0, v0, l0, c0, m0⟩ := JP0 K hK b x
  refine ⟨(30 : Int32) :: T0, -v0, ?_, ?_, ?_⟩
  · simp only [List.length_cons, List.length_append, List.length_nil]
    omega
  · intro d n dp τ h hn hdp hd
    obtain ⟨d', rfl⟩ : ∃ d', d = d' + 3 := ⟨d - 3, by omega⟩
    rw [rd_from, fr_2_1, rd_begin, bg_30 h (by omega) (by omega)]
    rw [nI_1, c0 (d' + 1) (n + 1) (dp + 1) _ (cA_1 h 30) (by omega) (by omega) (by omega)]
    rfl
  · intro d n τ h hn hd
    obtain ⟨d', rfl⟩ : ∃ d', d = d' + 1 := ⟨d - 1, by omega⟩
    rw [rd_pays, s_X10_paysAs, if_neg (by decide), if_pos rfl, begins_at h (by omega), Option.bind_some]
    rw [m0 d' (n + 1) _ (mA_1 h 30) (by omega) (by omega)]
    rfl
theorem JP4 (K : Nat) (hK : K < 8) (b x : Int32) : ∃ T v, JA 5 2 (1 : Int32) (4 : Int32) K b x rd_X10_paysAs T v := by
  obtain ⟨T0, v0, l0, c0, m0⟩ := JP0 K hK b x
  refine ⟨(30 : Int32) :: T0, -v0, ?_, ?_, ?_⟩
  · simp only [List.length_cons, List.length_append, List.length_nil]
    omega
  · intro d n dp τ h hn hdp hd
    obtain ⟨d', rfl⟩ : ∃ d', d = d' + 3 := ⟨d - 3, by omega⟩
    rw [rd_from, fr_4_1, rd_begin, bg_30 h (by omega) (by omega)]
    rw [nI_1, c0 (d' + 1) (n + 1) (dp + 1) _ (cA_1 h 30) (by omega) (by omega) (by omega)]
    rfl
  · intro d n τ h hn hd
    obtain ⟨d', rfl⟩ : ∃ d', d = d' + 1 := ⟨d - 1, by omega⟩
    rw [rd_pays, s_X10_paysAs, if_neg (by decide), if_neg (by decide), if_pos rfl, begins_at h (by omega), Option.bind_some]
    rw [m0 d' (n + 1) _ (mA_1 h 30) (by omega) (by omega)]
    rfl
theorem JP7 (K : Nat) (hK : K < 8) (b x : Int32) : ∃ T v, JA 11 3 (1 : Int32) (7 : Int32) K b x rd_X10_paysAs T v := by
  obtain ⟨T0, v0, l0, c0, m0⟩ := JP4 K hK b x
  obtain ⟨T1, v1, l1, c1, m1⟩ := JH K hK b 2
  refine ⟨80 :: (T0 ++ T1), v0 + v1, ?_, ?_, ?_⟩
  · simp only [List.length_cons, List.length_append, List.length_nil]
    omega
  · intro d n dp τ h hn hdp hd
    obtain ⟨d', rfl⟩ : ∃ d', d = d' + 3 := ⟨d - 3, by omega⟩
    rw [rd_from, fr_7_1, rd_begin, bg_80 h (by omega) (by omega)]
    rw [nI_1, c0 (d' + 1) (n + 1) (dp + 1) _ (cA_1 h 80) (by omega) (by omega) (by omega), Option.bind_some]
    rw [self_at (cA_p (cA_1 h 80) T0) d' 2 2 (nI (dp + 1)) (c1 d' (n + 1 + T0.length) (dp + 1) _ (cA_p (cA_1 h 80) T0) (by omega) (by omega) (by omega))]
    show _ = some (_, pshC (psh τ n 80) (n + 1) (T0 ++ T1))
    rw [pshC_app]
    rfl
  · intro d n τ h hn hd
    obtain ⟨d', rfl⟩ : ∃ d', d = d' + 1 := ⟨d - 1, by omega⟩
    rw [rd_pays, s_X10_paysAs, if_pos rfl, begins_at h (by omega), Option.bind_some]
    rw [m0 d' (n + 1) _ (mA_1 h 80) (by omega) (by omega), Option.bind_some]
    dsimp only [r_X10_waitsAs, r_X10_hearsAs, r_X10_paysAs]
    rw [(mA_p (mA_1 h 80) T0).2.2, m1 16 (n + 1 + T0.length) _ (mA_p (mA_1 h 80) T0) (by omega) (by omega)]
    show _ = some (_, pshM (pshM1 τ n 80) (n + 1) (T0 ++ T1))
    rw [pshM_app]
    rfl
theorem JP (K : Nat) (hK : K < 8) (b x : Int32) : ∃ T v, JA 11 3 (1 : Int32) (nI K) K b x rd_X10_paysAs T v := by
  rcases (show K = 0 ∨ K = 1 ∨ K = 2 ∨ K = 3 ∨ K = 4 ∨ K = 5 ∨ K = 6 ∨ K = 7 by omega) with rfl | rfl | rfl | rfl | rfl | rfl | rfl | rfl
  · obtain ⟨T, v, h⟩ := JP0 0 hK b x
    exact ⟨T, v, JA_mono h (by decide) (by decide)⟩
  · obtain ⟨T, v, h⟩ := JP1 1 hK b x
    exact ⟨T, v, JA_mono h (by decide) (by decide)⟩
  · obtain ⟨T, v, h⟩ := JP2 2 hK b x
    exact ⟨T, v, JA_mono h (by decide) (by decide)⟩
  · obtain ⟨T, v, h⟩ := JP3 3 hK b x
    exact ⟨T, v, JA_mono h (by decide) (by decide)⟩
  · obtain ⟨T, v, h⟩ := JP4 4 hK b x
    exact ⟨T, v, JA_mono h (by decide) (by decide)⟩
  · obtain ⟨T, v, h⟩ := JP5 5 hK b x
    exact ⟨T, v, JA_mono h (by decide) (by decide)⟩
  · obtain ⟨T, v, h⟩ := JP6 6 hK b x
    exact ⟨T, v, JA_mono h (by decide) (by decide)⟩
  · obtain ⟨T, v, h⟩ := JP7 7 hK b x
    exact ⟨T, v, JA_mono h (by decide) (by decide)⟩
theorem JT0 (K : Nat) (hK : K < 8) (b x : Int32) : ∃ T v, JA 17 1 (3 : Int32) (0 : Int32) K b x rd_X10_tellsAs T v := by
  obtain ⟨T0, v0, l0, c0, m0⟩ := JP K hK b x
  obtain ⟨T1, v1, l1, c1, m1⟩ := JH K hK b 1
  refine ⟨2 :: (T0 ++ T1), v0 - v1, ?_, ?_, ?_⟩
  · simp only [List.length_cons, List.length_append, List.length_nil]
    omega
  · intro d n dp τ h hn hdp hd
    obtain ⟨d', rfl⟩ : ∃ d', d = d' + 3 := ⟨d - 3, by omega⟩
    rw [rd_from, fr_0_3, rd_begin, bg_2 h (by omega) (by omega)]
    rw [nI_1, self_at (cA_1 h 2) d' 1 x (nI (dp + 1)) (c0 d' (n + 1) (dp + 1) _ (cA_1 h 2) (by omega) (by omega) (by omega)), Option.bind_some]
    rw [self_at (cA_p (cA_1 h 2) T0) d' 2 1 (nI (dp + 1)) (c1 d' (n + 1 + T0.length) (dp + 1) _ (cA_p (cA_1 h 2) T0) (by omega) (by omega) (by omega))]
    show _ = some (_, pshC (psh τ n 2) (n + 1) (T0 ++ T1))
    rw [pshC_app]
    rfl
  · intro d n τ h hn hd
    obtain ⟨d', rfl⟩ : ∃ d', d = d' + 1 := ⟨d - 1, by omega⟩
    rw [rd_tells, s_X10_tellsAs, if_neg (by decide), if_neg (by decide), begins_at h (by omega), Option.bind_some]
    dsimp only [r_X10_waitsAs, r_X10_hearsAs, r_X10_paysAs]
    rw [(mA_1 h 2).2.2, m0 16 (n + 1) _ (mA_1 h 2) (by omega) (by omega), Option.bind_some]
    dsimp only [r_X10_waitsAs, r_X10_hearsAs, r_X10_paysAs]
    rw [(mA_p (mA_1 h 2) T0).2.2, m1 16 (n + 1 + T0.length) _ (mA_p (mA_1 h 2) T0) (by omega) (by omega)]
    show _ = some (_, pshM (pshM1 τ n 2) (n + 1) (T0 ++ T1))
    rw [pshM_app]
    rfl
theorem JT1 (K : Nat) (hK : K < 8) (b x : Int32) : ∃ T v, JA 17 1 (3 : Int32) (1 : Int32) K b x rd_X10_tellsAs T v := by
  obtain ⟨T0, v0, l0, c0, m0⟩ := JP K hK b x
  obtain ⟨T1, v1, l1, c1, m1⟩ := JH K hK b 1
  refine ⟨2 :: (T0 ++ T1), v0 - v1, ?_, ?_, ?_⟩
  · simp only [List.length_cons, List.length_append, List.length_nil]
    omega
  · intro d n dp τ h hn hdp hd
    obtain ⟨d', rfl⟩ : ∃ d', d = d' + 3 := ⟨d - 3, by omega⟩
    rw [rd_from, fr_1_3, rd_begin, bg_2 h (by omega) (by omega)]
    rw [nI_1, self_at (cA_1 h 2) d' 1 x (nI (dp + 1)) (c0 d' (n + 1) (dp + 1) _ (cA_1 h 2) (by omega) (by omega) (by omega)), Option.bind_some]
    rw [self_at (cA_p (cA_1 h 2) T0) d' 2 1 (nI (dp + 1)) (c1 d' (n + 1 + T0.length) (dp + 1) _ (cA_p (cA_1 h 2) T0) (by omega) (by omega) (by omega))]
    show _ = some (_, pshC (psh τ n 2) (n + 1) (T0 ++ T1))
    rw [pshC_app]
    rfl
  · intro d n τ h hn hd
    obtain ⟨d', rfl⟩ : ∃ d', d = d' + 1 := ⟨d - 1, by omega⟩
    rw [rd_tells, s_X10_tellsAs, if_neg (by decide), if_neg (by decide), begins_at h (by omega), Option.bind_some]
    dsimp only [r_X10_waitsAs, r_X10_hearsAs, r_X10_paysAs]
    rw [(mA_1 h 2).2.2, m0 16 (n + 1) _ (mA_1 h 2) (by omega) (by omega), Option.bind_some]
    dsimp only [r_X10_waitsAs, r_X10_hearsAs, r_X10_paysAs]
    rw [(mA_p (mA_1 h 2) T0).2.2, m1 16 (n + 1 + T0.length) _ (mA_p (mA_1 h 2) T0) (by omega) (by omega)]
    show _ = some (_, pshM (pshM1 τ n 2) (n + 1) (T0 ++ T1))
    rw [pshM_app]
    rfl
theorem JT2 (K : Nat) (hK : K < 8) (b x : Int32) : ∃ T v, JA 17 1 (3 : Int32) (2 : Int32) K b x rd_X10_tellsAs T v := by
  obtain ⟨T0, v0, l0, c0, m0⟩ := JP K hK b x
  obtain ⟨T1, v1, l1, c1, m1⟩ := JH K hK b 1
  refine ⟨2 :: (T0 ++ T1), v0 - v1, ?_, ?_, ?_⟩
  · simp only [List.length_cons, List.length_append, List.length_nil]
    omega
  · intro d n dp τ h hn hdp hd
    obtain ⟨d', rfl⟩ : ∃ d', d = d' + 3 := ⟨d - 3, by omega⟩
    rw [rd_from, fr_2_3, rd_begin, bg_2 h (by omega) (by omega)]
    rw [nI_1, self_at (cA_1 h 2) d' 1 x (nI (dp + 1)) (c0 d' (n + 1) (dp + 1) _ (cA_1 h 2) (by omega) (by omega) (by omega)), Option.bind_some]
    rw [self_at (cA_p (cA_1 h 2) T0) d' 2 1 (nI (dp + 1)) (c1 d' (n + 1 + T0.length) (dp + 1) _ (cA_p (cA_1 h 2) T0) (by omega) (by omega) (by omega))]
    show _ = some (_, pshC (psh τ n 2) (n + 1) (T0 ++ T1))
    rw [pshC_app]
    rfl
  · intro d n τ h hn hd
    obtain ⟨d', rfl⟩ : ∃ d', d = d' + 1 := ⟨d - 1, by omega⟩
    rw [rd_tells, s_X10_tellsAs, if_neg (by decide), if_neg (by decide), begins_at h (by omega), Option.bind_some]
    dsimp only [r_X10_waitsAs, r_X10_hearsAs, r_X10_paysAs]
    rw [(mA_1 h 2).2.2, m0 16 (n + 1) _ (mA_1 h 2) (by omega) (by omega), Option.bind_some]
    dsimp only [r_X10_waitsAs, r_X10_hearsAs, r_X10_paysAs]
    rw [(mA_p (mA_1 h 2) T0).2.2, m1 16 (n + 1 + T0.length) _ (mA_p (mA_1 h 2) T0) (by omega) (by omega)]
    show _ = some (_, pshM (pshM1 τ n 2) (n + 1) (T0 ++ T1))
    rw [pshM_app]
    rfl
theorem JT3 (K : Nat) (hK : K < 8) (b x : Int32) : ∃ T v, JA 17 1 (3 : Int32) (3 : Int32) K b x rd_X10_tellsAs T v := by
  obtain ⟨T0, v0, l0, c0, m0⟩ := JP K hK b x
  obtain ⟨T1, v1, l1, c1, m1⟩ := JH K hK b 1
  refine ⟨2 :: (T0 ++ T1), v0 - v1, ?_, ?_, ?_⟩
  · simp only [List.length_cons, List.length_append, List.length_nil]
    omega
  · intro d n dp τ h hn hdp hd
    obtain ⟨d', rfl⟩ : ∃ d', d = d' + 3 := ⟨d - 3, by omega⟩
    rw [rd_from, fr_3_3, rd_begin, bg_2 h (by omega) (by omega)]
    rw [nI_1, self_at (cA_1 h 2) d' 1 x (nI (dp + 1)) (c0 d' (n + 1) (dp + 1) _ (cA_1 h 2) (by omega) (by omega) (by omega)), Option.bind_some]
    rw [self_at (cA_p (cA_1 h 2) T0) d' 2 1 (nI (dp + 1)) (c1 d' (n + 1 + T0.length) (dp + 1) _ (cA_p (cA_1 h 2) T0) (by omega) (by omega) (by omega))]
    show _ = some (_, pshC (psh τ n 2) (n + 1) (T0 ++ T1))
    rw [pshC_app]
    rfl
  · intro d n τ h hn hd
    obtain ⟨d', rfl⟩ : ∃ d', d = d' + 1 := ⟨d - 1, by omega⟩
    rw [rd_tells, s_X10_tellsAs, if_neg (by decide), if_neg (by decide), begins_at h (by omega), Option.bind_some]
    dsimp only [r_X10_waitsAs, r_X10_hearsAs, r_X10_paysAs]
    rw [(mA_1 h 2).2.2, m0 16 (n + 1) _ (mA_1 h 2) (by omega) (by omega), Option.bind_some]
    dsimp only [r_X10_waitsAs, r_X10_hearsAs, r_X10_paysAs]
    rw [(mA_p (mA_1 h 2) T0).2.2, m1 16 (n + 1 + T0.length) _ (mA_p (mA_1 h 2) T0) (by omega) (by omega)]
    show _ = some (_, pshM (pshM1 τ n 2) (n + 1) (T0 ++ T1))
    rw [pshM_app]
    rfl
theorem JT4 (K : Nat) (hK : K < 8) (b x : Int32) : ∃ T v, JA 17 1 (3 : Int32) (4 : Int32) K b x rd_X10_tellsAs T v := by
  obtain ⟨T0, v0, l0, c0, m0⟩ := JP K hK b x
  obtain ⟨T1, v1, l1, c1, m1⟩ := JH K hK b 1
  refine ⟨2 :: (T0 ++ T1), v0 - v1, ?_, ?_, ?_⟩
  · simp only [List.length_cons, List.length_append, List.length_nil]
    omega
  · intro d n dp τ h hn hdp hd
    obtain ⟨d', rfl⟩ : ∃ d', d = d' + 3 := ⟨d - 3, by omega⟩
    rw [rd_from, fr_4_3, rd_begin, bg_2 h (by omega) (by omega)]
    rw [nI_1, self_at (cA_1 h 2) d' 1 x (nI (dp + 1)) (c0 d' (n + 1) (dp + 1) _ (cA_1 h 2) (by omega) (by omega) (by omega)), Option.bind_some]
    rw [self_at (cA_p (cA_1 h 2) T0) d' 2 1 (nI (dp + 1)) (c1 d' (n + 1 + T0.length) (dp + 1) _ (cA_p (cA_1 h 2) T0) (by omega) (by omega) (by omega))]
    show _ = some (_, pshC (psh τ n 2) (n + 1) (T0 ++ T1))
    rw [pshC_app]
    rfl
  · intro d n τ h hn hd
    obtain ⟨d', rfl⟩ : ∃ d', d = d' + 1 := ⟨d - 1, by omega⟩
    rw [rd_tells, s_X10_tellsAs, if_neg (by decide), if_neg (by decide), begins_at h (by omega), Option.bind_some]
    dsimp only [r_X10_waitsAs, r_X10_hearsAs, r_X10_paysAs]
    rw [(mA_1 h 2).2.2, m0 16 (n + 1) _ (mA_1 h 2) (by omega) (by omega), Option.bind_some]
    dsimp only [r_X10_waitsAs, r_X10_hearsAs, r_X10_paysAs]
    rw [(mA_p (mA_1 h 2) T0).2.2, m1 16 (n + 1 + T0.length) _ (mA_p (mA_1 h 2) T0) (by omega) (by omega)]
    show _ = some (_, pshM (pshM1 τ n 2) (n + 1) (T0 ++ T1))
    rw [pshM_app]
    rfl
theorem JT6 (K : Nat) (hK : K < 8) (b x : Int32) : ∃ T v, JA 17 1 (3 : Int32) (6 : Int32) K b x rd_X10_tellsAs T v := by
  obtain ⟨T0, v0, l0, c0, m0⟩ := JP K hK b x
  obtain ⟨T1, v1, l1, c1, m1⟩ := JH K hK b 1
  refine ⟨2 :: (T0 ++ T1), v0 - v1, ?_, ?_, ?_⟩
  · simp only [List.length_cons, List.length_append, List.length_nil]
    omega
  · intro d n dp τ h hn hdp hd
    obtain ⟨d', rfl⟩ : ∃ d', d = d' + 3 := ⟨d - 3, by omega⟩
    rw [rd_from, fr_6_3, rd_begin, bg_2 h (by omega) (by omega)]
    rw [nI_1, self_at (cA_1 h 2) d' 1 x (nI (dp + 1)) (c0 d' (n + 1) (dp + 1) _ (cA_1 h 2) (by omega) (by omega) (by omega)), Option.bind_some]
    rw [self_at (cA_p (cA_1 h 2) T0) d' 2 1 (nI (dp + 1)) (c1 d' (n + 1 + T0.length) (dp + 1) _ (cA_p (cA_1 h 2) T0) (by omega) (by omega) (by omega))]
    show _ = some (_, pshC (psh τ n 2) (n + 1) (T0 ++ T1))
    rw [pshC_app]
    rfl
  · intro d n τ h hn hd
    obtain ⟨d', rfl⟩ : ∃ d', d = d' + 1 := ⟨d - 1, by omega⟩
    rw [rd_tells, s_X10_tellsAs, if_neg (by decide), if_neg (by decide), begins_at h (by omega), Option.bind_some]
    dsimp only [r_X10_waitsAs, r_X10_hearsAs, r_X10_paysAs]
    rw [(mA_1 h 2).2.2, m0 16 (n + 1) _ (mA_1 h 2) (by omega) (by omega), Option.bind_some]
    dsimp only [r_X10_waitsAs, r_X10_hearsAs, r_X10_paysAs]
    rw [(mA_p (mA_1 h 2) T0).2.2, m1 16 (n + 1 + T0.length) _ (mA_p (mA_1 h 2) T0) (by omega) (by omega)]
    show _ = some (_, pshM (pshM1 τ n 2) (n + 1) (T0 ++ T1))
    rw [pshM_app]
    rfl
theorem JT5 (K : Nat) (hK : K < 8) (b x : Int32) : ∃ T v, JA 18 2 (3 : Int32) (5 : Int32) K b x rd_X10_tellsAs T v := by
  obtain ⟨T0, v0, l0, c0, m0⟩ := JT0 K hK b x
  refine ⟨(60 : Int32) :: T0, v0 ^^^ 5, ?_, ?_, ?_⟩
  · simp only [List.length_cons, List.length_append, List.length_nil]
    omega
  · intro d n dp τ h hn hdp hd
    obtain ⟨d', rfl⟩ : ∃ d', d = d' + 3 := ⟨d - 3, by omega⟩
    rw [rd_from, fr_5_3, rd_begin, bg_60 h (by omega) (by omega)]
    rw [nI_1, c0 (d' + 1) (n + 1) (dp + 1) _ (cA_1 h 60) (by omega) (by omega) (by omega)]
    rfl
  · intro d n τ h hn hd
    obtain ⟨d', rfl⟩ : ∃ d', d = d' + 1 := ⟨d - 1, by omega⟩
    rw [rd_tells, s_X10_tellsAs, if_pos rfl, begins_at h (by omega), Option.bind_some]
    rw [m0 d' (n + 1) _ (mA_1 h 60) (by omega) (by omega)]
    rfl
theorem JT7 (K : Nat) (hK : K < 8) (b x : Int32) : ∃ T v, JA 18 2 (3 : Int32) (7 : Int32) K b x rd_X10_tellsAs T v := by
  obtain ⟨T0, v0, l0, c0, m0⟩ := JT4 K hK b x
  refine ⟨(81 : Int32) :: T0, v0 - 1, ?_, ?_, ?_⟩
  · simp only [List.length_cons, List.length_append, List.length_nil]
    omega
  · intro d n dp τ h hn hdp hd
    obtain ⟨d', rfl⟩ : ∃ d', d = d' + 3 := ⟨d - 3, by omega⟩
    rw [rd_from, fr_7_3, rd_begin, bg_81 h (by omega) (by omega)]
    rw [nI_1, c0 (d' + 1) (n + 1) (dp + 1) _ (cA_1 h 81) (by omega) (by omega) (by omega)]
    rfl
  · intro d n τ h hn hd
    obtain ⟨d', rfl⟩ : ∃ d', d = d' + 1 := ⟨d - 1, by omega⟩
    rw [rd_tells, s_X10_tellsAs, if_neg (by decide), if_pos rfl, begins_at h (by omega), Option.bind_some]
    rw [m0 d' (n + 1) _ (mA_1 h 81) (by omega) (by omega)]
    rfl
theorem JT (K : Nat) (hK : K < 8) (b x : Int32) : ∃ T v, JA 18 3 (3 : Int32) (nI K) K b x rd_X10_tellsAs T v := by
  rcases (show K = 0 ∨ K = 1 ∨ K = 2 ∨ K = 3 ∨ K = 4 ∨ K = 5 ∨ K = 6 ∨ K = 7 by omega) with rfl | rfl | rfl | rfl | rfl | rfl | rfl | rfl
  · obtain ⟨T, v, h⟩ := JT0 0 hK b x
    exact ⟨T, v, JA_mono h (by decide) (by decide)⟩
  · obtain ⟨T, v, h⟩ := JT1 1 hK b x
    exact ⟨T, v, JA_mono h (by decide) (by decide)⟩
  · obtain ⟨T, v, h⟩ := JT2 2 hK b x
    exact ⟨T, v, JA_mono h (by decide) (by decide)⟩
  · obtain ⟨T, v, h⟩ := JT3 3 hK b x
    exact ⟨T, v, JA_mono h (by decide) (by decide)⟩
  · obtain ⟨T, v, h⟩ := JT4 4 hK b x
    exact ⟨T, v, JA_mono h (by decide) (by decide)⟩
  · obtain ⟨T, v, h⟩ := JT5 5 hK b x
    exact ⟨T, v, JA_mono h (by decide) (by decide)⟩
  · obtain ⟨T, v, h⟩ := JT6 6 hK b x
    exact ⟨T, v, JA_mono h (by decide) (by decide)⟩
  · obtain ⟨T, v, h⟩ := JT7 7 hK b x
    exact ⟨T, v, JA_mono h (by decide) (by decide)⟩
/-- bodies, and what ran in the latest act -/
def rAc (bo : Nat) (σ : ZSt) : Prop := bo ≤ 50 ∧ (σ.1 48 2 = nI bo ∧ σ.1 68 39 = nI bo) ∧ (∀ i, i < bo → σ.1 49 i = σ.1 94 i ∧ ∃ k, k < 8 ∧ σ.1 49 i = nI k) ∧ ∃ n, n ≤ 24 ∧ (σ.1 48 3 = nI n ∧ σ.1 68 42 = nI n) ∧ ∀ i, i < n → σ.1 50 i = σ.1 95 i
def cAc : List (Nat × Nat) := [(48, 2), (48, 3), (49, 999), (50, 999), (68, 39), (68, 42), (94, 999), (95, 999)]
theorem rAc_at {bo : Nat} {σ σ' : ZSt} (e : ∀ c f, zHit cAc c f = true → σ'.1 c f = σ.1 c f ∧ σ'.2 c f = σ.2 c f) (h : rAc bo σ) : rAc bo σ' := by
  have e0 := (e 48 2 rfl).1
  have e1 := (e 48 3 rfl).1
  have e2 := (e 68 39 rfl).1
  have e3 := (e 68 42 rfl).1
  have a49 : ∀ f, σ'.1 49 f = σ.1 49 f := fun f => (e 49 f rfl).1
  have a50 : ∀ f, σ'.1 50 f = σ.1 50 f := fun f => (e 50 f rfl).1
  have a94 : ∀ f, σ'.1 94 f = σ.1 94 f := fun f => (e 94 f rfl).1
  have a95 : ∀ f, σ'.1 95 f = σ.1 95 f := fun f => (e 95 f rfl).1
  unfold rAc at *
  simp only [e0, e1, e2, e3, a49, a50, a94, a95]
  exact h
theorem i50 : (50 : Int32) = nI 50 := by decide
section ACTS
variable {bo : Nat} {σ : ZSt}
theorem cIsBody0 {σ : ZSt} (h0 : σ.1 48 2 = nI bo) (hs : bo ≤ 50) (x : Int32) : s_X0_isBody x σ = some (bI (0 ≤ x ∧ x < nI bo)) := by
  unfold s_X0_isBody
  rw [h0]
  by_cases h1 : x < 0
  · have : ¬ (0 ≤ x) := Int32.not_le.mpr h1
    simp [h1, this, bI]
  · have g0 : 0 ≤ x := Int32.not_lt.mp h1
    by_cases h2 : nI bo ≤ x
    · have : ¬ x < nI bo := Int32.not_lt.mpr h2
      simp [h1, h2, this, bI]
    · have g2 : x < nI bo := Int32.not_le.mp h2
      obtain ⟨k, hk, rfl⟩ := ofN (by omega) g0 g2
      have h3 : ¬ (50 : Int32) ≤ nI k := by
        rw [i50, nI_leI (by decide) (by omega)]
        omega
      simp [h1, h2, h3, g0, g2, bI]
theorem mIsBody0 {σ : ZSt} (h0 : σ.1 68 39 = nI bo) (hs : bo ≤ 50) (x : Int32) : s_X10_isBody x σ = some (bI (0 ≤ x ∧ x < nI bo)) := by
  unfold s_X10_isBody
  rw [h0, mIn (by omega)]
  simp only [Option.bind_some, bI_01, if_true]
theorem k_body (h : rAc bo σ) (a : Int32) : ∃ (r : Int32) (σ1 σ2 : ZSt) (bo' : Nat), s_X9_body a σ = some (r, σ1) ∧ s_X10_body a σ1 = some (r, σ2) ∧ bo ≤ bo' ∧ rAc bo' σ2 := by
  obtain ⟨hb, ⟨h1, h2⟩, hk, n, hn, ⟨h3, h4⟩, ht⟩ := id h
  unfold s_X9_body s_X10_body
  simp only [isW, mW32 a 0 7 (a' := 0) (b' := 7) (by decide) (by decide), Option.bind_some, bI_0]
  by_cases ha : 0 ≤ a ∧ a ≤ 7
  · have hnn : ¬ ¬ (0 ≤ a ∧ a ≤ 7) := fun q => q ha
    simp only [if_neg hnn]
    by_cases h6 : bo < 50
    · have hlt : nI bo < 50 := by rw [i50, nI_ltI (by omega) (by decide)]; exact h6
      have hne : ¬ nI bo = 50 := by rw [i50, nI_eq (by omega) (by decide)]; omega
      have hz := zIn_nI (a := bo) (n := 50) h6 (by decide)
      have hcl := nI_clamp (n := bo) (by omega)
      have b1 := inR_i (show inR a 0 7 from ha)
      rw [show (0 : Int32).toInt = 0 by decide, show (7 : Int32).toInt = 7 by decide] at b1
      obtain ⟨c, hc, rfl⟩ := ofI (x := a) (m := 7) (by omega) b1.2
      refine ⟨nI bo, zWD (zWD σ 49 bo (nI c)) 48 2 (nI (bo + 1)), zWD (zWD (zWD (zWD σ 49 bo (nI c)) 48 2 (nI (bo + 1))) 94 bo (nI c)) 68 39 (nI (bo + 1)), bo + 1, ?_, ?_, by omega, by omega, ⟨?_, ?_⟩, fun i hi => ?_, n, hn, ⟨?_, ?_⟩, fun i hi => ?_⟩
      · unfold s_X0_addBody
        rw [h1, if_pos hlt, zSg_t hz, hcl, zSt_e, wd1, if_neg (by omega), h1, nI_1]
        rfl
      · have e : (zWD (zWD σ 49 bo (nI c)) 48 2 (nI (bo + 1))).1 68 39 = nI bo := by rw [wd1, if_neg (by omega), wd1, if_neg (by omega), h2]
        have e2 : (zWD (zWD (zWD σ 49 bo (nI c)) 48 2 (nI (bo + 1))) 94 bo (nI c)).1 68 39 = nI bo := by rw [wd1, if_neg (by omega), e]
        rw [e, if_neg hne, zSg_t hz, hcl, zSt_e, e2, nI_1, wd1, if_pos ⟨rfl, rfl⟩, nI_pred]
      · rw [wd1, if_neg (by omega), wd1, if_neg (by omega), wd1, if_pos ⟨rfl, rfl⟩]
      · rw [wd1, if_pos ⟨rfl, rfl⟩]
      · by_cases hib : i = bo
        · subst hib
          refine ⟨?_, c, by omega, ?_⟩ <;> simp [wd1]
        · have := hk i (by omega)
          simpa [wd1, hib] using this
      · simp [wd1, h3]
      · simp [wd1, h4]
      · have := ht i hi
        simpa [wd1] using this
    · refine ⟨-3, σ, σ, bo, ?_, ?_, Nat.le_refl _, h⟩
      · have hlt : ¬ nI bo < 50 := by rw [i50, nI_ltI (by omega) (by decide)]; omega
        unfold s_X0_addBody
        rw [h1, if_neg hlt]
        rfl
      · have he : nI bo = 50 := by rw [i50, nI_eq (by omega) (by decide)]; omega
        rw [h2, if_pos he]
  · exact ⟨-1, σ, σ, bo, by simp only [if_pos ha], by simp only [if_pos ha], Nat.le_refl _, h⟩
theorem k_trace (h : rAc bo σ) (a : Int32) : ∃ r, s_X9_trace a σ = some r ∧ s_X10_trace a σ = some r := by
  obtain ⟨hb, ⟨h1, h2⟩, hk, n, hn, ⟨h3, h4⟩, ht⟩ := id h
  unfold s_X9_trace s_X0_traced s_X10_trace
  rw [h3, h4]
  by_cases c1 : a < 0
  · exact ⟨-1, by simp only [c1, if_true]; rfl, by simp only [c1, if_true]⟩
  · by_cases c2 : nI n ≤ a
    · exact ⟨-1, by simp only [c1, c2, if_true, if_false]; rfl, by simp only [c1, c2, if_true, if_false]⟩
    · obtain ⟨i, hi, rfl⟩ := ofN (by omega) (Int32.not_lt.mp c1) (Int32.not_le.mp c2)
      have c3 : ¬ (24 : Int32) ≤ nI i := by rw [show (24 : Int32) = nI 24 by decide, nI_leI (by decide) (by omega)]; omega
      refine ⟨σ.1 50 i, ?_, ?_⟩
      · rw [if_neg c1, if_neg c2, if_neg c3, zLd_t (zIn_nI (a := i) (n := 24) (by omega) (by decide)), nI_clamp (by omega)]
        rfl
      · rw [if_neg c1, if_neg c2, if_neg c3, zLd_t (zIn_nI (a := i) (n := 24) (by omega) (by decide)), nI_clamp (by omega), ht i hi]
theorem rAc_0 (h : rAc bo σ) : rAc bo (zWD (zWD σ 48 3 0) 68 42 0) := by
  obtain ⟨hb, ⟨h1, h2⟩, hk, n, hn, ⟨h3, h4⟩, ht⟩ := h
  refine ⟨hb, ⟨?_, ?_⟩, fun i hi => ?_, 0, by omega, ⟨?_, ?_⟩, fun i hi => absurd hi (Nat.not_lt_zero i)⟩
  · rw [wd1, if_neg (by omega), wd1, if_neg (by omega), h1]
  · rw [wd1, if_neg (by omega), wd1, if_neg (by omega), h2]
  · have := hk i hi
    simpa [wd1] using this
  · rw [wd1, if_neg (by omega), wd1, if_pos ⟨rfl, rfl⟩]; rfl
  · rw [wd1, if_pos ⟨rfl, rfl⟩]; rfl
/-- an act that ran: what both leave -/
theorem rAc_T (h : rAc bo σ) (x : Int32) (K : Nat) (T : List Int32) (hT : T.length ≤ 18) {σ1 : ZSt} (e1 : σ1 = pshC (zWD (zWD σ 48 3 0) 48 4 x) 0 T) : rAc bo (pshM (zWD (zWD (zWD σ1 68 42 0) 68 43 (nI K)) 68 44 x) 0 T) := by
  subst e1
  obtain ⟨hb, ⟨h1, h2⟩, hk, n, hn, ⟨h3, h4⟩, ht⟩ := h
  have c0 : (zWD (zWD σ 48 3 0) 48 4 x).1 48 3 = nI 0 := by rw [wd1, if_neg (by omega), wd1, if_pos ⟨rfl, rfl⟩]; rfl
  obtain ⟨a1, a2, a3⟩ := pshC_tr T (zWD (zWD σ 48 3 0) 48 4 x) 0 c0
  have m0 : (zWD (zWD (zWD (pshC (zWD (zWD σ 48 3 0) 48 4 x) 0 T) 68 42 0) 68 43 (nI K)) 68 44 x).1 68 42 = nI 0 := by rw [wd1, if_neg (by omega), wd1, if_neg (by omega), wd1, if_pos ⟨rfl, rfl⟩]; rfl
  obtain ⟨b1, b2, b3⟩ := pshM_tr T (zWD (zWD (zWD (pshC (zWD (zWD σ 48 3 0) 48 4 x) 0 T) 68 42 0) 68 43 (nI K)) 68 44 x) 0 m0
  have low : ∀ c f, ¬ c = 48 ∨ f = 2 → ¬ c = 50 → ¬ c = 95 → ¬ c = 68 ∨ f = 39 → (pshM (zWD (zWD (zWD (pshC (zWD (zWD σ 48 3 0) 48 4 x) 0 T) 68 42 0) 68 43 (nI K)) 68 44 x) 0 T).1 c f = σ.1 c f := fun c f q1 q2 q3 q4 => by
    rw [pshM_fr T _ 0 c f (by omega) q3, wd1, if_neg (by omega), wd1, if_neg (by omega), wd1, if_neg (by omega), pshC_fr T _ 0 c f (by omega) q2, wd1, if_neg (by omega), wd1, if_neg (by omega)]
  refine ⟨hb, ⟨?_, ?_⟩, fun i hi => ?_, 0 + T.length, by omega, ⟨?_, b1⟩, fun i hi => ?_⟩
  · rw [low 48 2 (by omega) (by omega) (by omega) (by omega), h1]
  · rw [low 68 39 (by omega) (by omega) (by omega) (by omega), h2]
  · rw [low 49 i (by omega) (by omega) (by omega) (by omega), low 94 i (by omega) (by omega) (by omega) (by omega)]
    exact hk i hi
  · rw [pshM_fr T _ 0 48 3 (by omega) (by omega), wd1, if_neg (by omega), wd1, if_neg (by omega), wd1, if_neg (by omega), a1]
  · have p1 := b3 i (by omega)
    have p2 := a3 i (by omega)
    rw [Nat.zero_add] at p1 p2
    rw [p1, pshM_fr T _ 0 50 i (by omega) (by omega), wd1, if_neg (by omega), wd1, if_neg (by omega), wd1, if_neg (by omega), p2]
theorem k_act (h : rAc bo σ) (a b x : Int32) : ∃ (r : Int32) (σ1 σ2 : ZSt), s_X9_act a b x σ = some (r, σ1) ∧ s_X10_act a b x σ1 = some (r, σ2) ∧ rAc bo σ2 := by
  obtain ⟨hb, ⟨h1, h2⟩, hk, n, hn, ⟨h3, h4⟩, ht⟩ := id h
  have z1 : (zWD σ 48 3 0).1 48 2 = nI bo := by rw [wd1, if_neg (by omega), h1]
  have zm : ∀ τ : ZSt, τ.1 68 39 = nI bo → (zWD τ 68 42 0).1 68 39 = nI bo := fun τ q => by rw [wd1, if_neg (by omega), q]
  unfold s_X9_act s_X0_run s_X10_act
  rw [zSt_e, cIsBody0 z1 hb, Option.bind_some, bI_n]
  by_cases ha : 0 ≤ a ∧ a < nI bo
  · have hna : ¬ ¬ (0 ≤ a ∧ a < nI bo) := fun q => q ha
    obtain ⟨i, hi, rfl⟩ := ofN (by omega) ha.1 ha.2
    obtain ⟨g1, K, hK, g2⟩ := hk i hi
    rw [if_neg hna, isW, Option.bind_some, bI_n]
    have mstart : ∀ τ : ZSt, τ.1 68 39 = nI bo → τ.1 94 i = nI K → ∀ (k : ZSt → Option (Int32 × ZSt)), (s_X10_isBody (nI i) (zWD τ 68 42 0)).bind (fun r2 => if r2 = 0 then some (0, zWD τ 68 42 0) else zLd (zIn (nI i) 50) ((zWD τ 68 42 0).1 94 (nI i).toNatClampNeg) fun v3 => zSt' (zWD (zWD τ 68 42 0) 68 43 v3) fun σ4 => zSt' (zWD σ4 68 44 (nI i)) k) = k (zWD (zWD (zWD τ 68 42 0) 68 43 (nI K)) 68 44 (nI i)) := fun τ q1 q2 k => by
      rw [mIsBody0 (zm τ q1) hb, Option.bind_some, bI_n, if_neg hna, zLd_t (zIn_nI (a := i) (n := 50) (by omega) (by decide)), nI_clamp (by omega), wd1, if_neg (by omega), q2, zSt_e, zSt_e]
    by_cases hbb : 0 ≤ b ∧ b ≤ 3
    · have hnb : ¬ ¬ (0 ≤ b ∧ b ≤ 3) := fun q => q hbb
      rw [if_neg hnb, zSt_e]
      have cs : cA (zWD (zWD σ 48 3 0) 48 4 (nI i)) 0 (nI i) K := by
        refine ⟨by rw [wd1, if_neg (by omega), wd1, if_pos ⟨rfl, rfl⟩]; rfl, by rw [wd1, if_pos ⟨rfl, rfl⟩], ?_⟩
        unfold s_X0_kindOf
        rw [cIsBody0 (bo := bo) (by rw [wd1, if_neg (by omega), z1]) hb, Option.bind_some, bI_n, if_neg hna, zLd_t (zIn_nI (a := i) (n := 50) (by omega) (by decide)), nI_clamp (by omega), wd1, if_neg (by omega), wd1, if_neg (by omega), g2]
      have fin : ∀ (T : List Int32) (v : Int32) (L M : Nat) (act : Int32) (F : Nat → Int32 → Int32 → ZSt → Option (Int32 × ZSt)), JA L M act (nI K) K (nI i) x F T v → L ≤ 18 → M ≤ 16 → ((r_X0_self act x 0 (zWD (zWD σ 48 3 0) 48 4 (nI i))).bind (fun r5 => some (r5.1, r5.2))).bind (fun r1 => some (r1.1, r1.2)) = some (v, pshC (zWD (zWD σ 48 3 0) 48 4 (nI i)) 0 T) ∧ (∀ τ, τ = pshC (zWD (zWD σ 48 3 0) 48 4 (nI i)) 0 T → τ.1 68 39 = nI bo ∧ τ.1 94 i = nI K ∧ mA (zWD (zWD (zWD τ 68 42 0) 68 43 (nI K)) 68 44 (nI i)) 0 (nI i) K ∧ F 16 (nI K) x (zWD (zWD (zWD τ 68 42 0) 68 43 (nI K)) 68 44 (nI i)) = some (v, pshM (zWD (zWD (zWD τ 68 42 0) 68 43 (nI K)) 68 44 (nI i)) 0 T) ∧ rAc bo (pshM (zWD (zWD (zWD τ 68 42 0) 68 43 (nI K)) 68 44 (nI i)) 0 T)) := by
        intro T v L M act F hJ hL hM
        obtain ⟨l, c, m⟩ := hJ
        refine ⟨?_, fun τ hτ => ?_⟩
        · have := self_at cs 99 act x (nI 0) (c 99 0 0 _ cs (by omega) (by omega) (by omega))
          rw [show r_X0_self act x 0 (zWD (zWD σ 48 3 0) 48 4 (nI i)) = _ from this]
          rfl
        · have t1 : τ.1 68 39 = nI bo := by rw [hτ, pshC_fr T _ 0 68 39 (by omega) (by omega), wd1, if_neg (by omega), wd1, if_neg (by omega), h2]
          have t2 : τ.1 94 i = nI K := by rw [hτ, pshC_fr T _ 0 94 i (by omega) (by omega), wd1, if_neg (by omega), wd1, if_neg (by omega), ← g1, g2]
          have ms : mA (zWD (zWD (zWD τ 68 42 0) 68 43 (nI K)) 68 44 (nI i)) 0 (nI i) K := ⟨by rw [wd1, if_neg (by omega), wd1, if_neg (by omega), wd1, if_pos ⟨rfl, rfl⟩]; rfl, by rw [wd1, if_pos ⟨rfl, rfl⟩], by rw [wd1, if_neg (by omega), wd1, if_pos ⟨rfl, rfl⟩]⟩
          exact ⟨t1, t2, ms, m 16 0 _ ms (by omega) hM, rAc_T h (nI i) K T (by omega) hτ⟩
      have b1 := inR_i (show inR b 0 3 from hbb)
      rw [show (0 : Int32).toInt = 0 by decide, show (3 : Int32).toInt = 3 by decide] at b1
      obtain ⟨c, hc, rfl⟩ := ofI (x := b) (m := 3) (by omega) b1.2
      rcases (show c = 0 ∨ c = 1 ∨ c = 2 ∨ c = 3 by omega) with rfl | rfl | rfl | rfl
      · obtain ⟨T, v, hJ⟩ := JW K hK (nI i) x
        obtain ⟨f1, f2⟩ := fin T v _ _ _ _ hJ (by decide) (by decide)
        obtain ⟨t1, t2, ms, f3, f4⟩ := f2 _ rfl
        refine ⟨v, _, _, f1, ?_, f4⟩
        rw [zSt_e, mstart _ t1 t2, ms.2.2, if_pos (by decide), show r_X10_waitsAs (nI K) x _ = _ from f3]
        rfl
      · obtain ⟨T, v, hJ⟩ := JP K hK (nI i) x
        obtain ⟨f1, f2⟩ := fin T v _ _ _ _ hJ (by decide) (by decide)
        obtain ⟨t1, t2, ms, f3, f4⟩ := f2 _ rfl
        refine ⟨v, _, _, f1, ?_, f4⟩
        rw [zSt_e, mstart _ t1 t2, ms.2.2, if_neg (by decide), if_pos (by decide), show r_X10_paysAs (nI K) x _ = _ from f3]
        rfl
      · obtain ⟨T, v, hJ⟩ := JH K hK (nI i) x
        obtain ⟨f1, f2⟩ := fin T v _ _ _ _ hJ (by decide) (by decide)
        obtain ⟨t1, t2, ms, f3, f4⟩ := f2 _ rfl
        refine ⟨v, _, _, f1, ?_, f4⟩
        rw [zSt_e, mstart _ t1 t2, ms.2.2, if_neg (by decide), if_neg (by decide), if_pos (by decide), show r_X10_hearsAs (nI K) x _ = _ from f3]
        rfl
      · obtain ⟨T, v, hJ⟩ := JT K hK (nI i) x
        obtain ⟨f1, f2⟩ := fin T v _ _ _ _ hJ (by decide) (by decide)
        obtain ⟨t1, t2, ms, f3, f4⟩ := f2 _ rfl
        refine ⟨v, _, _, f1, ?_, f4⟩
        rw [zSt_e, mstart _ t1 t2, ms.2.2, if_neg (by decide), if_neg (by decide), if_neg (by decide), if_pos (by decide), show r_X10_tellsAs (nI K) x _ = _ from f3]
        rfl
    · refine ⟨0, zWD σ 48 3 0, zWD (zWD (zWD (zWD σ 48 3 0) 68 42 0) 68 43 (nI K)) 68 44 (nI i), ?_, ?_, ?_⟩
      · rw [if_pos hbb]
        rfl
      · rw [zSt_e, mstart (zWD σ 48 3 0) (by rw [wd1, if_neg (by omega), h2]) (by rw [wd1, if_neg (by omega), ← g1, g2])]
        have e : ∀ c : Nat, c ≤ 3 → ¬ b = nI c := fun c hc q => hbb (by
          subst q
          have := inR_nI (k := c) (a := 0) (b := 3) (by omega) hc (by decide)
          exact this)
        rw [if_neg (show ¬ b = (0 : Int32) from e 0 (by omega)), if_neg (show ¬ b = (1 : Int32) from e 1 (by omega)), if_neg (show ¬ b = (2 : Int32) from e 2 (by omega)), if_neg (show ¬ b = (3 : Int32) from e 3 (by omega))]
      · refine rAc_at (fun c f q => ?_) (rAc_0 h)
        have n1 : ¬ (c = 68 ∧ f = 43) := by rintro ⟨rfl, rfl⟩; exact absurd q (by decide)
        have n2 : ¬ (c = 68 ∧ f = 44) := by rintro ⟨rfl, rfl⟩; exact absurd q (by decide)
        exact ⟨by rw [wd1, if_neg n2, wd1, if_neg n1], rfl⟩
  · refine ⟨0, zWD σ 48 3 0, zWD (zWD σ 48 3 0) 68 42 0, ?_, ?_, rAc_0 h⟩
    · rw [if_pos ha]
      rfl
    · rw [zSt_e, mIsBody0 (zm _ (by rw [wd1, if_neg (by omega), h2])) hb, Option.bind_some, bI_n, if_pos ha]
end ACTS
