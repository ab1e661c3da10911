/-! THE LAW: the call, and what it is worth -/
def lSem (B : Nat → Int32) (N : Nat) (code : List Int32) : Prop := ∀ τ : ZSt, (∀ i, i < N → τ.1 83 i = B i) → ∃ τ', s_X10_workOut 0 (nI N) τ = some ((wrun (τ.1 84) code (none, true, [])).1.getD 0, τ') ∧ τ'.2 = τ.2 ∧ ∀ c f, ¬ (c = 68 ∧ 22 ≤ f ∧ f ≤ 26) → τ'.1 c f = τ.1 c f
def lawIs (σ : ZSt) (tl : Nat) (code : List Int32) : Prop := σ.1 tl 2 = nI code.length ∧ code.length ≤ 121 ∧ (∀ i, i < code.length → σ.1 (tl + 1) i = code.getD i 0) ∧ ((code = [] ∧ σ.1 68 21 = -1) ∨ (1 ≤ code.length ∧ ∃ N, N ≤ 120 ∧ σ.1 68 21 = nI N ∧ lSem (σ.1 83) N code))
def rLaw (σ : ZSt) : Prop := ∃ tl tt : Nat, ((tl = 62 ∧ tt = 65) ∨ (tl = 65 ∧ tt = 62)) ∧ σ.1 0 9 = nI tl ∧ σ.1 0 10 = nI tt ∧ ∃ code, lawIs σ tl code
def cLaw : List (Nat × Nat) := [(0, 9), (0, 10), (62, 2), (63, 999), (65, 2), (66, 999), (68, 21), (83, 999)]
theorem lawIs_at {σ σ' : ZSt} {tl : Nat} (ht : tl = 62 ∨ tl = 65) {code : List Int32} (e2 : σ'.1 tl 2 = σ.1 tl 2) (e3 : ∀ f, σ'.1 (tl + 1) f = σ.1 (tl + 1) f) (e21 : σ'.1 68 21 = σ.1 68 21) (e83 : ∀ f, σ'.1 83 f = σ.1 83 f) (h : lawIs σ tl code) : lawIs σ' tl code := by
  have e83' : σ'.1 83 = σ.1 83 := funext e83
  unfold lawIs at *
  rw [e2, e21, e83']
  simp only [e3]
  exact h
theorem rLaw_at {σ σ' : ZSt} (e : ∀ c f, zHit cLaw c f = true → σ'.1 c f = σ.1 c f ∧ σ'.2 c f = σ.2 c f) (h : rLaw σ) : rLaw σ' := by
  obtain ⟨tl, tt, ht, h9, h10, code, hl⟩ := h
  refine ⟨tl, tt, ht, by rw [(e 0 9 rfl).1, h9], by rw [(e 0 10 rfl).1, h10], code, ?_⟩
  rcases ht with ⟨rfl, rfl⟩ | ⟨rfl, rfl⟩
  · exact lawIs_at (Or.inl rfl) (e 62 2 rfl).1 (fun f => (e 63 f rfl).1) (e 68 21 rfl).1 (fun f => (e 83 f rfl).1) hl
  · exact lawIs_at (Or.inr rfl) (e 65 2 rfl).1 (fun f => (e 66 f rfl).1) (e 68 21 rfl).1 (fun f => (e 83 f rfl).1) hl
theorem wo_at (p0 p1 : Int32) (σ : ZSt) : s_X10_workOut p0 p1 σ = s_X10_workOut_L33 200 0 0 1 (mS (zWD (zWD σ 68 22 p0) 68 24 p1) (nI 0) 0 (-1)) := by
  unfold s_X10_workOut
  rw [zSt_e, zSt_e, zSt_e, zSt_e, zSt_e]
  refine congrArg _ (Prod.ext (funext fun c => funext fun e => ?_) rfl)
  show (if c = 68 ∧ e = 26 then (0 : Int32) else if c = 68 ∧ e = 25 then -1 else if c = 68 ∧ e = 24 then p1 else if c = 68 ∧ e = 23 then 0 else if c = 68 ∧ e = 22 then p0 else σ.1 c e) = (if c = 68 ∧ e = 23 then nI 0 else if c = 68 ∧ e = 25 then -1 else if c = 68 ∧ e = 26 then 0 else if c = 68 ∧ e = 24 then p1 else if c = 68 ∧ e = 22 then p0 else σ.1 c e)
  by_cases q1 : c = 68 ∧ e = 26
  · rw [if_pos q1, if_neg (by omega), if_neg (by omega), if_pos q1]
  · by_cases q2 : c = 68 ∧ e = 25
    · rw [if_neg q1, if_pos q2, if_neg (by omega), if_pos q2]
    · by_cases q3 : c = 68 ∧ e = 24
      · rw [if_neg q1, if_neg q2, if_pos q3, if_neg (by omega), if_neg q2, if_neg q1, if_pos q3]
      · by_cases q4 : c = 68 ∧ e = 23
        · rw [if_neg q1, if_neg q2, if_neg q3, if_pos q4, if_pos q4]
          rfl
        · rw [if_neg q1, if_neg q2, if_neg q3, if_neg q4, if_neg q4, if_neg q2, if_neg q1, if_neg q3]
theorem m_law_L {m : Nat} (hm : m ≤ 120) : ∀ (n i : Nat) (τ : ZSt), m < n + i → i ≤ m → ∃ τ', s_X10_law_L37 (nI m) n (nI i) τ = some (1, τ') ∧ τ'.1 68 21 = nI m ∧ (∀ j, i ≤ j → j < m → τ'.1 83 j = τ.1 82 j) ∧ (∀ c f, ¬ (c = 68 ∧ f = 21) → ¬ (c = 83 ∧ i ≤ f ∧ f < m) → τ'.1 c f = τ.1 c f) := by
  intro n
  induction n with
  | zero => intro i τ h1 h2; omega
  | succ n ih =>
    intro i τ h1 h2
    have e5 : (nI m ≤ nI i) = (m ≤ i) := nI_le_n (by omega) (by omega)
    by_cases hi : m ≤ i
    · refine ⟨zWD τ 68 21 (nI m), ?_, by rw [wd1, if_pos ⟨rfl, rfl⟩], fun j q1 q2 => by omega, fun c f q1 q2 => by rw [wd1, if_neg q1]⟩
      rw [s_X10_law_L37, if_pos (by rw [e5]; exact hi), s_X10_law_C60, zSt_e]
    · obtain ⟨τ', s1, s2, s3, s4⟩ := ih (i + 1) (zWD τ 83 i (τ.1 82 i)) (by omega) (by omega)
      refine ⟨τ', ?_, s2, fun j q1 q2 => ?_, fun c f q1 q2 => ?_⟩
      · rw [s_X10_law_L37, if_neg (by rw [e5]; exact hi), zLd_t (zIn_nI (by omega) (by decide)), nI_clamp (by omega), zSg_t (zIn_nI (by omega) (by decide)), nI_1, s1]
      · by_cases e : j = i
        · subst e
          rw [s4 83 j (by omega) (by omega), wd1, if_pos ⟨rfl, rfl⟩]
        · rw [s3 j (by omega) q2, wd1, if_neg (by omega)]
      · rw [s4 c f q1 (by omega), wd1, if_neg (by omega)]
theorem dynN {x : Int32} {k : Nat} (h : x = nI k) (hk : k = 62 ∨ k = 65) : zDyn x = some k := by
  subst h
  rcases hk with rfl | rfl <;> decide
theorem k_law {σ : ZSt} (hL : rLaw σ) (hF : rFd σ) : ∃ (r : Int32) (σ1 σ2 : ZSt), s_X9_law σ = some (r, σ1) ∧ s_X10_law σ1 = some (r, σ2) ∧ rLaw σ2 ∧ rFd σ2 := by
  obtain ⟨tl, tt, ht, h9, h10, code0, hl⟩ := hL
  obtain ⟨m, hm, ⟨f1, f2⟩, hB0⟩ := hF
  have ht1 : tl = 62 ∨ tl = 65 := by omega
  have ht2 : tt = 62 ∨ tt = 65 := by omega
  have HS : hS (σ.1 47) m (zWD σ 46 3 (nI tt)) tt := ⟨hm, ht2, by rw [wd1, if_neg (by omega), f1], by rw [wd1, if_pos ⟨rfl, rfl⟩], fun i hi => ⟨by rw [wd1, if_neg (by omega)], (hB0 i hi).2⟩⟩
  obtain ⟨ok, a', code, ⟨b1, b2, b3⟩, C, M⟩ := text HS
  have start : zWD (zWD (zWD σ 46 3 (nI tt)) tt 2 0) 46 2 0 = kS (zWD σ 46 3 (nI tt)) tt [] 0 := by
    refine Prod.ext (funext fun c => funext fun e => ?_) rfl
    show (if c = 46 ∧ e = 2 then (0 : Int32) else if c = tt ∧ e = 2 then 0 else (zWD σ 46 3 (nI tt)).1 c e) = (if c = 46 ∧ e = 2 then nI 0 else if c = tt ∧ e = 2 then nI 0 else if c = tt + 1 ∧ e < 0 then _ else (zWD σ 46 3 (nI tt)).1 c e)
    rw [if_neg (show ¬ (c = tt + 1 ∧ e < 0) by omega)]
    rfl
  have rd : s_X3_read tt σ = some (if ok = true then -1 else nI a', zWD (kS (zWD σ 46 3 (nI tt)) tt code a') 46 1 0) := by
    unfold s_X3_read s_X4_clearSteps
    show (zDyn ((zWD σ 46 3 (nI tt)).1 46 3)).bind _ = _
    rw [dynN (k := tt) (by rw [wd1, if_pos ⟨rfl, rfl⟩]) ht2, Option.bind_some, zSt_e, Option.bind_some, zSt_e]
    show ((s_X3_readLine (zWD (zWD (zWD σ 46 3 (nI tt)) tt 2 0) 46 2 0)).bind fun r5 => s_X3_read_L24 tt 200 r5.1 1 r5.2) = _
    rw [start]
    exact C
  -- what the class leaves where it did not write
  have kx : ∀ c f, ¬ c = 46 → ¬ (c = tt ∧ f = 2) → ¬ c = tt + 1 → (zWD (kS (zWD σ 46 3 (nI tt)) tt code a') 46 1 0).1 c f = σ.1 c f := fun c f q1 q2 q3 => by
    rw [wd1, if_neg (by omega)]
    show (if c = 46 ∧ f = 2 then nI a' else if c = tt ∧ f = 2 then nI code.length else if c = tt + 1 ∧ f < code.length then code.getD f 0 else (zWD σ 46 3 (nI tt)).1 c f) = _
    rw [if_neg (by omega), if_neg q2, if_neg (by omega), wd1, if_neg (by omega)]
  have k46 : (zWD (kS (zWD σ 46 3 (nI tt)) tt code a') 46 1 0).1 46 1 = nI 0 := by rw [wd1, if_pos ⟨rfl, rfl⟩]; rfl
  have klen : (zWD (kS (zWD σ 46 3 (nI tt)) tt code a') 46 1 0).1 tt 2 = nI code.length := by
    rw [wd1, if_neg (by omega), kS_len HS]
  have kst : ∀ i, i < code.length → (zWD (kS (zWD σ 46 3 (nI tt)) tt code a') 46 1 0).1 (tt + 1) i = code.getD i 0 := fun i hi => by
    rw [wd1, if_neg (by omega)]
    show (if tt + 1 = 46 ∧ i = 2 then nI a' else if tt + 1 = tt ∧ i = 2 then nI code.length else if tt + 1 = tt + 1 ∧ i < code.length then code.getD i 0 else _) = _
    rw [if_neg (by omega), if_neg (by omega), if_pos ⟨rfl, hi⟩]
  generalize zWD (kS (zWD σ 46 3 (nI tt)) tt code a') 46 1 0 = κ at *
  unfold s_X9_law
  rw [dynN h10 ht2, Option.bind_some, rd, Option.bind_some]
  -- the model, at any state that holds the tape
  have mod : ∀ κ' : ZSt, (∀ c f, ¬ c = 46 → ¬ c = 0 → ¬ (c = tt ∧ f = 2) → ¬ c = tt + 1 → κ'.1 c f = σ.1 c f) → ∃ v a'' y, s_X10_workOut (-1) (κ'.1 68 19) κ' = some (v, if ok = true then mS (zWD (zWD κ' 68 22 (-1)) 68 24 (nI m)) a'' 0 (-1) else mS (zWD (zWD κ' 68 22 (-1)) 68 24 (nI m)) (nI a') y (nI a')) := fun κ' hκ => by
    have hb : hB (σ.1 47) m (zWD (zWD κ' 68 22 (-1)) 68 24 (nI m)) := ⟨by rw [wd1, if_pos ⟨rfl, rfl⟩], Or.inl ⟨by rw [wd1, if_neg (by omega), wd1, if_pos ⟨rfl, rfl⟩], fun i hi => by rw [wd1, if_neg (by omega), wd1, if_neg (by omega), hκ 82 i (by omega) (by omega) (by omega) (by omega), (hB0 i hi).1]⟩⟩
    obtain ⟨v, a'', y, e, -⟩ := M _ hb
    refine ⟨v, a'', y, ?_⟩
    rw [hκ 68 19 (by omega) (by omega) (by omega) (by omega), f2, wo_at]
    exact e
  cases ok with
  | true =>
    have b4 := b3 rfl
    rw [if_pos (show (if true = true then (-1 : Int32) else nI a') = -1 by rw [if_pos rfl]), dynN (show κ.1 0 9 = nI tl by rw [kx 0 9 (by omega) (by omega) (by omega), h9]) ht1, Option.bind_some, dynN (show κ.1 0 10 = nI tt by rw [kx 0 10 (by omega) (by omega) (by omega), h10]) ht2, Option.bind_some, zSt_e, zSt_e]
    have hκ : ∀ c f, ¬ c = 46 → ¬ c = 0 → ¬ (c = tt ∧ f = 2) → ¬ c = tt + 1 → (zWD (zWD κ 0 9 (nI tt)) 0 10 (nI tl)).1 c f = σ.1 c f := fun c f q1 q0 q2 q3 => by
      rw [wd1, if_neg (by omega), wd1, if_neg (by omega), kx c f q1 q2 q3]
    obtain ⟨v, a'', y, e⟩ := mod (zWD (zWD κ 0 9 (nI tt)) 0 10 (nI tl)) hκ
    rw [if_pos rfl] at e
    generalize hσ1 : zWD (zWD κ 0 9 (nI tt)) 0 10 (nI tl) = σ1 at *
    obtain ⟨τ', t1, t2, t3, t4⟩ := m_law_L hm 200 0 (zWD (mS (zWD (zWD σ1 68 22 (-1)) 68 24 (nI m)) a'' 0 (-1)) 68 19 0) (by omega) (by omega)
    have u : ∀ c f, ¬ c = 68 → ¬ c = 83 → τ'.1 c f = σ1.1 c f := fun c f q1 q2 => by
      rw [t4 c f (by omega) (by omega), wd1, if_neg (by omega), mS_x _ _ _ _ c f (by omega), wd1, if_neg (by omega), wd1, if_neg (by omega)]
    have u83 : ∀ i, i < m → τ'.1 83 i = σ.1 47 i := fun i hi => by
      rw [t3 i (by omega) hi, wd1, if_neg (by omega), mS_x _ _ _ _ 82 i (by omega), wd1, if_neg (by omega), wd1, if_neg (by omega), hκ 82 i (by omega) (by omega) (by omega) (by omega), (hB0 i hi).1]
    refine ⟨1, σ1, τ', by rw [← hσ1]; rfl, ?_, ⟨tt, tl, by omega, ?_, ?_, code, ?_, by omega, fun i hi => ?_, Or.inr ⟨b4, m, hm, t2, fun τ hτ => ?_⟩⟩, ⟨0, by omega, ⟨?_, ?_⟩, fun i hi => absurd hi (Nat.not_lt_zero i)⟩⟩
    · unfold s_X10_law
      have e25 : (zWD (mS (zWD (zWD σ1 68 22 (-1)) 68 24 (nI m)) a'' 0 (-1)) 68 19 0).1 68 25 = -1 := by rw [wd1, if_neg (by omega), mS_f]
      rw [e, Option.bind_some, zSt_e, e25, if_pos (by decide)]
      show s_X10_law_L37 ((mS (zWD (zWD σ1 68 22 (-1)) 68 24 (nI m)) a'' 0 (-1)).1 68 19) 200 0 _ = _
      rw [mS_x _ _ _ _ 68 19 (by omega), wd1, if_neg (by omega), wd1, if_neg (by omega), hκ 68 19 (by omega) (by omega) (by omega) (by omega), f2]
      exact t1
    · rw [u 0 9 (by omega) (by omega), ← hσ1, wd1, if_neg (by omega), wd1, if_pos ⟨rfl, rfl⟩]
    · rw [u 0 10 (by omega) (by omega), ← hσ1, wd1, if_pos ⟨rfl, rfl⟩]
    · rw [u tt 2 (by omega) (by omega), ← hσ1, wd1, if_neg (by omega), wd1, if_neg (by omega), klen]
    · rw [u (tt + 1) i (by omega) (by omega), ← hσ1, wd1, if_neg (by omega), wd1, if_neg (by omega), kst i hi]
    · have hb : hB (σ.1 47) m (zWD (zWD τ 68 22 0) 68 24 (nI m)) := ⟨by rw [wd1, if_pos ⟨rfl, rfl⟩], Or.inr ⟨by rw [wd1, if_neg (by omega), wd1, if_pos ⟨rfl, rfl⟩], fun i hi => by rw [wd1, if_neg (by omega), wd1, if_neg (by omega), hτ i hi, u83 i hi]⟩⟩
      obtain ⟨v2, a2, y2, e2, ev⟩ := M _ hb
      rw [if_pos rfl] at e2
      refine ⟨mS (zWD (zWD τ 68 22 0) 68 24 (nI m)) a2 0 (-1), ?_, rfl, fun c f q => ?_⟩
      · rw [wo_at, show (mS (zWD (zWD τ 68 22 0) 68 24 (nI m)) (nI 0) 0 (-1)) = _ from rfl, e2, ev rfl]
        rfl
      · rw [mS_x _ _ _ _ c f (by omega), wd1, if_neg (by omega), wd1, if_neg (by omega)]
    · rw [u 46 1 (by omega) (by omega), ← hσ1, wd1, if_neg (by omega), wd1, if_neg (by omega), k46]
    · rw [t4 68 19 (by omega) (by omega), wd1, if_pos ⟨rfl, rfl⟩]
      rfl
  | false =>
    have n1 : ¬ (if false = true then (-1 : Int32) else nI a') = -1 := by
      rw [if_neg (by decide)]
      exact ne1 (by omega)
    rw [if_neg n1, if_neg (by decide)]
    obtain ⟨v, a'', y, e⟩ := mod κ (fun c f q1 _ q2 q3 => kx c f q1 q2 q3)
    rw [if_neg (by decide)] at e
    have u : ∀ c f, ¬ (c = 68 ∧ (f = 19 ∨ 22 ≤ f ∧ f ≤ 26)) → (zWD (mS (zWD (zWD κ 68 22 (-1)) 68 24 (nI m)) (nI a') y (nI a')) 68 19 0).1 c f = κ.1 c f := fun c f q => by
      rw [wd1, if_neg (by omega), mS_x _ _ _ _ c f (by omega), wd1, if_neg (by omega), wd1, if_neg (by omega)]
    refine ⟨-100 - nI a', κ, zWD (mS (zWD (zWD κ 68 22 (-1)) 68 24 (nI m)) (nI a') y (nI a')) 68 19 0, rfl, ?_, ⟨tl, tt, ht, ?_, ?_, code0, lawIs_at ht1 ?_ (fun f => ?_) ?_ (fun f => ?_) hl⟩, ⟨0, by omega, ⟨?_, ?_⟩, fun i hi => absurd hi (Nat.not_lt_zero i)⟩⟩
    · unfold s_X10_law
      rw [e, Option.bind_some, zSt_e]
      have e25 : (zWD (mS (zWD (zWD κ 68 22 (-1)) 68 24 (nI m)) (nI a') y (nI a')) 68 19 0).1 68 25 = nI a' := by rw [wd1, if_neg (by omega), mS_f]
      rw [e25, if_neg (nlt0 (by omega))]
    · rw [u 0 9 (by omega), kx 0 9 (by omega) (by omega) (by omega), h9]
    · rw [u 0 10 (by omega), kx 0 10 (by omega) (by omega) (by omega), h10]
    · rw [u tl 2 (by omega), kx tl 2 (by omega) (by omega) (by omega)]
    · rw [u (tl + 1) f (by omega), kx (tl + 1) f (by omega) (by omega) (by omega)]
    · rw [u 68 21 (by omega), kx 68 21 (by omega) (by omega) (by omega)]
    · rw [u 83 f (by omega), kx 83 f (by omega) (by omega) (by omega)]
    · rw [u 46 1 (by omega), k46]
    · rw [wd1, if_pos ⟨rfl, rfl⟩]
      rfl
/-! what the law in force is worth, in the class -/
def rep (τ : ZSt) (tl : Nat) (s : List Int32) : Prop := τ.1 tl 3 = nI s.length ∧ ∀ j, j < s.length → τ.1 (tl + 2) j = s.getD (s.length - 1 - j) 0
def frW (tl : Nat) (τ τ' : ZSt) : Prop := τ'.2 = τ.2 ∧ ∀ c f, ¬ (c = tl ∧ f = 3) → ¬ c = tl + 2 → τ'.1 c f = τ.1 c f
theorem frW.rf {tl : Nat} {τ : ZSt} : frW tl τ τ := ⟨rfl, fun _ _ _ _ => rfl⟩
theorem frW.trans {tl : Nat} {a b c : ZSt} (h : frW tl a b) (k : frW tl b c) : frW tl a c := ⟨k.1.trans h.1, fun x f q1 q2 => (k.2 x f q1 q2).trans (h.2 x f q1 q2)⟩
theorem push_at {τ : ZSt} {tl : Nat} {s : List Int32} (h : rep τ tl s) (hs : s.length < 128) (v : Int32) : ∃ τ', s_X4_push tl v τ = some τ' ∧ rep τ' tl (v :: s) ∧ frW tl τ τ' := by
  obtain ⟨h1, h2⟩ := h
  refine ⟨zWD (zWD τ tl 3 (nI (s.length + 1))) (tl + 2) s.length v, ?_, ⟨?_, fun j hj => ?_⟩, rfl, fun c f q1 q2 => ?_⟩
  · unfold s_X4_push
    rw [h1, if_neg (nlt0 (by omega)), if_neg (by rw [show (128 : Int32) = nI 128 by decide, nI_leI (by decide) (by omega)]; omega), zSt_e, nI_1, zSg_t (zIn_nI hs (by decide)), nI_clamp (by omega)]
  · rw [wd1, if_neg (by omega), wd1, if_pos ⟨rfl, rfl⟩, List.length_cons]
  · rw [List.length_cons] at hj ⊢
    by_cases e : j = s.length
    · rw [wd1, if_pos ⟨rfl, e⟩, e, show s.length + 1 - 1 - s.length = 0 by omega, List.getD_cons_zero]
    · rw [wd1, if_neg (by omega), wd1, if_neg (by omega), h2 j (by omega), show s.length + 1 - 1 - j = (s.length - 1 - j) + 1 by omega, List.getD_cons_succ]
  · rw [wd1, if_neg (by omega), wd1, if_neg q1]
theorem pop_at {τ : ZSt} {tl : Nat} {s : List Int32} (h : rep τ tl s) (hs : s.length ≤ 128) : ∃ τ', s_X4_pop tl τ = some (s.headD 0, τ') ∧ rep τ' tl s.tail ∧ frW tl τ τ' := by
  obtain ⟨h1, h2⟩ := id h
  cases s with
  | nil =>
    refine ⟨τ, ?_, h, frW.rf⟩
    unfold s_X4_pop
    rw [h1, if_pos (by decide)]
    rfl
  | cons x s =>
    rw [List.length_cons] at h1 h2 hs
    refine ⟨zWD τ tl 3 (nI s.length), ?_, ⟨?_, fun j hj => ?_⟩, rfl, fun c f q1 q2 => ?_⟩
    · unfold s_X4_pop
      have e1 : nI (s.length + 1) - 1 = nI s.length := nI_pred s.length
      rw [h1, if_neg (by rw [i0, nI_leI (by omega) (by omega)]; omega), if_neg (by rw [show (128 : Int32) = nI 128 by decide, nI_ltI (by omega) (by omega)]; omega), e1, zSt_e, zLd_t (zIn_nI (by omega) (by decide)), nI_clamp (by omega), wd1, if_neg (by omega), h2 s.length (by omega), show s.length + 1 - 1 - s.length = 0 by omega, List.getD_cons_zero]
      rfl
    · rw [wd1, if_pos ⟨rfl, rfl⟩]
      rfl
    · have hj' : j < s.length := hj
      rw [wd1, if_neg (by omega), h2 j (by omega), show s.length + 1 - 1 - j = (s.length - 1 - j) + 1 by omega, List.getD_cons_succ]
      rfl
    · rw [wd1, if_neg q1]
theorem tokN {v : Int32} (h : ¬ (0 : Int32) ≤ -100 - v) (h2 : v < 0) : ¬ (-1 - v < 0) := by
  rw [Int32.le_iff_toInt_le, Int32.toInt_sub, show (0 : Int32).toInt = 0 by decide, show (-100 : Int32).toInt = -100 by decide, Int.bmod_def] at h
  rw [Int32.lt_iff_toInt_lt, show (0 : Int32).toInt = 0 by decide] at h2
  rw [Int32.lt_iff_toInt_lt, Int32.toInt_sub, show (0 : Int32).toInt = 0 by decide, show (-1 : Int32).toInt = -1 by decide, Int.bmod_def]
  have := v.le_toInt
  omega
theorem fact_at {σ : ZSt} {p0 : Nat} {v : Int32} (h : ¬ (0 : Int32) ≤ -100 - v) (h2 : v < 0) : s_X4_factAt p0 (-1 - v) σ = some (if (8 : Int32) ≤ -1 - v then 0 else σ.1 p0 (-1 - v).toNatClampNeg) := by
  unfold s_X4_factAt
  rw [if_neg (tokN h h2)]
  by_cases q : (8 : Int32) ≤ -1 - v
  · rw [if_pos q, if_pos q]
  · rw [if_neg q, if_neg q]
    obtain ⟨k, hk, e⟩ := ofN (s := 8) (by omega) (Int32.not_lt.mp (tokN h h2)) (by rw [← i8]; exact Int32.not_le.mp q)
    rw [e, zLd_t (zIn_nI hk (by decide))]
theorem drop_at {c : List Int32} {i : Nat} (h : i < c.length) : c.drop i = c.getD i 0 :: c.drop (i + 1) := by
  rw [List.drop_eq_getElem_cons h, List.getD_eq_getElem?_getD, List.getElem?_eq_getElem h]
  rfl
theorem worth_L {tl p0 : Nat} {code : List Int32} (hc : code.length ≤ 121) (hp : ¬ p0 = tl ∧ ¬ p0 = tl + 1 ∧ ¬ p0 = tl + 2) (F : Nat → Int32) : ∀ (n i : Nat) (k : Bool) (s : List Int32) (τ : ZSt), rep τ tl s → s.length ≤ i → i ≤ code.length → code.length - i < n → τ.1 tl 2 = nI code.length → (∀ j, j < code.length → τ.1 (tl + 1) j = code.getD j 0) → τ.1 p0 = F → ∃ τ', s_X4_worth_L31 tl p0 n (if k = true then 1 else 0) (nI i) τ = some ((wrun F (code.drop i) (none, k, s)).1.getD 0, τ') ∧ frW tl τ τ' := by
  intro n
  induction n with
  | zero => intro i k s τ h1 h2 h3 h4; omega
  | succ n ih =>
    intro i k s τ hr hs hi hn hl hst hF
    have e5 : (nI code.length ≤ nI i) = (code.length ≤ i) := nI_le_n (by omega) (by omega)
    rw [s_X4_worth_L31, hl]
    by_cases hq : code.length ≤ i
    · refine ⟨τ, ?_, frW.rf⟩
      rw [if_pos (by rw [e5]; exact hq), List.drop_eq_nil_of_le hq, wrun_nil]
      rfl
    · have hi' : i < code.length := by omega
      rw [if_neg (by rw [e5]; exact hq), zLd_t (zIn_nI (by omega) (by decide)), nI_clamp (by omega), hst i hi', drop_at hi', wrun_cons, nI_1]
      generalize code.getD i 0 = v
      have go : ∀ (k' : Bool) (s' : List Int32) (τ1 : ZSt), rep τ1 tl s' → s'.length ≤ i + 1 → frW tl τ τ1 → ∃ τ', s_X4_worth_L31 tl p0 n (if k' = true then 1 else 0) (nI (i + 1)) τ1 = some ((wrun F (code.drop (i + 1)) (none, k', s')).1.getD 0, τ') ∧ frW tl τ τ' := fun k' s' τ1 r1 r2 r3 => by
        obtain ⟨τ', g1, g2⟩ := ih (i + 1) k' s' τ1 r1 r2 hi' (by omega) (by rw [r3.2 tl 2 (by omega) (by omega), hl]) (fun j hj => by rw [r3.2 (tl + 1) j (by omega) (by omega), hst j hj]) (by
          rw [← hF]
          exact funext fun f => r3.2 p0 f (by omega) (by omega))
        exact ⟨τ', g1, r3.trans g2⟩
      have lt1 := fun (s' : List Int32) (h : s'.length ≤ i + 1) => h
      have tail1 : s.tail.length ≤ i := by rw [List.length_tail]; omega
      by_cases g0 : (0 : Int32) ≤ -100 - v
      · rw [if_pos g0]
        obtain ⟨τ1, o1, o2, o3⟩ := pop_at hr (by omega)
        by_cases g63 : (-100 : Int32) - v = 63
        · rw [if_pos g63, o1, Option.bind_some, wstp_q F g63]
          by_cases z : s.headD 0 = 0
          · rw [if_pos z]
            have := go false s.tail τ1 o2 (by omega) o3
            rw [if_neg (by decide)] at this
            rw [show decide (¬ s.headD 0 = 0) = false from decide_eq_false (fun q => q z)]
            exact this
          · rw [if_neg z]
            have := go true s.tail τ1 o2 (by omega) o3
            rw [if_pos rfl] at this
            rw [show decide (¬ s.headD 0 = 0) = true from decide_eq_true z]
            exact this
        · rw [if_neg g63]
          by_cases g59 : (-100 : Int32) - v = 59
          · rw [if_pos g59, wstp_e F g59]
            cases k with
            | false =>
              rw [if_pos (by decide), zSt_e, if_neg (by decide)]
              have := go true [] (zWD τ tl 3 0) ⟨by rw [wd1, if_pos ⟨rfl, rfl⟩]; rfl, fun j hj => absurd hj (Nat.not_lt_zero j)⟩ (Nat.zero_le _) ⟨rfl, fun c f q1 _ => by rw [wd1, if_neg q1]⟩
              rw [if_pos rfl] at this
              exact this
            | true =>
              rw [if_neg (by decide), o1, Option.bind_some, if_pos rfl, wrun_some]
              exact ⟨τ1, rfl, o3⟩
          · rw [if_neg g59, o1, Option.bind_some, wstp_o F g63 g59]
            by_cases g33 : (-100 : Int32) - v = 33
            · rw [if_pos g33, joined_at, Option.bind_some]
              obtain ⟨τ2, q1, q2, q3⟩ := push_at o2 (by omega) (jn (-100 - v) 0 (s.headD 0))
              rw [q1, Option.bind_some, show stp F v s = jn (-100 - v) 0 (s.headD 0) :: s.tail by unfold stp; rw [if_pos g0, if_pos (Or.inl g33)]]
              exact go k _ τ2 q2 (by rw [List.length_cons]; omega) (o3.trans q3)
            · rw [if_neg g33]
              by_cases g126 : (-100 : Int32) - v = 126
              · rw [if_pos g126, joined_at, Option.bind_some]
                obtain ⟨τ2, q1, q2, q3⟩ := push_at o2 (by omega) (jn (-100 - v) 0 (s.headD 0))
                rw [q1, Option.bind_some, show stp F v s = jn (-100 - v) 0 (s.headD 0) :: s.tail by unfold stp; rw [if_pos g0, if_pos (Or.inr g126)]]
                exact go k _ τ2 q2 (by rw [List.length_cons]; omega) (o3.trans q3)
              · rw [if_neg g126]
                obtain ⟨τ2, p1, p2, p3⟩ := pop_at o2 (by omega)
                have tail2 : s.tail.tail.length ≤ i := by rw [List.length_tail]; omega
                rw [p1, Option.bind_some, joined_at, Option.bind_some]
                obtain ⟨τ3, q1, q2, q3⟩ := push_at p2 (by omega) (jn (-100 - v) (s.tail.headD 0) (s.headD 0))
                rw [q1, Option.bind_some, show stp F v s = jn (-100 - v) (s.tail.headD 0) (s.headD 0) :: s.tail.tail by unfold stp; rw [if_pos g0, if_neg (fun z => z.elim g33 g126)]]
                exact go k _ τ3 q2 (by rw [List.length_cons]; omega) ((o3.trans p3).trans q3)
      · rw [if_neg g0]
        have w1 : ¬ (-100 : Int32) - v = 63 := fun z => g0 (by rw [z]; decide)
        have w2 : ¬ (-100 : Int32) - v = 59 := fun z => g0 (by rw [z]; decide)
        rw [wstp_o F w1 w2]
        by_cases gn : v < 0
        · rw [if_pos gn, fact_at g0 gn, Option.bind_some, hF]
          obtain ⟨τ2, q1, q2, q3⟩ := push_at hr (by omega) (if (8 : Int32) ≤ -1 - v then 0 else F (-1 - v).toNatClampNeg)
          rw [q1, Option.bind_some, show stp F v s = (if (8 : Int32) ≤ -1 - v then 0 else F (-1 - v).toNatClampNeg) :: s by unfold stp; rw [if_neg g0, if_pos gn]]
          exact go k _ τ2 q2 (by rw [List.length_cons]; omega) q3
        · rw [if_neg gn]
          obtain ⟨τ2, q1, q2, q3⟩ := push_at hr (by omega) v
          rw [q1, Option.bind_some, show stp F v s = v :: s by unfold stp; rw [if_neg g0, if_neg gn]]
          exact go k _ τ2 q2 (by rw [List.length_cons]; omega) q3
/-- what a law's steps are worth -/
def wv (code : List Int32) (F : Nat → Int32) : Int32 := if code = [] then (F 0 - F 1) - 10 * F 4 else (wrun F code (none, true, [])).1.getD 0
theorem c_worth {τ : ZSt} {tl p0 : Nat} {code : List Int32} (hp : ¬ p0 = tl ∧ ¬ p0 = tl + 1 ∧ ¬ p0 = tl + 2) (hc : code.length ≤ 121) (hl : τ.1 tl 2 = nI code.length) (hst : ∀ j, j < code.length → τ.1 (tl + 1) j = code.getD j 0) : ∃ τ', s_X4_worth tl p0 τ = some (wv code (τ.1 p0), τ') ∧ frW tl τ τ' := by
  unfold s_X4_worth wv
  rw [hl]
  cases code with
  | nil =>
    refine ⟨τ, ?_, frW.rf⟩
    rw [if_pos (by decide), if_pos rfl, zLd_t (by decide), zLd_t (by decide), zLd_t (by decide)]
    rfl
  | cons v c =>
    rw [if_neg (by rw [i0, nI_eq (by omega) (by omega)]; simp), if_neg (by simp), zSt_e]
    obtain ⟨τ', g1, g2⟩ := worth_L hc hp (τ.1 p0) 200 0 true [] (zWD τ tl 3 0) ⟨by rw [wd1, if_pos ⟨rfl, rfl⟩]; rfl, fun j hj => absurd hj (Nat.not_lt_zero j)⟩ (Nat.zero_le _) (Nat.zero_le _) (by omega) (by rw [wd1, if_neg (by omega), hl]) (fun j hj => by rw [wd1, if_neg (by omega), hst j hj]) (funext fun f => by rw [wd1, if_neg (by omega)])
    refine ⟨τ', g1, ⟨g2.1, fun x f q1 q2 => ?_⟩⟩
    rw [g2.2 x f q1 q2, wd1, if_neg q1]
