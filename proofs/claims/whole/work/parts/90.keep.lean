/-! The end: what both hold together, kept by every call -/
def INV (σ : ZSt) : Prop := ∃ s w p bo, rT s w p σ ∧ rCh s w σ ∧ rFd σ ∧ rAc bo σ ∧ rSh bo σ ∧ rLaw σ ∧ rWk σ
theorem keep2 {C A B : List (Nat × Nat)} {σ σ1 σ2 : ZSt} (h1 : zKeep A σ σ1) (h2 : zKeep B σ1 σ2) (d1 : zDis C A = true) (d2 : zDis C B = true) : ∀ c f, zHit C c f = true → σ2.1 c f = σ.1 c f ∧ σ2.2 c f = σ.2 c f := fun c f q => ⟨(h2.at d2 c f q).1.trans (h1.at d1 c f q).1, (h2.at d2 c f q).2.trans (h1.at d1 c f q).2⟩
theorem s_street {σ : ZSt} (h : INV σ) (a b : Int32) : ∃ (r : Int32) (σ1 σ2 : ZSt), s_X9_street a b σ = some (r, σ1) ∧ s_X10_street a b σ1 = some (r, σ2) ∧ INV σ2 := by
  obtain ⟨s, w, p, bo, hT, hC, hF, hA, hS, hL, hW⟩ := h
  obtain ⟨r, σ1, σ2, s', e1, e2, hs', hT'⟩ := k_street hT a b
  have k1 : zKeep L_X9_street σ σ1 := f_X9_street a b σ _ e1
  have k2 : zKeep L_X10_street σ1 σ2 := f_X10_street a b σ1 _ e2
  exact ⟨r, σ1, σ2, e1, e2, s', w, p, bo, hT', rCh_up hs' (Nat.le_refl _) (rCh_at (keep2 k1 k2 (show zDis cCh L_X9_street = true by decide) (show zDis cCh L_X10_street = true by decide)) hC), rFd_at (keep2 k1 k2 (show zDis cFd L_X9_street = true by decide) (show zDis cFd L_X10_street = true by decide)) hF, rAc_at (keep2 k1 k2 (show zDis cAc L_X9_street = true by decide) (show zDis cAc L_X10_street = true by decide)) hA, rSh_at (keep2 k1 k2 (show zDis cSh L_X9_street = true by decide) (show zDis cSh L_X10_street = true by decide)) hS, rLaw_at (keep2 k1 k2 (show zDis cLaw L_X9_street = true by decide) (show zDis cLaw L_X10_street = true by decide)) hL, rWk_at (keep2 k1 k2 (show zDis cWk L_X9_street = true by decide) (show zDis cWk L_X10_street = true by decide)) hW⟩
theorem s_window {σ : ZSt} (h : INV σ) (a b : Int32) : ∃ (r : Int32) (σ1 σ2 : ZSt), s_X9_window a b σ = some (r, σ1) ∧ s_X10_window a b σ1 = some (r, σ2) ∧ INV σ2 := by
  obtain ⟨s, w, p, bo, hT, hC, hF, hA, hS, hL, hW⟩ := h
  obtain ⟨r, σ1, σ2, w', e1, e2, hw', hT'⟩ := k_window hT a b
  have k1 : zKeep L_X9_window σ σ1 := f_X9_window a b σ _ e1
  have k2 : zKeep L_X10_window σ1 σ2 := f_X10_window a b σ1 _ e2
  exact ⟨r, σ1, σ2, e1, e2, s, w', p, bo, hT', rCh_up (Nat.le_refl _) hw' (rCh_at (keep2 k1 k2 (show zDis cCh L_X9_window = true by decide) (show zDis cCh L_X10_window = true by decide)) hC), rFd_at (keep2 k1 k2 (show zDis cFd L_X9_window = true by decide) (show zDis cFd L_X10_window = true by decide)) hF, rAc_at (keep2 k1 k2 (show zDis cAc L_X9_window = true by decide) (show zDis cAc L_X10_window = true by decide)) hA, rSh_at (keep2 k1 k2 (show zDis cSh L_X9_window = true by decide) (show zDis cSh L_X10_window = true by decide)) hS, rLaw_at (keep2 k1 k2 (show zDis cLaw L_X9_window = true by decide) (show zDis cLaw L_X10_window = true by decide)) hL, rWk_at (keep2 k1 k2 (show zDis cWk L_X9_window = true by decide) (show zDis cWk L_X10_window = true by decide)) hW⟩
theorem s_windows {σ : ZSt} (h : INV σ) (a b c : Int32) : ∃ (r : Int32) (σ1 σ2 : ZSt), s_X9_windows a b c σ = some (r, σ1) ∧ s_X10_windows a b c σ1 = some (r, σ2) ∧ INV σ2 := by
  obtain ⟨s, w, p, bo, hT, hC, hF, hA, hS, hL, hW⟩ := h
  obtain ⟨r, σ1, σ2, w', e1, e2, hw', hT'⟩ := k_windows hT hS hA.1 a b c
  have k1 : zKeep L_X9_windows σ σ1 := f_X9_windows a b c σ _ e1
  have k2 : zKeep L_X10_windows σ1 σ2 := f_X10_windows a b c σ1 _ e2
  exact ⟨r, σ1, σ2, e1, e2, s, w', p, bo, hT', rCh_up (Nat.le_refl _) hw' (rCh_at (keep2 k1 k2 (show zDis cCh L_X9_windows = true by decide) (show zDis cCh L_X10_windows = true by decide)) hC), rFd_at (keep2 k1 k2 (show zDis cFd L_X9_windows = true by decide) (show zDis cFd L_X10_windows = true by decide)) hF, rAc_at (keep2 k1 k2 (show zDis cAc L_X9_windows = true by decide) (show zDis cAc L_X10_windows = true by decide)) hA, rSh_at (keep2 k1 k2 (show zDis cSh L_X9_windows = true by decide) (show zDis cSh L_X10_windows = true by decide)) hS, rLaw_at (keep2 k1 k2 (show zDis cLaw L_X9_windows = true by decide) (show zDis cLaw L_X10_windows = true by decide)) hL, rWk_at (keep2 k1 k2 (show zDis cWk L_X9_windows = true by decide) (show zDis cWk L_X10_windows = true by decide)) hW⟩
theorem s_player {σ : ZSt} (h : INV σ) (a b c : Int32) : ∃ (r : Int32) (σ1 σ2 : ZSt), s_X9_player a b c σ = some (r, σ1) ∧ s_X10_player a b c σ1 = some (r, σ2) ∧ INV σ2 := by
  obtain ⟨s, w, p, bo, hT, hC, hF, hA, hS, hL, hW⟩ := h
  obtain ⟨r, σ1, σ2, p', e1, e2, hp', hT'⟩ := k_player hT a b c
  have k1 : zKeep L_X9_player σ σ1 := f_X9_player a b c σ _ e1
  have k2 : zKeep L_X10_player σ1 σ2 := f_X10_player a b c σ1 _ e2
  exact ⟨r, σ1, σ2, e1, e2, s, w, p', bo, hT', rCh_at (keep2 k1 k2 (show zDis cCh L_X9_player = true by decide) (show zDis cCh L_X10_player = true by decide)) hC, rFd_at (keep2 k1 k2 (show zDis cFd L_X9_player = true by decide) (show zDis cFd L_X10_player = true by decide)) hF, rAc_at (keep2 k1 k2 (show zDis cAc L_X9_player = true by decide) (show zDis cAc L_X10_player = true by decide)) hA, rSh_at (keep2 k1 k2 (show zDis cSh L_X9_player = true by decide) (show zDis cSh L_X10_player = true by decide)) hS, rLaw_at (keep2 k1 k2 (show zDis cLaw L_X9_player = true by decide) (show zDis cLaw L_X10_player = true by decide)) hL, rWk_at (keep2 k1 k2 (show zDis cWk L_X9_player = true by decide) (show zDis cWk L_X10_player = true by decide)) hW⟩
theorem s_mend {σ : ZSt} (h : INV σ) (a b c : Int32) : ∃ (r : Int32) (σ1 σ2 : ZSt), s_X9_mend a b c σ = some (r, σ1) ∧ s_X10_mend a b c σ1 = some (r, σ2) ∧ INV σ2 := by
  obtain ⟨s, w, p, bo, hT, hC, hF, hA, hS, hL, hW⟩ := h
  obtain ⟨r, σ1, σ2, e1, e2, hT', hC'⟩ := k_mend hT hC a b c
  have k1 : zKeep L_X9_mend σ σ1 := f_X9_mend a b c σ _ e1
  have k2 : zKeep L_X10_mend σ1 σ2 := f_X10_mend a b c σ1 _ e2
  exact ⟨r, σ1, σ2, e1, e2, s, w, p, bo, hT', hC', rFd_at (keep2 k1 k2 (show zDis cFd L_X9_mend = true by decide) (show zDis cFd L_X10_mend = true by decide)) hF, rAc_at (keep2 k1 k2 (show zDis cAc L_X9_mend = true by decide) (show zDis cAc L_X10_mend = true by decide)) hA, rSh_at (keep2 k1 k2 (show zDis cSh L_X9_mend = true by decide) (show zDis cSh L_X10_mend = true by decide)) hS, rLaw_at (keep2 k1 k2 (show zDis cLaw L_X9_mend = true by decide) (show zDis cLaw L_X10_mend = true by decide)) hL, rWk_at (keep2 k1 k2 (show zDis cWk L_X9_mend = true by decide) (show zDis cWk L_X10_mend = true by decide)) hW⟩
theorem s_pay {σ : ZSt} (h : INV σ) (a b : Int32) : ∃ (r : Int32) (σ1 σ2 : ZSt), s_X9_pay a b σ = some (r, σ1) ∧ s_X10_pay a b σ1 = some (r, σ2) ∧ INV σ2 := by
  obtain ⟨s, w, p, bo, hT, hC, hF, hA, hS, hL, hW⟩ := h
  obtain ⟨r, σ1, σ2, e1, e2, hT'⟩ := k_pay hT a b
  have k1 : zKeep L_X9_pay σ σ1 := f_X9_pay a b σ _ e1
  have k2 : zKeep L_X10_pay σ1 σ2 := f_X10_pay a b σ1 _ e2
  exact ⟨r, σ1, σ2, e1, e2, s, w, p, bo, hT', rCh_at (keep2 k1 k2 (show zDis cCh L_X9_pay = true by decide) (show zDis cCh L_X10_pay = true by decide)) hC, rFd_at (keep2 k1 k2 (show zDis cFd L_X9_pay = true by decide) (show zDis cFd L_X10_pay = true by decide)) hF, rAc_at (keep2 k1 k2 (show zDis cAc L_X9_pay = true by decide) (show zDis cAc L_X10_pay = true by decide)) hA, rSh_at (keep2 k1 k2 (show zDis cSh L_X9_pay = true by decide) (show zDis cSh L_X10_pay = true by decide)) hS, rLaw_at (keep2 k1 k2 (show zDis cLaw L_X9_pay = true by decide) (show zDis cLaw L_X10_pay = true by decide)) hL, rWk_at (keep2 k1 k2 (show zDis cWk L_X9_pay = true by decide) (show zDis cWk L_X10_pay = true by decide)) hW⟩
theorem s_of {σ : ZSt} (h : INV σ) (a b : Int32) : ∃ r : Int32, s_X9_of a b σ = some r ∧ s_X10_of a b σ = some r := by
  obtain ⟨s, w, p, bo, hT, hC, hF, hA, hS, hL, hW⟩ := h
  exact k_of hT a b
theorem s_harm {σ : ZSt} (h : INV σ) (a : Int32) : ∃ r : Int32, s_X9_harm a σ = some r ∧ s_X10_harm a σ = some r := by
  obtain ⟨s, w, p, bo, hT, hC, hF, hA, hS, hL, hW⟩ := h
  exact k_harm hT a
theorem s_once {σ : ZSt} (h : INV σ) (a b : Int32) : ∃ r : Int32, s_X9_once a b σ = some r ∧ s_X10_once a b σ = some r := by
  obtain ⟨s, w, p, bo, hT, hC, hF, hA, hS, hL, hW⟩ := h
  exact k_once hT a b
theorem s_waiting {σ : ZSt} (h : INV σ) (a b c d : Int32) : ∃ r : Int32, s_X9_waiting a b c d σ = some r ∧ s_X10_waiting a b c d σ = some r := by
  obtain ⟨s, w, p, bo, hT, hC, hF, hA, hS, hL, hW⟩ := h
  exact k_waiting hT a b c d
theorem s_exactly {σ : ZSt} (h : INV σ) (a b c : Int32) : ∃ r : Int32, s_X9_exactly a b c σ = some r ∧ s_X10_exactly a b c σ = some r := by
  obtain ⟨s, w, p, bo, hT, hC, hF, hA, hS, hL, hW⟩ := h
  exact k_exactly hT a b c
theorem s_feed {σ : ZSt} (h : INV σ) (a b : Int32) : ∃ (r : Int32) (σ1 σ2 : ZSt), s_X9_feed a b σ = some (r, σ1) ∧ s_X10_feed a b σ1 = some (r, σ2) ∧ INV σ2 := by
  obtain ⟨s, w, p, bo, hT, hC, hF, hA, hS, hL, hW⟩ := h
  obtain ⟨r, σ1, σ2, e1, e2, hF'⟩ := k_feed hF a b
  have k1 : zKeep L_X9_feed σ σ1 := f_X9_feed a b σ _ e1
  have k2 : zKeep L_X10_feed σ1 σ2 := f_X10_feed a b σ1 _ e2
  exact ⟨r, σ1, σ2, e1, e2, s, w, p, bo, rT_at (keep2 k1 k2 (show zDis cT L_X9_feed = true by decide) (show zDis cT L_X10_feed = true by decide)) hT, rCh_at (keep2 k1 k2 (show zDis cCh L_X9_feed = true by decide) (show zDis cCh L_X10_feed = true by decide)) hC, hF', rAc_at (keep2 k1 k2 (show zDis cAc L_X9_feed = true by decide) (show zDis cAc L_X10_feed = true by decide)) hA, rSh_at (keep2 k1 k2 (show zDis cSh L_X9_feed = true by decide) (show zDis cSh L_X10_feed = true by decide)) hS, rLaw_at (keep2 k1 k2 (show zDis cLaw L_X9_feed = true by decide) (show zDis cLaw L_X10_feed = true by decide)) hL, rWk_at (keep2 k1 k2 (show zDis cWk L_X9_feed = true by decide) (show zDis cWk L_X10_feed = true by decide)) hW⟩
theorem s_law {σ : ZSt} (h : INV σ)  : ∃ (r : Int32) (σ1 σ2 : ZSt), s_X9_law σ = some (r, σ1) ∧ s_X10_law σ1 = some (r, σ2) ∧ INV σ2 := by
  obtain ⟨s, w, p, bo, hT, hC, hF, hA, hS, hL, hW⟩ := h
  obtain ⟨r, σ1, σ2, e1, e2, hL', hF'⟩ := k_law hL hF
  have k1 : zKeep L_X9_law σ σ1 := f_X9_law σ _ e1
  have k2 : zKeep L_X10_law σ1 σ2 := f_X10_law σ1 _ e2
  exact ⟨r, σ1, σ2, e1, e2, s, w, p, bo, rT_at (keep2 k1 k2 (show zDis cT L_X9_law = true by decide) (show zDis cT L_X10_law = true by decide)) hT, rCh_at (keep2 k1 k2 (show zDis cCh L_X9_law = true by decide) (show zDis cCh L_X10_law = true by decide)) hC, hF', rAc_at (keep2 k1 k2 (show zDis cAc L_X9_law = true by decide) (show zDis cAc L_X10_law = true by decide)) hA, rSh_at (keep2 k1 k2 (show zDis cSh L_X9_law = true by decide) (show zDis cSh L_X10_law = true by decide)) hS, hL', rWk_at (keep2 k1 k2 (show zDis cWk L_X9_law = true by decide) (show zDis cWk L_X10_law = true by decide)) hW⟩
theorem s_weeks {σ : ZSt} (h : INV σ) (a b : Int32) : ∃ (r : Int32) (σ1 σ2 : ZSt), s_X9_weeks a b σ = some (r, σ1) ∧ s_X10_weeks a b σ1 = some (r, σ2) ∧ INV σ2 := by
  obtain ⟨s, w, p, bo, hT, hC, hF, hA, hS, hL, hW⟩ := h
  obtain ⟨r, σ1, σ2, e1, e2, hT', hL', hW'⟩ := k_weeks hT hL hW a b
  have k1 : zKeep L_X9_weeks σ σ1 := f_X9_weeks a b σ _ e1
  have k2 : zKeep L_X10_weeks σ1 σ2 := f_X10_weeks a b σ1 _ e2
  exact ⟨r, σ1, σ2, e1, e2, s, w, p, bo, hT', rCh_at (keep2 k1 k2 (show zDis cCh L_X9_weeks = true by decide) (show zDis cCh L_X10_weeks = true by decide)) hC, rFd_at (keep2 k1 k2 (show zDis cFd L_X9_weeks = true by decide) (show zDis cFd L_X10_weeks = true by decide)) hF, rAc_at (keep2 k1 k2 (show zDis cAc L_X9_weeks = true by decide) (show zDis cAc L_X10_weeks = true by decide)) hA, rSh_at (keep2 k1 k2 (show zDis cSh L_X9_weeks = true by decide) (show zDis cSh L_X10_weeks = true by decide)) hS, hL', hW'⟩
theorem s_week {σ : ZSt} (h : INV σ) (a b : Int32) : ∃ r : Int32, s_X9_week a b σ = some r ∧ s_X10_week a b σ = some r := by
  obtain ⟨s, w, p, bo, hT, hC, hF, hA, hS, hL, hW⟩ := h
  exact k_week hW a b
theorem s_best {σ : ZSt} (h : INV σ) (a b c : Int32) : ∃ (r : Int32) (σ1 σ2 : ZSt), s_X9_best a b c σ = some (r, σ1) ∧ s_X10_best a b c σ1 = some (r, σ2) ∧ INV σ2 := by
  obtain ⟨s, w, p, bo, hT, hC, hF, hA, hS, hL, hW⟩ := h
  obtain ⟨r, σ1, σ2, e1, e2, hT', hL'⟩ := k_best hT hL a b c
  have k1 : zKeep L_X9_best σ σ1 := f_X9_best a b c σ _ e1
  have k2 : zKeep L_X10_best σ1 σ2 := f_X10_best a b c σ1 _ e2
  exact ⟨r, σ1, σ2, e1, e2, s, w, p, bo, hT', rCh_at (keep2 k1 k2 (show zDis cCh L_X9_best = true by decide) (show zDis cCh L_X10_best = true by decide)) hC, rFd_at (keep2 k1 k2 (show zDis cFd L_X9_best = true by decide) (show zDis cFd L_X10_best = true by decide)) hF, rAc_at (keep2 k1 k2 (show zDis cAc L_X9_best = true by decide) (show zDis cAc L_X10_best = true by decide)) hA, rSh_at (keep2 k1 k2 (show zDis cSh L_X9_best = true by decide) (show zDis cSh L_X10_best = true by decide)) hS, hL', rWk_at (keep2 k1 k2 (show zDis cWk L_X9_best = true by decide) (show zDis cWk L_X10_best = true by decide)) hW⟩
theorem s_called {σ : ZSt} (h : INV σ) (a b : Int32) : ∃ (r : Int32) (σ1 σ2 : ZSt), s_X9_called a b σ = some (r, σ1) ∧ s_X10_called a b σ1 = some (r, σ2) ∧ INV σ2 := by
  obtain ⟨s, w, p, bo, hT, hC, hF, hA, hS, hL, hW⟩ := h
  obtain ⟨r, σ1, σ2, e1, e2, hT', hL'⟩ := k_called hT hL a b
  have k1 : zKeep L_X9_called σ σ1 := f_X9_called a b σ _ e1
  have k2 : zKeep L_X10_called σ1 σ2 := f_X10_called a b σ1 _ e2
  exact ⟨r, σ1, σ2, e1, e2, s, w, p, bo, hT', rCh_at (keep2 k1 k2 (show zDis cCh L_X9_called = true by decide) (show zDis cCh L_X10_called = true by decide)) hC, rFd_at (keep2 k1 k2 (show zDis cFd L_X9_called = true by decide) (show zDis cFd L_X10_called = true by decide)) hF, rAc_at (keep2 k1 k2 (show zDis cAc L_X9_called = true by decide) (show zDis cAc L_X10_called = true by decide)) hA, rSh_at (keep2 k1 k2 (show zDis cSh L_X9_called = true by decide) (show zDis cSh L_X10_called = true by decide)) hS, hL', rWk_at (keep2 k1 k2 (show zDis cWk L_X9_called = true by decide) (show zDis cWk L_X10_called = true by decide)) hW⟩
theorem s_off {σ : ZSt} (h : INV σ) (a b : Int32) : ∃ (r : Int32) (σ1 σ2 : ZSt), s_X9_off a b σ = some (r, σ1) ∧ s_X10_off a b σ1 = some (r, σ2) ∧ INV σ2 := by
  obtain ⟨s, w, p, bo, hT, hC, hF, hA, hS, hL, hW⟩ := h
  obtain ⟨r, σ1, σ2, e1, e2, hT', hL'⟩ := k_off hT hL a b
  have k1 : zKeep L_X9_off σ σ1 := f_X9_off a b σ _ e1
  have k2 : zKeep L_X10_off σ1 σ2 := f_X10_off a b σ1 _ e2
  exact ⟨r, σ1, σ2, e1, e2, s, w, p, bo, hT', rCh_at (keep2 k1 k2 (show zDis cCh L_X9_off = true by decide) (show zDis cCh L_X10_off = true by decide)) hC, rFd_at (keep2 k1 k2 (show zDis cFd L_X9_off = true by decide) (show zDis cFd L_X10_off = true by decide)) hF, rAc_at (keep2 k1 k2 (show zDis cAc L_X9_off = true by decide) (show zDis cAc L_X10_off = true by decide)) hA, rSh_at (keep2 k1 k2 (show zDis cSh L_X9_off = true by decide) (show zDis cSh L_X10_off = true by decide)) hS, hL', rWk_at (keep2 k1 k2 (show zDis cWk L_X9_off = true by decide) (show zDis cWk L_X10_off = true by decide)) hW⟩
theorem s_fund {σ : ZSt} (h : INV σ) (a b c : Int32) : ∃ (r : Int32) (σ1 : ZSt), s_X9_fund a b c σ = some (r, σ1) ∧ s_X10_fund a b c σ1 = some r ∧ INV σ1 := by
  obtain ⟨s, w, p, bo, hT, hC, hF, hA, hS, hL, hW⟩ := h
  obtain ⟨r, σ1, e1, e2, hT'⟩ := k_fund hT a b c
  have k1 : zKeep L_X9_fund σ σ1 := f_X9_fund a b c σ _ e1
  exact ⟨r, σ1, e1, e2, s, w, p, bo, hT', rCh_at (zKeep.at k1 (show zDis cCh L_X9_fund = true by decide)) hC, rFd_at (zKeep.at k1 (show zDis cFd L_X9_fund = true by decide)) hF, rAc_at (zKeep.at k1 (show zDis cAc L_X9_fund = true by decide)) hA, rSh_at (zKeep.at k1 (show zDis cSh L_X9_fund = true by decide)) hS, rLaw_at (zKeep.at k1 (show zDis cLaw L_X9_fund = true by decide)) hL, rWk_at (zKeep.at k1 (show zDis cWk L_X9_fund = true by decide)) hW⟩
theorem s_fetch {σ : ZSt} (h : INV σ) (a : Int32) : ∃ r : Int32, s_X9_fetch a σ = some r ∧ s_X10_fetch a σ = some r := by
  obtain ⟨s, w, p, bo, hT, hC, hF, hA, hS, hL, hW⟩ := h
  exact k_fetch hT a
theorem s_worse {σ : ZSt} (h : INV σ) (a : Int32) : ∃ r : Int32, s_X9_worse a σ = some r ∧ s_X10_worse a σ = some r := by
  obtain ⟨s, w, p, bo, hT, hC, hF, hA, hS, hL, hW⟩ := h
  exact k_worse hT a
theorem s_lovers {σ : ZSt} (h : INV σ) (a b : Int32) : ∃ r : Int32, s_X9_lovers a b σ = some r ∧ s_X10_lovers a b σ = some r := by
  obtain ⟨s, w, p, bo, hT, hC, hF, hA, hS, hL, hW⟩ := h
  exact k_lovers hT a b
theorem s_judge {σ : ZSt} (h : INV σ)  : ∃ r : Int32, s_X9_judge σ = some r ∧ s_X10_judge σ = some r := by
  obtain ⟨s, w, p, bo, hT, hC, hF, hA, hS, hL, hW⟩ := h
  exact k_judge hT
theorem s_undo {σ : ZSt} (h : INV σ)  : ∃ (r : Int32) (σ1 σ2 : ZSt), s_X9_undo σ = some (r, σ1) ∧ s_X10_undo σ1 = some (r, σ2) ∧ INV σ2 := by
  obtain ⟨s, w, p, bo, hT, hC, hF, hA, hS, hL, hW⟩ := h
  obtain ⟨r, σ1, σ2, e1, e2, hT', hC'⟩ := k_undo hT hC
  have k1 : zKeep L_X9_undo σ σ1 := f_X9_undo σ _ e1
  have k2 : zKeep L_X10_undo σ1 σ2 := f_X10_undo σ1 _ e2
  exact ⟨r, σ1, σ2, e1, e2, s, w, p, bo, hT', hC', rFd_at (keep2 k1 k2 (show zDis cFd L_X9_undo = true by decide) (show zDis cFd L_X10_undo = true by decide)) hF, rAc_at (keep2 k1 k2 (show zDis cAc L_X9_undo = true by decide) (show zDis cAc L_X10_undo = true by decide)) hA, rSh_at (keep2 k1 k2 (show zDis cSh L_X9_undo = true by decide) (show zDis cSh L_X10_undo = true by decide)) hS, rLaw_at (keep2 k1 k2 (show zDis cLaw L_X9_undo = true by decide) (show zDis cLaw L_X10_undo = true by decide)) hL, rWk_at (keep2 k1 k2 (show zDis cWk L_X9_undo = true by decide) (show zDis cWk L_X10_undo = true by decide)) hW⟩
theorem s_redo {σ : ZSt} (h : INV σ)  : ∃ (r : Int32) (σ1 σ2 : ZSt), s_X9_redo σ = some (r, σ1) ∧ s_X10_redo σ1 = some (r, σ2) ∧ INV σ2 := by
  obtain ⟨s, w, p, bo, hT, hC, hF, hA, hS, hL, hW⟩ := h
  obtain ⟨r, σ1, σ2, e1, e2, hT', hC'⟩ := k_redo hT hC
  have k1 : zKeep L_X9_redo σ σ1 := f_X9_redo σ _ e1
  have k2 : zKeep L_X10_redo σ1 σ2 := f_X10_redo σ1 _ e2
  exact ⟨r, σ1, σ2, e1, e2, s, w, p, bo, hT', hC', rFd_at (keep2 k1 k2 (show zDis cFd L_X9_redo = true by decide) (show zDis cFd L_X10_redo = true by decide)) hF, rAc_at (keep2 k1 k2 (show zDis cAc L_X9_redo = true by decide) (show zDis cAc L_X10_redo = true by decide)) hA, rSh_at (keep2 k1 k2 (show zDis cSh L_X9_redo = true by decide) (show zDis cSh L_X10_redo = true by decide)) hS, rLaw_at (keep2 k1 k2 (show zDis cLaw L_X9_redo = true by decide) (show zDis cLaw L_X10_redo = true by decide)) hL, rWk_at (keep2 k1 k2 (show zDis cWk L_X9_redo = true by decide) (show zDis cWk L_X10_redo = true by decide)) hW⟩
theorem s_body {σ : ZSt} (h : INV σ) (a : Int32) : ∃ (r : Int32) (σ1 σ2 : ZSt), s_X9_body a σ = some (r, σ1) ∧ s_X10_body a σ1 = some (r, σ2) ∧ INV σ2 := by
  obtain ⟨s, w, p, bo, hT, hC, hF, hA, hS, hL, hW⟩ := h
  obtain ⟨r, σ1, σ2, bo', e1, e2, hb', hA'⟩ := k_body hA a
  have k1 : zKeep L_X9_body σ σ1 := f_X9_body a σ _ e1
  have k2 : zKeep L_X10_body σ1 σ2 := f_X10_body a σ1 _ e2
  exact ⟨r, σ1, σ2, e1, e2, s, w, p, bo', rT_at (keep2 k1 k2 (show zDis cT L_X9_body = true by decide) (show zDis cT L_X10_body = true by decide)) hT, rCh_at (keep2 k1 k2 (show zDis cCh L_X9_body = true by decide) (show zDis cCh L_X10_body = true by decide)) hC, rFd_at (keep2 k1 k2 (show zDis cFd L_X9_body = true by decide) (show zDis cFd L_X10_body = true by decide)) hF, hA', rSh_up hb' (rSh_at (keep2 k1 k2 (show zDis cSh L_X9_body = true by decide) (show zDis cSh L_X10_body = true by decide)) hS), rLaw_at (keep2 k1 k2 (show zDis cLaw L_X9_body = true by decide) (show zDis cLaw L_X10_body = true by decide)) hL, rWk_at (keep2 k1 k2 (show zDis cWk L_X9_body = true by decide) (show zDis cWk L_X10_body = true by decide)) hW⟩
theorem s_act {σ : ZSt} (h : INV σ) (a b c : Int32) : ∃ (r : Int32) (σ1 σ2 : ZSt), s_X9_act a b c σ = some (r, σ1) ∧ s_X10_act a b c σ1 = some (r, σ2) ∧ INV σ2 := by
  obtain ⟨s, w, p, bo, hT, hC, hF, hA, hS, hL, hW⟩ := h
  obtain ⟨r, σ1, σ2, e1, e2, hA'⟩ := k_act hA a b c
  have k1 : zKeep L_X9_act σ σ1 := f_X9_act a b c σ _ e1
  have k2 : zKeep L_X10_act σ1 σ2 := f_X10_act a b c σ1 _ e2
  exact ⟨r, σ1, σ2, e1, e2, s, w, p, bo, rT_at (keep2 k1 k2 (show zDis cT L_X9_act = true by decide) (show zDis cT L_X10_act = true by decide)) hT, rCh_at (keep2 k1 k2 (show zDis cCh L_X9_act = true by decide) (show zDis cCh L_X10_act = true by decide)) hC, rFd_at (keep2 k1 k2 (show zDis cFd L_X9_act = true by decide) (show zDis cFd L_X10_act = true by decide)) hF, hA', rSh_at (keep2 k1 k2 (show zDis cSh L_X9_act = true by decide) (show zDis cSh L_X10_act = true by decide)) hS, rLaw_at (keep2 k1 k2 (show zDis cLaw L_X9_act = true by decide) (show zDis cLaw L_X10_act = true by decide)) hL, rWk_at (keep2 k1 k2 (show zDis cWk L_X9_act = true by decide) (show zDis cWk L_X10_act = true by decide)) hW⟩
theorem s_trace {σ : ZSt} (h : INV σ) (a : Int32) : ∃ r : Int32, s_X9_trace a σ = some r ∧ s_X10_trace a σ = some r := by
  obtain ⟨s, w, p, bo, hT, hC, hF, hA, hS, hL, hW⟩ := h
  exact k_trace hA a
theorem s_keep {σ : ZSt} (h : INV σ) (a b : Int32) : ∃ (r : Int32) (σ1 σ2 : ZSt), s_X9_keep a b σ = some (r, σ1) ∧ s_X10_keep a b σ1 = some (r, σ2) ∧ INV σ2 := by
  obtain ⟨s, w, p, bo, hT, hC, hF, hA, hS, hL, hW⟩ := h
  obtain ⟨r, σ1, σ2, e1, e2, hS'⟩ := k_keep hS hA a b
  have k1 : zKeep L_X9_keep σ σ1 := f_X9_keep a b σ _ e1
  have k2 : zKeep L_X10_keep σ1 σ2 := f_X10_keep a b σ1 _ e2
  exact ⟨r, σ1, σ2, e1, e2, s, w, p, bo, rT_at (keep2 k1 k2 (show zDis cT L_X9_keep = true by decide) (show zDis cT L_X10_keep = true by decide)) hT, rCh_at (keep2 k1 k2 (show zDis cCh L_X9_keep = true by decide) (show zDis cCh L_X10_keep = true by decide)) hC, rFd_at (keep2 k1 k2 (show zDis cFd L_X9_keep = true by decide) (show zDis cFd L_X10_keep = true by decide)) hF, rAc_at (keep2 k1 k2 (show zDis cAc L_X9_keep = true by decide) (show zDis cAc L_X10_keep = true by decide)) hA, hS', rLaw_at (keep2 k1 k2 (show zDis cLaw L_X9_keep = true by decide) (show zDis cLaw L_X10_keep = true by decide)) hL, rWk_at (keep2 k1 k2 (show zDis cWk L_X9_keep = true by decide) (show zDis cWk L_X10_keep = true by decide)) hW⟩
theorem s_row {σ : ZSt} (h : INV σ) (a b c : Int32) : ∃ (r : Int32) (σ1 σ2 : ZSt), s_X9_row a b c σ = some (r, σ1) ∧ s_X10_row a b c σ1 = some (r, σ2) ∧ INV σ2 := by
  obtain ⟨s, w, p, bo, hT, hC, hF, hA, hS, hL, hW⟩ := h
  obtain ⟨r, σ1, σ2, e1, e2, hS'⟩ := k_row hS a b c
  have k1 : zKeep L_X9_row σ σ1 := f_X9_row a b c σ _ e1
  have k2 : zKeep L_X10_row σ1 σ2 := f_X10_row a b c σ1 _ e2
  exact ⟨r, σ1, σ2, e1, e2, s, w, p, bo, rT_at (keep2 k1 k2 (show zDis cT L_X9_row = true by decide) (show zDis cT L_X10_row = true by decide)) hT, rCh_at (keep2 k1 k2 (show zDis cCh L_X9_row = true by decide) (show zDis cCh L_X10_row = true by decide)) hC, rFd_at (keep2 k1 k2 (show zDis cFd L_X9_row = true by decide) (show zDis cFd L_X10_row = true by decide)) hF, rAc_at (keep2 k1 k2 (show zDis cAc L_X9_row = true by decide) (show zDis cAc L_X10_row = true by decide)) hA, hS', rLaw_at (keep2 k1 k2 (show zDis cLaw L_X9_row = true by decide) (show zDis cLaw L_X10_row = true by decide)) hL, rWk_at (keep2 k1 k2 (show zDis cWk L_X9_row = true by decide) (show zDis cWk L_X10_row = true by decide)) hW⟩
theorem s_put {σ : ZSt} (h : INV σ) (a b : Int32) (v : Int64) : ∃ (r : Int32) (σ1 σ2 : ZSt), s_X9_put a b v σ = some (r, σ1) ∧ s_X10_put a b v σ1 = some (r, σ2) ∧ INV σ2 := by
  obtain ⟨s, w, p, bo, hT, hC, hF, hA, hS, hL, hW⟩ := h
  obtain ⟨r, σ1, σ2, e1, e2, hS'⟩ := k_put hS hA.1 a b v
  have k1 : zKeep L_X9_put σ σ1 := f_X9_put a b v σ _ e1
  have k2 : zKeep L_X10_put σ1 σ2 := f_X10_put a b v σ1 _ e2
  exact ⟨r, σ1, σ2, e1, e2, s, w, p, bo, rT_at (keep2 k1 k2 (show zDis cT L_X9_put = true by decide) (show zDis cT L_X10_put = true by decide)) hT, rCh_at (keep2 k1 k2 (show zDis cCh L_X9_put = true by decide) (show zDis cCh L_X10_put = true by decide)) hC, rFd_at (keep2 k1 k2 (show zDis cFd L_X9_put = true by decide) (show zDis cFd L_X10_put = true by decide)) hF, rAc_at (keep2 k1 k2 (show zDis cAc L_X9_put = true by decide) (show zDis cAc L_X10_put = true by decide)) hA, hS', rLaw_at (keep2 k1 k2 (show zDis cLaw L_X9_put = true by decide) (show zDis cLaw L_X10_put = true by decide)) hL, rWk_at (keep2 k1 k2 (show zDis cWk L_X9_put = true by decide) (show zDis cWk L_X10_put = true by decide)) hW⟩
theorem s_element {σ : ZSt} (h : INV σ) (a b : Int32) : ∃ r : Int64, s_X9_element a b σ = some r ∧ s_X10_element a b σ = some r := by
  obtain ⟨s, w, p, bo, hT, hC, hF, hA, hS, hL, hW⟩ := h
  exact k_element hS hA.1 a b
theorem s_shift {σ : ZSt} (h : INV σ) (a b c d e : Int32) : ∃ (r : Int32) (σ1 σ2 : ZSt), s_X9_shift a b c d e σ = some (r, σ1) ∧ s_X10_shift a b c d e σ1 = some (r, σ2) ∧ INV σ2 := by
  obtain ⟨s, w, p, bo, hT, hC, hF, hA, hS, hL, hW⟩ := h
  obtain ⟨r, σ1, σ2, e1, e2, hS'⟩ := k_shift hS hA.1 a b c d e
  have k1 : zKeep L_X9_shift σ σ1 := f_X9_shift a b c d e σ _ e1
  have k2 : zKeep L_X10_shift σ1 σ2 := f_X10_shift a b c d e σ1 _ e2
  exact ⟨r, σ1, σ2, e1, e2, s, w, p, bo, rT_at (keep2 k1 k2 (show zDis cT L_X9_shift = true by decide) (show zDis cT L_X10_shift = true by decide)) hT, rCh_at (keep2 k1 k2 (show zDis cCh L_X9_shift = true by decide) (show zDis cCh L_X10_shift = true by decide)) hC, rFd_at (keep2 k1 k2 (show zDis cFd L_X9_shift = true by decide) (show zDis cFd L_X10_shift = true by decide)) hF, rAc_at (keep2 k1 k2 (show zDis cAc L_X9_shift = true by decide) (show zDis cAc L_X10_shift = true by decide)) hA, hS', rLaw_at (keep2 k1 k2 (show zDis cLaw L_X9_shift = true by decide) (show zDis cLaw L_X10_shift = true by decide)) hL, rWk_at (keep2 k1 k2 (show zDis cWk L_X9_shift = true by decide) (show zDis cWk L_X10_shift = true by decide)) hW⟩
theorem s_taken {σ : ZSt} (h : INV σ) (a b : Int32) : ∃ r : Int32, s_X9_taken a b σ = some r ∧ s_X10_taken a b σ = some r := by
  obtain ⟨s, w, p, bo, hT, hC, hF, hA, hS, hL, hW⟩ := h
  exact k_taken hS hA a b
theorem s_count {σ : ZSt} (h : INV σ) (a : Int32) : ∃ r : Int32, s_X9_count a σ = some r ∧ s_X10_count a σ = some r := by
  obtain ⟨s, w, p, bo, hT, hC, hF, hA, hS, hL, hW⟩ := h
  exact k_count hT hC hF hA a
