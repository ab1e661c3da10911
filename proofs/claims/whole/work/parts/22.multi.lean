/-- new long[6][60] at the place 55 -/
def zMna (R : ZRf) : ZRf := fun a b => if a = 55 ∧ b < 6 then some (56 + b) else R a b
theorem zFr_mna {R : ZRf} {σ : ZSt} (hz : zFr 55 R σ) : zFr 62 (zMna R) σ := fun k hk f => by
  obtain ⟨h1, h2, h3⟩ := hz k (by omega) f
  refine ⟨h1, h2, ?_⟩
  unfold zMna
  rw [if_neg (by omega)]
  exact h3
theorem Zo_mna {α : Type} {g : ZG} {M : ZM} {fin : α → Option Value × ZW} {o : Option α} {k n pc : Nat} {l : List (Option Value)} {st : List Value} {R : ZRf} {σ : ZSt} (hz : zFr 55 R σ) (hR : k + 7 ≤ M.2.2.2.2.1.cells ∧ n + 366 ≤ M.2.2.2.2.1.slots) (hd : decode M.2.1 pc = .ok (.multianewarray 21 2, 4)) (kk : Zo g M fin o (k + 7) (n + 366) (pc + 4) l (.ref 55 :: st) (62, zMna R, σ)) : Zo g M fin o k n pc l (.int 60 :: .int 6 :: st) (55, R, σ) := by
  sorry
