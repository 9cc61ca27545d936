/-! the reference: its questions -/
theorem endR_a (M : St) (c x : Int) : endR (mAns M c x) c = if c = 0 then x else 0 := by
  unfold endR mAns
  by_cases h : c = 0
  · rw [if_pos h, if_pos h, if_pos h]
    exact upS_s
  · rw [if_neg h, if_neg h]
theorem tgR_r {S : St} (hI : Bd S) (M : St) (f : Int) : -2147483648 ≤ endR (mAns M (tgZ S f).1 (tgZ S f).2.1) (tgZ S f).1 ∧ endR (mAns M (tgZ S f).1 (tgZ S f).2.1) (tgZ S f).1 < 2147483648 := by
  rw [endR_a]
  obtain ⟨-, -, -, -, -, -, -, -, -, -, -, -, -, h10, -⟩ := hI
  have h := h10 f
  unfold tgZ
  split
  · split <;> omega
  · split
    · show -2147483648 ≤ 1 - S 10 f ∧ 1 - S 10 f < 2147483648
      omega
    · omega

def bbR (S : St) (x : Int) : Int := scan (fun a => bAhead S a = x) (S 0 0 - 0).toNat 0
def tbC (S : St) (x : Int) : Int := scan (fun a => tAhead S a = x) (S 0 2 - 0).toNat 0
theorem bF_irr (S : St) (x : Int) : ¬ bFirst S x x := by omega
theorem tF_irr (S : St) (x : Int) : ¬ tFirst S x x := by omega
