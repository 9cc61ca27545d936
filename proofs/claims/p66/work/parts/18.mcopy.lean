/-! the reference: copies of its array -/
theorem mix_any {f g h : Int → Int} {k : Int} {n : Nat} (hk : (n : Int) ≤ k) (hf : ∀ i : Int, 0 ≤ i → i < n → f i = h i) (j : Nat) (hj : j < n) : zz (mixZ k f g) j = zz h j := by
  unfold zz mixZ
  rw [if_pos (by omega), hf j (by omega) (by omega)]
