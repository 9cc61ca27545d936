/-! the class: a bench written -/
theorem digZ_ll (n : Int) : ((digZ n).length : Int) = nnZ n := by
  unfold digZ nnZ
  split <;> rfl
theorem wrY_1 (Y : Int → Int) (p c : Int) : wrY Y p [c] = upZ Y p c := rfl
theorem nn_b (y : Int) : 1 ≤ nnZ y ∧ nnZ y ≤ 2 ∧ (y ≤ 9 → nnZ y = 1) := by
  unfold nnZ
  split <;> omega
