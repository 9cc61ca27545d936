/-! the reference: its commands done -/
theorem srtZ_c {k : Int} (h : 0 ≤ k ∧ k ≤ 9) : (k = 0 ∧ srtZ k = 98) ∨ (k = 1 ∧ srtZ k = 102) ∨ (k = 2 ∧ srtZ k = 116) ∨ (k = 3 ∧ srtZ k = 103) ∨ (k = 4 ∧ srtZ k = 108) ∨ (k = 5 ∧ srtZ k = 101) ∨ (k = 6 ∧ srtZ k = 114) ∨ (k = 7 ∧ srtZ k = 115) ∨ (k = 8 ∧ srtZ k = 105) ∨ (k = 9 ∧ srtZ k = 112) := by
  rcases (show k = 0 ∨ k = 1 ∨ k = 2 ∨ k = 3 ∨ k = 4 ∨ k = 5 ∨ k = 6 ∨ k = 7 ∨ k = 8 ∨ k = 9 by omega) with rfl | rfl | rfl | rfl | rfl | rfl | rfl | rfl | rfl | rfl <;> decide
