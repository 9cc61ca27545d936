/-! the reference: what it answers -/
theorem nzN_c {S S' : St} (h7 : S' 7 = S 7) (h8 : S' 8 = S 8) (h9 : S' 9 = S 9) (h10 : S' 10 = S 10) (r c : Int) : ∀ n : Nat, nzN S' r c n = nzN S r c n
  | 0 => rfl
  | n + 1 => by
    show nzN S' r c n + nzT S' r c n = nzN S r c n + nzT S r c n
    rw [nzN_c h7 h8 h9 h10 r c n]
    unfold nzT
    rw [h7, h8, h9, h10]
theorem noise_c {S S' : St} (h0 : S' 0 1 = S 0 1) (h7 : S' 7 = S 7) (h8 : S' 8 = S 8) (h9 : S' 9 = S 9) (h10 : S' 10 = S 10) (r c : Int) : noise S' r c = noise S r c := by
  unfold noise
  rw [h0]
  exact nzN_c h7 h8 h9 h10 r c _
theorem noiseB_c {S S' : St} (h0 : S' 0 1 = S 0 1) (h1 : S' 1 = S 1) (h2 : S' 2 = S 2) (h7 : S' 7 = S 7) (h8 : S' 8 = S 8) (h9 : S' 9 = S 9) (h10 : S' 10 = S 10) (b : Int) : noiseB S' b = noiseB S b := by
  unfold noiseB
  rw [h1, h2]
  exact noise_c h0 h7 h8 h9 h10 _ _
theorem rent_c {S S' : St} (h0 : S' 0 1 = S 0 1) (h1 : S' 1 = S 1) (h2 : S' 2 = S 2) (h3 : S' 3 = S 3) (h7 : S' 7 = S 7) (h8 : S' 8 = S 8) (h9 : S' 9 = S 9) (h10 : S' 10 = S 10) (b : Int) : rent S' b = rent S b := by
  unfold rent
  rw [h3, noiseB_c h0 h1 h2 h7 h8 h9 h10 b]
