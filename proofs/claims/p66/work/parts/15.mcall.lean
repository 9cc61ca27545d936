/-! the reference: its public face -/
theorem upS_up {S : St} {k : Nat} {i v w : Int} : upS (upS S k i v) k i w = upS S k i w := by
  funext k' j
  unfold upS
  by_cases e : k' = k ∧ j = i
  · rw [if_pos e, if_pos e]
  · rw [if_neg e, if_neg e, if_neg e]
def itZ (P : Prop) [Decidable P] (v : Int) : Int := if P then v else 0
theorem itZ_t {P : Prop} [Decidable P] {v : Int} (h : P) : itZ P v = v := if_pos h
theorem itZ_f {P : Prop} [Decidable P] {v : Int} (h : ¬ P) : itZ P v = 0 := if_neg h
theorem mAns_81 (M : St) (c x : Int) : mAns M c x 8 1 = M 8 1 := by
  unfold mAns
  split
  · rfl
  · split <;> rfl
theorem mcd_r {c : Int} (h : -2 ≤ c ∧ c ≤ 11) : -2147483648 ≤ mcd c ∧ mcd c < 2147483648 := by
  unfold mcd
  split <;> omega
theorem pbZ_r (S : St) (x y w : Int) : -2 ≤ (pbZ S x y w).1 ∧ (pbZ S x y w).1 ≤ 11 := by
  unfold pbZ
  (repeat' split) <;> (refine ⟨?_, ?_⟩ <;> (dsimp only; omega))
theorem pfZ_r (S : St) (x y w : Int) : -2 ≤ (pfZ S x y w).1 ∧ (pfZ S x y w).1 ≤ 11 := by
  unfold pfZ
  (repeat' split) <;> (refine ⟨?_, ?_⟩ <;> (dsimp only; omega))
theorem crZ_r (S : St) (x y : Int) : -2 ≤ (crZ S x y).1 ∧ (crZ S x y).1 ≤ 11 := by
  unfold crZ
  (repeat' split) <;> (refine ⟨?_, ?_⟩ <;> (dsimp only; omega))
theorem clZ_r (S : St) (x y : Int) : -2 ≤ (clZ S x y).1 ∧ (clZ S x y).1 ≤ 11 := by
  unfold clZ
  (repeat' split) <;> (refine ⟨?_, ?_⟩ <;> (dsimp only; omega))
theorem tgZ_r (S : St) (x : Int) : -2 ≤ (tgZ S x).1 ∧ (tgZ S x).1 ≤ 11 := by
  unfold tgZ
  (repeat' split) <;> (refine ⟨?_, ?_⟩ <;> (dsimp only; omega))
theorem cmZ_r (S : St) (x : Int) : -2 ≤ (cmZ S x).1 ∧ (cmZ S x).1 ≤ 11 := by
  unfold cmZ
  (repeat' split) <;> (refine ⟨?_, ?_⟩ <;> (dsimp only; omega))
theorem teZ_r (S : St) (x : Int) : -2 ≤ (teZ S x).1 ∧ (teZ S x).1 ≤ 11 := by
  unfold teZ
  (repeat' split) <;> (refine ⟨?_, ?_⟩ <;> (dsimp only; omega))
theorem giZ_r (S : St) (x y : Int) : -2 ≤ (giZ S x y).1 ∧ (giZ S x y).1 ≤ 11 := by
  unfold giZ
  (repeat' split) <;> (refine ⟨?_, ?_⟩ <;> (dsimp only; omega))
theorem leZ_r (S : St) (t b k : Int) : -2 ≤ (leZ S t b k).1 ∧ (leZ S t b k).1 ≤ 11 := by
  have h := obst_r S t b
  unfold leZ
  (repeat' split) <;> (refine ⟨?_, ?_⟩ <;> (dsimp only; omega))
theorem enZ_r (S : St) (x : Int) : -2 ≤ (enZ S x).1 ∧ (enZ S x).1 ≤ 11 := by
  unfold enZ
  (repeat' split) <;> (refine ⟨?_, ?_⟩ <;> (dsimp only; omega))
theorem reZ_r (S : St) (x y : Int) : -2 ≤ (reZ S x y).1 ∧ (reZ S x y).1 ≤ 11 := by
  unfold reZ
  (repeat' split) <;> (refine ⟨?_, ?_⟩ <;> (dsimp only; omega))
theorem elZ_r (S : St) (x : Int) : -2 ≤ (elZ S x).1 ∧ (elZ S x).1 ≤ 11 := by
  unfold elZ
  (repeat' split) <;> (refine ⟨?_, ?_⟩ <;> (dsimp only; omega))
