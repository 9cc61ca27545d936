/-! the reference: what changes it -/
theorem upS_cm {S : St} {k k' : Nat} {i i' v v' : Int} (h : ¬ (k = k' ∧ i = i')) : upS (upS S k i v) k' i' v' = upS (upS S k' i' v') k i v := by
  funext a j
  unfold upS
  by_cases h1 : a = k' ∧ j = i'
  · rw [if_pos h1]
    by_cases h2 : a = k ∧ j = i
    · exact absurd ⟨h2.1.symm.trans h1.1, h2.2.symm.trans h1.2⟩ h
    · rw [if_neg h2, if_pos h1]
  · rw [if_neg h1]
    by_cases h2 : a = k ∧ j = i
    · rw [if_pos h2, if_pos h2]
    · rw [if_neg h2, if_neg h2, if_neg h1]
theorem clS_cm {S : St} {b w j v : Int} (hj : j ≠ 5) : upS (clS S b w) 0 j v = clS (upS S 0 j v) b w := by
  unfold clS
  rw [upS_cm (k := 6) (k' := 0) (by omega), upS_cm (k := 5) (k' := 0) (by omega), upS_cm (k := 4) (k' := 0) (by omega), upS_cm (k := 0) (k' := 0) (by omega), upS_cm (k := 11) (k' := 0) (by omega)]
  have e : upS S 0 j v 0 5 = S 0 5 := upS_n (by omega)
  rw [e]
  rfl
/-- the first k numbers of a bench are 0 -/
def zrB (S : St) (b k : Int) : St := fun k' i => if 1 ≤ k' ∧ (k' : Int) ≤ k ∧ i = b then 0 else S k' i
theorem zrB_0 (S : St) (b : Int) : zrB S b 0 = S := by
  funext k' i
  unfold zrB
  rw [if_neg (by omega)]
theorem zrB_s (S : St) (b k : Int) (hk : 0 ≤ k) : zrB S b (k + 1) = upS (zrB S b k) (1 + k.toNat) b 0 := by
  funext k' i
  show (if 1 ≤ k' ∧ (k' : Int) ≤ k + 1 ∧ i = b then 0 else S k' i) = if k' = 1 + k.toNat ∧ i = b then 0 else if 1 ≤ k' ∧ (k' : Int) ≤ k ∧ i = b then 0 else S k' i
  by_cases h : k' = 1 + k.toNat ∧ i = b
  · rw [if_pos h, if_pos (by omega)]
  · rw [if_neg h]
    by_cases h2 : 1 ≤ k' ∧ (k' : Int) ≤ k ∧ i = b
    · rw [if_pos h2, if_pos (by omega)]
    · rw [if_neg h2, if_neg (by omega)]
theorem zrB_put {S : St} {b k : Int} (hb : 0 ≤ b ∧ b < 10) (hk : 0 ≤ k ∧ k < 6) (j : Nat) (hj : j < 102) : upd (zz (encZ (zrB S b k))) ((10 + (6 * b)) + k).toNat (zI 0) j = zz (encZ (zrB S b (k + 1))) j := by
  rw [zrB_s S b k hk.1]
  exact encW (k := 1 + k.toNat) (i := b) (by omega) (by unfold encP; omega) j hj
theorem zrB_6 {S : St} {b k x y v w : Int} (hk : k = 6) (h4 : S 4 b = 0) (h5 : S 5 b = 0) (h6 : S 6 b = 0) : upS (upS (upS (upS (zrB S b k) 1 b x) 2 b y) 3 b v) 0 0 w = upS (upS (upS (upS S 1 b x) 2 b y) 3 b v) 0 0 w := by
  subst hk
  funext k' i
  unfold upS zrB
  by_cases e0 : k' = 0 ∧ i = 0
  · rw [if_pos e0, if_pos e0]
  · rw [if_neg e0, if_neg e0]
    by_cases e3 : k' = 3 ∧ i = b
    · rw [if_pos e3, if_pos e3]
    · rw [if_neg e3, if_neg e3]
      by_cases e2 : k' = 2 ∧ i = b
      · rw [if_pos e2, if_pos e2]
      · rw [if_neg e2, if_neg e2]
        by_cases e1 : k' = 1 ∧ i = b
        · rw [if_pos e1, if_pos e1]
        · rw [if_neg e1, if_neg e1]
          by_cases c : 1 ≤ k' ∧ (k' : Int) ≤ 6 ∧ i = b
          · rw [if_pos c]
            obtain ⟨c1, c2, rfl⟩ := c
            rcases (show k' = 4 ∨ k' = 5 ∨ k' = 6 by omega) with rfl | rfl | rfl
            · exact h4.symm
            · exact h5.symm
            · exact h6.symm
          · rw [if_neg c]
theorem Inv.top {Mx : Int} {S : St} (h : Inv Mx S) : S 4 (S 0 0) = 0 ∧ S 5 (S 0 0) = 0 ∧ S 6 (S 0 0) = 0 := by
  have h7 := h.2.2.2.2.2.2.2.2.1
  have h6 := h.2.2.2.2.2.2.2.1
  have e : S 4 (S 0 0) = 0 := by
    by_cases c : S 4 (S 0 0) = 0
    · exact c
    · have := h7 _ c
      omega
  exact ⟨e, h6 _ e⟩
theorem Bd_11 {S : St} {i v : Int} (h : Bd S) (hv : 0 ≤ v ∧ v ≤ 4000000) : Bd (upS S 11 i v) := by
  obtain ⟨h0, h1, h2, h3, g1, g2, g3, g4, g5, g6, g7, g8, g9, g10, g11, g12⟩ := h
  refine ⟨h0, h1, h2, h3, g1, g2, g3, g4, g5, g6, g7, g8, g9, g10, fun j => ?_, g12⟩
  rw [upS_k]
  split
  · exact hv
  · exact g11 j
/-- an act of the reference: what it leaves as its answer or as what the rejection is about -/
def mAns (M : St) (c x : Int) : St := if c = 0 then upS M 8 10 x else if c < 0 then M else upS M 8 9 x
def mcd (c : Int) : Int := if c < 0 then -1 else c
def barM (S M : St) (t b : Int) : St := if obst S t b = 0 then M else upS M 8 9 (obsD S (obst S t b) t b)
theorem mAns_b {S M : St} {t b : Int} (h : obst S t b ≠ 0) : mAns M (obst S t b) (obsD S (obst S t b) t b) = barM S M t b := by
  have := obst_r S t b
  unfold mAns barM
  rw [if_neg h, if_neg (by omega), if_neg h]
