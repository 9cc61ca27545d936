/-! the reference: execute -/
theorem actZ_eq {S : St} {k a b d a' b' d' : Int} (hk : 0 ≤ k ∧ k ≤ 9) (ha : a = a') (hb : 2 ≤ arZ k → b = b') (hd : 3 ≤ arZ k → d = d') : actZ S k a b d = actZ S k a' b' d' := by
  subst ha
  rcases (show k = 0 ∨ k = 1 ∨ k = 2 ∨ k = 3 ∨ k = 4 ∨ k = 5 ∨ k = 6 ∨ k = 7 ∨ k = 8 ∨ k = 9 by omega) with rfl | rfl | rfl | rfl | rfl | rfl | rfl | rfl | rfl | rfl
  · rw [hb (by decide), hd (by decide)]
  · rw [hb (by decide), hd (by decide)]
  · rfl
  · rw [hb (by decide)]; rfl
  · rw [hb (by decide), hd (by decide)]
  · rfl
  · rw [hb (by decide)]; rfl
  · rfl
  · rfl
  · rfl
theorem stZ_n {T : Int → Int} {n : Int} (hn : 0 ≤ n) : ∀ k : Nat, (∀ i, i < k → gdP T n i) → stZ T n k ≤ n
  | 0, _ => hn
  | k + 1, h => by
    have h1 := chA_lt (h k (by omega)).2 (by decide)
    show (cmdR T n (stZ T n k)).2.1 + 1 ≤ n
    omega
theorem exZ_1 {S : St} {T : Int → Int} {n v : Int} (h : prsZ T n = (1, v)) : exZ S T n = (1, v, 0, S) := by
  unfold exZ
  rw [h]
  exact if_pos (show (1 : Int) ≠ 0 by decide)
theorem exZ_0 {S U : St} {T : Int → Int} {n v : Int} (h : prsZ T n = (0, v)) (hr : runF T n v 31 0 S = (-1, 0, U)) : exZ S T n = (0, v, 0, U) := by
  unfold exZ
  rw [h]
  show (if (0 : Int) ≠ 0 then _ else if (runF T n v 31 0 S).1 = -1 then _ else _) = _
  rw [if_neg (by decide), hr]
  exact if_pos rfl
theorem exZ_2 {S U : St} {T : Int → Int} {n v k g : Int} (h : prsZ T n = (0, v)) (hr : runF T n v 31 0 S = (k, g, U)) (hk : 0 ≤ k) (hg : g < 0) : exZ S T n = (2, k, g, S) := by
  unfold exZ
  rw [h]
  show (if (0 : Int) ≠ 0 then _ else if (runF T n v 31 0 S).1 = -1 then _ else _) = _
  rw [if_neg (by decide), hr]
  show (if k = -1 then _ else if g < 0 then _ else _) = _
  rw [if_neg (by omega), if_pos hg]
theorem exZ_3 {S U : St} {T : Int → Int} {n v k g : Int} (h : prsZ T n = (0, v)) (hr : runF T n v 31 0 S = (k, g, U)) (hk : 0 ≤ k) (hg : ¬ g < 0) : exZ S T n = (3, k, g, S) := by
  unfold exZ
  rw [h]
  show (if (0 : Int) ≠ 0 then _ else if (runF T n v 31 0 S).1 = -1 then _ else _) = _
  rw [if_neg (by decide), hr]
  show (if k = -1 then _ else if g < 0 then _ else _) = _
  rw [if_neg (by omega), if_neg hg]
