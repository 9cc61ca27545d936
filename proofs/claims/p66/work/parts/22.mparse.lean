/-! reading commands: what is read, from the row T of n letters -/
def chA (T : Int → Int) (n z : Int) : Int := if z < n then T z else -1
theorem chA_lt {T : Int → Int} {n z x : Int} (h : chA T n z = x) (hx : 0 ≤ x) : z < n := by
  unfold chA at h
  by_cases c : z < n
  · exact c
  · rw [if_neg c] at h; omega
theorem chA_r {T : Int → Int} {n z : Int} (h : ∀ i, 0 ≤ i → i < 60 → 0 ≤ T i ∧ T i ≤ 126) (hn : n ≤ 60) (hz : 0 ≤ z) : -1 ≤ chA T n z ∧ chA T n z ≤ 126 := by
  unfold chA
  split
  · have := h z hz (by omega)
    omega
  · omega
/-- a word letter by letter: whether it went wrong, and where -/
def sayN (T : Int → Int) (n : Int) (w : Nat) (r p : Int) : Nat → Int × Int
  | 0 => (r, p)
  | k + 1 => if (sayN T n w r p k).1 ≠ 0 then sayN T n w r p k else if chA T n (sayN T n w r p k).2 = chZ w k then (0, (sayN T n w r p k).2 + 1) else (1, (sayN T n w r p k).2)
theorem sayN_s {T : Int → Int} {n : Int} {w : Nat} {r p k : Int} (hk : 0 ≤ k) : sayN T n w r p (k + 1).toNat = if (sayN T n w r p k.toNat).1 ≠ 0 then sayN T n w r p k.toNat else if chA T n (sayN T n w r p k.toNat).2 = chZ w k then (0, (sayN T n w r p k.toNat).2 + 1) else (1, (sayN T n w r p k.toNat).2) := by
  rw [show (k + 1).toNat = k.toNat + 1 by omega]
  show (if (sayN T n w r p k.toNat).1 ≠ 0 then sayN T n w r p k.toNat else if chA T n (sayN T n w r p k.toNat).2 = chZ w (k.toNat : Int) then (0, (sayN T n w r p k.toNat).2 + 1) else (1, (sayN T n w r p k.toNat).2)) = _
  rw [Int.toNat_of_nonneg hk]
theorem sayN_stop {T : Int → Int} {n : Int} {w : Nat} {r p : Int} : ∀ {k m : Nat}, k ≤ m → (sayN T n w r p k).1 ≠ 0 → sayN T n w r p m = sayN T n w r p k
  | k, 0, h, _ => by rw [show k = 0 by omega]
  | k, m + 1, h, h1 => by
    by_cases e : k = m + 1
    · rw [e]
    · have h2 := sayN_stop (k := k) (m := m) (by omega) h1
      show (if (sayN T n w r p m).1 ≠ 0 then sayN T n w r p m else _) = _
      rw [h2, if_pos h1]
theorem sayN_b {T : Int → Int} {n : Int} {w : Nat} {r p : Int} (hr : 0 ≤ r ∧ r ≤ 1) (hp : p ≤ n) : ∀ k : Nat, (0 ≤ (sayN T n w r p k).1 ∧ (sayN T n w r p k).1 ≤ 1) ∧ p ≤ (sayN T n w r p k).2 ∧ (sayN T n w r p k).2 ≤ n
  | 0 => ⟨hr, Int.le_refl _, hp⟩
  | k + 1 => by
    have h := sayN_b (T := T) (w := w) hr hp k
    have hc := chZ_r w k
    unfold sayN
    split
    · exact h
    · split
      · rename_i h3
        have h4 := chA_lt h3 hc.1
        exact ⟨by dsimp only; omega, by show p ≤ (sayN T n w r p k).2 + 1; omega, by show (sayN T n w r p k).2 + 1 ≤ n; omega⟩
      · exact ⟨by dsimp only; omega, h.2⟩
theorem nrm2 {M : St} {a c d : Int} : upS (upS M 8 14 d) 8 11 c = upS (upS (upS M 8 14 a) 8 11 c) 8 14 d := by
  rw [upS_cm (S := upS M 8 14 a) (k := 8) (i := 11) (k' := 8) (i' := 14) (by omega), upS_up]
theorem up_say {M : St} {a b c d : Int} : upS (upS M 8 14 c) 8 11 d = upS (upS (upS (upS M 8 14 a) 8 11 b) 8 14 c) 8 11 d := by
  rw [upS_cm (S := upS M 8 14 a) (k := 8) (i := 11) (k' := 8) (i' := 14) (by omega), upS_up, upS_up]
abbrev dgt (c : Int) : Prop := 48 ≤ c ∧ c ≤ 57
theorem dgt_lt {T : Int → Int} {n z : Int} (h : dgt (chA T n z)) : z < n := chA_lt (x := chA T n z) rfl (by omega)
/-- a blank and one or two digits: whether it went wrong, where, the number -/
def numZ (T : Int → Int) (n r p k : Int) : Int × Int × Int :=
  let q := sayN T n 10 r p (lnZ 10).toNat
  if q.1 ≠ 0 then (1, q.2, 0) else if ¬ dgt (chA T n q.2) then (1, q.2, 0) else if k = 2 ∧ dgt (chA T n (q.2 + 1)) then (0, q.2 + 1 + 1, 10 * (10 * 0 + chA T n q.2 - 48) + chA T n (q.2 + 1) - 48) else (0, q.2 + 1, 10 * 0 + chA T n q.2 - 48)
theorem numZ_b {T : Int → Int} {n r p k : Int} (hr : 0 ≤ r ∧ r ≤ 1) (hp : p ≤ n) : (0 ≤ (numZ T n r p k).1 ∧ (numZ T n r p k).1 ≤ 1) ∧ p ≤ (numZ T n r p k).2.1 ∧ (numZ T n r p k).2.1 ≤ n ∧ 0 ≤ (numZ T n r p k).2.2 ∧ (numZ T n r p k).2.2 ≤ 99 := by
  have h := sayN_b (T := T) (w := 10) hr hp (lnZ 10).toNat
  unfold numZ
  dsimp only
  split
  · exact ⟨by dsimp only; omega, h.2.1, h.2.2, by dsimp only; omega, by dsimp only; omega⟩
  · split
    · exact ⟨by dsimp only; omega, h.2.1, h.2.2, by dsimp only; omega, by dsimp only; omega⟩
    · rename_i h2 h3
      have d0 : dgt (chA T n (sayN T n 10 r p (lnZ 10).toNat).2) := Classical.byContradiction h3
      have l0 := dgt_lt d0
      split
      · rename_i h4
        have l1 := dgt_lt h4.2
        have d1 := h4.2
        exact ⟨by dsimp only; omega, by dsimp only; omega, by dsimp only; omega, by dsimp only; omega, by dsimp only; omega⟩
      · exact ⟨by dsimp only; omega, by dsimp only; omega, by dsimp only; omega, by dsimp only; omega, by dsimp only; omega⟩
