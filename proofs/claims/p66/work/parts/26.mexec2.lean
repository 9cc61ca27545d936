/-! the reference: an input read and done -/
def stZ (T : Int → Int) (n : Int) : Nat → Int
  | 0 => 0
  | j + 1 => (cmdR T n (stZ T n j)).2.1 + 1
def prsF (T : Int → Int) (n : Int) : Nat → Nat → Int × Int
  | 0, _ => (1, 0)
  | f + 1, j => if (cmdR T n (stZ T n j)).1 ≠ 0 then (1, (cmdR T n (stZ T n j)).2.1) else if chA T n (cmdR T n (stZ T n j)).2.1 = 59 then prsF T n f (j + 1) else if (cmdR T n (stZ T n j)).2.1 < n then (1, (cmdR T n (stZ T n j)).2.1) else (0, (j : Int) + 1)
def prsZ (T : Int → Int) (n : Int) : Int × Int := prsF T n 31 0
def cmdA (S : St) (T : Int → Int) (n : Int) (k : Nat) : Chg := actZ S (cmdK T n (stZ T n k)) (cmdR T n (stZ T n k)).2.2.1 (cmdR T n (stZ T n k)).2.2.2.1 (cmdR T n (stZ T n k)).2.2.2.2
def runF (T : Int → Int) (n v : Int) : Nat → Nat → St → Int × Int × St
  | 0, _, S => (-1, 0, S)
  | f + 1, k, S => if v ≤ k then (-1, 0, S) else if (cmdA S T n k).1 = 0 then runF T n v f (k + 1) (cmdA S T n k).2.2 else (k, (cmdA S T n k).1, S)
def exZ (S : St) (T : Int → Int) (n : Int) : Int × Int × Int × St := if (prsZ T n).1 ≠ 0 then (1, (prsZ T n).2, 0, S) else if (runF T n (prsZ T n).2 31 0 S).1 = -1 then (0, (prsZ T n).2, 0, (runF T n (prsZ T n).2 31 0 S).2.2) else if (runF T n (prsZ T n).2 31 0 S).2.1 < 0 then (2, (runF T n (prsZ T n).2 31 0 S).1, (runF T n (prsZ T n).2 31 0 S).2.1, S) else (3, (runF T n (prsZ T n).2 31 0 S).1, (runF T n (prsZ T n).2 31 0 S).2.1, S)
theorem sayN_r {T : Int → Int} {n : Int} {w : Nat} {r p : Int} (h : r ≠ 0) (k : Nat) : sayN T n w r p k = (r, p) := sayN_stop (k := 0) (Nat.zero_le k) h
theorem numZ_ok {T : Int → Int} {n r p k : Int} (hp : p ≤ n) (hr : 0 ≤ r ∧ r ≤ 1) (h : (numZ T n r p k).1 = 0) : r = 0 ∧ p + 1 ≤ (numZ T n r p k).2.1 := by
  have hb := sayN_b (T := T) (w := 10) hr hp (lnZ 10).toNat
  have hr0 : r = 0 := by
    by_cases c : r = 0
    · exact c
    · exfalso
      have h1 := sayN_r (T := T) (n := n) (w := 10) (p := p) c (lnZ 10).toNat
      unfold numZ at h
      dsimp only at h
      rw [h1, if_pos c] at h
      exact absurd (show (1 : Int) = 0 from h) (by decide)
  refine ⟨hr0, ?_⟩
  unfold numZ at h ⊢
  dsimp only at h ⊢
  split at h
  · exact absurd (show (1 : Int) = 0 from h) (by decide)
  · rename_i c1
    rw [if_neg c1]
    split at h
    · exact absurd (show (1 : Int) = 0 from h) (by decide)
    · rename_i c2
      rw [if_neg c2]
      split <;> (dsimp only; omega)
theorem oneZ_b {T : Int → Int} {n r a b d p : Int} {w : Nat} (hr : 0 ≤ r ∧ r ≤ 1) (hp : p ≤ n) : (0 ≤ (oneZ T n w r a b d p).1 ∧ (oneZ T n w r a b d p).1 ≤ 1) ∧ p ≤ (oneZ T n w r a b d p).2.1 ∧ (oneZ T n w r a b d p).2.1 ≤ n ∧ (0 ≤ (oneZ T n w r a b d p).2.2.1 ∧ (oneZ T n w r a b d p).2.2.1 ≤ 99) ∧ (0 ≤ (oneZ T n w r a b d p).2.2.2.1 ∧ (oneZ T n w r a b d p).2.2.2.1 ≤ 99) ∧ (0 ≤ (oneZ T n w r a b d p).2.2.2.2 ∧ (oneZ T n w r a b d p).2.2.2.2 ≤ 99) ∧ ((oneZ T n w r a b d p).1 = 0 → p + 1 ≤ (oneZ T n w r a b d p).2.1) := by
  have h1 := sayN_b (T := T) (w := w) hr hp (lnZ w).toNat
  generalize hq : sayN T n w r p (lnZ w).toNat = q at h1
  have h2 := numZ_b (T := T) (k := a) h1.1 h1.2.2
  have k2 := numZ_ok (T := T) (k := a) h1.2.2 h1.1
  generalize hx : numZ T n q.1 q.2 a = x at h2 k2
  obtain ⟨y, hy, h3, k3⟩ : ∃ y : Int × Int × Int, (if 0 < b then numZ T n x.1 x.2.1 b else (x.1, x.2.1, 0)) = y ∧ ((0 ≤ y.1 ∧ y.1 ≤ 1) ∧ x.2.1 ≤ y.2.1 ∧ y.2.1 ≤ n ∧ 0 ≤ y.2.2 ∧ y.2.2 ≤ 99) ∧ (y.1 = 0 → x.1 = 0) := by
    by_cases c : 0 < b
    · rw [if_pos c]
      exact ⟨_, rfl, numZ_b h2.1 h2.2.2.1, fun h => (numZ_ok h2.2.2.1 h2.1 h).1⟩
    · rw [if_neg c]
      exact ⟨_, rfl, ⟨h2.1, Int.le_refl _, h2.2.2.1, by dsimp only; omega, by dsimp only; omega⟩, fun h => h⟩
  obtain ⟨z, hz, h4, k4⟩ : ∃ z : Int × Int × Int, (if 0 < d then numZ T n y.1 y.2.1 d else (y.1, y.2.1, 0)) = z ∧ ((0 ≤ z.1 ∧ z.1 ≤ 1) ∧ y.2.1 ≤ z.2.1 ∧ z.2.1 ≤ n ∧ 0 ≤ z.2.2 ∧ z.2.2 ≤ 99) ∧ (z.1 = 0 → y.1 = 0) := by
    by_cases c : 0 < d
    · rw [if_pos c]
      exact ⟨_, rfl, numZ_b h3.1 h3.2.2.1, fun h => (numZ_ok h3.2.2.1 h3.1 h).1⟩
    · rw [if_neg c]
      exact ⟨_, rfl, ⟨h3.1, Int.le_refl _, h3.2.2.1, by dsimp only; omega, by dsimp only; omega⟩, fun h => h⟩
  have e : oneZ T n w r a b d p = (z.1, z.2.1, x.2.2, y.2.2, z.2.2) := by
    unfold oneZ
    dsimp only
    rw [hq, hx, hy, hz]
  rw [e]
  dsimp only
  refine ⟨h4.1, by omega, by omega, by omega, by omega, by omega, fun h => ?_⟩
  have := k2 (k3 (k4 h))
  omega
theorem cmdK_r (T : Int → Int) (n p : Int) : -1 ≤ cmdK T n p ∧ cmdK T n p ≤ 9 := by
  unfold cmdK
  (repeat' split) <;> omega
theorem cmdR_b {T : Int → Int} {n p : Int} (hp : p ≤ n) : (0 ≤ (cmdR T n p).1 ∧ (cmdR T n p).1 ≤ 1) ∧ p ≤ (cmdR T n p).2.1 ∧ (cmdR T n p).2.1 ≤ n ∧ (0 ≤ (cmdR T n p).2.2.1 ∧ (cmdR T n p).2.2.1 ≤ 99) ∧ (0 ≤ (cmdR T n p).2.2.2.1 ∧ (cmdR T n p).2.2.2.1 ≤ 99) ∧ (0 ≤ (cmdR T n p).2.2.2.2 ∧ (cmdR T n p).2.2.2.2 ≤ 99) ∧ ((cmdR T n p).1 = 0 → p + 1 ≤ (cmdR T n p).2.1 ∧ cmdK T n p ≠ -1) := by
  have hk := cmdK_r T n p
  have key : ∀ (w : Nat) (a b d : Int), cmdK T n p ≠ -1 → cmdR T n p = oneZ T n w 0 a b d p → (0 ≤ (cmdR T n p).1 ∧ (cmdR T n p).1 ≤ 1) ∧ p ≤ (cmdR T n p).2.1 ∧ (cmdR T n p).2.1 ≤ n ∧ (0 ≤ (cmdR T n p).2.2.1 ∧ (cmdR T n p).2.2.1 ≤ 99) ∧ (0 ≤ (cmdR T n p).2.2.2.1 ∧ (cmdR T n p).2.2.2.1 ≤ 99) ∧ (0 ≤ (cmdR T n p).2.2.2.2 ∧ (cmdR T n p).2.2.2.2 ≤ 99) ∧ ((cmdR T n p).1 = 0 → p + 1 ≤ (cmdR T n p).2.1 ∧ cmdK T n p ≠ -1) := by
    intro w a b d h1 h2
    rw [h2]
    have h := oneZ_b (T := T) (w := w) (a := a) (b := b) (d := d) (r := 0) (by omega) hp
    exact ⟨h.1, h.2.1, h.2.2.1, h.2.2.2.1, h.2.2.2.2.1, h.2.2.2.2.2.1, fun q => ⟨h.2.2.2.2.2.2 q, h1⟩⟩
  unfold cmdR at key ⊢
  generalize cmdK T n p = k at hk key ⊢
  rcases (show k = -1 ∨ k = 0 ∨ k = 1 ∨ k = 2 ∨ k = 3 ∨ k = 4 ∨ k = 5 ∨ k = 6 ∨ k = 7 ∨ k = 8 ∨ k = 9 by omega) with rfl | rfl | rfl | rfl | rfl | rfl | rfl | rfl | rfl | rfl | rfl
  · show (0 ≤ (1 : Int) ∧ (1 : Int) ≤ 1) ∧ p ≤ p ∧ p ≤ n ∧ (0 ≤ (0 : Int) ∧ (0 : Int) ≤ 99) ∧ (0 ≤ (0 : Int) ∧ (0 : Int) ≤ 99) ∧ (0 ≤ (0 : Int) ∧ (0 : Int) ≤ 99) ∧ ((1 : Int) = 0 → _)
    exact ⟨by decide, Int.le_refl _, hp, by decide, by decide, by decide, fun h => absurd h (by decide)⟩
  · exact key 11 1 1 2 (by decide) rfl
  · exact key 12 1 1 1 (by decide) rfl
  · exact key 13 2 0 0 (by decide) rfl
  · exact key 14 1 2 0 (by decide) rfl
  · exact key 16 1 1 2 (by decide) rfl
  · exact key 17 1 0 0 (by decide) rfl
  · exact key 18 1 2 0 (by decide) rfl
  · exact key 19 1 0 0 (by decide) rfl
  · exact key 15 2 0 0 (by decide) rfl
  · exact key 20 2 0 0 (by decide) rfl
def toP (T : Int → Int) (n : Int) (g : Int → Int) (i : Nat) : Prop := cmdK T n (stZ T n i) ≠ -1 → g (4 * (i : Int)) = srtZ (cmdK T n (stZ T n i)) ∧ g (4 * (i : Int) + 1) = (cmdR T n (stZ T n i)).2.2.1 ∧ (2 ≤ arZ (cmdK T n (stZ T n i)) → g (4 * (i : Int) + 2) = (cmdR T n (stZ T n i)).2.2.2.1) ∧ (3 ≤ arZ (cmdK T n (stZ T n i)) → g (4 * (i : Int) + 3) = (cmdR T n (stZ T n i)).2.2.2.2)
def gdP (T : Int → Int) (n : Int) (i : Nat) : Prop := (cmdR T n (stZ T n i)).1 = 0 ∧ chA T n (cmdR T n (stZ T n i)).2.1 = 59
/-- j commands are behind, one more is read -/
def prI (M : St) (T : Int → Int) (n : Int) (u : St) (j : Nat) : Prop := (u 8 14 = (cmdR T n (stZ T n j)).1 ∧ u 8 11 = (cmdR T n (stZ T n j)).2.1 ∧ u 8 13 = (j : Int) + 1) ∧ u 5 = T ∧ u 7 = M 7 ∧ (∀ i, i ≠ 11 → i ≠ 13 → i ≠ 14 → u 8 i = M 8 i) ∧ M 8 12 = n ∧ (∀ i, i ≤ j → toP T n (u 6) i) ∧ (∀ i, i < j → gdP T n i) ∧ 2 * (j : Int) ≤ stZ T n j ∧ stZ T n j ≤ n
theorem prI_0 {M u : St} {T : Int → Int} {n : Int} (hT : M 5 = T) (hn : M 8 12 = n) (hn0 : 0 ≤ n) (hp : M 8 11 = 0) (hc : M 8 13 = 0) (h : rd1P M u) : prI M T n u 0 := by
  obtain ⟨h1, h2, h3, h4, h5, h6, h7, h8⟩ := h
  rw [hT, hn, hp] at h1 h2 h8
  rw [hc] at h3 h8
  refine ⟨⟨h1, h2, h3⟩, h4.trans hT, h5, h6, hn, fun i hi => ?_, fun i hi => absurd hi (Nat.not_lt_zero _), by show (0 : Int) ≤ 0; omega, hn0⟩
  obtain rfl : i = 0 := by omega
  exact h8
theorem prI_s {M u u2 : St} {T : Int → Int} {n : Int} {j : Nat} (h : prI M T n u j) (h0 : (cmdR T n (stZ T n j)).1 = 0) (h59 : chA T n (cmdR T n (stZ T n j)).2.1 = 59) (hr : rd1P (upS u 8 11 (u 8 11 + 1)) u2) : prI M T n u2 (j + 1) := by
  obtain ⟨⟨a1, a2, a3⟩, a4, a5, a6, a7, a8, a9, a10, a11⟩ := h
  obtain ⟨h1, h2, h3, h4, h5, h6, h7, h8⟩ := hr
  have e5 : upS u 8 11 (u 8 11 + 1) 5 = T := a4
  have e12 : upS u 8 11 (u 8 11 + 1) 8 12 = n := (a6 12 (by decide) (by decide) (by decide)).trans a7
  have e11 : upS u 8 11 (u 8 11 + 1) 8 11 = stZ T n (j + 1) := by
    show u 8 11 + 1 = _
    rw [a2]
    rfl
  have e13 : upS u 8 11 (u 8 11 + 1) 8 13 = (j : Int) + 1 := a3
  rw [e5, e12, e11] at h1 h2 h8
  rw [e13] at h3 h7 h8
  have hb := cmdR_b (T := T) a11
  have hlt := chA_lt h59 (by decide)
  have hok := hb.2.2.2.2.2.2 h0
  refine ⟨⟨h1, h2, by rw [h3]; omega⟩, h4.trans e5, h5.trans a5, fun i i1 i2 i3 => (h6 i i1 i2 i3).trans ((upS_n (by omega)).trans (a6 i i1 i2 i3)), a7, fun i hi => ?_, fun i hi => ?_, ?_, ?_⟩
  · by_cases e : i = j + 1
    · subst e
      intro hk
      have h9 := h8 hk
      rw [show ((j + 1 : Nat) : Int) = (j : Int) + 1 by omega]
      exact h9
    · intro hk
      have h9 := a8 i (by omega) hk
      have q0 := h7 (4 * (i : Int)) (by omega)
      have q1 := h7 (4 * (i : Int) + 1) (by omega)
      have q2 := h7 (4 * (i : Int) + 2) (by omega)
      have q3 := h7 (4 * (i : Int) + 3) (by omega)
      exact ⟨q0.trans h9.1, q1.trans h9.2.1, fun z => q2.trans (h9.2.2.1 z), fun z => q3.trans (h9.2.2.2 z)⟩
  · by_cases e : i = j
    · subst e; exact ⟨h0, h59⟩
    · exact a9 i (by omega)
  · show 2 * ((j + 1 : Nat) : Int) ≤ (cmdR T n (stZ T n j)).2.1 + 1
    omega
  · show (cmdR T n (stZ T n j)).2.1 + 1 ≤ n
    omega
theorem prs_to {T : Int → Int} {n : Int} : ∀ (j : Nat), j ≤ 31 → (∀ i, i < j → gdP T n i) → prsZ T n = prsF T n (31 - j) j
  | 0, _, _ => rfl
  | j + 1, h, hg => by
    rw [prs_to j (by omega) (fun i hi => hg i (by omega)), show 31 - j = (31 - (j + 1)) + 1 by omega]
    have h1 := hg j (by omega)
    show (if (cmdR T n (stZ T n j)).1 ≠ 0 then _ else if chA T n (cmdR T n (stZ T n j)).2.1 = 59 then prsF T n (31 - (j + 1)) (j + 1) else _) = _
    rw [if_neg (fun q => q h1.1), if_pos h1.2]
theorem prs_bad {T : Int → Int} {n : Int} {j : Nat} (hj : j ≤ 30) (hg : ∀ i, i < j → gdP T n i) (h : (cmdR T n (stZ T n j)).1 ≠ 0 ∨ (chA T n (cmdR T n (stZ T n j)).2.1 ≠ 59 ∧ (cmdR T n (stZ T n j)).2.1 < n)) : prsZ T n = (1, (cmdR T n (stZ T n j)).2.1) := by
  rw [prs_to j (by omega) hg, show 31 - j = (30 - j) + 1 by omega]
  show (if (cmdR T n (stZ T n j)).1 ≠ 0 then _ else if chA T n (cmdR T n (stZ T n j)).2.1 = 59 then _ else if (cmdR T n (stZ T n j)).2.1 < n then _ else _) = _
  by_cases c : (cmdR T n (stZ T n j)).1 ≠ 0
  · rw [if_pos c]
  · rcases h with h | h
    · exact absurd h c
    · rw [if_neg c, if_neg h.1, if_pos h.2]
theorem prs_good {T : Int → Int} {n : Int} {j : Nat} (hj : j ≤ 30) (hg : ∀ i, i < j → gdP T n i) (h0 : (cmdR T n (stZ T n j)).1 = 0) (h1 : chA T n (cmdR T n (stZ T n j)).2.1 ≠ 59) (h2 : ¬ (cmdR T n (stZ T n j)).2.1 < n) : prsZ T n = (0, (j : Int) + 1) := by
  rw [prs_to j (by omega) hg, show 31 - j = (30 - j) + 1 by omega]
  show (if (cmdR T n (stZ T n j)).1 ≠ 0 then _ else if chA T n (cmdR T n (stZ T n j)).2.1 = 59 then _ else if (cmdR T n (stZ T n j)).2.1 < n then _ else _) = _
  rw [if_neg (fun q => q h0), if_neg h1, if_neg h2]
theorem runF_s {T : Int → Int} {n v : Int} {f k : Nat} {S : St} (h : (k : Int) < v) (h0 : (cmdA S T n k).1 = 0) : runF T n v (f + 1) k S = runF T n v f (k + 1) (cmdA S T n k).2.2 := by
  show (if v ≤ (k : Int) then _ else if (cmdA S T n k).1 = 0 then _ else _) = _
  rw [if_neg (by omega), if_pos h0]
theorem runF_x {T : Int → Int} {n v : Int} {f k : Nat} {S : St} (h : (k : Int) < v) (h0 : (cmdA S T n k).1 ≠ 0) : runF T n v (f + 1) k S = ((k : Int), (cmdA S T n k).1, S) := by
  show (if v ≤ (k : Int) then _ else if (cmdA S T n k).1 = 0 then _ else _) = _
  rw [if_neg (by omega), if_neg h0]
theorem runF_e {T : Int → Int} {n v : Int} {f k : Nat} {S : St} (h : v ≤ (k : Int)) : runF T n v f k S = (-1, 0, S) := by
  cases f with
  | zero => rfl
  | succ f =>
    show (if v ≤ (k : Int) then _ else _) = _
    rw [if_pos h]
theorem mAns_k {M : St} {c x : Int} {k : Nat} {i : Int} (h : ¬ (k = 8 ∧ (i = 9 ∨ i = 10))) : mAns M c x k i = M k i := by
  unfold mAns
  split
  · exact upS_n (by omega)
  · split
    · rfl
    · exact upS_n (by omega)
/-- what an execute leaves: t what is thrown, v the number, g the cause -/
def exP (M u : St) (t v g : Int) : Prop := u 8 0 = t ∧ u 8 1 = (if t = 0 then k1Z (M 8 1) else M 8 1) ∧ u 8 2 = M 8 2 ∧ u 8 3 = 0 ∧ u 8 4 = M 8 4 ∧ u 8 5 = (if t = 1 then v else M 8 5) ∧ u 8 6 = (if t = 3 then 12 else M 8 6) ∧ u 8 7 = (if t = 3 then v else M 8 7) ∧ u 8 8 = (if t = 3 then g else M 8 8) ∧ u 5 = M 5 ∧ u 7 = M 7
