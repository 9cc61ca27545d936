/-! the class: a command read -/
theorem ml_c {T : Int → Int} {n p : Int} {v w : Nat} : ∀ (f : Nat) (k : Int), 0 ≤ k → (∀ j : Nat, k ≤ j → (j : Int) < k + f → chZ v j = chZ w j) → mlZ T n v p f k = mlZ T n w p f k
  | 0, _, _, _ => rfl
  | f + 1, k, hk, h => by
    have e := h k.toNat (by omega) (by omega)
    rw [Int.toNat_of_nonneg hk] at e
    unfold mlZ
    rw [e, ml_c f (k + 1) (by omega) (fun j h1 h2 => h j (by omega) (by omega))]
theorem ml_s {T : Int → Int} {n p : Int} {w : Nat} : ∀ (f : Nat) (k : Int), mlZ T n w p (f + 1) k = if mlZ T n w p f k = k + f then (if chA T n (p + (k + f)) = chZ w (k + f) then k + f + 1 else k + f) else mlZ T n w p f k
  | 0, k => by
    show (if chA T n (p + k) = chZ w k then k + 1 else k) = if k = k + ((0 : Nat) : Int) then (if chA T n (p + (k + ((0 : Nat) : Int))) = chZ w (k + ((0 : Nat) : Int)) then k + ((0 : Nat) : Int) + 1 else k + ((0 : Nat) : Int)) else k
    rw [show k + ((0 : Nat) : Int) = k by omega, if_pos rfl]
  | f + 1, k => by
    have ih := ml_s (T := T) (n := n) (p := p) (w := w) f (k + 1)
    show (if chA T n (p + k) = chZ w k then mlZ T n w p (f + 1) (k + 1) else k) = if (if chA T n (p + k) = chZ w k then mlZ T n w p f (k + 1) else k) = _ then _ else (if chA T n (p + k) = chZ w k then mlZ T n w p f (k + 1) else k)
    by_cases c : chA T n (p + k) = chZ w k
    · rw [if_pos c, if_pos c, ih, show k + 1 + (f : Int) = k + ((f + 1 : Nat) : Int) by omega]
    · rw [if_neg c, if_neg c, if_neg (by omega)]
theorem say_m {T : Int → Int} {n p : Int} {w : Nat} : ∀ K : Nat, sayN T n w 0 p K = (if mlZ T n w p K 0 = K then 0 else 1, p + mlZ T n w p K 0)
  | 0 => by
    show ((0 : Int), p) = ((0 : Int), p + 0)
    rw [Int.add_zero]
  | K + 1 => by
    have ih := say_m (T := T) (n := n) (p := p) (w := w) K
    have hs := ml_s (T := T) (n := n) (p := p) (w := w) K 0
    rw [show (0 : Int) + (K : Int) = K by omega] at hs
    have hg := mlZ_ge (T := T) (n := n) (p := p) (w := w) K 0
    show (if (sayN T n w 0 p K).1 ≠ 0 then sayN T n w 0 p K else if chA T n (sayN T n w 0 p K).2 = chZ w K then (0, (sayN T n w 0 p K).2 + 1) else (1, (sayN T n w 0 p K).2)) = _
    rw [ih, hs]
    by_cases c : mlZ T n w p K 0 = K
    · rw [if_pos c, if_pos c, c]
      show (if (0 : Int) ≠ 0 then _ else if chA T n (p + (K : Int)) = chZ w K then ((0 : Int), p + (K : Int) + 1) else (1, p + (K : Int))) = _
      rw [if_neg (by decide)]
      by_cases c2 : chA T n (p + (K : Int)) = chZ w K
      · rw [if_pos c2, if_pos c2, if_pos (by omega)]
        exact congrArg (fun q => ((0 : Int), q)) (by omega)
      · rw [if_neg c2, if_neg c2, if_neg (by omega)]
    · rw [if_neg c, if_neg c]
      show (if (1 : Int) ≠ 0 then _ else _) = _
      rw [if_pos (by decide), if_neg (by omega)]
theorem hd_num {T : Int → Int} {n p : Int} {v w K : Nat} (d : Int) (hw : lnZ w = K) (hv : lnZ v = (K : Int) + 1) (hc : ∀ j, j < K → chZ v (j : Nat) = chZ w (j : Nat)) (h32 : chZ v (K : Nat) = 32) : numZ T n (sayN T n w 0 p (lnZ w).toNat).1 (sayN T n w 0 p (lnZ w).toNat).2 d = if mwZ T n v p = lnZ v then dgZ T n (p + lnZ v) d else (1, p + mwZ T n v p, 0) := by
  have hm := ml_s (T := T) (n := n) (p := p) (w := v) K 0
  have hcc := ml_c (T := T) (n := n) (p := p) (v := v) (w := w) K 0 (by omega) (fun j _ h2 => hc j (by omega))
  rw [show (0 : Int) + (K : Int) = K by omega, hcc, h32] at hm
  have hmw : mwZ T n v p = mlZ T n v p (K + 1) 0 := by
    unfold mwZ
    rw [hv, show ((K : Int) + 1).toNat = K + 1 by omega]
  have hg := mlZ_ge (T := T) (n := n) (p := p) (w := w) K 0
  rw [hw, show (K : Int).toNat = K by omega, say_m, hmw, hm, hv]
  dsimp only
  by_cases c : mlZ T n w p K 0 = K
  · rw [if_pos c, if_pos c, c]
    by_cases c2 : chA T n (p + (K : Int)) = 32
    · rw [if_pos c2, if_pos rfl, num_0 c2, show p + (K : Int) + 1 = p + ((K : Int) + 1) by omega]
    · rw [if_neg c2, if_neg (by omega), num_n c2]
  · rw [if_neg c, if_neg c, if_neg (by omega), num_x (by decide)]
theorem cmd_f {T : Int → Int} {n p : Int} (hf : fuW T n p) : (cmdR T n p).1 = (ngZ T n (p + qZ T n p) (cmdK T n p).toNat (vbNZ (cmdK T n p).toNat - 1).toNat).1 ∧ (cmdR T n p).2.1 = (ngZ T n (p + qZ T n p) (cmdK T n p).toNat (vbNZ (cmdK T n p).toNat - 1).toNat).2.1 ∧ (cmdR T n p).2.2.1 = (ngZ T n (p + qZ T n p) (cmdK T n p).toNat 0).2.2 ∧ (2 ≤ arZ (cmdK T n p) → (cmdR T n p).2.2.2.1 = (ngZ T n (p + qZ T n p) (cmdK T n p).toNat 1).2.2) ∧ (3 ≤ arZ (cmdK T n p) → (cmdR T n p).2.2.2.2 = (ngZ T n (p + qZ T n p) (cmdK T n p).toNat 2).2.2) ∧ vbNZ (cmdK T n p).toNat = arZ (cmdK T n p) := by
  obtain ⟨h1, h2⟩ := hf
  have hr := cmdK_r T n p
  rcases (show cmdK T n p = 0 ∨ cmdK T n p = 1 ∨ cmdK T n p = 2 ∨ cmdK T n p = 3 ∨ cmdK T n p = 4 ∨ cmdK T n p = 5 ∨ cmdK T n p = 6 ∨ cmdK T n p = 7 ∨ cmdK T n p = 8 ∨ cmdK T n p = 9 by omega) with hk | hk | hk | hk | hk | hk | hk | hk | hk | hk <;> rw [hk] at h2 ⊢
  · have h := hd_num (T := T) (n := n) (p := p) (v := 0) (w := 11) (K := 5) 1 (by decide +kernel) (by decide +kernel) (by decide +kernel) (by decide +kernel)
    rw [if_pos (show mwZ T n 0 p = lnZ 0 from h2)] at h
    have eq : qZ T n p = lnZ 0 := by unfold qZ; rw [hk]; exact h2
    have eR : cmdR T n p = oneZ T n 11 0 1 1 2 p := by unfold cmdR; rw [hk]; rfl
    have w0 : wdZ 0 0 = 1 := by decide +kernel
    have w1 : wdZ 0 ((0 : Nat) + 1) = 1 := by decide +kernel
    have w2 : wdZ 0 ((1 : Nat) + 1) = 2 := by decide +kernel
    have g0 : ngZ T n (p + qZ T n p) 0 0 = numZ T n (sayN T n 11 0 p (lnZ 11).toNat).1 (sayN T n 11 0 p (lnZ 11).toNat).2 1 := by rw [h, eq]; show dgZ _ _ _ (wdZ 0 0) = _; rw [w0]
    have g1 : ngZ T n (p + qZ T n p) 0 1 = numZ T n (ngZ T n (p + qZ T n p) 0 0).1 (ngZ T n (p + qZ T n p) 0 0).2.1 1 := by show numZ _ _ _ _ (wdZ 0 ((0 : Nat) + 1)) = _; rw [w1]
    have g2 : ngZ T n (p + qZ T n p) 0 2 = numZ T n (ngZ T n (p + qZ T n p) 0 1).1 (ngZ T n (p + qZ T n p) 0 1).2.1 2 := by show numZ _ _ _ _ (wdZ 0 ((1 : Nat) + 1)) = _; rw [w2]
    show _ = (ngZ T n (p + qZ T n p) 0 (vbNZ 0 - 1).toNat).1 ∧ _ = (ngZ T n (p + qZ T n p) 0 (vbNZ 0 - 1).toNat).2.1 ∧ _ = (ngZ T n (p + qZ T n p) 0 0).2.2 ∧ (2 ≤ arZ 0 → _ = (ngZ T n (p + qZ T n p) 0 1).2.2) ∧ (3 ≤ arZ 0 → _ = (ngZ T n (p + qZ T n p) 0 2).2.2) ∧ vbNZ 0 = arZ 0
    rw [show (vbNZ 0 - 1).toNat = 2 by decide +kernel, eR, g2, g1, g0]
    exact ⟨rfl, rfl, rfl, fun _ => rfl, fun _ => rfl, by decide +kernel⟩
  · have h := hd_num (T := T) (n := n) (p := p) (v := 1) (w := 12) (K := 8) 1 (by decide +kernel) (by decide +kernel) (by decide +kernel) (by decide +kernel)
    rw [if_pos (show mwZ T n 1 p = lnZ 1 from h2)] at h
    have eq : qZ T n p = lnZ 1 := by unfold qZ; rw [hk]; exact h2
    have eR : cmdR T n p = oneZ T n 12 0 1 1 1 p := by unfold cmdR; rw [hk]; rfl
    have w0 : wdZ 1 0 = 1 := by decide +kernel
    have w1 : wdZ 1 ((0 : Nat) + 1) = 1 := by decide +kernel
    have w2 : wdZ 1 ((1 : Nat) + 1) = 1 := by decide +kernel
    have g0 : ngZ T n (p + qZ T n p) 1 0 = numZ T n (sayN T n 12 0 p (lnZ 12).toNat).1 (sayN T n 12 0 p (lnZ 12).toNat).2 1 := by rw [h, eq]; show dgZ _ _ _ (wdZ 1 0) = _; rw [w0]
    have g1 : ngZ T n (p + qZ T n p) 1 1 = numZ T n (ngZ T n (p + qZ T n p) 1 0).1 (ngZ T n (p + qZ T n p) 1 0).2.1 1 := by show numZ _ _ _ _ (wdZ 1 ((0 : Nat) + 1)) = _; rw [w1]
    have g2 : ngZ T n (p + qZ T n p) 1 2 = numZ T n (ngZ T n (p + qZ T n p) 1 1).1 (ngZ T n (p + qZ T n p) 1 1).2.1 1 := by show numZ _ _ _ _ (wdZ 1 ((1 : Nat) + 1)) = _; rw [w2]
    show _ = (ngZ T n (p + qZ T n p) 1 (vbNZ 1 - 1).toNat).1 ∧ _ = (ngZ T n (p + qZ T n p) 1 (vbNZ 1 - 1).toNat).2.1 ∧ _ = (ngZ T n (p + qZ T n p) 1 0).2.2 ∧ (2 ≤ arZ 1 → _ = (ngZ T n (p + qZ T n p) 1 1).2.2) ∧ (3 ≤ arZ 1 → _ = (ngZ T n (p + qZ T n p) 1 2).2.2) ∧ vbNZ 1 = arZ 1
    rw [show (vbNZ 1 - 1).toNat = 2 by decide +kernel, eR, g2, g1, g0]
    exact ⟨rfl, rfl, rfl, fun _ => rfl, fun _ => rfl, by decide +kernel⟩
  · have h := hd_num (T := T) (n := n) (p := p) (v := 2) (w := 13) (K := 6) 2 (by decide +kernel) (by decide +kernel) (by decide +kernel) (by decide +kernel)
    rw [if_pos (show mwZ T n 2 p = lnZ 2 from h2)] at h
    have eq : qZ T n p = lnZ 2 := by unfold qZ; rw [hk]; exact h2
    have eR : cmdR T n p = oneZ T n 13 0 2 0 0 p := by unfold cmdR; rw [hk]; rfl
    have w0 : wdZ 2 0 = 2 := by decide +kernel
    have g0 : ngZ T n (p + qZ T n p) 2 0 = numZ T n (sayN T n 13 0 p (lnZ 13).toNat).1 (sayN T n 13 0 p (lnZ 13).toNat).2 2 := by rw [h, eq]; show dgZ _ _ _ (wdZ 2 0) = _; rw [w0]
    show _ = (ngZ T n (p + qZ T n p) 2 (vbNZ 2 - 1).toNat).1 ∧ _ = (ngZ T n (p + qZ T n p) 2 (vbNZ 2 - 1).toNat).2.1 ∧ _ = (ngZ T n (p + qZ T n p) 2 0).2.2 ∧ (2 ≤ arZ 2 → _ = (ngZ T n (p + qZ T n p) 2 1).2.2) ∧ (3 ≤ arZ 2 → _ = (ngZ T n (p + qZ T n p) 2 2).2.2) ∧ vbNZ 2 = arZ 2
    rw [show (vbNZ 2 - 1).toNat = 0 by decide +kernel, eR, g0]
    exact ⟨rfl, rfl, rfl, fun q => absurd q (by decide), fun q => absurd q (by decide), by decide +kernel⟩
  · have h := hd_num (T := T) (n := n) (p := p) (v := 3) (w := 14) (K := 4) 1 (by decide +kernel) (by decide +kernel) (by decide +kernel) (by decide +kernel)
    rw [if_pos (show mwZ T n 3 p = lnZ 3 from h2)] at h
    have eq : qZ T n p = lnZ 3 := by unfold qZ; rw [hk]; exact h2
    have eR : cmdR T n p = oneZ T n 14 0 1 2 0 p := by unfold cmdR; rw [hk]; rfl
    have w0 : wdZ 3 0 = 1 := by decide +kernel
    have w1 : wdZ 3 ((0 : Nat) + 1) = 2 := by decide +kernel
    have g0 : ngZ T n (p + qZ T n p) 3 0 = numZ T n (sayN T n 14 0 p (lnZ 14).toNat).1 (sayN T n 14 0 p (lnZ 14).toNat).2 1 := by rw [h, eq]; show dgZ _ _ _ (wdZ 3 0) = _; rw [w0]
    have g1 : ngZ T n (p + qZ T n p) 3 1 = numZ T n (ngZ T n (p + qZ T n p) 3 0).1 (ngZ T n (p + qZ T n p) 3 0).2.1 2 := by show numZ _ _ _ _ (wdZ 3 ((0 : Nat) + 1)) = _; rw [w1]
    show _ = (ngZ T n (p + qZ T n p) 3 (vbNZ 3 - 1).toNat).1 ∧ _ = (ngZ T n (p + qZ T n p) 3 (vbNZ 3 - 1).toNat).2.1 ∧ _ = (ngZ T n (p + qZ T n p) 3 0).2.2 ∧ (2 ≤ arZ 3 → _ = (ngZ T n (p + qZ T n p) 3 1).2.2) ∧ (3 ≤ arZ 3 → _ = (ngZ T n (p + qZ T n p) 3 2).2.2) ∧ vbNZ 3 = arZ 3
    rw [show (vbNZ 3 - 1).toNat = 1 by decide +kernel, eR, g1, g0]
    exact ⟨rfl, rfl, rfl, fun _ => rfl, fun q => absurd q (by decide), by decide +kernel⟩
  · have h := hd_num (T := T) (n := n) (p := p) (v := 4) (w := 16) (K := 5) 1 (by decide +kernel) (by decide +kernel) (by decide +kernel) (by decide +kernel)
    rw [if_pos (show mwZ T n 4 p = lnZ 4 from h2)] at h
    have eq : qZ T n p = lnZ 4 := by unfold qZ; rw [hk]; exact h2
    have eR : cmdR T n p = oneZ T n 16 0 1 1 2 p := by unfold cmdR; rw [hk]; rfl
    have w0 : wdZ 4 0 = 1 := by decide +kernel
    have w1 : wdZ 4 ((0 : Nat) + 1) = 1 := by decide +kernel
    have w2 : wdZ 4 ((1 : Nat) + 1) = 2 := by decide +kernel
    have g0 : ngZ T n (p + qZ T n p) 4 0 = numZ T n (sayN T n 16 0 p (lnZ 16).toNat).1 (sayN T n 16 0 p (lnZ 16).toNat).2 1 := by rw [h, eq]; show dgZ _ _ _ (wdZ 4 0) = _; rw [w0]
    have g1 : ngZ T n (p + qZ T n p) 4 1 = numZ T n (ngZ T n (p + qZ T n p) 4 0).1 (ngZ T n (p + qZ T n p) 4 0).2.1 1 := by show numZ _ _ _ _ (wdZ 4 ((0 : Nat) + 1)) = _; rw [w1]
    have g2 : ngZ T n (p + qZ T n p) 4 2 = numZ T n (ngZ T n (p + qZ T n p) 4 1).1 (ngZ T n (p + qZ T n p) 4 1).2.1 2 := by show numZ _ _ _ _ (wdZ 4 ((1 : Nat) + 1)) = _; rw [w2]
    show _ = (ngZ T n (p + qZ T n p) 4 (vbNZ 4 - 1).toNat).1 ∧ _ = (ngZ T n (p + qZ T n p) 4 (vbNZ 4 - 1).toNat).2.1 ∧ _ = (ngZ T n (p + qZ T n p) 4 0).2.2 ∧ (2 ≤ arZ 4 → _ = (ngZ T n (p + qZ T n p) 4 1).2.2) ∧ (3 ≤ arZ 4 → _ = (ngZ T n (p + qZ T n p) 4 2).2.2) ∧ vbNZ 4 = arZ 4
    rw [show (vbNZ 4 - 1).toNat = 2 by decide +kernel, eR, g2, g1, g0]
    exact ⟨rfl, rfl, rfl, fun _ => rfl, fun _ => rfl, by decide +kernel⟩
  · have h := hd_num (T := T) (n := n) (p := p) (v := 5) (w := 17) (K := 3) 1 (by decide +kernel) (by decide +kernel) (by decide +kernel) (by decide +kernel)
    rw [if_pos (show mwZ T n 5 p = lnZ 5 from h2)] at h
    have eq : qZ T n p = lnZ 5 := by unfold qZ; rw [hk]; exact h2
    have eR : cmdR T n p = oneZ T n 17 0 1 0 0 p := by unfold cmdR; rw [hk]; rfl
    have w0 : wdZ 5 0 = 1 := by decide +kernel
    have g0 : ngZ T n (p + qZ T n p) 5 0 = numZ T n (sayN T n 17 0 p (lnZ 17).toNat).1 (sayN T n 17 0 p (lnZ 17).toNat).2 1 := by rw [h, eq]; show dgZ _ _ _ (wdZ 5 0) = _; rw [w0]
    show _ = (ngZ T n (p + qZ T n p) 5 (vbNZ 5 - 1).toNat).1 ∧ _ = (ngZ T n (p + qZ T n p) 5 (vbNZ 5 - 1).toNat).2.1 ∧ _ = (ngZ T n (p + qZ T n p) 5 0).2.2 ∧ (2 ≤ arZ 5 → _ = (ngZ T n (p + qZ T n p) 5 1).2.2) ∧ (3 ≤ arZ 5 → _ = (ngZ T n (p + qZ T n p) 5 2).2.2) ∧ vbNZ 5 = arZ 5
    rw [show (vbNZ 5 - 1).toNat = 0 by decide +kernel, eR, g0]
    exact ⟨rfl, rfl, rfl, fun q => absurd q (by decide), fun q => absurd q (by decide), by decide +kernel⟩
  · have h := hd_num (T := T) (n := n) (p := p) (v := 6) (w := 18) (K := 5) 1 (by decide +kernel) (by decide +kernel) (by decide +kernel) (by decide +kernel)
    rw [if_pos (show mwZ T n 6 p = lnZ 6 from h2)] at h
    have eq : qZ T n p = lnZ 6 := by unfold qZ; rw [hk]; exact h2
    have eR : cmdR T n p = oneZ T n 18 0 1 2 0 p := by unfold cmdR; rw [hk]; rfl
    have w0 : wdZ 6 0 = 1 := by decide +kernel
    have w1 : wdZ 6 ((0 : Nat) + 1) = 2 := by decide +kernel
    have g0 : ngZ T n (p + qZ T n p) 6 0 = numZ T n (sayN T n 18 0 p (lnZ 18).toNat).1 (sayN T n 18 0 p (lnZ 18).toNat).2 1 := by rw [h, eq]; show dgZ _ _ _ (wdZ 6 0) = _; rw [w0]
    have g1 : ngZ T n (p + qZ T n p) 6 1 = numZ T n (ngZ T n (p + qZ T n p) 6 0).1 (ngZ T n (p + qZ T n p) 6 0).2.1 2 := by show numZ _ _ _ _ (wdZ 6 ((0 : Nat) + 1)) = _; rw [w1]
    show _ = (ngZ T n (p + qZ T n p) 6 (vbNZ 6 - 1).toNat).1 ∧ _ = (ngZ T n (p + qZ T n p) 6 (vbNZ 6 - 1).toNat).2.1 ∧ _ = (ngZ T n (p + qZ T n p) 6 0).2.2 ∧ (2 ≤ arZ 6 → _ = (ngZ T n (p + qZ T n p) 6 1).2.2) ∧ (3 ≤ arZ 6 → _ = (ngZ T n (p + qZ T n p) 6 2).2.2) ∧ vbNZ 6 = arZ 6
    rw [show (vbNZ 6 - 1).toNat = 1 by decide +kernel, eR, g1, g0]
    exact ⟨rfl, rfl, rfl, fun _ => rfl, fun q => absurd q (by decide), by decide +kernel⟩
  · have h := hd_num (T := T) (n := n) (p := p) (v := 7) (w := 19) (K := 6) 1 (by decide +kernel) (by decide +kernel) (by decide +kernel) (by decide +kernel)
    rw [if_pos (show mwZ T n 7 p = lnZ 7 from h2)] at h
    have eq : qZ T n p = lnZ 7 := by unfold qZ; rw [hk]; exact h2
    have eR : cmdR T n p = oneZ T n 19 0 1 0 0 p := by unfold cmdR; rw [hk]; rfl
    have w0 : wdZ 7 0 = 1 := by decide +kernel
    have g0 : ngZ T n (p + qZ T n p) 7 0 = numZ T n (sayN T n 19 0 p (lnZ 19).toNat).1 (sayN T n 19 0 p (lnZ 19).toNat).2 1 := by rw [h, eq]; show dgZ _ _ _ (wdZ 7 0) = _; rw [w0]
    show _ = (ngZ T n (p + qZ T n p) 7 (vbNZ 7 - 1).toNat).1 ∧ _ = (ngZ T n (p + qZ T n p) 7 (vbNZ 7 - 1).toNat).2.1 ∧ _ = (ngZ T n (p + qZ T n p) 7 0).2.2 ∧ (2 ≤ arZ 7 → _ = (ngZ T n (p + qZ T n p) 7 1).2.2) ∧ (3 ≤ arZ 7 → _ = (ngZ T n (p + qZ T n p) 7 2).2.2) ∧ vbNZ 7 = arZ 7
    rw [show (vbNZ 7 - 1).toNat = 0 by decide +kernel, eR, g0]
    exact ⟨rfl, rfl, rfl, fun q => absurd q (by decide), fun q => absurd q (by decide), by decide +kernel⟩
  · have h := hd_num (T := T) (n := n) (p := p) (v := 8) (w := 15) (K := 5) 2 (by decide +kernel) (by decide +kernel) (by decide +kernel) (by decide +kernel)
    rw [if_pos (show mwZ T n 8 p = lnZ 8 from h2)] at h
    have eq : qZ T n p = lnZ 8 := by unfold qZ; rw [hk]; exact h2
    have eR : cmdR T n p = oneZ T n 15 0 2 0 0 p := by unfold cmdR; rw [hk]; rfl
    have w0 : wdZ 8 0 = 2 := by decide +kernel
    have g0 : ngZ T n (p + qZ T n p) 8 0 = numZ T n (sayN T n 15 0 p (lnZ 15).toNat).1 (sayN T n 15 0 p (lnZ 15).toNat).2 2 := by rw [h, eq]; show dgZ _ _ _ (wdZ 8 0) = _; rw [w0]
    show _ = (ngZ T n (p + qZ T n p) 8 (vbNZ 8 - 1).toNat).1 ∧ _ = (ngZ T n (p + qZ T n p) 8 (vbNZ 8 - 1).toNat).2.1 ∧ _ = (ngZ T n (p + qZ T n p) 8 0).2.2 ∧ (2 ≤ arZ 8 → _ = (ngZ T n (p + qZ T n p) 8 1).2.2) ∧ (3 ≤ arZ 8 → _ = (ngZ T n (p + qZ T n p) 8 2).2.2) ∧ vbNZ 8 = arZ 8
    rw [show (vbNZ 8 - 1).toNat = 0 by decide +kernel, eR, g0]
    exact ⟨rfl, rfl, rfl, fun q => absurd q (by decide), fun q => absurd q (by decide), by decide +kernel⟩
  · have h := hd_num (T := T) (n := n) (p := p) (v := 9) (w := 20) (K := 4) 2 (by decide +kernel) (by decide +kernel) (by decide +kernel) (by decide +kernel)
    rw [if_pos (show mwZ T n 9 p = lnZ 9 from h2)] at h
    have eq : qZ T n p = lnZ 9 := by unfold qZ; rw [hk]; exact h2
    have eR : cmdR T n p = oneZ T n 20 0 2 0 0 p := by unfold cmdR; rw [hk]; rfl
    have w0 : wdZ 9 0 = 2 := by decide +kernel
    have g0 : ngZ T n (p + qZ T n p) 9 0 = numZ T n (sayN T n 20 0 p (lnZ 20).toNat).1 (sayN T n 20 0 p (lnZ 20).toNat).2 2 := by rw [h, eq]; show dgZ _ _ _ (wdZ 9 0) = _; rw [w0]
    show _ = (ngZ T n (p + qZ T n p) 9 (vbNZ 9 - 1).toNat).1 ∧ _ = (ngZ T n (p + qZ T n p) 9 (vbNZ 9 - 1).toNat).2.1 ∧ _ = (ngZ T n (p + qZ T n p) 9 0).2.2 ∧ (2 ≤ arZ 9 → _ = (ngZ T n (p + qZ T n p) 9 1).2.2) ∧ (3 ≤ arZ 9 → _ = (ngZ T n (p + qZ T n p) 9 2).2.2) ∧ vbNZ 9 = arZ 9
    rw [show (vbNZ 9 - 1).toNat = 0 by decide +kernel, eR, g0]
    exact ⟨rfl, rfl, rfl, fun q => absurd q (by decide), fun q => absurd q (by decide), by decide +kernel⟩
theorem cmd_x {T : Int → Int} {n p : Int} (hf : ¬ fuW T n p) : (cmdR T n p).1 = 1 ∧ (cmdR T n p).2.1 = p + qZ T n p := by
  have hr := cmdK_r T n p
  rcases (show cmdK T n p = -1 ∨ cmdK T n p = 0 ∨ cmdK T n p = 1 ∨ cmdK T n p = 2 ∨ cmdK T n p = 3 ∨ cmdK T n p = 4 ∨ cmdK T n p = 5 ∨ cmdK T n p = 6 ∨ cmdK T n p = 7 ∨ cmdK T n p = 8 ∨ cmdK T n p = 9 by omega) with hk | hk | hk | hk | hk | hk | hk | hk | hk | hk | hk
  · have eR : cmdR T n p = (1, p, 0, 0, 0) := by unfold cmdR; rw [hk]; rfl
    rw [eR]
    unfold qZ
    rw [if_pos hk]
    exact ⟨rfl, (Int.add_zero p).symm⟩
  · have h := hd_num (T := T) (n := n) (p := p) (v := 0) (w := 11) (K := 5) 1 (by decide +kernel) (by decide +kernel) (by decide +kernel) (by decide +kernel)
    rw [if_neg (fun q => hf ⟨by rw [hk]; decide, by rw [hk]; exact q⟩)] at h
    have eq : qZ T n p = mwZ T n 0 p := by unfold qZ; rw [hk]; rfl
    have eR : cmdR T n p = oneZ T n 11 0 1 1 2 p := by unfold cmdR; rw [hk]; rfl
    rw [eR, eq]
    unfold oneZ
    dsimp only
    rw [h]
    rw [if_pos (show (0 : Int) < 1 by decide), num_x (show (1 : Int) ≠ 0 by decide)]
    rw [if_pos (show (0 : Int) < 2 by decide), num_x (show (1 : Int) ≠ 0 by decide)]
    exact ⟨rfl, rfl⟩
  · have h := hd_num (T := T) (n := n) (p := p) (v := 1) (w := 12) (K := 8) 1 (by decide +kernel) (by decide +kernel) (by decide +kernel) (by decide +kernel)
    rw [if_neg (fun q => hf ⟨by rw [hk]; decide, by rw [hk]; exact q⟩)] at h
    have eq : qZ T n p = mwZ T n 1 p := by unfold qZ; rw [hk]; rfl
    have eR : cmdR T n p = oneZ T n 12 0 1 1 1 p := by unfold cmdR; rw [hk]; rfl
    rw [eR, eq]
    unfold oneZ
    dsimp only
    rw [h]
    rw [if_pos (show (0 : Int) < 1 by decide), num_x (show (1 : Int) ≠ 0 by decide)]
    rw [if_pos (show (0 : Int) < 1 by decide), num_x (show (1 : Int) ≠ 0 by decide)]
    exact ⟨rfl, rfl⟩
  · have h := hd_num (T := T) (n := n) (p := p) (v := 2) (w := 13) (K := 6) 2 (by decide +kernel) (by decide +kernel) (by decide +kernel) (by decide +kernel)
    rw [if_neg (fun q => hf ⟨by rw [hk]; decide, by rw [hk]; exact q⟩)] at h
    have eq : qZ T n p = mwZ T n 2 p := by unfold qZ; rw [hk]; rfl
    have eR : cmdR T n p = oneZ T n 13 0 2 0 0 p := by unfold cmdR; rw [hk]; rfl
    rw [eR, eq]
    unfold oneZ
    dsimp only
    rw [h]
    rw [if_neg (show ¬ (0 : Int) < 0 by decide)]
    (try rw [if_neg (show ¬ (0 : Int) < 0 by decide)])
    exact ⟨rfl, rfl⟩
  · have h := hd_num (T := T) (n := n) (p := p) (v := 3) (w := 14) (K := 4) 1 (by decide +kernel) (by decide +kernel) (by decide +kernel) (by decide +kernel)
    rw [if_neg (fun q => hf ⟨by rw [hk]; decide, by rw [hk]; exact q⟩)] at h
    have eq : qZ T n p = mwZ T n 3 p := by unfold qZ; rw [hk]; rfl
    have eR : cmdR T n p = oneZ T n 14 0 1 2 0 p := by unfold cmdR; rw [hk]; rfl
    rw [eR, eq]
    unfold oneZ
    dsimp only
    rw [h]
    rw [if_pos (show (0 : Int) < 2 by decide), num_x (show (1 : Int) ≠ 0 by decide)]
    (try rw [if_neg (show ¬ (0 : Int) < 0 by decide)])
    exact ⟨rfl, rfl⟩
  · have h := hd_num (T := T) (n := n) (p := p) (v := 4) (w := 16) (K := 5) 1 (by decide +kernel) (by decide +kernel) (by decide +kernel) (by decide +kernel)
    rw [if_neg (fun q => hf ⟨by rw [hk]; decide, by rw [hk]; exact q⟩)] at h
    have eq : qZ T n p = mwZ T n 4 p := by unfold qZ; rw [hk]; rfl
    have eR : cmdR T n p = oneZ T n 16 0 1 1 2 p := by unfold cmdR; rw [hk]; rfl
    rw [eR, eq]
    unfold oneZ
    dsimp only
    rw [h]
    rw [if_pos (show (0 : Int) < 1 by decide), num_x (show (1 : Int) ≠ 0 by decide)]
    rw [if_pos (show (0 : Int) < 2 by decide), num_x (show (1 : Int) ≠ 0 by decide)]
    exact ⟨rfl, rfl⟩
  · have h := hd_num (T := T) (n := n) (p := p) (v := 5) (w := 17) (K := 3) 1 (by decide +kernel) (by decide +kernel) (by decide +kernel) (by decide +kernel)
    rw [if_neg (fun q => hf ⟨by rw [hk]; decide, by rw [hk]; exact q⟩)] at h
    have eq : qZ T n p = mwZ T n 5 p := by unfold qZ; rw [hk]; rfl
    have eR : cmdR T n p = oneZ T n 17 0 1 0 0 p := by unfold cmdR; rw [hk]; rfl
    rw [eR, eq]
    unfold oneZ
    dsimp only
    rw [h]
    rw [if_neg (show ¬ (0 : Int) < 0 by decide)]
    (try rw [if_neg (show ¬ (0 : Int) < 0 by decide)])
    exact ⟨rfl, rfl⟩
  · have h := hd_num (T := T) (n := n) (p := p) (v := 6) (w := 18) (K := 5) 1 (by decide +kernel) (by decide +kernel) (by decide +kernel) (by decide +kernel)
    rw [if_neg (fun q => hf ⟨by rw [hk]; decide, by rw [hk]; exact q⟩)] at h
    have eq : qZ T n p = mwZ T n 6 p := by unfold qZ; rw [hk]; rfl
    have eR : cmdR T n p = oneZ T n 18 0 1 2 0 p := by unfold cmdR; rw [hk]; rfl
    rw [eR, eq]
    unfold oneZ
    dsimp only
    rw [h]
    rw [if_pos (show (0 : Int) < 2 by decide), num_x (show (1 : Int) ≠ 0 by decide)]
    (try rw [if_neg (show ¬ (0 : Int) < 0 by decide)])
    exact ⟨rfl, rfl⟩
  · have h := hd_num (T := T) (n := n) (p := p) (v := 7) (w := 19) (K := 6) 1 (by decide +kernel) (by decide +kernel) (by decide +kernel) (by decide +kernel)
    rw [if_neg (fun q => hf ⟨by rw [hk]; decide, by rw [hk]; exact q⟩)] at h
    have eq : qZ T n p = mwZ T n 7 p := by unfold qZ; rw [hk]; rfl
    have eR : cmdR T n p = oneZ T n 19 0 1 0 0 p := by unfold cmdR; rw [hk]; rfl
    rw [eR, eq]
    unfold oneZ
    dsimp only
    rw [h]
    rw [if_neg (show ¬ (0 : Int) < 0 by decide)]
    (try rw [if_neg (show ¬ (0 : Int) < 0 by decide)])
    exact ⟨rfl, rfl⟩
  · have h := hd_num (T := T) (n := n) (p := p) (v := 8) (w := 15) (K := 5) 2 (by decide +kernel) (by decide +kernel) (by decide +kernel) (by decide +kernel)
    rw [if_neg (fun q => hf ⟨by rw [hk]; decide, by rw [hk]; exact q⟩)] at h
    have eq : qZ T n p = mwZ T n 8 p := by unfold qZ; rw [hk]; rfl
    have eR : cmdR T n p = oneZ T n 15 0 2 0 0 p := by unfold cmdR; rw [hk]; rfl
    rw [eR, eq]
    unfold oneZ
    dsimp only
    rw [h]
    rw [if_neg (show ¬ (0 : Int) < 0 by decide)]
    (try rw [if_neg (show ¬ (0 : Int) < 0 by decide)])
    exact ⟨rfl, rfl⟩
  · have h := hd_num (T := T) (n := n) (p := p) (v := 9) (w := 20) (K := 4) 2 (by decide +kernel) (by decide +kernel) (by decide +kernel) (by decide +kernel)
    rw [if_neg (fun q => hf ⟨by rw [hk]; decide, by rw [hk]; exact q⟩)] at h
    have eq : qZ T n p = mwZ T n 9 p := by unfold qZ; rw [hk]; rfl
    have eR : cmdR T n p = oneZ T n 20 0 2 0 0 p := by unfold cmdR; rw [hk]; rfl
    rw [eR, eq]
    unfold oneZ
    dsimp only
    rw [h]
    rw [if_neg (show ¬ (0 : Int) < 0 by decide)]
    (try rw [if_neg (show ¬ (0 : Int) < 0 by decide)])
    exact ⟨rfl, rfl⟩

/-- what reading a command leaves -/
def rcP (I u : St) : Prop := u 0 0 = I 0 0 ∧ u 1 = I 1 ∧ u 0 1 = (cmdR (I 1) (I 0 0) (I 0 1)).2.1 ∧ (0 ≤ u 0 2 ∧ u 0 2 ≤ 9) ∧ ((cmdR (I 1) (I 0 0) (I 0 1)).1 = 0 → u 0 2 = cmdK (I 1) (I 0 0) (I 0 1) ∧ u 2 0 = (cmdR (I 1) (I 0 0) (I 0 1)).2.2.1 ∧ (2 ≤ arZ (cmdK (I 1) (I 0 0) (I 0 1)) → u 2 1 = (cmdR (I 1) (I 0 0) (I 0 1)).2.2.2.1) ∧ (3 ≤ arZ (cmdK (I 1) (I 0 0) (I 0 1)) → u 2 2 = (cmdR (I 1) (I 0 0) (I 0 1)).2.2.2.2))
theorem rwI_f {I : St} (hf : fuW (I 1) (I 0 0) (I 0 1)) : rwI I = upS (upS I 0 2 (cmdK (I 1) (I 0 0) (I 0 1))) 0 1 (I 0 1 + qZ (I 1) (I 0 0) (I 0 1)) := by
  unfold rwI
  rw [if_pos hf]
theorem rwI_x {I : St} (hf : ¬ fuW (I 1) (I 0 0) (I 0 1)) : rwI I = upS I 0 1 (I 0 1 + qZ (I 1) (I 0 0) (I 0 1)) := by
  unfold rwI
  rw [if_neg hf]
theorem rc_good {I u : St} {k : Int} (hk : cmdK (I 1) (I 0 0) (I 0 1) = k) (hf : fuW (I 1) (I 0 0) (I 0 1)) (hkr : 0 ≤ k ∧ k ≤ 9) (h : agP (upS (upS I 0 2 k) 0 1 (I 0 1 + qZ (I 1) (I 0 0) (I 0 1))) u k.toNat) : rcP I u ∧ ((cmdR (I 1) (I 0 0) (I 0 1)).1 = 0 ↔ (ngZ (I 1) (I 0 0) (I 0 1 + qZ (I 1) (I 0 0) (I 0 1)) k.toNat (vbNZ k.toNat - 1).toNat).1 = 0) := by
  obtain ⟨c1, c2, c3, c4, c5, c6⟩ := cmd_f hf
  obtain ⟨h0, h2, h1, hp, hv⟩ := h
  rw [hk] at c1 c2 c3 c4 c5 c6
  have hp : u 0 1 = (ngZ (I 1) (I 0 0) (I 0 1 + qZ (I 1) (I 0 0) (I 0 1)) k.toNat (vbNZ k.toNat - 1).toNat).2.1 := hp
  have hv : (ngZ (I 1) (I 0 0) (I 0 1 + qZ (I 1) (I 0 0) (I 0 1)) k.toNat (vbNZ k.toNat - 1).toNat).1 = 0 → ∀ j : Nat, (j : Int) < vbNZ k.toNat → u 2 j = (ngZ (I 1) (I 0 0) (I 0 1 + qZ (I 1) (I 0 0) (I 0 1)) k.toNat j).2.2 := hv
  have h2 : u 0 2 = k := h2
  have hvb := vbN_r (k := k.toNat) (by omega)
  refine ⟨⟨h0, h1, hp.trans c2.symm, by omega, fun q => ?_⟩, by rw [c1]⟩
  rw [c1] at q
  rw [hk]
  exact ⟨h2, (hv q 0 (by omega)).trans c3.symm, fun z => (hv q 1 (by omega)).trans (c4 z).symm, fun z => (hv q 2 (by omega)).trans (c5 z).symm⟩
theorem rc_bad {I : St} (hf : ¬ fuW (I 1) (I 0 0) (I 0 1)) (hk : 0 ≤ I 0 2 ∧ I 0 2 ≤ 9) : rcP I (rwI I) ∧ (cmdR (I 1) (I 0 0) (I 0 1)).1 = 1 := by
  have h := cmd_x hf
  rw [rwI_x hf]
  refine ⟨⟨rfl, rfl, h.2.symm, hk, fun q => ?_⟩, h.1⟩
  rw [h.1] at q
  exact absurd q (by decide)

set_option maxHeartbeats 4000000 in
set_option maxRecDepth 100000 in
/-- BenchBroker$Input.readCommand -/
theorem i_readCommand (l : Launch) (dg : va_G) (ck : Nat → ClassId) (ka : Nat → Nat) (wa : Nat → Nat) (I : St) (sz : Nat) (hkv : 0 ≤ I 0 2 ∧ I 0 2 ≤ 9) (hp0 : 0 ≤ I 0 1 ∧ I 0 1 ≤ I 0 0 ∧ I 0 0 ≤ 60) (htx : ∀ i, 0 ≤ i → i < 60 → 0 ≤ I 1 i ∧ I 1 i ≤ 126) : Met l yX3_readCommand (.code yX3_readCommand cX3_readCommand 1 (some .boolean) :: GW) ({ frames := 6, cells := 0, slots := 0, locals := 133 }) (va_Pc [.ref (wa 0)] (wrK dg ck ka sz (inputC ck ka wa I))) (va_Qi (fun r (u : St) => rcP I u ∧ r = zI (bI ((cmdR (I 1) (I 0 0) (I 0 1)).1 = 0))) (fun u t9 => wrQ dg sz (inputC ck ka wa I) (inputC ck ka wa u) t9) (va_A (inputC ck ka wa I) sz)) 0 0 (va_A (inputC ck ka wa I) sz) := by
  refine Met.ofW (cc := cX3_readCommand) (maxL := 1) (ret := (some .boolean)) (by decide) rfl ?_
  intro p e s m args below meth c s₁ B hml hv
  obtain ⟨rfl, ⟨hsz, hP, hK, hD0⟩, hC⟩ := hv
  have hx := B.exec
  have hb := B.bytes
  have hr := B.returns
  have hts := atoms_spec (ws := .code yX3_readCommand cX3_readCommand 1 (some .boolean) :: GW) B.pre
  have htg : ∀ w ∈ GW, w.before _ s = true := fun w h => hts w (List.mem_cons_of_mem _ h)
  have hown : s.vm.findClass RX3 = some m.cls := findClass_of_methodNamed B.named
  have hlocks := B.notSynchronized
  subst hsz
  have hD := hD0.self (sz := s.heap.size)
  generalize hAe : va_A (inputC ck ka wa I) s.heap.size = A at hD hC ⊢
  have hA : ∀ q : Nat, s.heap.size ≤ q → A q := fun q h => by rw [← hAe]; exact Or.inr h
  have hS : va_S A s.heap s.heap [] := va_S.rf
  have hP : va_P dg vwCl (inputC ck ka wa I) s.heap := hP
  have hl := lv_entry ([.ref (wa 0)]) (n := 1) (Nat.le_of_ble_eq_true rfl)
  rw [lg_entry_eq]
  generalize (lg_sl ([.ref (wa 0)]) ++ List.replicate (1 - (lg_sl ([.ref (wa 0)])).length) Slot.unset).toArray = ls at hl ⊢
  have hl : lv_has ls 1 [(0, .ref (wa 0))] := hl
  have hq0 := qZ_0 (I 1) (I 0 0) (I 0 1)
  refine lv_aload_n hx hb dX3_readCommand_0 rfl (lv_at hl 0 rfl) ?_
  refine x_calli (ws' := inputC ck ka wa (rwI I)) [] (M := inputC ck ka wa I) (M' := inputC ck ka wa (rwI I)) ([]) (List.append_nil _).symm (List.append_nil _).symm hP hD hS hA (fun hPm hDm => va_runV (As := []) (rest := []) ⟨hx, hb, hml, hown, htg⟩ (i_readWord l dg ck ka wa I _ (show 0 ≤ (I 0 1) ∧ (I 0 1) ≤ (I 0 0) ∧ (I 0 0) ≤ 60 by omega) htx) (cwV 0 htg (gwV wq_1131 wq_1133 wp_13 wq_8 wq_1134) rfl rfl rfl (by decide +kernel) ⟨Nat.le_of_ble_eq_true rfl, Nat.le_of_ble_eq_true rfl⟩) (wrK_preV hK hPm hDm hC hS hA 0 6 rfl rfl) rfl rfl hl.1 rfl (lv_room (Nat.le_of_ble_eq_true rfl)) dX3_readCommand_1 ⟨Nat.zero_le _, Nat.zero_le _⟩) (fun r1 H locs hr1 hP hD hS => ?_)
  subst hr1
  refine x_bz_eq (tgt := 18) hx hb dX3_readCommand_4 (by decide) (fun c4 => ?_) (fun c4 => ?_)
  · refine x_iconst hx hb dX3_readCommand_18 ?_
    exact W.zret (v := _) hx hb hr (by first | rfl | rfl) (fun t9 ht9 hW9 => ⟨⟨_, (rwI I), rfl, (by have h9 := rc_bad (I := I) c4 hkv; exact ⟨h9.1, by rw [bI_f (show ¬ (cmdR (I 1) (I 0 0) (I 0 1)).1 = 0 by rw [h9.2]; decide)]⟩), by rw [ht9]; exact hP, by rw [hAe]; exact hD⟩, hS.F ht9⟩) hS.2.2 dX3_readCommand_19
  · have hkr0 := cmdK_r (I 1) (I 0 0) (I 0 1)
    have hkr : 0 ≤ cmdK (I 1) (I 0 0) (I 0 1) ∧ cmdK (I 1) (I 0 0) (I 0 1) ≤ 9 := ⟨by have := c4.1; omega, hkr0.2⟩
    have hqn : I 0 1 + qZ (I 1) (I 0 0) (I 0 1) ≤ I 0 0 := by unfold qZ; rw [if_neg c4.1]; exact mlZ_n _ 0 (by omega) (by omega)
    have hCe : (upS (upS I 0 2 (cmdK (I 1) (I 0 0) (I 0 1))) 0 1 ((I 0 1) + (qZ (I 1) (I 0 0) (I 0 1)))) = (rwI I) := (rwI_f c4).symm
    have hP : va_P dg vwCl (inputC ck ka wa (upS (upS I 0 2 (cmdK (I 1) (I 0 0) (I 0 1))) 0 1 ((I 0 1) + (qZ (I 1) (I 0 0) (I 0 1))))) _ := va_P_eq (by rw [hCe]) hP
    have hD : va_D A (inputC ck ka wa (upS (upS I 0 2 (cmdK (I 1) (I 0 0) (I 0 1))) 0 1 ((I 0 1) + (qZ (I 1) (I 0 0) (I 0 1))))) := va_D_eq (by rw [hCe]) hD
    refine lv_aload_n hx hb dX3_readCommand_7 rfl (lv_at hl 0 rfl) ?_
    refine x_calliU hP hD hS hA (va_runV (As := []) (rest := []) ⟨hx, hb, hml, hown, htg⟩ (i_readArguments l dg ck ka wa (upS (upS I 0 2 (cmdK (I 1) (I 0 0) (I 0 1))) 0 1 ((I 0 1) + (qZ (I 1) (I 0 0) (I 0 1)))) _ (show 0 ≤ (cmdK (I 1) (I 0 0) (I 0 1)) ∧ (cmdK (I 1) (I 0 0) (I 0 1)) ≤ 9 by omega) (show 0 ≤ ((I 0 1) + (qZ (I 1) (I 0 0) (I 0 1))) ∧ ((I 0 1) + (qZ (I 1) (I 0 0) (I 0 1))) ≤ (I 0 0) ∧ (I 0 0) ≤ 60 by omega) htx) (cwV 0 htg (gwV wq_1144 wq_1146 wp_15 wq_8 wq_1147) rfl rfl rfl (by decide +kernel) ⟨Nat.le_of_ble_eq_true rfl, Nat.le_of_ble_eq_true rfl⟩) (wrK_preV hK hP hD hC hS hA 0 6 rfl rfl) rfl rfl hl.1 rfl (lv_room (Nat.le_of_ble_eq_true rfl)) dX3_readCommand_8 ⟨Nat.zero_le _, Nat.zero_le _⟩) (fun r8 M8 H locs hM8 hP hD hS => ?_)
    have hP : va_P dg vwCl (inputC ck ka wa M8) H := hP
    have hD : va_D A (inputC ck ka wa M8) := hD
    obtain ⟨hM8, rfl⟩ := hM8
    refine x_bz_eq (tgt := 18) hx hb dX3_readCommand_11 (by decide) (fun c11 => ?_) (fun c11 => ?_)
    · refine x_iconst hx hb dX3_readCommand_18 ?_
      exact W.zret (v := _) hx hb hr (by first | rfl | rfl) (fun t9 ht9 hW9 => ⟨⟨_, M8, rfl, (by have h9 := rc_good (I := I) rfl c4 hkr hM8; first | exact ⟨h9.1, by rw [bI_t (h9.2.mpr c11)]⟩ | exact ⟨h9.1, by rw [bI_f (fun q => c11 (h9.2.mp q))]⟩), by rw [ht9]; exact hP, by rw [hAe]; exact hD⟩, hS.F ht9⟩) hS.2.2 dX3_readCommand_19
    · refine x_iconst hx hb dX3_readCommand_14 ?_
      refine lv_goto (tgt := 19) hx hb dX3_readCommand_15 (by decide) ?_
      exact W.zret (v := _) hx hb hr (by first | rfl | rfl) (fun t9 ht9 hW9 => ⟨⟨_, M8, rfl, (by have h9 := rc_good (I := I) rfl c4 hkr hM8; first | exact ⟨h9.1, by rw [bI_t (h9.2.mpr c11)]⟩ | exact ⟨h9.1, by rw [bI_f (fun q => c11 (h9.2.mp q))]⟩), by rw [ht9]; exact hP, by rw [hAe]; exact hD⟩, hS.F ht9⟩) hS.2.2 dX3_readCommand_19
