/-! the law: commands, undo, snapshot, text -/
theorem cr_k {S : St} {x y : Int} (h : (crZ S x y).1 ≠ 0) : (crZ S x y).2.2 = S := by
  unfold crZ at h ⊢
  (repeat' split) <;> simp_all
theorem cl_k {S : St} {x y : Int} (h : (clZ S x y).1 ≠ 0) : (clZ S x y).2.2 = S := by
  unfold clZ at h ⊢
  (repeat' split) <;> simp_all
theorem prF_b {T : Int → Int} {n : Int} (hn : 0 ≤ n) : ∀ (f j : Nat), stZ T n j ≤ n → 0 ≤ stZ T n j → (prsF T n f j).1 = 1 → 0 ≤ (prsF T n f j).2 ∧ (prsF T n f j).2 ≤ n
  | 0, j, _, _, _ => ⟨Int.le_refl 0, hn⟩
  | f + 1, j, h1, h0, h => by
    have hb := cmdR_b (T := T) h1
    have e : prsF T n (f + 1) j = (if (cmdR T n (stZ T n j)).1 ≠ 0 then (1, (cmdR T n (stZ T n j)).2.1) else if chA T n (cmdR T n (stZ T n j)).2.1 = 59 then prsF T n f (j + 1) else if (cmdR T n (stZ T n j)).2.1 < n then (1, (cmdR T n (stZ T n j)).2.1) else (0, (j : Int) + 1)) := rfl
    rw [e] at h ⊢
    by_cases c : (cmdR T n (stZ T n j)).1 ≠ 0
    · rw [if_pos c]
      exact ⟨by show 0 ≤ (cmdR T n (stZ T n j)).2.1; omega, by show (cmdR T n (stZ T n j)).2.1 ≤ n; omega⟩
    · rw [if_neg c] at h ⊢
      by_cases c2 : chA T n (cmdR T n (stZ T n j)).2.1 = 59
      · rw [if_pos c2] at h ⊢
        have hlt := chA_lt c2 (by decide)
        have es : stZ T n (j + 1) = (cmdR T n (stZ T n j)).2.1 + 1 := rfl
        exact prF_b hn f (j + 1) (by rw [es]; omega) (by rw [es]; omega) h
      · rw [if_neg c2] at h ⊢
        by_cases c3 : (cmdR T n (stZ T n j)).2.1 < n
        · rw [if_pos c3]
          exact ⟨by show 0 ≤ (cmdR T n (stZ T n j)).2.1; omega, by show (cmdR T n (stZ T n j)).2.1 ≤ n; omega⟩
        · rw [if_neg c3] at h
          exact absurd (show (0 : Int) = 1 from h) (by decide)
theorem exZ_b {n : Int} {S : St} (T : Int → Int) {k : Int} (h : Inv n S) (hn : n + 3100 ≤ 4000000) (hk : 0 ≤ k ∧ k ≤ 60) : Inv (n + 3100) (exZ S T k).2.2.2 ∧ ((exZ S T k).1 ≠ 0 → (exZ S T k).2.2.2 = S) ∧ ((exZ S T k).1 = 1 → 0 ≤ (exZ S T k).2.1 ∧ (exZ S T k).2.1 ≤ 60) ∧ ((exZ S T k).1 = 3 → 1 ≤ (exZ S T k).2.2.1 ∧ (exZ S T k).2.2.1 ≤ 11) ∧ (0 ≤ (exZ S T k).1 ∧ (exZ S T k).1 ≤ 3) := by
  have h0 := h.mono (show n ≤ n + 3100 by omega) hn
  have hr := runF_b (T := T) (n := k) (v := (prsZ T k).2) 31 0 h (by omega)
  unfold exZ
  by_cases c : (prsZ T k).1 ≠ 0
  · rw [if_pos c]
    have c1 : (prsZ T k).1 = 1 := by have := prs_01 T k; omega
    have hb := prF_b (T := T) hk.1 31 0 hk.1 (Int.le_refl 0) c1
    exact ⟨h0, fun _ => rfl, fun _ => ⟨hb.1, by have : (prsZ T k).2 ≤ k := hb.2; show (prsZ T k).2 ≤ 60; omega⟩, fun q => absurd (show (1 : Int) = 3 from q) (by decide), by show (0 : Int) ≤ 1 ∧ (1 : Int) ≤ 3; decide⟩
  · rw [if_neg c]
    by_cases c2 : (runF T k (prsZ T k).2 31 0 S).1 = -1
    · rw [if_pos c2]
      exact ⟨hr.1.mono (by omega) hn, fun q => absurd rfl q, fun q => absurd (show (0 : Int) = 1 from q) (by decide), fun q => absurd (show (0 : Int) = 3 from q) (by decide), by show (0 : Int) ≤ 0 ∧ (0 : Int) ≤ 3; decide⟩
    · rw [if_neg c2]
      have h2 : (-2 ≤ (runF T k (prsZ T k).2 31 0 S).2.1 ∧ (runF T k (prsZ T k).2 31 0 S).2.1 ≤ 11) ∧ (runF T k (prsZ T k).2 31 0 S).2.1 ≠ 0 := hr.2.elim (fun q => absurd q.1 c2) (fun q => q.2)
      by_cases c3 : (runF T k (prsZ T k).2 31 0 S).2.1 < 0
      · rw [if_pos c3]
        exact ⟨h0, fun _ => rfl, fun q => absurd (show (2 : Int) = 1 from q) (by decide), fun q => absurd (show (2 : Int) = 3 from q) (by decide), by show (0 : Int) ≤ 2 ∧ (2 : Int) ≤ 3; decide⟩
      · rw [if_neg c3]
        exact ⟨h0, fun _ => rfl, fun q => absurd (show (3 : Int) = 1 from q) (by decide), fun _ => ⟨by show 1 ≤ (runF T k (prsZ T k).2 31 0 S).2.1; omega, by show (runF T k (prsZ T k).2 31 0 S).2.1 ≤ 11; omega⟩, by show (0 : Int) ≤ 3 ∧ (3 : Int) ≤ 3; decide⟩
theorem LT.x {I J M u : St} {t v g : Int} (h : LT I M) (k : xkP I J) (hu : exP M u t v g) : LT J u := by
  obtain ⟨h1, h2, h3, h4, h5⟩ := h
  obtain ⟨k1, k2, k3⟩ := k
  obtain ⟨u0, u1, u2, u3, u4, u5, u6, u7, u8, u9, u10⟩ := hu
  exact ⟨u3.trans k1.symm, by omega, u9.trans (h3.trans k2.symm), by rw [k2]; exact h4, k3⟩
/-- an execute on both sides -/
theorem LI.ex {n : Int} {Z U X : Nat → Int} {S P I : St} {Y : Int → Int} {Q : Nat → St} {F2 F3 : Int → Int} {M : St} {J u : St} (h : LI n Z U X S P I Y Q F2 F3 M) (hn : n + 3100 ≤ 4000000) (k : xkP I J) (hu : exP M u (exZ S (I 1) (I 0 0)).1 (exZ S (I 1) (I 0 0)).2.1 (exZ S (I 1) (I 0 0)).2.2.1) :
    ((exZ S (I 1) (I 0 0)).1 = 0 → LI (n + 3100) Z U (upO (upO X 0 ((X 0 + 1) % 8)) 1 (k1Z (X 1))) (exZ S (I 1) (I 0 0)).2.2.2 P J Y (upQ Q (X 0) S) F2 (if (exZ S (I 1) (I 0 0)).1 = 0 then hiZ F3 (encZ S) (M 8 1) else F3) u)
    ∧ ((exZ S (I 1) (I 0 0)).1 ≠ 0 → (exZ S (I 1) (I 0 0)).2.2.2 = S ∧ LI (n + 3100) (zxZ Z (exZ S (I 1) (I 0 0))) U X S P J Y Q F2 (if (exZ S (I 1) (I 0 0)).1 = 0 then hiZ F3 (encZ S) (M 8 1) else F3) u) := by
  have hb := exZ_b (S := S) (I 1) h.1 hn h.2.2.2.1.2.1
  generalize exZ S (I 1) (I 0 0) = e at hu hb ⊢
  have ht := h.2.2.2.1.x k hu
  obtain ⟨u0, u1, u2, u3, u4, u5, u6, u7, u8, u9, u10⟩ := hu
  obtain ⟨b1, b2, b3, b4, b5⟩ := hb
  have hm := h.mono (show n ≤ n + 3100 by omega) hn
  refine ⟨fun e0 => ?_, fun e0 => ⟨b2 e0, ?_⟩⟩
  · rw [if_pos e0] at u1 ⊢
    rw [if_neg (by omega)] at u5 u6 u7 u8
    exact ⟨b1, hm.2.1.push hm.1 u1, hm.2.2.1.m u2, ht, hm.2.2.2.2.1.m u4 u10, hm.2.2.2.2.2.m u5 u6 u7 u8⟩
  · rw [if_neg e0] at u1 ⊢
    have hZ0 : zxZ Z e 0 = Z 0 := by
      unfold zxZ
      (repeat' split) <;> rfl
    have hls : LSn (n + 3100) (zxZ Z e) P F2 u := by
      have h9 := hm.2.2.1.m u2
      unfold LSn at h9 ⊢
      rw [hZ0]
      exact h9
    refine ⟨hm.1, hm.2.1.m u1, hls, ht, hm.2.2.2.2.1.m u4 u10, ?_⟩
    have hf := hm.2.2.2.2.2
    by_cases e1 : e.1 = 1
    · rw [if_pos e1] at u5
      rw [if_neg (by omega)] at u6 u7 u8
      rw [zx_1 e1]
      have hv := b3 e1
      exact ⟨⟨u5, by show -1 ≤ e.2.1; omega, by show e.2.1 ≤ 60; omega⟩, ⟨u6.trans hf.2.1.1, hf.2.1.2⟩, u7.trans hf.2.2.1, u8.trans hf.2.2.2⟩
    · rw [if_neg e1] at u5
      by_cases e3 : e.1 = 3
      · rw [if_pos e3] at u6 u7 u8
        rw [zx_3 e3]
        have hv := b4 e3
        exact ⟨⟨u5.trans hf.1.1, hf.1.2⟩, ⟨u6, by show (0 : Int) ≤ 12; decide, by show (12 : Int) ≤ 12; decide⟩, u7, u8⟩
      · rw [if_neg e3] at u6 u7 u8
        rw [zx_2 e1 e3]
        exact ⟨⟨u5.trans hf.1.1, hf.1.2⟩, ⟨u6.trans hf.2.1.1, hf.2.1.2⟩, u7.trans hf.2.2.1, u8.trans hf.2.2.2⟩
/-- the latest change taken back -/
theorem LI.undo {n : Int} {Z U X : Nat → Int} {S P I : St} {Y : Int → Int} {Q : Nat → St} {F2 F3 : Int → Int} {M : St} {M' : St} (h : LI n Z U X S P I Y Q F2 F3 M) (hx : X 1 ≠ 0) (k1 : M' 8 1 = X 1 - 1) (k5 : M' 5 = M 5) (k7 : M' 7 = M 7) (k : ∀ i : Int, 2 ≤ i → i ≤ 8 → M' 8 i = M 8 i) : LI n Z U (upO (upO X 0 (((X 0 + 8) - 1) % 8)) 1 (X 1 - 1)) (Q (((X 0 + 8) - 1) % 8).toNat) P I Y Q F2 F3 M' := by
  obtain ⟨a1, a2, a3, a4, a5⟩ := h.2.1
  have e0 : upO (upO X 0 (((X 0 + 8) - 1) % 8)) 1 (X 1 - 1) 0 = ((X 0 + 8) - 1) % 8 := rfl
  have e1 : upO (upO X 0 (((X 0 + 8) - 1) % 8)) 1 (X 1 - 1) 1 = X 1 - 1 := rfl
  have es : rgI X (X 1 - 1) = (((X 0 + 8) - 1) % 8).toNat := by
    unfold rgI
    omega
  have hS := (a5 (X 1 - 1) (by omega) (by omega)).1
  rw [es] at hS
  refine ⟨hS, ⟨by rw [e0]; omega, by rw [e1]; omega, by rw [e1, k1], a4, fun j h1 h2 => ?_⟩, h.2.2.1.m (k 2 (by decide) (by decide)), h.2.2.2.1.m (k 3 (by decide) (by decide)) k5, h.2.2.2.2.1.m (k 4 (by decide) (by decide)) k7, h.2.2.2.2.2.m (k 5 (by decide) (by decide)) (k 6 (by decide) (by decide)) (k 7 (by decide) (by decide)) (k 8 (by decide) (by decide))⟩
  rw [e1] at h2
  have er : rgI (upO (upO X 0 (((X 0 + 8) - 1) % 8)) 1 (X 1 - 1)) j = rgI X j := by
    show (((((X 0 + 8) - 1) % 8) + 8 - (X 1 - 1) + j) % 8).toNat = ((X 0 + 8 - X 1 + j) % 8).toNat
    omega
  rw [er]
  exact a5 j h1 (by omega)
theorem LI.undoT {n : Int} {Z U X : Nat → Int} {S P I : St} {Y : Int → Int} {Q : Nat → St} {F2 F3 : Int → Int} {M : St} (h : LI n Z U X S P I Y Q F2 F3 M) (hx : M 8 1 ≠ 0) (i : Int) (h1 : 0 ≤ i) (h2 : i < 102) : F3 (102 * (M 8 1 - 1) + i) = encZ (Q (((X 0 + 8) - 1) % 8).toNat) i := by
  obtain ⟨a1, a2, a3, a4, a5⟩ := h.2.1
  have es : rgI X (X 1 - 1) = (((X 0 + 8) - 1) % 8).toNat := by
    unfold rgI
    omega
  have h9 := (a5 (X 1 - 1) (by omega) (by omega)).2 i h1 h2
  rw [es] at h9
  rw [a3]
  exact h9
theorem LI.save {n : Int} {Z U X : Nat → Int} {S P I : St} {Y : Int → Int} {Q : Nat → St} {F2 F3 : Int → Int} {M : St} {M' : St} (h : LI n Z U X S P I Y Q F2 F3 M) (k2 : M' 8 2 = 1) (k5 : M' 5 = M 5) (k7 : M' 7 = M 7) (k : ∀ i : Int, i = 1 ∨ (3 ≤ i ∧ i ≤ 8) → M' 8 i = M 8 i) : LI n (upO Z 0 1) U X S S I Y Q (encZ S) F3 M' :=
  ⟨h.1, h.2.1.m (k 1 (by omega)), ⟨k2, by show (0 : Int) ≤ 1 ∧ (1 : Int) ≤ 1; decide, h.1.bd.2.2.2.2.2.2.2.2.2.2.2.2.2.1, fun _ => ⟨h.1, fun i _ _ => rfl⟩⟩, h.2.2.2.1.m (k 3 (by omega)) k5, h.2.2.2.2.1.m (k 4 (by omega)) k7, h.2.2.2.2.2.m (k 5 (by omega)) (k 6 (by omega)) (k 7 (by omega)) (k 8 (by omega))⟩
theorem LI.restore {n : Int} {Z U X : Nat → Int} {S P I : St} {Y : Int → Int} {Q : Nat → St} {F2 F3 : Int → Int} {M : St} {M' : St} (h : LI n Z U X S P I Y Q F2 F3 M) (hz : Z 0 ≠ 0) (k1 : M' 8 1 = 0) (k5 : M' 5 = M 5) (k7 : M' 7 = M 7) (k : ∀ i : Int, 2 ≤ i → i ≤ 8 → M' 8 i = M 8 i) : LI n Z U (upO X 1 0) P P I Y Q F2 F3 M' :=
  ⟨(h.2.2.1.2.2.2 hz).1, ⟨h.2.1.1, by show (0 : Int) ≤ 0 ∧ (0 : Int) ≤ 8; decide, k1, h.2.1.2.2.2.1, fun j h1 h2 => absurd (show j < 0 from h2) (by omega)⟩, h.2.2.1.m (k 2 (by decide) (by decide)), h.2.2.2.1.m (k 3 (by decide) (by decide)) k5, h.2.2.2.2.1.m (k 4 (by decide) (by decide)) k7, h.2.2.2.2.2.m (k 5 (by decide) (by decide)) (k 6 (by decide) (by decide)) (k 7 (by decide) (by decide)) (k 8 (by decide) (by decide))⟩
theorem wrY_g : ∀ (L : List Int) (Y : Int → Int) (p : Int) (i : Nat) (h : i < L.length), wrY Y p L (p + (i : Int)) = L[i]
  | [], Y, p, i, h => absurd h (Nat.not_lt_zero _)
  | x :: L, Y, p, 0, h => by
    have key : ∀ (L : List Int) (Y : Int → Int) (q z : Int), z < q → wrY Y q L z = Y z := fun L => by
      induction L with
      | nil => exact fun Y q z _ => rfl
      | cons y L ih =>
        intro Y q z hz
        show wrY (upZ Y q y) (q + 1) L z = _
        rw [ih _ _ _ (by omega)]
        exact if_neg (by omega)
    show wrY (upZ Y p x) (p + 1) L (p + ((0 : Nat) : Int)) = x
    rw [key _ _ _ _ (by omega)]
    exact if_pos (by omega)
  | x :: L, Y, p, i + 1, h => by
    show wrY (upZ Y p x) (p + 1) L (p + ((i + 1 : Nat) : Int)) = L[i]'(Nat.lt_of_succ_lt_succ h)
    rw [show p + ((i + 1 : Nat) : Int) = (p + 1) + (i : Int) by omega]
    exact wrY_g L (upZ Y p x) (p + 1) i (Nat.lt_of_succ_lt_succ h)
theorem wrY_b {L : List Int} (hL : ∀ x ∈ L, 0 ≤ x ∧ x ≤ 126) : ∀ (Y : Int → Int) (p : Int), y7Z Y → y7Z (wrY Y p L) := by
  induction L with
  | nil => exact fun Y p h => h
  | cons x L ih =>
    intro Y p h
    refine ih (fun y hy => hL y (List.mem_cons_of_mem _ hy)) _ _ (fun z h1 h2 => ?_)
    unfold upZ
    split
    · exact hL x List.mem_cons_self
    · exact h z h1 h2
/-- a text written on both sides -/
theorem LI.text {n : Int} {Z U X : Nat → Int} {S P I : St} {Y : Int → Int} {Q : Nat → St} {F2 F3 : Int → Int} {M : St} {L : List Int} {U' : Nat → Int} (h : LI n Z U X S P I Y Q F2 F3 M) (hL : ∀ x ∈ L, 0 ≤ x ∧ x ≤ 126) (hl : (L.length : Int) ≤ 16) (hU : U' 0 = (L.length : Int)) : LI n Z U' X S P I (wrY Y 0 L) Q F2 F3 (wrL (upS (upS M 8 0 0) 8 4 0) L) ∧ wrL (upS (upS M 8 0 0) 8 4 0) L 8 0 = 0 := by
  have e4 : upS (upS M 8 0 0) 8 4 0 8 4 = 0 := upS_s
  have k8 : ∀ i : Int, i ≠ 4 → 1 ≤ i → wrL (upS (upS M 8 0 0) 8 4 0) L 8 i = M 8 i := fun i h1 h2 => (wrL_k L _ (by omega) (fun q => absurd q (by decide))).trans ((upS_n (by omega)).trans (upS_n (by omega)))
  have k5 : wrL (upS (upS M 8 0 0) 8 4 0) L 5 = M 5 := funext fun i => (wrL_k L _ (by omega) (fun q => absurd q (by decide))).trans rfl
  have e84 := wrL_84 L (upS (upS M 8 0 0) 8 4 0)
  rw [e4, Int.zero_add] at e84
  refine ⟨⟨h.1, h.2.1.m (k8 1 (by decide) (by decide)), h.2.2.1.m (k8 2 (by decide) (by decide)), h.2.2.2.1.m (k8 3 (by decide) (by decide)) k5, ⟨e84.trans hU.symm, by rw [hU]; omega, fun z h1 h2 => ?_, wrY_b hL Y 0 h.2.2.2.2.1.2.2.2⟩, h.2.2.2.2.2.m (k8 5 (by decide) (by decide)) (k8 6 (by decide) (by decide)) (k8 7 (by decide) (by decide)) (k8 8 (by decide) (by decide))⟩, (wrL_k L _ (by omega) (fun q => absurd q (by decide))).trans ((upS_n (by omega)).trans upS_s)⟩
  rw [hU] at h2
  have hz : z.toNat < L.length := by omega
  have g1 := wrY_g L Y 0 z.toNat hz
  have g2 := wrL_g L (upS (upS M 8 0 0) 8 4 0) z.toNat hz
  rw [e4] at g2
  rw [show (0 : Int) + (z.toNat : Int) = z by omega] at g1 g2
  rw [g1, g2]
theorem dig_b {n : Int} (h : 0 ≤ n ∧ n ≤ 99) : ∀ x ∈ digZ n, 0 ≤ x ∧ x ≤ 126 := by
  intro x hx
  unfold digZ at hx
  split at hx
  · simp only [List.mem_cons, List.not_mem_nil, or_false] at hx
    rcases hx with e | e <;> omega
  · simp only [List.mem_cons, List.not_mem_nil, or_false] at hx
    omega
theorem btx_b {S : St} {x : Int} (hI : Bd S) (hx : isBench S x) : (∀ y ∈ btx S x, 0 ≤ y ∧ y ≤ 126) ∧ ((btx S x).length : Int) ≤ 16 := by
  obtain ⟨b00, b01, b02, b03, b1, b2, b3, b4, b5, b6, b7, b8, b9, b10, b11, b12⟩ := id hI
  have hre := rent_r hI x
  have hno := noiseB_r hI x
  have hb1 := b1 x
  have hb2 := b2 x
  have hb4 := b4 x
  have hb6 := b6 x
  have one : ∀ c : Int, (0 ≤ c ∧ c ≤ 126) → ∀ y ∈ [c], 0 ≤ y ∧ y ≤ 126 := fun c hc y hy => by
    rw [List.mem_singleton.mp hy]
    exact hc
  constructor
  · intro y hy
    unfold btx at hy
    simp only [List.mem_append] at hy
    rcases hy with hy | hy | hy | hy | hy | hy | hy | hy | hy | hy
    · exact dig_b (by omega) y hy
    · exact one 64 (by decide) y hy
    · exact dig_b (by omega) y hy
    · exact one 44 (by decide) y hy
    · exact dig_b (by omega) y hy
    · exact one 36 (by decide) y hy
    · exact dig_b (by omega) y hy
    · exact one 126 (by decide) y hy
    · exact dig_b (by omega) y hy
    · split at hy
      · simp only [List.mem_append] at hy
        rcases hy with hy | hy | hy | hy
        · exact one 61 (by decide) y hy
        · exact dig_b (by omega) y hy
        · exact one 47 (by decide) y hy
        · exact dig_b (by omega) y hy
      · exact absurd hy List.not_mem_nil
  · have n0 := nn_b x
    have n1 := nn_b (S 1 x)
    have n2 := nn_b (S 2 x)
    have n3 := nn_b (rent S x)
    have n4 := nn_b (noiseB S x)
    have n5 := nn_b (S 4 x - 1)
    have n6 := nn_b (S 6 x)
    unfold btx
    simp only [List.length_append, List.length_cons, List.length_nil, Int.natCast_add, digZ_ll]
    split
    · simp only [List.length_append, List.length_cons, List.length_nil, Int.natCast_add, digZ_ll]
      omega
    · simp only [List.length_nil]
      omega
theorem rtx_b {S : St} (hI : Bd S) (r : Int) : ∀ n : Nat, ∀ y ∈ rtx S r n, 0 ≤ y ∧ y ≤ 126
  | 0, y, hy => absurd hy List.not_mem_nil
  | n + 1, y, hy => by
    have hy : y ∈ rtx S r n ++ [sgnZ S r n] := hy
    rcases List.mem_append.mp hy with h | h
    · exact rtx_b hI r n y h
    · rw [List.mem_singleton.mp h]
      exact sgn_r hI r n
theorem LI.input {n : Int} {Z U X : Nat → Int} {S P I : St} {Y : Int → Int} {Q : Nat → St} {F2 F3 : Int → Int} {M : St} {x : Int} (h : LI n Z U X S P I Y Q F2 F3 M) (hx : 0 ≤ x ∧ x ≤ 126) (hl : I 0 0 < 60) : LI n Z U X S P (upS (upS I 1 (I 0 0) x) 0 0 (I 0 0 + 1)) Y Q F2 F3 (upS (upS (upS M 8 0 0) 5 (M 8 3) x) 8 3 (M 8 3 + 1)) := by
  obtain ⟨c1, c2, c3, c4, c5⟩ := h.2.2.2.1
  have k8 : ∀ i : Int, i ≠ 3 → 1 ≤ i → upS (upS (upS M 8 0 0) 5 (M 8 3) x) 8 3 (M 8 3 + 1) 8 i = M 8 i := fun i h1 h2 => (upS_n (by omega)).trans ((upS_n (by omega)).trans (upS_n (by omega)))
  have k7 : upS (upS (upS M 8 0 0) 5 (M 8 3) x) 8 3 (M 8 3 + 1) 7 = M 7 := rfl
  refine ⟨h.1, h.2.1.m (k8 1 (by decide) (by decide)), h.2.2.1.m (k8 2 (by decide) (by decide)), ⟨?_, ?_, ?_, ?_, ?_⟩, h.2.2.2.2.1.m (k8 4 (by decide) (by decide)) k7, h.2.2.2.2.2.m (k8 5 (by decide) (by decide)) (k8 6 (by decide) (by decide)) (k8 7 (by decide) (by decide)) (k8 8 (by decide) (by decide))⟩
  · rw [upS_s, upS_s, c1]
  · rw [upS_s]
    omega
  · funext i
    by_cases e : i = I 0 0
    · have g1 : upS (upS (upS M 8 0 0) 5 (M 8 3) x) 8 3 (M 8 3 + 1) 5 i = x := (upS_n (by omega)).trans (by rw [e, c1]; exact upS_s)
      have g2 : upS (upS I 1 (I 0 0) x) 0 0 (I 0 0 + 1) 1 i = x := (upS_n (by omega)).trans (by rw [e]; exact upS_s)
      rw [g1, g2]
    · have g1 : upS (upS (upS M 8 0 0) 5 (M 8 3) x) 8 3 (M 8 3 + 1) 5 i = M 5 i := (upS_n (by omega)).trans ((upS_n (by omega)).trans (upS_n (by omega)))
      have g2 : upS (upS I 1 (I 0 0) x) 0 0 (I 0 0 + 1) 1 i = I 1 i := (upS_n (by omega)).trans (upS_n (by omega))
      rw [g1, g2, c3]
  · intro i h1 h2
    rw [upS_n (by omega)]
    by_cases e : i = I 0 0
    · rw [e, upS_s]
      exact hx
    · rw [upS_n (by omega)]
      exact c4 i h1 h2
  · rw [upS_n (by omega), upS_n (by omega)]
    exact c5
