/-! the law: what class and reference have in common between two calls -/
def rgI (X : Nat → Int) (j : Int) : Nat := ((X 0 + 8 - X 1 + j) % 8).toNat
def LH (n : Int) (X : Nat → Int) (Q : Nat → St) (F3 : Int → Int) (M : St) : Prop := (0 ≤ X 0 ∧ X 0 < 8) ∧ (0 ≤ X 1 ∧ X 1 ≤ 8) ∧ M 8 1 = X 1 ∧ (∀ k i, 0 ≤ Q k 10 i ∧ Q k 10 i ≤ 1) ∧ (∀ j, 0 ≤ j → j < X 1 → Inv n (Q (rgI X j)) ∧ ∀ i, 0 ≤ i → i < 102 → F3 (102 * j + i) = encZ (Q (rgI X j)) i)
def LSn (n : Int) (Z : Nat → Int) (P : St) (F2 : Int → Int) (M : St) : Prop := M 8 2 = Z 0 ∧ (0 ≤ Z 0 ∧ Z 0 ≤ 1) ∧ (∀ i, 0 ≤ P 10 i ∧ P 10 i ≤ 1) ∧ (Z 0 ≠ 0 → Inv n P ∧ ∀ i, 0 ≤ i → i < 102 → F2 i = encZ P i)
def LT (I M : St) : Prop := M 8 3 = I 0 0 ∧ (0 ≤ I 0 0 ∧ I 0 0 ≤ 60) ∧ M 5 = I 1 ∧ (∀ i, 0 ≤ i → i < 60 → 0 ≤ I 1 i ∧ I 1 i ≤ 126) ∧ (0 ≤ I 0 2 ∧ I 0 2 ≤ 9)
def LO (U : Nat → Int) (Y : Int → Int) (M : St) : Prop := M 8 4 = U 0 ∧ (0 ≤ U 0 ∧ U 0 ≤ 16) ∧ (∀ z, 0 ≤ z → z < U 0 → Y z = M 7 z) ∧ y7Z Y
def LF (Z : Nat → Int) (M : St) : Prop := (M 8 5 = Z 4 ∧ -1 ≤ Z 4 ∧ Z 4 ≤ 60) ∧ (M 8 6 = Z 1 ∧ 0 ≤ Z 1 ∧ Z 1 ≤ 12) ∧ M 8 7 = Z 2 ∧ M 8 8 = Z 3
def LI (n : Int) (Z U X : Nat → Int) (S P I : St) (Y : Int → Int) (Q : Nat → St) (F2 F3 : Int → Int) (M : St) : Prop := Inv n S ∧ LH n X Q F3 M ∧ LSn n Z P F2 M ∧ LT I M ∧ LO U Y M ∧ LF Z M
def mK (M M' : St) : Prop := M' 5 = M 5 ∧ M' 7 = M 7 ∧ ∀ i : Int, 1 ≤ i → i ≤ 8 → M' 8 i = M 8 i
theorem LH.m {n : Int} {X : Nat → Int} {Q : Nat → St} {F3 : Int → Int} {M M' : St} (h : LH n X Q F3 M) (k : M' 8 1 = M 8 1) : LH n X Q F3 M' := ⟨h.1, h.2.1, k.trans h.2.2.1, h.2.2.2⟩
theorem LSn.m {n : Int} {Z : Nat → Int} {P : St} {F2 : Int → Int} {M M' : St} (h : LSn n Z P F2 M) (k : M' 8 2 = M 8 2) : LSn n Z P F2 M' := ⟨k.trans h.1, h.2⟩
theorem LT.m {I M M' : St} (h : LT I M) (k : M' 8 3 = M 8 3) (k5 : M' 5 = M 5) : LT I M' := ⟨k.trans h.1, h.2.1, k5.trans h.2.2.1, h.2.2.2⟩
theorem LO.m {U : Nat → Int} {Y : Int → Int} {M M' : St} (h : LO U Y M) (k : M' 8 4 = M 8 4) (k7 : M' 7 = M 7) : LO U Y M' := ⟨k.trans h.1, h.2.1, fun z a b => (h.2.2.1 z a b).trans (by rw [k7]), h.2.2.2⟩
theorem LF.m {Z : Nat → Int} {M M' : St} (h : LF Z M) (k5 : M' 8 5 = M 8 5) (k6 : M' 8 6 = M 8 6) (k7 : M' 8 7 = M 8 7) (k8 : M' 8 8 = M 8 8) : LF Z M' := ⟨⟨k5.trans h.1.1, h.1.2⟩, ⟨k6.trans h.2.1.1, h.2.1.2⟩, k7.trans h.2.2.1, k8.trans h.2.2.2⟩
theorem LI.m {n : Int} {Z U X : Nat → Int} {S P I : St} {Y : Int → Int} {Q : Nat → St} {F2 F3 : Int → Int} {M : St} {M' : St} (h : LI n Z U X S P I Y Q F2 F3 M) (k : mK M M') : LI n Z U X S P I Y Q F2 F3 M' := by
  obtain ⟨h1, h2, h3, h4, h5, h6⟩ := h
  obtain ⟨k5, k7, k8⟩ := k
  exact ⟨h1, h2.m (k8 1 (by decide) (by decide)), h3.m (k8 2 (by decide) (by decide)), h4.m (k8 3 (by decide) (by decide)) k5, h5.m (k8 4 (by decide) (by decide)) k7, h6.m (k8 5 (by decide) (by decide)) (k8 6 (by decide) (by decide)) (k8 7 (by decide) (by decide)) (k8 8 (by decide) (by decide))⟩
theorem LH.mono {n n' : Int} {X : Nat → Int} {Q : Nat → St} {F3 : Int → Int} {M : St} (h : LH n X Q F3 M) (h1 : n ≤ n') (h2 : n' ≤ 4000000) : LH n' X Q F3 M := ⟨h.1, h.2.1, h.2.2.1, h.2.2.2.1, fun j a b => ⟨(h.2.2.2.2 j a b).1.mono h1 h2, (h.2.2.2.2 j a b).2⟩⟩
theorem LSn.mono {n n' : Int} {Z : Nat → Int} {P : St} {F2 : Int → Int} {M : St} (h : LSn n Z P F2 M) (h1 : n ≤ n') (h2 : n' ≤ 4000000) : LSn n' Z P F2 M := ⟨h.1, h.2.1, h.2.2.1, fun a => ⟨(h.2.2.2 a).1.mono h1 h2, (h.2.2.2 a).2⟩⟩
theorem LI.mono {n : Int} {Z U X : Nat → Int} {S P I : St} {Y : Int → Int} {Q : Nat → St} {F2 F3 : Int → Int} {M : St} {n' : Int} (h : LI n Z U X S P I Y Q F2 F3 M) (h1 : n ≤ n') (h2 : n' ≤ 4000000) : LI n' Z U X S P I Y Q F2 F3 M := ⟨h.1.mono h1 h2, h.2.1.mono h1 h2, h.2.2.1.mono h1 h2, h.2.2.2⟩
theorem mK_0 (M : St) (v : Int) : mK M (upS M 8 0 v) := ⟨rfl, rfl, fun i h1 h2 => upS_n (by omega)⟩
theorem mK_q {M u : St} {t : Int} (h : qM M u t) : mK M u := ⟨funext fun i => h.2 5 i (by omega), funext fun i => h.2 7 i (by omega), fun i h1 h2 => h.2 8 i (by omega)⟩
theorem mK.trans {M M1 M2 : St} (h : mK M M1) (k : mK M1 M2) : mK M M2 := ⟨k.1.trans h.1, k.2.1.trans h.2.1, fun i h1 h2 => (k.2.2 i h1 h2).trans (h.2.2 i h1 h2)⟩
theorem mK_a (M : St) {i v : Int} (h : i = 0 ∨ 9 ≤ i) : mK M (upS M 8 i v) := ⟨rfl, rfl, fun j h1 h2 => upS_n (by omega)⟩
theorem mK_s (M : St) (c x : Int) : mK M (mAns M c x) := ⟨funext fun i => mAns_k (by omega), funext fun i => mAns_k (by omega), fun i h1 h2 => mAns_k (by omega)⟩
/-- a state put on the history -/
theorem LH.push {n : Int} {X : Nat → Int} {Q : Nat → St} {F3 : Int → Int} {M M' : St} {S : St} (h : LH n X Q F3 M) (hS : Inv n S) (k : M' 8 1 = k1Z (M 8 1)) : LH n (upO (upO X 0 ((X 0 + 1) % 8)) 1 (k1Z (X 1))) (upQ Q (X 0) S) (hiZ F3 (encZ S) (M 8 1)) M' := by
  obtain ⟨a1, a2, a3, a4, a5⟩ := h
  have e0 : (upO (upO X 0 ((X 0 + 1) % 8)) 1 (k1Z (X 1))) 0 = (X 0 + 1) % 8 := rfl
  have e1 : (upO (upO X 0 ((X 0 + 1) % 8)) 1 (k1Z (X 1))) 1 = k1Z (X 1) := rfl
  have hk : (X 1 = 8 ∧ k1Z (X 1) = 8) ∨ (X 1 < 8 ∧ k1Z (X 1) = X 1 + 1) := by
    unfold k1Z
    split
    · exact Or.inl ⟨by assumption, rfl⟩
    · exact Or.inr ⟨by omega, rfl⟩
  refine ⟨by rw [e0]; omega, by rw [e1]; omega, by rw [e1, k, a3], fun q i => ?_, fun j h1 h2 => ?_⟩
  · unfold upQ
    split
    · exact hS.bd.2.2.2.2.2.2.2.2.2.2.2.2.2.1 i
    · exact a4 q i
  · rw [e1] at h2
    have er : rgI (upO (upO X 0 ((X 0 + 1) % 8)) 1 (k1Z (X 1))) j = ((((X 0 + 1) % 8) + 8 - k1Z (X 1) + j) % 8).toNat := rfl
    rw [a3]
    by_cases hj : j = k1Z (X 1) - 1
    · have e9 : ((rgI (upO (upO X 0 ((X 0 + 1) % 8)) 1 (k1Z (X 1))) j : Nat) : Int) = X 0 := by rw [er]; omega
      have eQ : upQ Q (X 0) S (rgI (upO (upO X 0 ((X 0 + 1) % 8)) 1 (k1Z (X 1))) j) = S := if_pos e9
      rw [eQ]
      refine ⟨hS, fun i i1 i2 => ?_⟩
      show (if 102 * (k1Z (X 1) - 1) ≤ 102 * j + i ∧ 102 * j + i < 102 * (k1Z (X 1) - 1) + 102 then encZ S (102 * j + i - 102 * (k1Z (X 1) - 1)) else bsZ F3 (X 1) (102 * j + i)) = _
      rw [if_pos (by omega), show 102 * j + i - 102 * (k1Z (X 1) - 1) = i by omega]
    · have e9 : ¬ ((rgI (upO (upO X 0 ((X 0 + 1) % 8)) 1 (k1Z (X 1))) j : Nat) : Int) = X 0 := by rw [er]; omega
      have eQ : upQ Q (X 0) S (rgI (upO (upO X 0 ((X 0 + 1) % 8)) 1 (k1Z (X 1))) j) = Q (rgI (upO (upO X 0 ((X 0 + 1) % 8)) 1 (k1Z (X 1))) j) := if_neg e9
      rw [eQ]
      have key : ∀ i, 0 ≤ i → i < 102 → hiZ F3 (encZ S) (X 1) (102 * j + i) = bsZ F3 (X 1) (102 * j + i) := fun i i1 i2 => if_neg (by omega)
      rcases hk with ⟨h8, hk8⟩ | ⟨h8, hk8⟩
      · have e7 : rgI (upO (upO X 0 ((X 0 + 1) % 8)) 1 (k1Z (X 1))) j = rgI X (j + 1) := by
          rw [er]
          unfold rgI
          omega
        rw [e7]
        have h9 := a5 (j + 1) (by omega) (by omega)
        refine ⟨h9.1, fun i i1 i2 => ?_⟩
        rw [key i i1 i2, ← h9.2 i i1 i2]
        unfold bsZ shZ
        rw [if_pos h8]
        show (if 102 * j + i < 714 then F3 (102 * j + i + 102) else F3 (102 * j + i)) = _
        rw [if_pos (by omega), show 102 * j + i + 102 = 102 * (j + 1) + i by omega]
      · have e7 : rgI (upO (upO X 0 ((X 0 + 1) % 8)) 1 (k1Z (X 1))) j = rgI X j := by
          rw [er]
          unfold rgI
          omega
        rw [e7]
        have h9 := a5 j (by omega) (by omega)
        refine ⟨h9.1, fun i i1 i2 => ?_⟩
        rw [key i i1 i2, ← h9.2 i i1 i2]
        unfold bsZ
        rw [if_neg (by omega)]
theorem LI.push {n : Int} {Z U X : Nat → Int} {S P I : St} {Y : Int → Int} {Q : Nat → St} {F2 F3 : Int → Int} {M : St} {M' S' : St} (h : LI n Z U X S P I Y Q F2 F3 M) (hS : Inv n S') (k1 : M' 8 1 = k1Z (M 8 1)) (k5 : M' 5 = M 5) (k7 : M' 7 = M 7) (k : ∀ i : Int, 2 ≤ i → i ≤ 8 → M' 8 i = M 8 i) : LI n Z U (upO (upO X 0 ((X 0 + 1) % 8)) 1 (k1Z (X 1))) S' P I Y (upQ Q (X 0) S) F2 (hiZ F3 (encZ S) (M 8 1)) M' :=
  ⟨hS, h.2.1.push h.1 k1, h.2.2.1.m (k 2 (by decide) (by decide)), h.2.2.2.1.m (k 3 (by decide) (by decide)) k5, h.2.2.2.2.1.m (k 4 (by decide) (by decide)) k7, h.2.2.2.2.2.m (k 5 (by decide) (by decide)) (k 6 (by decide) (by decide)) (k 7 (by decide) (by decide)) (k 8 (by decide) (by decide))⟩
/-- a rejection kept -/
theorem LI.rej {n : Int} {Z U X : Nat → Int} {S P I : St} {Y : Int → Int} {Q : Nat → St} {F2 F3 : Int → Int} {M : St} {M' : St} {c d g : Int} (h : LI n Z U X S P I Y Q F2 F3 M) (hc : 0 ≤ c ∧ c ≤ 12) (k5 : M' 5 = M 5) (k7 : M' 7 = M 7) (k : ∀ i : Int, 1 ≤ i → i ≤ 5 → M' 8 i = M 8 i) (k8 : M' 8 6 = c ∧ M' 8 7 = d ∧ M' 8 8 = g) : LI n (upO (upO (upO Z 1 c) 2 d) 3 g) U X S P I Y Q F2 F3 M' :=
  ⟨h.1, h.2.1.m (k 1 (by decide) (by decide)), h.2.2.1.m (k 2 (by decide) (by decide)), h.2.2.2.1.m (k 3 (by decide) (by decide)) k5, h.2.2.2.2.1.m (k 4 (by decide) (by decide)) k7, ⟨(k 5 (by decide) (by decide)).trans h.2.2.2.2.2.1.1, h.2.2.2.2.2.1.2⟩, ⟨k8.1, hc⟩, k8.2.1, k8.2.2⟩
abbrev zkt (Z O : Nat → Int) : Nat → Int := (if O 0 = 3 then (upO (upO (upO Z 1 (O 2)) 2 (O 3)) 3 0) else Z)
theorem outc_v0 (O : Nat → Int) (x : Int) : outc O 0 x 1 = x := rfl
/-- what a public change does on both sides: its code c, its number x; c2 the reference's code -/
theorem LI.chg {n : Int} {Z U X : Nat → Int} {S P I : St} {Y : Int → Int} {Q : Nat → St} {F2 F3 : Int → Int} {M : St} {c x d c2 : Int} {S' : St} (O : Nat → Int) (h : LI n Z U X S P I Y Q F2 F3 M) (hS : Inv n S') (hr : -2 ≤ c ∧ c ≤ 11) (hk : c ≠ 0 → S' = S) (hc2 : (0 ≤ c → c2 = c) ∧ (c < 0 → c2 < 0)) :
    (outc O c x 0 = 0 → endM (mAns (upS M 8 0 0) c x) c2 d 8 0 = 0 ∧ endR (mAns (upS M 8 0 0) c x) c2 = outc O c x 1 ∧ LI n Z U (upO (upO X 0 ((X 0 + 1) % 8)) 1 (k1Z (X 1))) S' P I Y (upQ Q (X 0) S) F2 (endF F3 (encZ S) (mAns (upS M 8 0 0) c x) c2) (endM (mAns (upS M 8 0 0) c x) c2 d))
    ∧ (outc O c x 0 ≠ 0 → S' = S ∧ LI n (zkt Z (outc O c x)) U X S P I Y Q F2 (endF F3 (encZ S) (mAns (upS M 8 0 0) c x) c2) (endM (mAns (upS M 8 0 0) c x) c2 d))
    ∧ (outc O c x 0 = 1 → c = -1 ∧ endM (mAns (upS M 8 0 0) c x) c2 d 8 0 = -c2) ∧ (outc O c x 0 = 2 → c = -2 ∧ endM (mAns (upS M 8 0 0) c x) c2 d 8 0 = -c2) ∧ (outc O c x 0 = 3 → 0 < c ∧ endM (mAns (upS M 8 0 0) c x) c2 d 8 0 = d) := by
  have hz := outc_z O (x := x) hr
  have mk := mK_s (upS M 8 0 0) c x
  have mk0 := (mK_0 M 0).trans mk
  have ha0 : mAns (upS M 8 0 0) c x 8 0 = 0 := mAns_k (by omega)
  generalize hMA : mAns (upS M 8 0 0) c x = MA at mk0 ha0 ⊢
  rcases (show c = 0 ∨ c < 0 ∨ 0 < c by omega) with c0 | c0 | c0
  · have e2 : c2 = 0 := (hc2.1 (by omega)).trans c0
    subst c0
    subst e2
    have eM : endM MA 0 d = upS MA 8 1 (k1Z (MA 8 1)) := if_pos rfl
    have eF : endF F3 (encZ S) MA 0 = hiZ F3 (encZ S) (MA 8 1) := if_pos rfl
    have eR : endR MA 0 = MA 8 10 := if_pos rfl
    have e81 : MA 8 1 = M 8 1 := mk0.2.2 1 (by decide) (by decide)
    have e10 : MA 8 10 = x := by
      rw [← hMA]
      unfold mAns
      rw [if_pos rfl]
      exact upS_s
    have o0 : outc O 0 x 0 = 0 := rfl
    rw [eM, eF, eR, o0, e81]
    refine ⟨fun _ => ⟨(upS_n (by omega)).trans ha0, e10, ?_⟩, fun q => absurd rfl q, fun q => absurd q (by decide), fun q => absurd q (by decide), fun q => absurd q (by decide)⟩
    exact h.push hS upS_s mk0.1 mk0.2.1 (fun i i1 i2 => (upS_n (by omega)).trans (mk0.2.2 i (by omega) i2))
  · have e2 : c2 < 0 := hc2.2 c0
    have eM : endM MA c2 d = upS MA 8 0 (-c2) := (if_neg (by omega)).trans (if_pos e2)
    have eF : endF F3 (encZ S) MA c2 = F3 := if_neg (by omega)
    have h3 : ¬ outc O c x 0 = 3 := fun q => by have := outc_4 hr.1 q; omega
    have ez : zkt Z (outc O c x) = Z := if_neg h3
    have t0 : upS MA 8 0 (-c2) 8 0 = -c2 := upS_s
    rw [eM, eF, ez, t0, hk (by omega)]
    refine ⟨fun q => by have := hz.1.mp q; omega, fun _ => ⟨rfl, h.m (mk0.trans (mK_0 MA _))⟩, fun q => ⟨outc_1 q, rfl⟩, fun q => ⟨outc_2 q, rfl⟩, fun q => absurd q h3⟩
  · have e2 : c2 = c := hc2.1 (by omega)
    subst e2
    have eM : endM MA c2 d = upS (upS (upS (upS MA 8 6 c2) 8 7 (MA 8 9)) 8 8 0) 8 0 d := (if_neg (by omega)).trans (if_neg (by omega))
    have eF : endF F3 (encZ S) MA c2 = F3 := if_neg (by omega)
    have h3 : outc O c2 x 0 = 3 := by rw [outc_r (by omega)]; rfl
    have v2 : outc O c2 x 2 = c2 := by rw [outc_r (by omega)]; rfl
    have v3 : outc O c2 x 3 = x := by rw [outc_r (by omega)]; rfl
    have e9 : MA 8 9 = x := by
      rw [← hMA]
      unfold mAns
      rw [if_neg (by omega), if_neg (by omega)]
      exact upS_s
    have ez : zkt Z (outc O c2 x) = upO (upO (upO Z 1 c2) 2 x) 3 0 := by
      show (if outc O c2 x 0 = 3 then upO (upO (upO Z 1 (outc O c2 x 2)) 2 (outc O c2 x 3)) 3 0 else Z) = _
      rw [if_pos h3, v2, v3]
    rw [eM, eF, ez, h3, hk (by omega), e9]
    refine ⟨fun q => absurd q (by decide), fun _ => ⟨rfl, h.rej ⟨by omega, by omega⟩ mk0.1 mk0.2.1 (fun i i1 i2 => ?_) ⟨?_, ?_, ?_⟩⟩, fun q => absurd q (by decide), fun q => absurd q (by decide), fun _ => ⟨c0, upS_s⟩⟩
    · rw [upS_n (by omega), upS_n (by omega), upS_n (by omega), upS_n (by omega)]
      exact mk0.2.2 i (by omega) (by omega)
    · rw [upS_n (by omega), upS_n (by omega), upS_n (by omega)]
      exact upS_s
    · rw [upS_n (by omega), upS_n (by omega)]
      exact upS_s
    · rw [upS_n (by omega)]
      exact upS_s
