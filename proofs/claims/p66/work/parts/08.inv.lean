/-! what holds of every state that calls can reach -/
theorem sumZ_c {f g : Int → Int} : ∀ {n : Nat}, (∀ i : Int, 0 ≤ i → i < n → f i = g i) → sumZ f n = sumZ g n
  | 0, _ => rfl
  | n + 1, h => by
    show sumZ f n + f n = sumZ g n + g n
    rw [sumZ_c (fun i h1 h2 => h i h1 (by omega)), h n (by omega) (by omega)]
theorem sumZ_u {f : Int → Int} {i v : Int} : ∀ n : Nat, sumZ (fun j => if j = i then v else f j) n = if 0 ≤ i ∧ i < n then sumZ f n - f i + v else sumZ f n
  | 0 => by rw [if_neg (by omega)]; rfl
  | n + 1 => by
    show sumZ (fun j => if j = i then v else f j) n + (if (n : Int) = i then v else f n) = _
    rw [sumZ_u n]
    by_cases h : (n : Int) = i
    · subst h
      rw [if_neg (by omega), if_pos rfl, if_pos (by omega)]
      show _ = sumZ f n + f n - f n + v
      omega
    · rw [if_neg h]
      by_cases h2 : 0 ≤ i ∧ i < n
      · rw [if_pos h2, if_pos (by omega)]
        show _ = sumZ f n + f n - f i + v
        omega
      · rw [if_neg h2, if_neg (by omega)]
        rfl
theorem sumZ_p {f : Int → Int} (h : ∀ i, 0 ≤ f i) : ∀ n : Nat, 0 ≤ sumZ f n
  | 0 => Int.le_refl 0
  | n + 1 => by
    have h1 := sumZ_p h n
    have h2 := h n
    show 0 ≤ sumZ f n + f n
    omega
theorem sumZ_m {f : Int → Int} (h : ∀ i, 0 ≤ f i) : ∀ (n : Nat) (i : Int), 0 ≤ i → i < n → f i ≤ sumZ f n
  | 0, i, h1, h2 => by omega
  | n + 1, i, h1, h2 => by
    show f i ≤ sumZ f n + f n
    by_cases e : i = n
    · have h3 := sumZ_p h n
      rw [e]; omega
    · have h3 := sumZ_m h n i h1 (by omega)
      have h4 := h n
      omega
theorem sumZ_S (S : St) (k : Nat) (i v : Int) (n : Nat) : sumZ (upS S k i v k) n = if 0 ≤ i ∧ i < n then sumZ (S k) n - S k i + v else sumZ (S k) n := by
  rw [show upS S k i v k = (fun j => if j = i then v else S k j) from funext (upS_k S k i v)]
  exact sumZ_u n
/-- the park's part -/
def PI (S : St) : Prop := (0 ≤ S 0 0 ∧ S 0 0 ≤ 10) ∧ (0 ≤ S 0 1 ∧ S 0 1 ≤ 4) ∧ (0 ≤ S 0 3 ∧ S 0 3 ≤ 20) ∧ (∀ i, 0 ≤ S 1 i ∧ S 1 i ≤ 5) ∧ (∀ i, 0 ≤ S 2 i ∧ S 2 i ≤ 5) ∧ (∀ i, 0 ≤ S 3 i ∧ S 3 i ≤ 20) ∧ (∀ i, 0 ≤ S 7 i ∧ S 7 i ≤ 5) ∧ (∀ i, 0 ≤ S 8 i ∧ S 8 i ≤ 5) ∧ (∀ i, 0 ≤ S 9 i ∧ S 9 i ≤ 9) ∧ (∀ i, 0 ≤ S 10 i ∧ S 10 i ≤ 1)
/-- the leases' part; the lease of bench x may be on its way out -/
def LIx (M : Int) (S : St) (x : Int) : Prop := (0 ≤ S 0 2 ∧ S 0 2 ≤ 8) ∧ (∀ b, 0 ≤ S 4 b ∧ S 4 b ≤ S 0 2) ∧ (∀ b, 0 ≤ S 5 b ∧ S 5 b ≤ 20) ∧ (∀ b, 0 ≤ S 6 b ∧ S 6 b ≤ 12) ∧ (∀ i, 0 ≤ S 11 i) ∧ (∀ i, 0 ≤ S 12 i ∧ S 12 i ≤ 3) ∧ (∀ b, S 4 b = 0 → S 5 b = 0 ∧ S 6 b = 0) ∧ (∀ b, S 4 b ≠ 0 → 0 ≤ b ∧ b < S 0 0) ∧ (∀ b, S 4 b ≠ 0 → b ≠ x → 1 ≤ S 6 b ∧ S 12 (S 4 b - 1) ≤ 2) ∧ (∀ b b', S 4 b = S 4 b' → S 4 b ≠ 0 → b = b') ∧ (∀ t, ¬ isTen S t → S 11 t = 0) ∧ 0 ≤ S 0 5 ∧ coinsA S = S 0 6 ∧ S 0 6 ≤ M ∧ M ≤ 4000000
def Inv (M : Int) (S : St) : Prop := PI S ∧ LIx M S (-1)
theorem LIx.c11 {M x : Int} {S : St} (h : LIx M S x) (t : Int) : 0 ≤ S 11 t ∧ S 11 t ≤ 4000000 := by
  obtain ⟨h02, h4, h5, h6, h11, h12, h40, h4b, h4c, hu, ht, hb, hc, hM, hM2⟩ := h
  refine ⟨h11 t, ?_⟩
  by_cases e : isTen S t
  · have h1 := sumZ_m h11 (S 0 2).toNat t e.1 (by have := e.2; omega)
    have h2 := sumZ_p (fun i => (h5 i).1) (S 0 0).toNat
    unfold coinsA deps at hc
    omega
  · rw [ht t e]; omega
theorem Inv.bd {M : Int} {S : St} (h : Inv M S) : Bd S := by
  have hc := h.2.c11
  obtain ⟨⟨p0, p1, p3, q1, q2, q3, q7, q8, q9, q10⟩, ⟨h02, h4, h5, h6, h11, h12, -⟩⟩ := h
  exact ⟨p0, p1, h02, p3, q1, q2, q3, h4, h5, h6, q7, q8, q9, q10, hc, h12⟩
theorem Inv.uniq {M : Int} {S : St} (h : Inv M S) : ∀ b b', S 4 b = S 4 b' → S 4 b ≠ 0 → b = b' := h.2.2.2.2.2.2.2.2.2.2.1
theorem cl4 (S : St) (b w j : Int) : clS S b w 4 j = if j = b then 0 else S 4 j := upS_k _ 4 b _ j
theorem cl5 (S : St) (b w j : Int) : clS S b w 5 j = if j = b then 0 else S 5 j := upS_k _ 5 b _ j
theorem cl6 (S : St) (b w j : Int) : clS S b w 6 j = if j = b then 0 else S 6 j := upS_k _ 6 b _ j
theorem cl11 (S : St) (b w j : Int) : clS S b w 11 j = if j = S 4 b - 1 then S 11 (S 4 b - 1) + w else S 11 j := upS_k _ 11 _ _ j
theorem clS_LI {M : Int} {S : St} {b w : Int} (h : LIx M S b) (hb : S 4 b ≠ 0) (hn : 0 ≤ S 0 0) (hw : 0 ≤ w ∧ w ≤ S 5 b) : LIx M (clS S b w) (-1) := by
  obtain ⟨h02, h4, h5, h6, h11, h12, h40, h4b, h4c, hu, ht, hbr, hc, hM, hM2⟩ := h
  have hbb := h4b b hb
  have h4x := h4 b
  have h5x := h5 b
  refine ⟨h02, fun j => ?_, fun j => ?_, fun j => ?_, fun j => ?_, h12, fun j => ?_, fun j => ?_, fun j => ?_, fun j k => ?_, fun t => ?_, ?_, ?_, hM, hM2⟩
  · rw [cl4]; show 0 ≤ _ ∧ _ ≤ S 0 2; have := h4 j; split <;> omega
  · rw [cl5]; have := h5 j; split <;> omega
  · rw [cl6]; have := h6 j; split <;> omega
  · rw [cl11]; have := h11 j; have := h11 (S 4 b - 1); split <;> omega
  · rw [cl4, cl5, cl6]; split
    · exact fun _ => ⟨rfl, rfl⟩
    · exact h40 j
  · rw [cl4]; split
    · exact fun q => absurd rfl q
    · exact h4b j
  · rw [cl4, cl6]; split
    · exact fun q => absurd rfl q
    · rename_i e
      exact fun q _ => h4c j q e
  · rw [cl4, cl4]
    split
    · exact fun _ q => absurd rfl q
    · split
      · exact fun q1 q2 => absurd q1 q2
      · exact hu j k
  · intro q
    have q' : ¬ isTen S t := q
    rw [cl11, if_neg (fun e => q' (by rw [e]; exact ⟨by omega, by omega⟩))]
    exact ht t q'
  · show 0 ≤ S 0 5 + (S 5 b - w)
    omega
  · show coinsA (clS S b w) = S 0 6
    rw [← hc]
    unfold coinsA deps
    rw [show sumZ (clS S b w 5) (clS S b w 0 0).toNat = sumZ (upS S 5 b 0 5) (S 0 0).toNat from rfl, sumZ_S, if_pos (by omega), show sumZ (clS S b w 11) (clS S b w 0 2).toNat = sumZ (upS S 11 (S 4 b - 1) (S 11 (S 4 b - 1) + w) 11) (S 0 2).toNat from rfl, sumZ_S, if_pos (by omega), show clS S b w 0 5 = S 0 5 + (S 5 b - w) from rfl]
    omega
/-- a number that nothing is said of -/
theorem LIx_0 {M x : Int} {S : St} {k : Int} {v : Int} (h : LIx M S x) (hk : k = 4 ∨ k = 7 ∨ k = 8 ∨ k = 9) : LIx M (upS S 0 k v) x := by
  rcases hk with rfl | rfl | rfl | rfl <;> exact h
theorem LIx_w {M x : Int} {S : St} (h : LIx M S (-1)) (hx : 0 ≤ x) : LIx M S x := by
  obtain ⟨h02, h4, h5, h6, h11, h12, h40, h4b, h4c, hu, ht, hbr, hc, hM, hM2⟩ := h
  exact ⟨h02, h4, h5, h6, h11, h12, h40, h4b, fun b q _ => h4c b q (by have := h4b b q; omega), hu, ht, hbr, hc, hM, hM2⟩
theorem pay_LI {M b : Int} {S : St} (h : LIx M S (-1)) (hb : S 4 b ≠ 0) {r : Int} (hr : 0 ≤ r ∧ r ≤ S 11 (S 4 b - 1)) : LIx M (upS (upS (upS S 11 (S 4 b - 1) (S 11 (S 4 b - 1) - r)) 0 5 (S 0 5 + r)) 6 b (S 6 b - 1)) b := by
  obtain ⟨h02, h4, h5, h6, h11, h12, h40, h4b, h4c, hu, ht, hbr, hc, hM, hM2⟩ := h
  have hbb := h4b b hb
  have h4x := h4 b
  have h6x := h4c b hb (by omega)
  refine ⟨h02, h4, h5, fun j => ?_, fun j => ?_, h12, fun j q => ?_, h4b, fun j q e => ?_, hu, fun t q => ?_, ?_, ?_, hM, hM2⟩
  · rw [upS_k]; have := h6 j; have := h6 b; split
    · omega
    · exact h6 j
  · show 0 ≤ upS S 11 (S 4 b - 1) (S 11 (S 4 b - 1) - r) 11 j
    rw [upS_k]; have := h11 j; split <;> omega
  · have q' : S 4 j = 0 := q
    rw [upS_k, if_neg (fun e : j = b => hb (e ▸ q'))]
    exact h40 j q'
  · rw [upS_k, if_neg e]
    exact h4c j q (by have := h4b j q; omega)
  · have q' : ¬ isTen S t := q
    show upS S 11 (S 4 b - 1) (S 11 (S 4 b - 1) - r) 11 t = 0
    rw [upS_k, if_neg (fun e => q' (by rw [e]; exact ⟨by omega, by omega⟩))]
    exact ht t q'
  · show 0 ≤ S 0 5 + r
    omega
  · show sumZ (S 5) (S 0 0).toNat + (S 0 5 + r) + sumZ (upS S 11 (S 4 b - 1) (S 11 (S 4 b - 1) - r) 11) (S 0 2).toNat = S 0 6
    rw [sumZ_S, if_pos (by omega)]
    unfold coinsA deps at hc
    omega
theorem def_LI {M b : Int} {S : St} (h : LIx M S (-1)) (hb : S 4 b ≠ 0) : LIx M (upS (upS S 0 7 (S 0 7 + 1)) 12 (S 4 b - 1) (S 12 (S 4 b - 1) + 1)) b := by
  obtain ⟨h02, h4, h5, h6, h11, h12, h40, h4b, h4c, hu, ht, hbr, hc, hM, hM2⟩ := h
  have hbb := h4b b hb
  have h6x := h4c b hb (by omega)
  refine ⟨h02, h4, h5, h6, h11, fun j => ?_, h40, h4b, fun j q e => ?_, hu, ht, hbr, hc, hM, hM2⟩
  · show 0 ≤ upS S 12 (S 4 b - 1) (S 12 (S 4 b - 1) + 1) 12 j ∧ upS S 12 (S 4 b - 1) (S 12 (S 4 b - 1) + 1) 12 j ≤ 3
    rw [upS_k]; have := h12 j; have := h12 (S 4 b - 1); split <;> omega
  · refine ⟨(h4c j q (by have := h4b j q; omega)).1, ?_⟩
    show upS S 12 (S 4 b - 1) (S 12 (S 4 b - 1) + 1) 12 (S 4 j - 1) ≤ 2
    rw [upS_k, if_neg (fun z => e (hu j b (by omega) q))]
    exact (h4c j q (by have := h4b j q; omega)).2
theorem bil_inv {M b : Int} {S : St} (h : Inv M S) (hb : S 4 b ≠ 0) : Inv M (bil S b).1 := by
  have hbd := h.bd
  have hre := rent_r hbd b
  obtain ⟨hp, hl⟩ := h
  have hl' := hl
  obtain ⟨h02, h4, h5, h6, h11, h12, h40, h4b, h4c, hu, ht, hbr, hc, hM, hM2⟩ := hl'
  have hbb := h4b b hb
  have h5x := h5 b
  have h6x := h6 b
  unfold bil
  split
  · exact ⟨hp, clS_LI (LIx_0 (LIx_w hl hbb.1) (by omega)) hb hp.1.1 ⟨h5x.1, Int.le_refl _⟩⟩
  · split
    · exact ⟨hp, clS_LI (def_LI hl hb) hb hp.1.1 ⟨Int.le_refl 0, h5x.1⟩⟩
    · have hpay := pay_LI hl hb (r := rent S b) (by omega)
      split
      · refine ⟨hp, ?_⟩
        rename_i hlt
        obtain ⟨g02, g4, g5, g6, g11, g12, g40, g4b, g4c, gu, gt, gbr, gc, gM, gM2⟩ := hpay
        refine ⟨g02, g4, g5, g6, g11, g12, g40, g4b, fun j q _ => ?_, gu, gt, gbr, gc, gM, gM2⟩
        by_cases e : j = b
        · subst e
          refine ⟨?_, (h4c j q (by omega)).2⟩
          show 1 ≤ upS _ 6 j (S 6 j - 1) 6 j
          rw [upS_k, if_pos rfl]
          omega
        · exact g4c j q e
      · exact ⟨hp, clS_LI (LIx_0 hpay (by omega)) hb hp.1.1 ⟨h5x.1, Int.le_refl _⟩⟩
/-- a month -/
def mN (S : St) : Nat → St × Int
  | 0 => (S, 0)
  | n + 1 => if (mN S n).1 4 n ≠ 0 then ((bil (mN S n).1 n).1, (mN S n).2 + (bil (mN S n).1 n).2) else mN S n
def moS (S : St) : St × Int := (upS (mN S (S 0 0).toNat).1 0 4 ((mN S (S 0 0).toNat).1 0 4 + 1), (mN S (S 0 0).toNat).2)
def msN (S : St) : Nat → St × Int
  | 0 => (S, 0)
  | k + 1 => ((moS (msN S k).1).1, (msN S k).2 + (moS (msN S k).1).2)
def elZ (S : St) (k : Int) : Chg := if ¬ isTerm k then (-2, 0, S) else (0, (msN S k.toNat).2, (msN S k.toNat).1)
theorem bil_00 (S : St) (b : Int) : (bil S b).1 0 0 = S 0 0 := by
  unfold bil
  split
  · rfl
  · split
    · rfl
    · split <;> rfl
theorem bil_r (S : St) (b : Int) : 0 ≤ (bil S b).2 ∧ (bil S b).2 ≤ 1 := by
  have h1 : (0 : Int) ≤ 1 ∧ (1 : Int) ≤ 1 := by decide
  have h0 : (0 : Int) ≤ 0 ∧ (0 : Int) ≤ 1 := by decide
  unfold bil
  split
  · exact h1
  · split
    · exact h1
    · split
      · exact h0
      · exact h1
theorem mN_inv {M : Int} {S : St} (h : Inv M S) : ∀ n : Nat, Inv M (mN S n).1 ∧ (mN S n).1 0 0 = S 0 0
  | 0 => ⟨h, rfl⟩
  | n + 1 => by
    obtain ⟨h1, h2⟩ := mN_inv h n
    unfold mN
    split
    · rename_i e
      exact ⟨bil_inv h1 e, (bil_00 _ _).trans h2⟩
    · exact ⟨h1, h2⟩
theorem mN_s {S : St} {i : Int} (h : 0 ≤ i) : mN S (i + 1).toNat = if (mN S i.toNat).1 4 i ≠ 0 then ((bil (mN S i.toNat).1 i).1, (mN S i.toNat).2 + (bil (mN S i.toNat).1 i).2) else mN S i.toNat := by
  rw [show (i + 1).toNat = i.toNat + 1 by omega]
  show (if (mN S i.toNat).1 4 (i.toNat : Int) ≠ 0 then ((bil (mN S i.toNat).1 (i.toNat : Int)).1, (mN S i.toNat).2 + (bil (mN S i.toNat).1 (i.toNat : Int)).2) else mN S i.toNat) = _
  rw [Int.toNat_of_nonneg h]
theorem moS_inv {M : Int} {S : St} (h : Inv M S) : Inv M (moS S).1 ∧ (moS S).1 0 0 = S 0 0 := by
  obtain ⟨h1, h2⟩ := mN_inv h (S 0 0).toNat
  exact ⟨⟨h1.1, LIx_0 h1.2 (by omega)⟩, h2⟩
theorem msN_inv {M : Int} {S : St} (h : Inv M S) : ∀ k : Nat, Inv M (msN S k).1 ∧ (msN S k).1 0 0 = S 0 0
  | 0 => ⟨h, rfl⟩
  | k + 1 => by
    obtain ⟨h1, h2⟩ := msN_inv h k
    obtain ⟨h3, h4⟩ := moS_inv h1
    exact ⟨h3, h4.trans h2⟩
theorem msN_s {S : St} {i : Int} (h : 0 ≤ i) : msN S (i + 1).toNat = ((moS (msN S i.toNat).1).1, (msN S i.toNat).2 + (moS (msN S i.toNat).1).2) := by
  rw [show (i + 1).toNat = i.toNat + 1 by omega]
  rfl
