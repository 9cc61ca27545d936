/-! income: more months bring no less -/
theorem incB_r {S : St} (hI : Bd S) {m b : Int} (hm : 0 ≤ m) : 0 ≤ incB S m b := by
  have hr := rent_r hI b
  have hp := pay_b hI b
  have h5 := hI.2.2.2.2.2.2.2.2.1 b
  have h6 := hI.2.2.2.2.2.2.2.2.2.1 b
  have h1 : 0 ≤ payable S b * rent S b := Int.mul_nonneg hp.1 (by omega)
  unfold incB
  split
  · obtain ⟨k, hk⟩ : ∃ k, k = (if m ≤ S 6 b then m else S 6 b) := ⟨_, rfl⟩
    have hk0 : 0 ≤ k := by
      rw [hk]
      split <;> omega
    rw [← hk]
    unfold incF
    split
    · omega
    · exact Int.mul_nonneg hk0 (by omega)
  · exact Int.le_refl 0
theorem incB_m {S : St} (hI : Bd S) {m b : Int} (hm : 1 ≤ m) : incB S (m - 1) b ≤ incB S m b := by
  have hr := rent_r hI b
  have hp := pay_b hI b
  have h5 := hI.2.2.2.2.2.2.2.2.1 b
  have h6 := hI.2.2.2.2.2.2.2.2.2.1 b
  unfold incB
  split
  · obtain ⟨k, hk⟩ : ∃ k, k = (if m - 1 ≤ S 6 b then m - 1 else S 6 b) := ⟨_, rfl⟩
    obtain ⟨k2, hk2⟩ : ∃ k2, k2 = (if m ≤ S 6 b then m else S 6 b) := ⟨_, rfl⟩
    rw [← hk, ← hk2]
    have hkk : k2 = k ∨ k2 = k + 1 := by
      (repeat' split at hk) <;> (repeat' split at hk2) <;> omega
    unfold incF
    rcases hkk with e | e
    · rw [e]; exact Int.le_refl _
    · rw [e]
      by_cases c1 : payable S b < k
      · rw [if_pos c1, if_pos (by omega)]; exact Int.le_refl _
      · rw [if_neg c1]
        by_cases c2 : payable S b < k + 1
        · rw [if_pos c2, show payable S b = k by omega]
          omega
        · rw [if_neg c2, Int.add_mul]
          omega
  · exact Int.le_refl 0
theorem lInc_m {S : St} (hI : Bd S) {m : Int} (hm : 1 ≤ m) : 0 ≤ leaseInc S m ∧ leaseInc S (m - 1) ≤ leaseInc S m := by
  refine ⟨?_, sumZ_le (fun i _ _ => incB_m hI hm)⟩
  exact sumZ_p (fun i => incB_r hI (by omega)) _
/-! months pass -/
abbrev endZ (S : St) : Int := S 0 7 + S 0 8 + S 0 9
theorem bil_e (S : St) (b : Int) : endZ (bil S b).1 = endZ S + (bil S b).2 := by
  unfold endZ bil
  split
  · show S 0 7 + (S 0 8 + 1) + S 0 9 = S 0 7 + S 0 8 + S 0 9 + 1
    omega
  · split
    · show (S 0 7 + 1) + S 0 8 + S 0 9 = S 0 7 + S 0 8 + S 0 9 + 1
      omega
    · split
      · show S 0 7 + S 0 8 + S 0 9 = S 0 7 + S 0 8 + S 0 9 + 0
        omega
      · show S 0 7 + S 0 8 + (S 0 9 + 1) = S 0 7 + S 0 8 + S 0 9 + 1
        omega
theorem mN_e (S : St) : ∀ n : Nat, endZ (mN S n).1 = endZ S + (mN S n).2
  | 0 => by show endZ S = endZ S + 0; omega
  | n + 1 => by
    have ih := mN_e S n
    unfold mN
    split
    · have h := bil_e (mN S n).1 n
      show endZ (bil (mN S n).1 n).1 = endZ S + ((mN S n).2 + (bil (mN S n).1 n).2)
      omega
    · exact ih
theorem msN_e (S : St) : ∀ k : Nat, endZ (msN S k).1 = endZ S + (msN S k).2
  | 0 => by show endZ S = endZ S + 0; omega
  | k + 1 => by
    have ih := msN_e S k
    have h : endZ (moS (msN S k).1).1 = endZ (msN S k).1 + (moS (msN S k).1).2 := mN_e (msN S k).1 ((msN S k).1 0 0).toNat
    show endZ (moS (msN S k).1).1 = endZ S + ((msN S k).2 + (moS (msN S k).1).2)
    omega
theorem elZ_t {S : St} {m : Int} (h : isTerm m) : elZ S m = (0, (msN S m.toNat).2, (msN S m.toNat).1) := by
  unfold elZ
  rw [if_neg (fun q => q h)]
theorem msN_0 (S : St) : ∀ k : Nat, 0 ≤ (msN S k).2
  | 0 => Int.le_refl 0
  | k + 1 => by
    have key : ∀ n : Nat, 0 ≤ (mN (msN S k).1 n).2 := fun n => by
      induction n with
      | zero => exact Int.le_refl 0
      | succ n ih =>
        have h := bil_r (mN (msN S k).1 n).1 n
        unfold mN
        split
        · show 0 ≤ (mN (msN S k).1 n).2 + (bil (mN (msN S k).1 n).1 n).2
          omega
        · exact ih
    have ih := msN_0 S k
    have h2 := key ((msN S k).1 0 0).toNat
    show 0 ≤ (msN S k).2 + (mN (msN S k).1 ((msN S k).1 0 0).toNat).2
    omega
/-- a bench's own month: when its lease goes on, and how -/
theorem bil_b {S : St} (hI : Bd S) {b : Int} (hb : S 4 b ≠ 0) : ((bil S b).1 4 b ≠ 0 ↔ quietB S b ∧ rent S b ≤ S 11 (S 4 b - 1) ∧ 2 ≤ S 6 b) ∧ ((bil S b).1 4 b ≠ 0 → (bil S b).1 4 b = S 4 b ∧ (bil S b).1 6 b = S 6 b - 1 ∧ (bil S b).1 11 (S 4 b - 1) = S 11 (S 4 b - 1) - rent S b) := by
  have cl : ∀ (T : St) (w : Int), clS T b w 4 b = 0 := fun T w => (cl4 T b w b).trans (if_pos rfl)
  unfold bil
  by_cases c1 : quietB S b
  · rw [if_neg (fun q => q c1)]
    by_cases c2 : S 11 (S 4 b - 1) < rent S b
    · rw [if_pos c2]
      refine ⟨⟨fun q => absurd (cl _ _) q, fun q => by omega⟩, fun q => absurd (cl _ _) q⟩
    · rw [if_neg c2]
      by_cases c3 : 0 < S 6 b - 1
      · rw [if_pos c3]
        have e4 : upS (upS (upS S 11 (S 4 b - 1) (S 11 (S 4 b - 1) - rent S b)) 0 5 (S 0 5 + rent S b)) 6 b (S 6 b - 1) 4 b = S 4 b := rfl
        refine ⟨⟨fun _ => ⟨c1, by omega, by omega⟩, fun _ => by show upS (upS (upS S 11 (S 4 b - 1) (S 11 (S 4 b - 1) - rent S b)) 0 5 (S 0 5 + rent S b)) 6 b (S 6 b - 1) 4 b ≠ 0; rw [e4]; exact hb⟩, fun _ => ⟨e4, upS_s, ?_⟩⟩
        exact upS_s (S := S) (k := 11) (i := S 4 b - 1)
      · rw [if_neg c3]
        refine ⟨⟨fun q => absurd (cl _ _) q, fun q => by omega⟩, fun q => absurd (cl _ _) q⟩
  · rw [if_pos c1]
    refine ⟨⟨fun q => absurd (cl _ _) q, fun q => absurd q.1 c1⟩, fun q => absurd (cl _ _) q⟩
/-- the benches ahead of it and behind it leave it alone -/
theorem mN_b {M : Int} {S : St} (hV : Inv M S) {b : Int} (hb : S 4 b ≠ 0) : ∀ n : Nat, ((n : Int) ≤ b → (mN S n).1 4 b = S 4 b ∧ (mN S n).1 6 b = S 6 b ∧ (mN S n).1 11 (S 4 b - 1) = S 11 (S 4 b - 1)) ∧ eqPk S (mN S n).1
  | 0 => ⟨fun _ => ⟨rfl, rfl, rfl⟩, rfl, rfl, rfl, rfl, rfl, rfl, rfl, rfl, rfl⟩
  | n + 1 => by
    obtain ⟨h1, h2⟩ := mN_b hV hb n
    have hI := (mN_inv hV n).1
    unfold mN
    split
    · rename_i c
      refine ⟨fun hn => ?_, ?_⟩
      · obtain ⟨a1, a2, a3⟩ := h1 (by omega)
        have ho := bil_o (mN S n).1 n
        have hx := ho.1 b (by omega)
        refine ⟨hx.1.trans a1, hx.2.2.trans a2, (ho.2 _ (fun q => ?_)).trans a3⟩
        have := hI.uniq b n (by omega) (by omega)
        omega
      · obtain ⟨p1, p2, p3, p4, p5, p6, p7, p8, p9⟩ := h2
        obtain ⟨q1, q2, q3, q4, q5, q6, q7, q8, q9⟩ := bil_pk (mN S n).1 n
        exact ⟨q1.trans p1, q2.trans p2, q3.trans p3, q4.trans p4, q5.trans p5, q6.trans p6, q7.trans p7, q8.trans p8, q9.trans p9⟩
    · exact ⟨fun hn => h1 (by omega), h2⟩
/-- behind its own turn it stays as it is -/
theorem mN_a {M : Int} {S : St} (hV : Inv M S) {b : Int} (hb0 : 0 ≤ b) : ∀ n : Nat, b < n → (mN S n).1 4 b = (mN S (b.toNat + 1)).1 4 b ∧ (mN S n).1 6 b = (mN S (b.toNat + 1)).1 6 b ∧ ((mN S n).1 4 b ≠ 0 → (mN S n).1 11 ((mN S n).1 4 b - 1) = (mN S (b.toNat + 1)).1 11 ((mN S (b.toNat + 1)).1 4 b - 1))
  | 0, h => by omega
  | n + 1, h => by
    by_cases e : b = n
    · subst e
      rw [show ((n : Int)).toNat = n by omega]
      exact ⟨rfl, rfl, fun _ => rfl⟩
    · obtain ⟨h1, h2, h3⟩ := mN_a hV hb0 n (by omega)
      have hI := (mN_inv hV n).1
      show ((if (mN S n).1 4 (n : Int) ≠ 0 then ((bil (mN S n).1 n).1, (mN S n).2 + (bil (mN S n).1 n).2) else mN S n).1 4 b = _) ∧ ((if (mN S n).1 4 (n : Int) ≠ 0 then ((bil (mN S n).1 n).1, (mN S n).2 + (bil (mN S n).1 n).2) else mN S n).1 6 b = _) ∧ ((if (mN S n).1 4 (n : Int) ≠ 0 then ((bil (mN S n).1 n).1, (mN S n).2 + (bil (mN S n).1 n).2) else mN S n).1 4 b ≠ 0 → (if (mN S n).1 4 (n : Int) ≠ 0 then ((bil (mN S n).1 n).1, (mN S n).2 + (bil (mN S n).1 n).2) else mN S n).1 11 ((if (mN S n).1 4 (n : Int) ≠ 0 then ((bil (mN S n).1 n).1, (mN S n).2 + (bil (mN S n).1 n).2) else mN S n).1 4 b - 1) = _)
      by_cases c : (mN S n).1 4 (n : Int) ≠ 0
      · rw [if_pos c]
        have ho := bil_o (mN S n).1 n
        have hx := ho.1 b e
        refine ⟨hx.1.trans h1, hx.2.2.trans h2, fun q => ?_⟩
        have q1 : (mN S n).1 4 b ≠ 0 := by rw [← hx.1]; exact q
        show (bil (mN S n).1 n).1 11 ((bil (mN S n).1 n).1 4 b - 1) = _
        rw [hx.1, ho.2 _ (fun q2 => e (hI.uniq b n (by omega) q1))]
        exact h3 q1
      · rw [if_neg c]
        exact ⟨h1, h2, h3⟩
theorem mN_z {S : St} {b : Int} (h0 : S 4 b = 0) : ∀ n : Nat, (mN S n).1 4 b = 0
  | 0 => h0
  | n + 1 => by
    have ih := mN_z h0 n
    unfold mN
    split
    · rename_i c
      exact ((bil_o (mN S n).1 n).1 b (fun e => c (by rw [← e]; exact ih))).1.trans ih
    · exact ih
theorem eqPk.tr {S T U : St} (h : eqPk S T) (k : eqPk T U) : eqPk S U := by
  obtain ⟨p1, p2, p3, p4, p5, p6, p7, p8, p9⟩ := h
  obtain ⟨q1, q2, q3, q4, q5, q6, q7, q8, q9⟩ := k
  exact ⟨q1.trans p1, q2.trans p2, q3.trans p3, q4.trans p4, q5.trans p5, q6.trans p6, q7.trans p7, q8.trans p8, q9.trans p9⟩
/-- a month of a let bench -/
theorem moS_b {M : Int} {S : St} (hV : Inv M S) {b : Int} (hb : S 4 b ≠ 0) : ((moS S).1 4 b ≠ 0 ↔ quietB S b ∧ rent S b ≤ S 11 (S 4 b - 1) ∧ 2 ≤ S 6 b) ∧ ((moS S).1 4 b ≠ 0 → (moS S).1 4 b = S 4 b ∧ (moS S).1 6 b = S 6 b - 1 ∧ (moS S).1 11 (S 4 b - 1) = S 11 (S 4 b - 1) - rent S b) ∧ eqPk S (moS S).1 := by
  have hbb := hV.2.2.2.2.2.2.2.2.1 b hb
  obtain ⟨a1, a2, a3⟩ := (mN_b hV hb b.toNat).1 (by omega)
  have hpk := (mN_b hV hb b.toNat).2
  have hI := (mN_inv hV b.toNat).1
  have eb : (b.toNat : Int) = b := by omega
  have es : (mN S (b.toNat + 1)).1 = (bil (mN S b.toNat).1 b).1 := by
    show (if (mN S b.toNat).1 4 (b.toNat : Int) ≠ 0 then ((bil (mN S b.toNat).1 (b.toNat : Int)).1, (mN S b.toNat).2 + (bil (mN S b.toNat).1 (b.toNat : Int)).2) else mN S b.toNat).1 = _
    rw [eb, if_pos (by rw [a1]; exact hb)]
  obtain ⟨b1, b2, b3⟩ := mN_a hV hbb.1 (S 0 0).toNat (by omega)
  rw [es] at b1 b2 b3
  obtain ⟨c1, c2⟩ := bil_b hI.bd (S := (mN S b.toNat).1) (b := b) (by rw [a1]; exact hb)
  rw [a1, a2, a3, hpk.r b] at c1 c2
  have hq := hpk.q b
  have m4 : (moS S).1 4 b = (mN S (S 0 0).toNat).1 4 b := rfl
  have m6 : (moS S).1 6 b = (mN S (S 0 0).toNat).1 6 b := rfl
  have m11 : ∀ t, (moS S).1 11 t = (mN S (S 0 0).toNat).1 11 t := fun t => rfl
  rw [m4, m6, b1, b2]
  refine ⟨⟨fun q => ?_, fun q => c1.mpr ⟨hq.mpr q.1, q.2⟩⟩, fun q => ?_, ?_⟩
  · have := c1.mp q
    exact ⟨hq.mp this.1, this.2⟩
  · obtain ⟨d1, d2, d3⟩ := c2 q
    refine ⟨d1, d2, ?_⟩
    have b3' := b3 (by rw [b1]; exact q)
    rw [b1, d1] at b3'
    rw [m11, b3', d3]
  · exact (mN_b hV hb (S 0 0).toNat).2.tr ⟨rfl, rfl, rfl, rfl, rfl, rfl, rfl, rfl, rfl⟩
theorem moS_z {S : St} {b : Int} (h0 : S 4 b = 0) : (moS S).1 4 b = 0 := mN_z h0 (S 0 0).toNat
/-- months of a let bench: its lease lives just if the bench is quiet, the coins last, and the term isn't over -/
theorem msN_b {M : Int} {S : St} (hV : Inv M S) {b : Int} (hb : S 4 b ≠ 0) : ∀ k : Nat, (1 ≤ k → ((msN S k).1 4 b ≠ 0 ↔ quietB S b ∧ (k : Int) * rent S b ≤ S 11 (S 4 b - 1) ∧ (k : Int) < S 6 b)) ∧ ((msN S k).1 4 b ≠ 0 → (msN S k).1 4 b = S 4 b ∧ (msN S k).1 6 b = S 6 b - k ∧ (msN S k).1 11 (S 4 b - 1) = S 11 (S 4 b - 1) - (k : Int) * rent S b ∧ eqPk S (msN S k).1)
  | 0 => ⟨fun h => absurd h (by omega), fun _ => ⟨rfl, by show S 6 b = S 6 b - ((0 : Nat) : Int); omega, by show S 11 (S 4 b - 1) = S 11 (S 4 b - 1) - ((0 : Nat) : Int) * rent S b; rw [show ((0 : Nat) : Int) = 0 from rfl, Int.zero_mul]; omega, rfl, rfl, rfl, rfl, rfl, rfl, rfl, rfl, rfl⟩⟩
  | k + 1 => by
    obtain ⟨h1, h2⟩ := msN_b hV hb k
    have hI := (msN_inv hV k).1
    have hr := rent_r hV.bd b
    have ek : (((k + 1 : Nat) : Int)) * rent S b = (k : Int) * rent S b + rent S b := by
      rw [Int.natCast_add, Int.add_mul]
      show (k : Int) * rent S b + 1 * rent S b = _
      omega
    show (1 ≤ k + 1 → ((moS (msN S k).1).1 4 b ≠ 0 ↔ _)) ∧ ((moS (msN S k).1).1 4 b ≠ 0 → (moS (msN S k).1).1 4 b = _ ∧ (moS (msN S k).1).1 6 b = _ ∧ (moS (msN S k).1).1 11 (S 4 b - 1) = _ ∧ eqPk S (moS (msN S k).1).1)
    by_cases c : (msN S k).1 4 b = 0
    · have hz := moS_z c
      refine ⟨fun _ => ⟨fun q => absurd hz q, fun q => ?_⟩, fun q => absurd hz q⟩
      by_cases c0 : k = 0
      · subst c0
        exact absurd c hb
      · have := (h1 (by omega)).mpr ⟨q.1, by rw [ek] at q; omega, by omega⟩
        exact absurd c this
    · obtain ⟨a1, a2, a3, a4⟩ := h2 c
      obtain ⟨b1, b2, b3⟩ := moS_b hI c
      rw [a1, a2, a3, a4.r b] at b1 b2
      have hq := a4.q b
      rw [ek]
      refine ⟨fun _ => ⟨fun q => ?_, fun q => b1.mpr ⟨hq.mpr q.1, by omega, by omega⟩⟩, fun q => ?_⟩
      · have := b1.mp q
        exact ⟨hq.mp this.1, by omega, by omega⟩
      · obtain ⟨d1, d2, d3⟩ := b2 q
        exact ⟨d1, by omega, by omega, a4.tr b3⟩
theorem msN_z {S : St} {b : Int} (h0 : S 4 b = 0) : ∀ k : Nat, (msN S k).1 4 b = 0
  | 0 => h0
  | k + 1 => moS_z (msN_z h0 k)
/-! what the law says of a change -/
theorem i05 {M : Int} {S : St} (h : Inv M S) : 0 ≤ S 0 5 ∧ S 0 5 ≤ 4000000 := by
  obtain ⟨hp, h02, h4, h5, h6, h11, h12, h40, h4b, h4c, hu, ht, hb, hc, hM, hM2⟩ := h
  have a1 := sumZ_p (fun i => (h5 i).1) (S 0 0).toNat
  have a2 := sumZ_p (f := S 11) h11 (S 0 2).toNat
  unfold coinsA deps at hc
  omega
theorem elZ_5 {M : Int} {S : St} (h : Inv M S) (m : Int) : (elZ S m).2.2 0 5 ≤ 4000000 := (i05 (elZ_inv h)).2
/-- months, as the law tells them -/
theorem pass_l {n : Int} {S : St} (hV : Inv n S) {m : Int} (h : isTerm m) : ansK (elZ S m) = (msN S m.toNat).2 ∧ 0 ≤ (msN S m.toNat).2 ∧ (elZ S m).1 = 0 ∧ (elZ S m).2.2 0 5 = S 0 5 + vInc S m ∧ endZ (elZ S m).2.2 = endZ S + (msN S m.toNat).2 ∧ (elZ S m).2.2 0 0 = S 0 0 := by
  have e := elZ_t (S := S) h
  have h5 : vInc S m = (elZ S m).2.2 0 5 - S 0 5 := if_pos h
  refine ⟨?_, msN_0 S _, by rw [e], by omega, ?_, ?_⟩
  · rw [ansK_0 (by rw [e]), e]
  · rw [e]; exact msN_e S m.toNat
  · rw [e]; exact (msN_inv hV m.toNat).2
theorem pass_left {n : Int} {S : St} (hV : Inv n S) {m b : Int} (h : isTerm m) (hl : 0 ≤ vLeft S b) (hlet : vLet (elZ S m).2.2 b ≠ 0) : vLeft (elZ S m).2.2 b = vLeft S b - m := by
  have e := elZ_t (S := S) h
  have hb : isBench S b := Classical.byContradiction (fun q => by unfold vLeft at hl; rw [if_neg q] at hl; omega)
  have hb4 : S 4 b ≠ 0 := fun q => by unfold vLeft at hl; rw [if_pos hb, if_pos q] at hl; omega
  have hn := (msN_inv hV m.toNat).2
  rw [e] at hlet ⊢
  have hlet : vLet (msN S m.toNat).1 b ≠ 0 := hlet
  show vLeft (msN S m.toNat).1 b = _
  have hb' : isBench (msN S m.toNat).1 b := by unfold isBench; rw [hn]; exact hb
  have hl4 : (msN S m.toNat).1 4 b ≠ 0 := fun q => by
    apply hlet
    unfold vLet
    rw [if_pos hb', bI_f (fun z => z q)]
  have h2 := (msN_b hV hb4 m.toNat).2 hl4
  unfold vLeft
  rw [if_pos hb', if_neg hl4, if_pos hb, if_neg hb4, h2.2.1]
  omega
theorem pass_def {n : Int} {S : St} (hV : Inv n S) {m b : Int} (h : isTerm m) (hd : 1 ≤ vDefM S b) : (m < vDefM S b ↔ vLet (elZ S m).2.2 b = 1) ∧ (m < vDefM S b → vDefM (elZ S m).2.2 b = vDefM S b - m) := by
  have e := elZ_t (S := S) h
  have hb : isBench S b := Classical.byContradiction (fun q => by unfold vDefM at hd; rw [if_neg q] at hd; omega)
  have hc : S 4 b ≠ 0 ∧ quietB S b ∧ payable S b < S 6 b := Classical.byContradiction (fun q => by unfold vDefM at hd; rw [if_pos hb, if_neg q] at hd; omega)
  have hdv : vDefM S b = payable S b + 1 := by unfold vDefM; rw [if_pos hb, if_pos hc]
  have hn := (msN_inv hV m.toNat).2
  have hp := pay_le hV.bd b m
  obtain ⟨h1, h2⟩ := msN_b hV hc.1 m.toNat
  rw [show ((m.toNat : Nat) : Int) = m by omega] at h1 h2
  have h1 := h1 (by omega)
  have hb' : isBench (msN S m.toNat).1 b := by unfold isBench; rw [hn]; exact hb
  rw [e, hdv]
  have key : m < payable S b + 1 ↔ (msN S m.toNat).1 4 b ≠ 0 := by
    rw [h1]
    constructor
    · intro q
      exact ⟨hc.2.1, hp.mp (by omega), by omega⟩
    · intro q
      have := hp.mpr q.2.1
      omega
  have hlv : vLet (msN S m.toNat).1 b = bI ((msN S m.toNat).1 4 b ≠ 0) := if_pos hb'
  refine ⟨?_, fun q => ?_⟩
  · show _ ↔ vLet (msN S m.toNat).1 b = 1
    rw [hlv, bI_1]
    exact key
  · have hl4 := key.mp q
    obtain ⟨g1, g2, g3, g4⟩ := h2 hl4
    have hr := rent_r hV.bd b
    have hpay : payable (msN S m.toNat).1 b = payable S b - m := by
      unfold payable
      rw [g1, g3, g4.r b]
      have e9 := Int.add_mul_ediv_right (S 11 (S 4 b - 1)) (-m) (show rent S b ≠ 0 by omega)
      rw [show S 11 (S 4 b - 1) + -m * rent S b = S 11 (S 4 b - 1) - m * rent S b by rw [Int.neg_mul]; omega] at e9
      rw [e9]
      omega
    show vDefM (msN S m.toNat).1 b = _
    unfold vDefM
    rw [if_pos hb', if_pos ⟨hl4, (g4.q b).mpr hc.2.1, by rw [hpay, g2]; omega⟩, hpay]
    omega
/-- a lease, as the law tells it -/
theorem lease_l {n : Int} {S : St} (hV : Inv n S) {t b m : Int} (hm : 1 ≤ m ∧ m ≤ 12) : (-70 < ansK (leZ S t b m) ↔ vCan S t b = 1) ∧ (0 ≤ ansK (leZ S t b m) → (leZ S t b m).1 = 0 ∧ ansK (leZ S t b m) = vRent S b ∧ vTen (leZ S t b m).2.2 b = t ∧ vBof (leZ S t b m).2.2 t = b ∧ vLeft (leZ S t b m).2.2 b = m) := by
  have hr := rent_r hV.bd b
  unfold leZ
  by_cases c1 : isTen S t ∧ isBench S b
  · rw [if_neg (fun q => q c1), if_neg (fun q : ¬ isTerm m => q hm)]
    by_cases c2 : obst S t b ≠ 0
    · rw [if_pos c2]
      have ho := obst_r S t b
      have ea : ansK (obst S t b, obsD S (obst S t b) t b, S) = -76 := ansK_3 (by show 0 < obst S t b; omega)
      rw [ea]
      refine ⟨⟨fun q => by omega, fun q => ?_⟩, fun q => by omega⟩
      unfold vCan at q
      rw [if_pos c1, bI_f (fun z => c2 z)] at q
      omega
    · rw [if_neg c2]
      have c3 : obst S t b = 0 := Classical.byContradiction c2
      have ho := obst_0 c3
      refine ⟨⟨fun _ => by unfold vCan; rw [if_pos c1, bI_t c3], fun _ => ?_⟩, fun _ => ⟨rfl, ?_, ?_, ?_, ?_⟩⟩
      · rw [ansK_0 rfl]
        show -70 < rent S b
        omega
      · rw [ansK_0 rfl]
        show rent S b = vRent S b
        unfold vRent
        rw [if_pos c1.2]
      · show vTen (upS (upS (upS (upS S 11 t (S 11 t - rent S b)) 4 b (t + 1)) 5 b (rent S b)) 6 b m) b = t
        unfold vTen
        rw [if_pos (show isBench (upS (upS (upS (upS S 11 t (S 11 t - rent S b)) 4 b (t + 1)) 5 b (rent S b)) 6 b m) b from c1.2)]
        have e4 : upS (upS (upS (upS S 11 t (S 11 t - rent S b)) 4 b (t + 1)) 5 b (rent S b)) 6 b m 4 b = t + 1 := upS_s (S := upS S 11 t (S 11 t - rent S b)) (k := 4) (i := b)
        rw [e4, if_neg (by omega)]
        omega
      · show vBof (upS (upS (upS (upS S 11 t (S 11 t - rent S b)) 4 b (t + 1)) 5 b (rent S b)) 6 b m) t = b
        generalize hT : upS (upS (upS (upS S 11 t (S 11 t - rent S b)) 4 b (t + 1)) 5 b (rent S b)) 6 b m = T
        have e4 : ∀ j, T 4 j = if j = b then t + 1 else S 4 j := fun j => by rw [← hT]; exact upS_k (upS S 11 t (S 11 t - rent S b)) 4 b (t + 1) j
        have e0 : T 0 0 = S 0 0 := by rw [← hT]; rfl
        have e2 : T 0 2 = S 0 2 := by rw [← hT]; rfl
        have el : lb T t = b := by
          have a1 := scan_n (p := fun j => T 4 j - 1 = t) (T 0 0 - 0).toNat 0 b c1.2.1 (by omega) (by show T 4 b - 1 = t; rw [e4, if_pos rfl]; omega)
          rcases scan_r (p := fun j => T 4 j - 1 = t) (T 0 0 - 0).toNat 0 (by omega) with a2 | ⟨a2, a3, a4⟩
          · omega
          · have a4 : T 4 (lb T t) - 1 = t := a4
            have a3 : lb T t < 0 + ((T 0 0 - 0).toNat : Int) := a3
            have a2 : 0 ≤ lb T t := a2
            refine Classical.byContradiction (fun q => ?_)
            rw [e4, if_neg q] at a4
            exact lb_no ho.2.1 ⟨a2, by omega⟩ a4
        unfold vBof
        rw [if_pos (show isTen T t by unfold isTen; rw [e2]; exact c1.1), el, if_neg (by omega)]
      · show vLeft (upS (upS (upS (upS S 11 t (S 11 t - rent S b)) 4 b (t + 1)) 5 b (rent S b)) 6 b m) b = m
        unfold vLeft
        rw [if_pos (show isBench (upS (upS (upS (upS S 11 t (S 11 t - rent S b)) 4 b (t + 1)) 5 b (rent S b)) 6 b m) b from c1.2)]
        have e4 : upS (upS (upS (upS S 11 t (S 11 t - rent S b)) 4 b (t + 1)) 5 b (rent S b)) 6 b m 4 b = t + 1 := upS_s (S := upS S 11 t (S 11 t - rent S b)) (k := 4) (i := b)
        rw [e4, if_neg (by omega)]
        exact upS_s
  · rw [if_pos c1]
    refine ⟨⟨fun q => by rw [ansK_1 rfl] at q; omega, fun q => ?_⟩, fun q => by rw [ansK_1 rfl] at q; omega⟩
    unfold vCan at q
    rw [if_neg c1] at q
    omega
/-! the history -/
theorem hix_push {X : Nat → Int} (h : 0 ≤ X 0 ∧ X 0 < 8) {j : Int} (h1 : 1 ≤ j) (h8 : j ≤ 8) : hix (phX X 0) j = if j = 1 then (X 0).toNat else hix X (j - 1) := by
  have e0 : phX X 0 0 = (X 0 + 1) % 8 := rfl
  unfold hix
  rw [e0]
  split <;> omega
theorem hix_old {X : Nat → Int} (h : 0 ≤ X 0 ∧ X 0 < 8) {j : Int} (h1 : 1 ≤ j) (h8 : j ≤ 7) : ((hix X j : Nat) : Int) ≠ X 0 := by
  unfold hix
  omega
theorem upQ_o {Q : Nat → St} {n : Int} {S : St} {k : Nat} (h : (k : Int) ≠ n) : upQ Q n S k = Q k := if_neg h
theorem upQ_n {Q : Nat → St} {n : Int} {S : St} {k : Nat} (h : (k : Int) = n) : upQ Q n S k = S := if_pos h
theorem KI.mono {n n' : Int} {S : St} {X : Nat → Int} {Q : Nat → St} {P : St} {z : Int} (h : KI n S X Q P z) (h1 : n ≤ n') (h2 : n' ≤ 4000000) : KI n' S X Q P z := by
  obtain ⟨⟨a1, a2⟩, a3, a4, a5, a6, a7, a8⟩ := h
  exact ⟨⟨a1.mono h1 h2, a2⟩, a3, a4, fun j q1 q2 => ⟨(a5 j q1 q2).1.mono h1 h2, (a5 j q1 q2).2⟩, a6, a7, fun q => ⟨(a8 q).1.mono h1 h2, (a8 q).2⟩⟩
/-- a change is pushed -/
theorem KI.push {n n' : Int} {S S' : St} {X : Nat → Int} {Q : Nat → St} {P : St} {z : Int} (h : KI n S X Q P z) (hS : Inv n' S') (hS2 : Iv2 S') (h1 : n ≤ n') (h2 : n' ≤ 4000000) : KI n' S' (phX X 0) (phQ Q X S 0) P z := by
  obtain ⟨⟨a1, a2⟩, ⟨a3, a3b⟩, a4, a5, a6, a7, a8⟩ := h.mono h1 h2
  have e1 : phX X 0 1 = k1Z (X 1) := rfl
  have e0 : phX X 0 0 = (X 0 + 1) % 8 := rfl
  have eQ : phQ Q X S 0 = upQ Q (X 0) S := rfl
  have hk := k1Z_r a3b
  refine ⟨⟨hS, hS2⟩, ⟨by rw [e0]; omega, by rw [e1]; omega⟩, fun k i => ?_, fun j q1 q2 => ?_, a6, a7, a8⟩
  · rw [eQ]
    unfold upQ
    split
    · exact a1.bd.2.2.2.2.2.2.2.2.2.2.2.2.2.1 i
    · exact a4 k i
  · rw [e1] at q2
    rw [eQ, hix_push a3 q1 (by omega)]
    split
    · rw [upQ_n (by omega)]
      exact ⟨a1, a2⟩
    · have hk2 : k1Z (X 1) ≤ X 1 + 1 := by unfold k1Z; split <;> omega
      rw [upQ_o (hix_old a3 (by omega) (by omega))]
      exact a5 (j - 1) (by omega) (by omega)
/-- the latest change is taken back -/
theorem KI.undo {n : Int} {S : St} {X : Nat → Int} {Q : Nat → St} {P : St} {z : Int} (h : KI n S X Q P z) (h1 : X 1 ≠ 0) : KI n (Q (hix X 1)) (upO (upO X 0 ((X 0 + 8 - 1) % 8)) 1 (X 1 - 1)) Q P z := by
  obtain ⟨⟨a1, a2⟩, ⟨a3, a3b⟩, a4, a5, a6, a7, a8⟩ := h
  have e1 : upO (upO X 0 ((X 0 + 8 - 1) % 8)) 1 (X 1 - 1) 1 = X 1 - 1 := rfl
  have e0 : upO (upO X 0 ((X 0 + 8 - 1) % 8)) 1 (X 1 - 1) 0 = (X 0 + 8 - 1) % 8 := rfl
  refine ⟨a5 1 (by omega) (by omega), ⟨by rw [e0]; omega, by rw [e1]; omega⟩, a4, fun j q1 q2 => ?_, a6, a7, a8⟩
  rw [e1] at q2
  have e : hix (upO (upO X 0 ((X 0 + 8 - 1) % 8)) 1 (X 1 - 1)) j = hix X (j + 1) := by
    unfold hix
    rw [e0]
    omega
  rw [e]
  exact a5 (j + 1) (by omega) (by omega)
