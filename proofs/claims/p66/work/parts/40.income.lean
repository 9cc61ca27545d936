/-! both ways to the income agree -/
theorem incB_c {S S' : St} {b k : Int} (h4 : S' 4 b = S 4 b) (h5 : S' 5 b = S 5 b) (h6 : S' 6 b = S 6 b) (h11 : S 4 b ≠ 0 → S' 11 (S 4 b - 1) = S 11 (S 4 b - 1)) (hr : rent S' b = rent S b) (hq : quietB S' b ↔ quietB S b) : incB S' k b = incB S k b := by
  unfold incB incF payable
  rw [h4, h5, h6, hr]
  by_cases c : S 4 b ≠ 0
  · rw [h11 c]
    by_cases q : quietB S b
    · rw [if_pos (show S 4 b ≠ 0 ∧ quietB S' b from ⟨c, hq.mpr q⟩), if_pos (show S 4 b ≠ 0 ∧ quietB S b from ⟨c, q⟩)]
    · rw [if_neg (fun z => q (hq.mp z.2)), if_neg (fun z => q z.2)]
  · rw [if_neg (fun z => c z.1), if_neg (fun z => c z.1)]
theorem incB_0 {S : St} {b k : Int} (h : S 4 b = 0) : incB S k b = 0 := by
  unfold incB
  exact if_neg (fun z => z.1 h)
/-- the park's rows are the same -/
def eqPk (S S' : St) : Prop := S' 0 1 = S 0 1 ∧ S' 1 = S 1 ∧ S' 2 = S 2 ∧ S' 3 = S 3 ∧ S' 7 = S 7 ∧ S' 8 = S 8 ∧ S' 9 = S 9 ∧ S' 10 = S 10 ∧ S' 0 3 = S 0 3
theorem eqPk.r {S S' : St} (h : eqPk S S') (b : Int) : rent S' b = rent S b := rent_c h.1 h.2.1 h.2.2.1 h.2.2.2.1 h.2.2.2.2.1 h.2.2.2.2.2.1 h.2.2.2.2.2.2.1 h.2.2.2.2.2.2.2.1 b
theorem eqPk.q {S S' : St} (h : eqPk S S') (b : Int) : quietB S' b ↔ quietB S b := by
  unfold quietB
  rw [noiseB_c h.1 h.2.1 h.2.2.1 h.2.2.2.2.1 h.2.2.2.2.2.1 h.2.2.2.2.2.2.1 h.2.2.2.2.2.2.2.1 b, h.2.2.2.2.2.2.2.2]
theorem bil_pk (S : St) (i : Int) : eqPk S (bil S i).1 := by
  unfold bil
  split
  · exact ⟨rfl, rfl, rfl, rfl, rfl, rfl, rfl, rfl, rfl⟩
  · split
    · exact ⟨rfl, rfl, rfl, rfl, rfl, rfl, rfl, rfl, rfl⟩
    · split
      · exact ⟨rfl, rfl, rfl, rfl, rfl, rfl, rfl, rfl, rfl⟩
      · exact ⟨rfl, rfl, rfl, rfl, rfl, rfl, rfl, rfl, rfl⟩
/-- what a bench's month changes: its own row, its tenant's coins -/
theorem bil_o (S : St) (i : Int) : (∀ b, b ≠ i → (bil S i).1 4 b = S 4 b ∧ (bil S i).1 5 b = S 5 b ∧ (bil S i).1 6 b = S 6 b) ∧ ∀ t, t ≠ S 4 i - 1 → (bil S i).1 11 t = S 11 t := by
  unfold bil
  split
  · refine ⟨fun b hb => ⟨(cl4 (upS S 0 8 (S 0 8 + 1)) i (S 5 i) b).trans (if_neg hb), (cl5 (upS S 0 8 (S 0 8 + 1)) i (S 5 i) b).trans (if_neg hb), (cl6 (upS S 0 8 (S 0 8 + 1)) i (S 5 i) b).trans (if_neg hb)⟩, fun t ht => (cl11 (upS S 0 8 (S 0 8 + 1)) i (S 5 i) t).trans (if_neg ht)⟩
  · split
    · refine ⟨fun b hb => ⟨(cl4 (upS (upS S 0 7 (S 0 7 + 1)) 12 (S 4 i - 1) (S 12 (S 4 i - 1) + 1)) i 0 b).trans (if_neg hb), (cl5 (upS (upS S 0 7 (S 0 7 + 1)) 12 (S 4 i - 1) (S 12 (S 4 i - 1) + 1)) i 0 b).trans (if_neg hb), (cl6 (upS (upS S 0 7 (S 0 7 + 1)) 12 (S 4 i - 1) (S 12 (S 4 i - 1) + 1)) i 0 b).trans (if_neg hb)⟩, fun t ht => (cl11 (upS (upS S 0 7 (S 0 7 + 1)) 12 (S 4 i - 1) (S 12 (S 4 i - 1) + 1)) i 0 t).trans (if_neg ht)⟩
    · split
      · exact ⟨fun b hb => ⟨rfl, rfl, upS_n (by omega)⟩, fun t ht => (upS_n (S := S) (k := 11) (i := S 4 i - 1) (v := S 11 (S 4 i - 1) - rent S i) (k' := 11) (j := t) (by omega))⟩
      · refine ⟨fun b hb => ⟨(cl4 (upS (upS (upS (upS S 11 (S 4 i - 1) (S 11 (S 4 i - 1) - rent S i)) 0 5 (S 0 5 + rent S i)) 6 i (S 6 i - 1)) 0 9 (S 0 9 + 1)) i (S 5 i) b).trans (if_neg hb), (cl5 (upS (upS (upS (upS S 11 (S 4 i - 1) (S 11 (S 4 i - 1) - rent S i)) 0 5 (S 0 5 + rent S i)) 6 i (S 6 i - 1)) 0 9 (S 0 9 + 1)) i (S 5 i) b).trans (if_neg hb), (cl6 (upS (upS (upS (upS S 11 (S 4 i - 1) (S 11 (S 4 i - 1) - rent S i)) 0 5 (S 0 5 + rent S i)) 6 i (S 6 i - 1)) 0 9 (S 0 9 + 1)) i (S 5 i) b).trans ((if_neg hb).trans (upS_n (S := upS (upS S 11 (S 4 i - 1) (S 11 (S 4 i - 1) - rent S i)) 0 5 (S 0 5 + rent S i)) (k := 6) (i := i) (k' := 6) (j := b) (by omega)))⟩, fun t ht => (cl11 (upS (upS (upS (upS S 11 (S 4 i - 1) (S 11 (S 4 i - 1) - rent S i)) 0 5 (S 0 5 + rent S i)) 6 i (S 6 i - 1)) 0 9 (S 0 9 + 1)) i (S 5 i) t).trans ((if_neg ht).trans (upS_n (S := S) (k := 11) (i := S 4 i - 1) (k' := 11) (j := t) (by omega)))⟩
theorem cl05 (S : St) (b w : Int) : clS S b w 0 5 = S 0 5 + (S 5 b - w) := rfl
/-- the bench's own month -/
theorem bil_p {M : Int} {S : St} {i m : Int} (h : Inv M S) (hi : S 4 i ≠ 0) (hm : 1 ≤ m) : (bil S i).1 0 5 + incB (bil S i).1 (m - 1) i = S 0 5 + incB S m i := by
  have hre := rent_r h.bd i
  have hL := (h.2.2.2.2.2.2.2.2.2.1 i hi (by have := (h.2.2.2.2.2.2.2.2.1 i hi).1; omega)).1
  have hc := (h.2.c11 (S 4 i - 1)).1
  have hpk := bil_pk S i
  have hrr := hpk.r i
  have hqq := hpk.q i
  have e4 : ∀ (S' : St) (w : Int), incB (clS S' i w) (m - 1) i = 0 := fun S' w => incB_0 ((cl4 S' i w i).trans (if_pos rfl))
  by_cases q : quietB S i
  · by_cases c1 : S 11 (S 4 i - 1) < rent S i
    · have hb : (bil S i).1 = clS (upS (upS S 0 7 (S 0 7 + 1)) 12 (S 4 i - 1) (S 12 (S 4 i - 1) + 1)) i 0 := by
        unfold bil
        rw [if_neg (fun z => z q), if_pos c1]
      rw [hb, e4, cl05]
      have hp : payable S i = 0 := Int.ediv_eq_zero_of_lt hc c1
      unfold incB incF
      rw [if_pos (show S 4 i ≠ 0 ∧ quietB S i from ⟨hi, q⟩), hp, if_pos (by split <;> omega), Int.zero_mul]
      show S 0 5 + (S 5 i - 0) + 0 = S 0 5 + (0 + S 5 i)
      omega
    · have hp1 : 1 ≤ payable S i := (Int.le_ediv_iff_mul_le (by omega)).mpr (by omega)
      by_cases c2 : 0 < S 6 i - 1
      · have hb : (bil S i).1 = upS (upS (upS S 11 (S 4 i - 1) (S 11 (S 4 i - 1) - rent S i)) 0 5 (S 0 5 + rent S i)) 6 i (S 6 i - 1) := by
          unfold bil
          rw [if_neg (fun z => z q), if_neg c1, if_pos c2]
        rw [hb] at hrr hqq ⊢
        generalize hT : upS (upS (upS S 11 (S 4 i - 1) (S 11 (S 4 i - 1) - rent S i)) 0 5 (S 0 5 + rent S i)) 6 i (S 6 i - 1) = T at hrr hqq ⊢
        have t5 : T 0 5 = S 0 5 + rent S i := by rw [← hT]; rfl
        have t4 : T 4 i = S 4 i := by rw [← hT]; rfl
        have td : T 5 i = S 5 i := by rw [← hT]; rfl
        have t6 : T 6 i = S 6 i - 1 := by rw [← hT]; exact upS_s
        have t11 : T 11 (S 4 i - 1) = S 11 (S 4 i - 1) - rent S i := by rw [← hT]; exact upS_s (S := S) (k := 11) (i := S 4 i - 1)
        have hp : payable T i = payable S i - 1 := by
          unfold payable
          rw [t4, t11, hrr]
          have e := Int.add_mul_ediv_right (S 11 (S 4 i - 1)) (-1) (show rent S i ≠ 0 by omega)
          rw [show S 11 (S 4 i - 1) + -1 * rent S i = S 11 (S 4 i - 1) - rent S i by omega] at e
          rw [e]
          omega
        unfold incB incF
        rw [if_pos (show S 4 i ≠ 0 ∧ quietB S i from ⟨hi, q⟩), if_pos (show T 4 i ≠ 0 ∧ quietB T i from ⟨by rw [t4]; exact hi, hqq.mpr q⟩), hp, hrr, td, t6, t5]
        have hk : (if m - 1 ≤ S 6 i - 1 then m - 1 else S 6 i - 1) = (if m ≤ S 6 i then m else S 6 i) - 1 := by
          by_cases c3 : m ≤ S 6 i
          · rw [if_pos c3, if_pos (by omega)]
          · rw [if_neg c3, if_neg (by omega)]
        rw [hk]
        generalize (if m ≤ S 6 i then m else S 6 i) = k
        by_cases c4 : payable S i < k
        · rw [if_pos c4, if_pos (by omega), Int.sub_mul]
          omega
        · rw [if_neg c4, if_neg (by omega), Int.sub_mul]
          omega
      · have hb : (bil S i).1 = clS (upS (upS (upS (upS S 11 (S 4 i - 1) (S 11 (S 4 i - 1) - rent S i)) 0 5 (S 0 5 + rent S i)) 6 i (S 6 i - 1)) 0 9 (S 0 9 + 1)) i (S 5 i) := by
          unfold bil
          rw [if_neg (fun z => z q), if_neg c1, if_neg c2]
        rw [hb, e4, cl05]
        unfold incB incF
        rw [if_pos (show S 4 i ≠ 0 ∧ quietB S i from ⟨hi, q⟩), show (if m ≤ S 6 i then m else S 6 i) = 1 by split <;> omega, if_neg (by omega), Int.one_mul]
        show S 0 5 + rent S i + (S 5 i - S 5 i) + 0 = S 0 5 + rent S i
        omega
  · have hb : (bil S i).1 = clS (upS S 0 8 (S 0 8 + 1)) i (S 5 i) := by
      unfold bil
      rw [if_pos q]
    rw [hb, e4, cl05]
    unfold incB
    rw [if_neg (fun z => q z.2)]
    show S 0 5 + (S 5 i - S 5 i) + 0 = S 0 5 + 0
    omega
def hyZ (T : St) (m i : Int) : Int → Int := fun b => if b < i then incB T (m - 1) b else incB T m b
theorem mN_p {M : Int} {S : St} {m : Int} (h : Inv M S) (hm : 1 ≤ m) : ∀ i : Nat, (i : Int) ≤ S 0 0 → (mN S i).1 0 5 + sumZ (hyZ (mN S i).1 m i) (S 0 0).toNat = S 0 5 + sumZ (incB S m) (S 0 0).toNat
  | 0, _ => by
    rw [show (mN S 0).1 = S from rfl, sumZ_c (f := hyZ S m ((0 : Nat) : Int)) (g := incB S m) (fun b h1 _ => if_neg (by omega))]
  | i + 1, hle => by
    have ih := mN_p h hm i (by omega)
    have hT := (mN_inv h i).1
    generalize hTe : (mN S i).1 = T at ih hT
    have e1 : (mN S (i + 1)).1 = if T 4 i ≠ 0 then (bil T i).1 else T := by
      show (if (mN S i).1 4 (i : Int) ≠ 0 then ((bil (mN S i).1 i).1, (mN S i).2 + (bil (mN S i).1 i).2) else mN S i).1 = _
      rw [hTe]
      split
      · rfl
      · exact hTe
    rw [e1, ← ih]
    by_cases c : T 4 i ≠ 0
    · rw [if_pos c]
      have hp := bil_p hT c hm
      have ho := bil_o T i
      have hpk := bil_pk T i
      have hs : sumZ (hyZ (bil T i).1 m ((i + 1 : Nat) : Int)) (S 0 0).toNat = sumZ (fun j => if j = (i : Int) then incB (bil T i).1 (m - 1) i else hyZ T m i j) (S 0 0).toNat := by
        refine sumZ_c (fun b h1 _ => ?_)
        unfold hyZ
        by_cases e : b = (i : Int)
        · rw [if_pos e, if_pos (by omega), e]
        · rw [if_neg e]
          have hob := ho.1 b e
          have h11 : T 4 b ≠ 0 → (bil T i).1 11 (T 4 b - 1) = T 11 (T 4 b - 1) := fun z => ho.2 _ (fun z2 => e (hT.uniq b i (by omega) z))
          rw [incB_c (k := m - 1) hob.1 hob.2.1 hob.2.2 h11 (hpk.r b) (hpk.q b), incB_c (k := m) hob.1 hob.2.1 hob.2.2 h11 (hpk.r b) (hpk.q b)]
          by_cases e2 : b < (i : Int)
          · rw [if_pos e2, if_pos (by omega)]
          · rw [if_neg e2, if_neg (by omega)]
      rw [hs, sumZ_u, if_pos (by omega), show hyZ T m i i = incB T m i from if_neg (by omega)]
      omega
    · rw [if_neg c]
      have c' : T 4 i = 0 := Classical.byContradiction c
      have hs : sumZ (hyZ T m ((i + 1 : Nat) : Int)) (S 0 0).toNat = sumZ (hyZ T m i) (S 0 0).toNat := by
        refine sumZ_c (fun b h1 _ => ?_)
        unfold hyZ
        by_cases e : b = (i : Int)
        · rw [e, incB_0 c', incB_0 c']
          (repeat' split) <;> rfl
        · by_cases e2 : b < (i : Int)
          · rw [if_pos e2, if_pos (by omega)]
          · rw [if_neg e2, if_neg (by omega)]
      rw [hs]
theorem moS_p {M : Int} {S : St} {m : Int} (h : Inv M S) (hm : 1 ≤ m) : (moS S).1 0 5 + leaseInc (moS S).1 (m - 1) = S 0 5 + leaseInc S m := by
  have hn : 0 ≤ S 0 0 := h.1.1.1
  have hp := mN_p h hm (S 0 0).toNat (by omega)
  have h0 := (mN_inv h (S 0 0).toNat).2
  unfold leaseInc
  rw [← hp]
  show (mN S (S 0 0).toNat).1 0 5 + sumZ (incB (moS S).1 (m - 1)) ((mN S (S 0 0).toNat).1 0 0).toNat = _
  rw [h0]
  refine congrArg (fun q => (mN S (S 0 0).toNat).1 0 5 + q) (sumZ_c (fun b h1 h2 => ?_))
  unfold hyZ
  rw [if_pos (by omega)]
  have hpk : eqPk (mN S (S 0 0).toNat).1 (moS S).1 := ⟨rfl, rfl, rfl, rfl, rfl, rfl, rfl, rfl, rfl⟩
  exact incB_c rfl rfl rfl (fun _ => rfl) (hpk.r b) (hpk.q b)
theorem msN_p {M : Int} {S : St} {m : Int} (h : Inv M S) : ∀ k : Nat, (k : Int) ≤ m → (msN S k).1 0 5 + leaseInc (msN S k).1 (m - k) = S 0 5 + leaseInc S m
  | 0, _ => by
    show S 0 5 + leaseInc S (m - ((0 : Nat) : Int)) = _
    rw [show m - ((0 : Nat) : Int) = m by omega]
  | k + 1, hk => by
    have ih := msN_p (m := m) h k (by omega)
    have hI := (msN_inv h k).1
    have hs := moS_p (m := m - k) hI (by omega)
    show (moS (msN S k).1).1 0 5 + leaseInc (moS (msN S k).1).1 (m - ((k + 1 : Nat) : Int)) = _
    rw [show m - ((k + 1 : Nat) : Int) = m - k - 1 by omega, hs, ih]
theorem income_e {M : Int} {S : St} {m : Int} (h : Inv M S) (hm : isTerm m) : (elZ S m).2.2 0 5 - S 0 5 = leaseInc S m := by
  have hp := msN_p (m := m) h m.toNat (by omega)
  have hI := (msN_inv h m.toNat).1
  have hz : leaseInc (msN S m.toNat).1 (m - (m.toNat : Int)) = 0 := by
    rw [show m - (m.toNat : Int) = 0 by omega]
    unfold leaseInc
    have key : ∀ n : Nat, sumZ (incB (msN S m.toNat).1 0) n = 0 := fun n => by
      induction n with
      | zero => rfl
      | succ n ih =>
        show sumZ (incB (msN S m.toNat).1 0) n + incB (msN S m.toNat).1 0 n = 0
        rw [ih]
        unfold incB incF
        split
        · rename_i c
          have h6 := (hI.2.2.2.2.1 (n : Int)).1
          have hpy : 0 ≤ payable (msN S m.toNat).1 n := Int.ediv_nonneg (hI.2.c11 _).1 (by have := (rent_r hI.bd (n : Int)).1; omega)
          rw [if_pos h6, if_neg (by omega)]
          omega
        · rfl
    exact key _
  rw [hz] at hp
  have he : elZ S m = (0, (msN S m.toNat).2, (msN S m.toNat).1) := by
    unfold elZ
    rw [if_neg (fun q => q hm)]
  rw [he]
  show (msN S m.toNat).1 0 5 - S 0 5 = _
  omega
