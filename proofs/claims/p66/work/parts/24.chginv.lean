/-! every change keeps what holds of every state -/
theorem Inv.mono {M M' : Int} {S : St} (h : Inv M S) (h1 : M ≤ M') (h2 : M' ≤ 4000000) : Inv M' S := by
  obtain ⟨hp, h02, h4, h5, h6, h11, h12, h40, h4b, h4c, hu, ht, hb, hc, hM, hM2⟩ := h
  exact ⟨hp, h02, h4, h5, h6, h11, h12, h40, h4b, h4c, hu, ht, hb, hc, by omega, h2⟩
theorem upS_v {P : Int → Prop} {S : St} {k : Nat} {i v : Int} (h : ∀ j, P (S k j)) (hv : P v) (j : Int) : P (upS S k i v k j) := by
  rw [upS_k]
  split
  · exact hv
  · exact h j
theorem pbZ_inv {M : Int} {S : St} {x y v : Int} (h : Inv M S) : Inv M (pbZ S x y v).2.2 := by
  unfold pbZ
  split
  · exact h
  · split
    · exact h
    · split
      · exact h
      · split
        · exact h
        · rename_i c1 c2 c3 c4
          have htop := h.top
          obtain ⟨⟨p0, p1, p3, q1, q2, q3, q7, q8, q9, q10⟩, h02, h4, h5, h6, h11, h12, h40, h4b, h4c, hu, ht, hb, hc, hM, hM2⟩ := h
          have cc : isCell x y := Classical.byContradiction c1
          refine ⟨⟨?_, p1, p3, upS_v (P := fun z => 0 ≤ z ∧ z ≤ 5) q1 (by omega), upS_v (P := fun z => 0 ≤ z ∧ z ≤ 5) q2 (by omega), upS_v (P := fun z => 0 ≤ z ∧ z ≤ 20) q3 (by omega), q7, q8, q9, q10⟩, h02, h4, h5, h6, h11, h12, h40, fun b hb => ?_, h4c, hu, ht, hb, ?_, hM, hM2⟩
          · show 0 ≤ S 0 0 + 1 ∧ S 0 0 + 1 ≤ 10
            omega
          · have := h4b b hb
            refine ⟨this.1, ?_⟩
            show b < S 0 0 + 1
            omega
          · show sumZ (S 5) (S 0 0 + 1).toNat + S 0 5 + sumZ (S 11) (S 0 2).toNat = S 0 6
            rw [sumZ_s p0.1, htop.2.1]
            unfold coinsA deps at hc
            omega
theorem pfZ_inv {M : Int} {S : St} {x y v : Int} (h : Inv M S) : Inv M (pfZ S x y v).2.2 := by
  unfold pfZ
  split
  · exact h
  · split
    · exact h
    · split
      · exact h
      · split
        · exact h
        · rename_i c1 c2 c3 c4
          obtain ⟨⟨p0, p1, p3, q1, q2, q3, q7, q8, q9, q10⟩, hl⟩ := h
          have cc : isCell x y := Classical.byContradiction c1
          refine ⟨⟨p0, ?_, p3, q1, q2, q3, upS_v (P := fun z => 0 ≤ z ∧ z ≤ 5) q7 (by omega), upS_v (P := fun z => 0 ≤ z ∧ z ≤ 5) q8 (by omega), upS_v (P := fun z => 0 ≤ z ∧ z ≤ 9) q9 (by omega), upS_v (P := fun z => 0 ≤ z ∧ z ≤ 1) q10 (by omega)⟩, hl⟩
          show 0 ≤ S 0 1 + 1 ∧ S 0 1 + 1 ≤ 4
          omega
theorem crZ_inv {M : Int} {S : St} {b v : Int} (h : Inv M S) : Inv M (crZ S b v).2.2 := by
  unfold crZ
  split
  · exact h
  · split
    · exact h
    · obtain ⟨⟨p0, p1, p3, q1, q2, q3, q7, q8, q9, q10⟩, hl⟩ := h
      exact ⟨⟨p0, p1, p3, q1, q2, upS_v (P := fun z => 0 ≤ z ∧ z ≤ 20) q3 (by omega), q7, q8, q9, q10⟩, hl⟩
theorem clZ_inv {M : Int} {S : St} {b v : Int} (h : Inv M S) : Inv M (clZ S b v).2.2 := by
  unfold clZ
  split
  · exact h
  · split
    · exact h
    · obtain ⟨⟨p0, p1, p3, q1, q2, q3, q7, q8, q9, q10⟩, hl⟩ := h
      exact ⟨⟨p0, p1, p3, q1, q2, q3, q7, q8, upS_v (P := fun z => 0 ≤ z ∧ z ≤ 9) q9 (by omega), q10⟩, hl⟩
theorem tgZ_inv {M : Int} {S : St} {f : Int} (h : Inv M S) : Inv M (tgZ S f).2.2 := by
  unfold tgZ
  split
  · exact h
  · obtain ⟨⟨p0, p1, p3, q1, q2, q3, q7, q8, q9, q10⟩, hl⟩ := h
    have := q10 f
    exact ⟨⟨p0, p1, p3, q1, q2, q3, q7, q8, q9, upS_v (P := fun z => 0 ≤ z ∧ z ≤ 1) q10 (by omega)⟩, hl⟩
theorem cmZ_inv {M : Int} {S : St} {v : Int} (h : Inv M S) : Inv M (cmZ S v).2.2 := by
  unfold cmZ
  split
  · exact h
  · obtain ⟨⟨p0, p1, p3, q1, q2, q3, q7, q8, q9, q10⟩, hl⟩ := h
    exact ⟨⟨p0, p1, by show 0 ≤ v ∧ v ≤ 20; omega, q1, q2, q3, q7, q8, q9, q10⟩, hl⟩
theorem teZ_inv {M : Int} {S : St} {x : Int} (h : Inv M S) (h9 : M + 99 ≤ 4000000) : Inv (M + 99) (teZ S x).2.2 := by
  unfold teZ
  split
  · exact h.mono (by omega) h9
  · split
    · exact h.mono (by omega) h9
    · obtain ⟨hp, h02, h4, h5, h6, h11, h12, h40, h4b, h4c, hu, ht, hb, hc, hM, hM2⟩ := h
      refine ⟨hp, ?_, fun b => ?_, h5, h6, upS_v (P := fun z => 0 ≤ z) h11 (by omega), upS_v (P := fun z => 0 ≤ z ∧ z ≤ 3) h12 (by omega), h40, h4b, fun b q e => ?_, hu, fun t q => ?_, hb, ?_, ?_, h9⟩
      · show 0 ≤ S 0 2 + 1 ∧ S 0 2 + 1 ≤ 8
        omega
      · have := h4 b
        refine ⟨this.1, ?_⟩
        show S 4 b ≤ S 0 2 + 1
        omega
      · refine ⟨(h4c b q e).1, ?_⟩
        have h1 := h4 b
        have q' : S 4 b ≠ 0 := q
        have h2 := (h4c b q e).2
        show upS S 12 (S 0 2) 0 12 (S 4 b - 1) ≤ 2
        rw [upS_k, if_neg (by omega)]
        exact h2
      · have q' : ¬ (0 ≤ t ∧ t < S 0 2 + 1) := q
        show upS S 11 (S 0 2) x 11 t = 0
        rw [upS_k, if_neg (by omega)]
        exact ht t (by omega)
      · show deps S + S 0 5 + sumZ (upS S 11 (S 0 2) x 11) (S 0 2 + 1).toNat = S 0 6 + x
        rw [sumZ_s h02.1, sumZ_S, if_neg (by omega), upS_s]
        unfold coinsA at hc
        omega
      · show S 0 6 + x ≤ M + 99
        omega
theorem giZ_inv {M : Int} {S : St} {t x : Int} (h : Inv M S) (h9 : M + 99 ≤ 4000000) : Inv (M + 99) (giZ S t x).2.2 := by
  unfold giZ
  split
  · exact h.mono (by omega) h9
  · split
    · exact h.mono (by omega) h9
    · rename_i c1 c2
      have cc : isTen S t := Classical.byContradiction c1
      obtain ⟨hp, h02, h4, h5, h6, h11, h12, h40, h4b, h4c, hu, ht, hb, hc, hM, hM2⟩ := h
      have h11t := h11 t
      refine ⟨hp, h02, h4, h5, h6, upS_v (P := fun z => 0 ≤ z) h11 (by omega), h12, h40, h4b, h4c, hu, fun t2 q => ?_, hb, ?_, ?_, h9⟩
      · have q' : ¬ isTen S t2 := q
        show upS S 11 t (S 11 t + x) 11 t2 = 0
        rw [upS_k, if_neg (fun e => q' (by rw [e]; exact cc))]
        exact ht t2 q'
      · show deps S + S 0 5 + sumZ (upS S 11 t (S 11 t + x) 11) (S 0 2).toNat = S 0 6 + x
        rw [sumZ_S, if_pos (by omega)]
        unfold coinsA at hc
        omega
      · show S 0 6 + x ≤ M + 99
        omega
theorem lb_no {S : St} {t i : Int} (h : lb S t = -1) (h0 : 0 ≤ i ∧ i < S 0 0) : S 4 i - 1 ≠ t := fun e => by
  have h1 := scan_n (p := fun j => S 4 j - 1 = t) (S 0 0 - 0).toNat 0 i h0.1 (by omega) e
  unfold lb at h
  omega
theorem leZ_inv {M : Int} {S : St} {t b k : Int} (h : Inv M S) : Inv M (leZ S t b k).2.2 := by
  unfold leZ
  split
  · exact h
  · split
    · exact h
    · split
      · exact h
      · rename_i c1 c2 c3
        have cc : isTen S t ∧ isBench S b := Classical.byContradiction c1
        have ck : isTerm k := Classical.byContradiction c2
        have co : obst S t b = 0 := Classical.byContradiction c3
        have hre := rent_r h.bd b
        have hF : ¬ 3 ≤ S 12 t ∧ lb S t = -1 ∧ S 4 b = 0 ∧ ¬ S 11 t < rent S b := by
          unfold obst at co
          by_cases a1 : 3 ≤ S 12 t
          · rw [if_pos a1] at co; omega
          · rw [if_neg a1] at co
            by_cases a2 : lb S t ≠ -1
            · rw [if_pos a2] at co; omega
            · rw [if_neg a2] at co
              by_cases a3 : S 4 b ≠ 0
              · rw [if_pos a3] at co; omega
              · rw [if_neg a3] at co
                by_cases a4 : ¬ quietB S b
                · rw [if_pos a4] at co; omega
                · rw [if_neg a4] at co
                  by_cases a5 : S 11 t < rent S b
                  · rw [if_pos a5] at co; omega
                  · exact ⟨a1, Classical.byContradiction a2, Classical.byContradiction a3, a5⟩
        obtain ⟨f1, f2, f3, f4⟩ := hF
        obtain ⟨hp, h02, h4, h5, h6, h11, h12, h40, h4b, h4c, hu, ht, hb, hc, hM, hM2⟩ := h
        have h5b := (h40 b f3).1
        refine ⟨hp, h02, upS_v (P := fun z => 0 ≤ z ∧ z ≤ S 0 2) h4 (by omega), upS_v (P := fun z => 0 ≤ z ∧ z ≤ 20) h5 (by omega), upS_v (P := fun z => 0 ≤ z ∧ z ≤ 12) h6 (by omega), upS_v (P := fun z => 0 ≤ z) h11 (by omega), h12, fun j q => ?_, fun j q => ?_, fun j q e => ?_, fun j j2 q q2 => ?_, fun t2 q => ?_, hb, ?_, hM, hM2⟩
        · have q' : upS S 4 b (t + 1) 4 j = 0 := q
          rw [upS_k] at q'
          by_cases e : j = b
          · rw [if_pos e] at q'; omega
          · rw [if_neg e] at q'
            refine ⟨?_, ?_⟩
            · show upS S 5 b (rent S b) 5 j = 0
              rw [upS_k, if_neg e]; exact (h40 j q').1
            · show upS S 6 b k 6 j = 0
              rw [upS_k, if_neg e]; exact (h40 j q').2
        · have q' : upS S 4 b (t + 1) 4 j ≠ 0 := q
          rw [upS_k] at q'
          by_cases e : j = b
          · rw [e]; exact cc.2
          · rw [if_neg e] at q'; exact h4b j q'
        · have q' : upS S 4 b (t + 1) 4 j ≠ 0 := q
          rw [upS_k] at q'
          by_cases e2 : j = b
          · refine ⟨?_, ?_⟩
            · show 1 ≤ upS S 6 b k 6 j
              rw [upS_k, if_pos e2]; omega
            · show S 12 (upS S 4 b (t + 1) 4 j - 1) ≤ 2
              rw [upS_k, if_pos e2, show t + 1 - 1 = t by omega]; omega
          · rw [if_neg e2] at q'
            refine ⟨?_, ?_⟩
            · show 1 ≤ upS S 6 b k 6 j
              rw [upS_k, if_neg e2]; exact (h4c j q' e).1
            · show S 12 (upS S 4 b (t + 1) 4 j - 1) ≤ 2
              rw [upS_k, if_neg e2]; exact (h4c j q' e).2
        · have q' : upS S 4 b (t + 1) 4 j = upS S 4 b (t + 1) 4 j2 := q
          have q2' : upS S 4 b (t + 1) 4 j ≠ 0 := q2
          rw [upS_k, upS_k] at q'
          rw [upS_k] at q2'
          by_cases e : j = b
          · by_cases e2 : j2 = b
            · rw [e, e2]
            · rw [if_pos e, if_neg e2] at q'
              exact absurd (by omega) (lb_no f2 (h4b j2 (by omega)))
          · rw [if_neg e] at q' q2'
            by_cases e2 : j2 = b
            · rw [if_pos e2] at q'
              exact absurd (by omega) (lb_no f2 (h4b j q2'))
            · rw [if_neg e2] at q'
              exact hu j j2 q' q2'
        · have q' : ¬ isTen S t2 := q
          show upS S 11 t (S 11 t - rent S b) 11 t2 = 0
          rw [upS_k, if_neg (fun e => q' (by rw [e]; exact cc.1))]
          exact ht t2 q'
        · show sumZ (upS S 5 b (rent S b) 5) (S 0 0).toNat + S 0 5 + sumZ (upS S 11 t (S 11 t - rent S b) 11) (S 0 2).toNat = S 0 6
          rw [sumZ_S, sumZ_S, if_pos (by omega), if_pos (by omega)]
          unfold coinsA deps at hc
          omega
theorem enZ_inv {M : Int} {S : St} {b : Int} (h : Inv M S) : Inv M (enZ S b).2.2 := by
  unfold enZ
  split
  · exact h
  · split
    · exact h
    · rename_i c1 c2
      have cc : isBench S b := Classical.byContradiction c1
      have h5b := h.2.2.2.1 b
      exact ⟨h.1, clS_LI (LIx_w h.2 cc.1) c2 h.1.1.1 (by omega)⟩
theorem reZ_inv {M : Int} {S : St} {b k : Int} (h : Inv M S) : Inv M (reZ S b k).2.2 := by
  unfold reZ
  split
  · exact h
  · split
    · exact h
    · split
      · exact h
      · split
        · exact h
        · rename_i c1 c2 c3 c4
          have ck : isTerm k := Classical.byContradiction c2
          obtain ⟨hp, h02, h4, h5, h6, h11, h12, h40, h4b, h4c, hu, ht, hb, hc, hM, hM2⟩ := h
          have h6b := h6 b
          refine ⟨hp, h02, h4, h5, upS_v (P := fun z => 0 ≤ z ∧ z ≤ 12) h6 (by omega), h11, h12, fun j q => ?_, h4b, fun j q e => ?_, hu, ht, hb, hc, hM, hM2⟩
          · have q' : S 4 j = 0 := q
            refine ⟨(h40 j q').1, ?_⟩
            show upS S 6 b (S 6 b + k) 6 j = 0
            rw [upS_k, if_neg (fun e : j = b => c3 (e ▸ q'))]
            exact (h40 j q').2
          · have q' : S 4 j ≠ 0 := q
            refine ⟨?_, (h4c j q' e).2⟩
            show 1 ≤ upS S 6 b (S 6 b + k) 6 j
            rw [upS_k]
            split
            · omega
            · exact (h4c j q' e).1
theorem elZ_inv {M : Int} {S : St} {x : Int} (h : Inv M S) : Inv M (elZ S x).2.2 := by
  unfold elZ
  split
  · exact h
  · exact (msN_inv h x.toNat).1
/-- a command's act, by its kind -/
def actZ (S : St) (k a b d : Int) : Chg := if k = 0 then pbZ S a b d else if k = 1 then pfZ S a b d else if k = 2 then teZ S a else if k = 3 then giZ S a b else if k = 4 then leZ S a b d else if k = 5 then enZ S a else if k = 6 then reZ S a b else if k = 7 then tgZ S a else if k = 8 then cmZ S a else elZ S a
theorem actZ_inv {M : Int} {S : St} {k a b d : Int} (h : Inv M S) (h9 : M + 99 ≤ 4000000) : Inv (M + 99) (actZ S k a b d).2.2 := by
  have up : ∀ {T : St}, Inv M T → Inv (M + 99) T := fun h => h.mono (by omega) h9
  unfold actZ
  (repeat' split)
  · exact up (pbZ_inv h)
  · exact up (pfZ_inv h)
  · exact teZ_inv h h9
  · exact giZ_inv h h9
  · exact up (leZ_inv h)
  · exact up (enZ_inv h)
  · exact up (reZ_inv h)
  · exact up (tgZ_inv h)
  · exact up (cmZ_inv h)
  · exact up (elZ_inv h)
theorem actZ_r (S : St) (k a b d : Int) : -2 ≤ (actZ S k a b d).1 ∧ (actZ S k a b d).1 ≤ 11 := by
  unfold actZ
  (repeat' split)
  · exact pbZ_r S a b d
  · exact pfZ_r S a b d
  · exact teZ_r S a
  · exact giZ_r S a b
  · exact leZ_r S a b d
  · exact enZ_r S a
  · exact reZ_r S a b
  · exact tgZ_r S a
  · exact cmZ_r S a
  · exact elZ_r S a
/-- the reference's code of an act -/
def dsZ (k c : Int) : Int := if k = 2 ∨ k = 8 ∨ k = 9 then mcd c else c
theorem dsZ_r {k c : Int} (h : -2 ≤ c ∧ c ≤ 11) : -2 ≤ dsZ k c ∧ dsZ k c ≤ 11 ∧ (dsZ k c = 0 ↔ c = 0) ∧ (dsZ k c < 0 ↔ c < 0) ∧ (0 < c → dsZ k c = c) := by
  unfold dsZ mcd
  split
  · split <;> omega
  · omega
