/-! the defaults are counted, deposits of leases: kept by every change -/
theorem clS_i2 {S : St} {b w : Int} (h : Iv2 S) : Iv2 (clS S b w) := by
  refine ⟨h.1, fun j q => ?_⟩
  rw [cl4] at q
  rw [cl5]
  split at q
  · exact absurd rfl q
  · rename_i e
    rw [if_neg e]
    exact h.2 j q
theorem bil_i2 {M b : Int} {S : St} (hV : Inv M S) (h : Iv2 S) (hb : S 4 b ≠ 0) : Iv2 (bil S b).1 := by
  have h4 := hV.2.2.1 b
  unfold bil
  split
  · exact clS_i2 h
  · split
    · refine clS_i2 ⟨?_, h.2⟩
      show S 0 7 + 1 = sumZ (upS S 12 (S 4 b - 1) (S 12 (S 4 b - 1) + 1) 12) (S 0 2).toNat
      rw [sumZ_S, if_pos (by omega), h.1]
      omega
    · split
      · exact h
      · exact clS_i2 h
theorem mN_i2 {M : Int} {S : St} (hV : Inv M S) (h : Iv2 S) : ∀ n : Nat, Iv2 (mN S n).1
  | 0 => h
  | n + 1 => by
    have ih := mN_i2 hV h n
    have hI := (mN_inv hV n).1
    unfold mN
    split
    · rename_i e
      exact bil_i2 hI ih e
    · exact ih
theorem moS_i2 {M : Int} {S : St} (hV : Inv M S) (h : Iv2 S) : Iv2 (moS S).1 := mN_i2 hV h (S 0 0).toNat
theorem msN_i2 {M : Int} {S : St} (hV : Inv M S) (h : Iv2 S) : ∀ k : Nat, Iv2 (msN S k).1
  | 0 => h
  | k + 1 => moS_i2 (msN_inv hV k).1 (msN_i2 hV h k)
theorem pbZ_i2 {S : St} {x y v : Int} (h : Iv2 S) : Iv2 (pbZ S x y v).2.2 := by
  unfold pbZ
  (repeat' split) <;> exact h
theorem pfZ_i2 {S : St} {x y v : Int} (h : Iv2 S) : Iv2 (pfZ S x y v).2.2 := by
  unfold pfZ
  (repeat' split) <;> exact h
theorem crZ_i2 {S : St} {b v : Int} (h : Iv2 S) : Iv2 (crZ S b v).2.2 := by
  unfold crZ
  (repeat' split) <;> exact h
theorem clZ_i2 {S : St} {f v : Int} (h : Iv2 S) : Iv2 (clZ S f v).2.2 := by
  unfold clZ
  (repeat' split) <;> exact h
theorem tgZ_i2 {S : St} {f : Int} (h : Iv2 S) : Iv2 (tgZ S f).2.2 := by
  unfold tgZ
  (repeat' split) <;> exact h
theorem cmZ_i2 {S : St} {v : Int} (h : Iv2 S) : Iv2 (cmZ S v).2.2 := by
  unfold cmZ
  (repeat' split) <;> exact h
theorem teZ_i2 {M : Int} {S : St} {x : Int} (hV : Inv M S) (h : Iv2 S) : Iv2 (teZ S x).2.2 := by
  have h2 := hV.2.1
  unfold teZ
  split
  · exact h
  · split
    · exact h
    · refine ⟨?_, h.2⟩
      show S 0 7 = sumZ (upS S 12 (S 0 2) 0 12) (S 0 2 + 1).toNat
      rw [sumZ_s h2.1, sumZ_S, if_neg (by omega), upS_s, h.1]
      omega
theorem giZ_i2 {S : St} {t x : Int} (h : Iv2 S) : Iv2 (giZ S t x).2.2 := by
  unfold giZ
  (repeat' split) <;> exact h
theorem leZ_i2 {M : Int} {S : St} {t b k : Int} (hV : Inv M S) (h : Iv2 S) : Iv2 (leZ S t b k).2.2 := by
  have hr := rent_r hV.bd b
  unfold leZ
  split
  · exact h
  · split
    · exact h
    · split
      · exact h
      · refine ⟨h.1, fun j q => ?_⟩
        have q' : upS S 4 b (t + 1) 4 j ≠ 0 := q
        show 1 ≤ upS S 5 b (rent S b) 5 j
        rw [upS_k] at q' ⊢
        by_cases e : j = b
        · rw [if_pos e]; exact hr.1
        · rw [if_neg e] at q' ⊢
          exact h.2 j q'
theorem enZ_i2 {S : St} {b : Int} (h : Iv2 S) : Iv2 (enZ S b).2.2 := by
  unfold enZ
  split
  · exact h
  · split
    · exact h
    · exact clS_i2 h
theorem reZ_i2 {S : St} {b k : Int} (h : Iv2 S) : Iv2 (reZ S b k).2.2 := by
  unfold reZ
  (repeat' split) <;> exact h
theorem elZ_i2 {M : Int} {S : St} {k : Int} (hV : Inv M S) (h : Iv2 S) : Iv2 (elZ S k).2.2 := by
  unfold elZ
  split
  · exact h
  · exact msN_i2 hV h k.toNat
theorem actZ_i2 {M : Int} {S : St} {k a b d : Int} (hV : Inv M S) (h : Iv2 S) : Iv2 (actZ S k a b d).2.2 := by
  unfold actZ
  (repeat' split)
  · exact pbZ_i2 h
  · exact pfZ_i2 h
  · exact teZ_i2 hV h
  · exact giZ_i2 h
  · exact leZ_i2 hV h
  · exact enZ_i2 h
  · exact reZ_i2 h
  · exact tgZ_i2 h
  · exact cmZ_i2 h
  · exact elZ_i2 hV h
theorem runF_i2 {T : Int → Int} {n v : Int} : ∀ (f k : Nat) {S : St} {Mx : Int}, Inv Mx S → Iv2 S → Mx + 99 * (f : Int) ≤ 4000000 → Iv2 (runF T n v f k S).2.2
  | 0, k, S, Mx, h, h2, hM => h2
  | f + 1, k, S, Mx, h, h2, hM => by
    by_cases c : v ≤ (k : Int)
    · rw [runF_e c]
      exact h2
    · by_cases c0 : (cmdA S T n k).1 = 0
      · rw [runF_s (by omega) c0]
        have h1 : Inv (Mx + 99) (cmdA S T n k).2.2 := actZ_inv h (by omega)
        have h3 : Iv2 (cmdA S T n k).2.2 := actZ_i2 h h2
        exact runF_i2 f (k + 1) h1 h3 (by omega)
      · rw [runF_x (by omega) c0]
        exact h2
/-- an execute that goes through: what it leaves, what it answers -/
theorem exZ_ok {n : Int} {S : St} (T : Int → Int) {k : Int} (hV : Inv n S) (h2 : Iv2 S) (hn : n + 3100 ≤ 4000000) (h0 : (exZ S T k).1 = 0) : Inv (n + 3100) (exZ S T k).2.2.2 ∧ Iv2 (exZ S T k).2.2.2 ∧ 1 ≤ (exZ S T k).2.1 ∧ (exZ S T k).2.1 ≤ 31 := by
  have hr := runF_b (T := T) (n := k) (v := (prsZ T k).2) 31 0 hV (by omega)
  have hr2 := runF_i2 (T := T) (n := k) (v := (prsZ T k).2) 31 0 hV h2 (by omega)
  unfold exZ at h0 ⊢
  by_cases c : (prsZ T k).1 ≠ 0
  · rw [if_pos c] at h0
    exact absurd (show (1 : Int) = 0 from h0) (by decide)
  · rw [if_neg c] at h0 ⊢
    have hp := (prs_ok (T := T) (n := k) (v := (prsZ T k).2) (Prod.ext (Classical.byContradiction c) rfl)).1
    by_cases c2 : (runF T k (prsZ T k).2 31 0 S).1 = -1
    · rw [if_pos c2]
      exact ⟨hr.1.mono (by omega) hn, hr2, hp⟩
    · rw [if_neg c2] at h0
      split at h0
      · exact absurd (show (2 : Int) = 0 from h0) (by decide)
      · exact absurd (show (3 : Int) = 0 from h0) (by decide)
/-! leases -/
theorem obst_0 {S : St} {t b : Int} (h : obst S t b = 0) : S 12 t < 3 ∧ lb S t = -1 ∧ S 4 b = 0 ∧ quietB S b ∧ rent S b ≤ S 11 t := by
  unfold obst at h
  by_cases a1 : 3 ≤ S 12 t
  · rw [if_pos a1] at h; omega
  · rw [if_neg a1] at h
    by_cases a2 : lb S t ≠ -1
    · rw [if_pos a2] at h; omega
    · rw [if_neg a2] at h
      by_cases a3 : S 4 b ≠ 0
      · rw [if_pos a3] at h; omega
      · rw [if_neg a3] at h
        by_cases a4 : ¬ quietB S b
        · rw [if_pos a4] at h; omega
        · rw [if_neg a4] at h
          by_cases a5 : S 11 t < rent S b
          · rw [if_pos a5] at h; omega
          · exact ⟨by omega, Classical.byContradiction a2, Classical.byContradiction a3, Classical.byContradiction a4, by omega⟩
theorem chB_p (S : St) (t : Int) : ∀ n : Nat, (chB S t n ≠ -1 → obst S t (chB S t n) = 0) ∧ ∀ b : Int, 0 ≤ b → b < n → obst S t b = 0 → chB S t n ≠ -1 ∧ (rent S (chB S t n) < rent S b ∨ (rent S (chB S t n) = rent S b ∧ chB S t n ≤ b))
  | 0 => ⟨fun h => absurd rfl h, fun b h1 h2 => by omega⟩
  | n + 1 => by
    obtain ⟨h1, h2⟩ := chB_p S t n
    have hr := chB_r S t n
    unfold chB
    split
    · rename_i c
      refine ⟨fun _ => c.1, fun b b0 b1 hb => ⟨by omega, ?_⟩⟩
      by_cases e : b = n
      · subst e
        exact Or.inr ⟨rfl, Int.le_refl _⟩
      · have h3 := h2 b b0 (by omega) hb
        rcases c.2 with c2 | c2
        · exact absurd c2 h3.1
        · left
          rcases h3.2 with h4 | h4
          · omega
          · omega
    · rename_i c
      refine ⟨h1, fun b b0 b1 hb => ?_⟩
      by_cases e : b = n
      · subst e
        have c3 : ¬ (chB S t n = -1 ∨ rent S (n : Int) < rent S (chB S t n)) := fun q => c ⟨hb, q⟩
        refine ⟨fun q => c3 (Or.inl q), ?_⟩
        rcases (show rent S (chB S t n) < rent S (n : Int) ∨ rent S (chB S t n) = rent S (n : Int) ∨ rent S (n : Int) < rent S (chB S t n) by omega) with q | q | q
        · exact Or.inl q
        · exact Or.inr ⟨q, by omega⟩
        · exact absurd (Or.inr q) c3
      · exact h2 b b0 (by omega) hb
/-! the coins last so many months -/
theorem pay_b {S : St} (hI : Bd S) (b : Int) : 0 ≤ payable S b ∧ payable S b * rent S b ≤ S 11 (S 4 b - 1) ∧ S 11 (S 4 b - 1) < (payable S b + 1) * rent S b := by
  have hr := rent_r hI b
  have hc := hI.2.2.2.2.2.2.2.2.2.2.2.2.2.2.1 (S 4 b - 1)
  unfold payable
  refine ⟨Int.ediv_nonneg hc.1 (by omega), Int.ediv_mul_le _ (by omega), ?_⟩
  exact Int.lt_ediv_add_one_mul_self _ (by omega)
theorem pay_le {S : St} (hI : Bd S) (b m : Int) : m ≤ payable S b ↔ m * rent S b ≤ S 11 (S 4 b - 1) := by
  have hr := rent_r hI b
  unfold payable
  exact Int.le_ediv_iff_mul_le (by omega)
/-! sums -/
theorem sumZ_le {f g : Int → Int} : ∀ {n : Nat}, (∀ i : Int, 0 ≤ i → i < n → f i ≤ g i) → sumZ f n ≤ sumZ g n
  | 0, _ => Int.le_refl 0
  | n + 1, h => by
    have h1 := sumZ_le (f := f) (g := g) (n := n) (fun i a b => h i a (by omega))
    have h2 := h n (by omega) (by omega)
    show sumZ f n + f n ≤ sumZ g n + g n
    omega
theorem sumZ_lt {f g : Int → Int} {k : Int} : ∀ {n : Nat}, (∀ i : Int, 0 ≤ i → i < n → f i ≤ g i) → 0 ≤ k → k < n → f k < g k → sumZ f n < sumZ g n
  | 0, _, h1, h2, _ => by omega
  | n + 1, h, h1, h2, h3 => by
    show sumZ f n + f n < sumZ g n + g n
    by_cases e : k = n
    · have h4 := sumZ_le (f := f) (g := g) (n := n) (fun i a b => h i a (by omega))
      rw [← e]
      omega
    · have h4 := sumZ_lt (f := f) (g := g) (k := k) (n := n) (fun i a b => h i a (by omega)) h1 (by omega) h3
      have h5 := h n (by omega) (by omega)
      omega
/-! orders: a rank is taken by one -/
theorem pig : ∀ (n : Nat) (f : Nat → Nat), (∀ i, i < n → f i < n) → (∀ i j, i < n → j < n → f i = f j → i = j) → ∀ p, p < n → ∃ i, i < n ∧ f i = p
  | 0, _, _, _, p, hp => absurd hp (Nat.not_lt_zero p)
  | n + 1, f, h1, h2, p, hp => by
    have hq : ∀ i, i < n → f i ≠ f n := fun i hi e => by have := h2 i n (by omega) (by omega) e; omega
    have hn := h1 n (by omega)
    have key := pig n (fun i => if f i = n then f n else f i) (fun i hi => by
        have a1 := h1 i (by omega)
        have a2 := hq i hi
        show (if f i = n then f n else f i) < n
        split <;> omega) (fun i j hi hj e => by
        have a1 := hq i hi
        have a2 := hq j hj
        have e' : (if f i = n then f n else f i) = (if f j = n then f n else f j) := e
        by_cases c1 : f i = n
        · by_cases c2 : f j = n
          · exact h2 i j (by omega) (by omega) (by omega)
          · rw [if_pos c1, if_neg c2] at e'
            exact absurd e'.symm a2
        · by_cases c2 : f j = n
          · rw [if_neg c1, if_pos c2] at e'
            exact absurd e' a1
          · rw [if_neg c1, if_neg c2] at e'
            exact h2 i j (by omega) (by omega) e')
    by_cases e : p = f n
    · exact ⟨n, by omega, e.symm⟩
    · by_cases e2 : p = n
      · obtain ⟨i, hi, hfi⟩ := key (f n) (by omega)
        have hfi' : (if f i = n then f n else f i) = f n := hfi
        by_cases c1 : f i = n
        · exact ⟨i, by omega, by omega⟩
        · rw [if_neg c1] at hfi'
          exact absurd hfi' (hq i hi)
      · obtain ⟨i, hi, hfi⟩ := key p (by omega)
        have hfi' : (if f i = n then f n else f i) = p := hfi
        by_cases c1 : f i = n
        · rw [if_pos c1] at hfi'
          exact absurd hfi'.symm e
        · rw [if_neg c1] at hfi'
          exact ⟨i, by omega, hfi'⟩
/-- ranks by a strict total order -/
theorem rank_all {F : Int → Int → Prop} [∀ x y, Decidable (F x y)] {n : Nat} (hir : ∀ x, ¬ F x x) (htr : ∀ x y z, F x y → F y z → F x z) (hto : ∀ x y, x ≠ y → F x y ∨ F y x) :
    (∀ x : Int, 0 ≤ sumZ (fun o => bI (F o x)) n ∧ sumZ (fun o => bI (F o x)) n ≤ n) ∧ (∀ x : Int, 0 ≤ x → x < n → sumZ (fun o => bI (F o x)) n < n) ∧ (∀ x y : Int, 0 ≤ x → x < n → F x y → sumZ (fun o => bI (F o x)) n < sumZ (fun o => bI (F o y)) n) ∧ ∀ p : Int, 0 ≤ p → p < n → ∃ x : Int, (0 ≤ x ∧ x < n) ∧ sumZ (fun o => bI (F o x)) n = p := by
  have hb : ∀ x : Int, 0 ≤ sumZ (fun o => bI (F o x)) n ∧ sumZ (fun o => bI (F o x)) n ≤ n := fun x => by
    have h := sumZ_r (f := fun o => bI (F o x)) (M := 1) (fun o => bI_r _) n
    omega
  have hone : ∀ m : Nat, sumZ (fun _ => 1) m = m := fun m => by
    induction m with
    | zero => rfl
    | succ m ih =>
      show sumZ (fun _ => 1) m + 1 = _
      rw [ih]
      omega
  have hl : ∀ x : Int, 0 ≤ x → x < n → sumZ (fun o => bI (F o x)) n < n := fun x h1 h2 => by
    have h := sumZ_lt (f := fun o => bI (F o x)) (g := fun _ => 1) (k := x) (n := n) (fun i _ _ => (bI_r _).2) h1 h2 (by show bI (F x x) < 1; rw [bI_f (hir x)]; decide)
    rw [hone] at h
    exact h
  have hm : ∀ x y : Int, 0 ≤ x → x < n → F x y → sumZ (fun o => bI (F o x)) n < sumZ (fun o => bI (F o y)) n := fun x y h1 h2 hxy => by
    refine sumZ_lt (k := x) (fun i _ _ => ?_) h1 h2 ?_
    · show bI (F i x) ≤ bI (F i y)
      by_cases c : F i x
      · rw [bI_t c, bI_t (htr i x y c hxy)]; exact Int.le_refl 1
      · rw [bI_f c]; exact (bI_r _).1
    · show bI (F x x) < bI (F x y)
      rw [bI_f (hir x), bI_t hxy]; decide
  refine ⟨hb, hl, hm, fun p h1 h2 => ?_⟩
  obtain ⟨i, hi, hfi⟩ := pig n (fun i => (sumZ (fun o => bI (F o (i : Int))) n).toNat) (fun i hi => by
      have a1 := hl i (by omega) (by omega)
      have a2 := (hb i).1
      show (sumZ (fun o => bI (F o (i : Int))) n).toNat < n
      omega) (fun i j hi hj e => by
      have e' : (sumZ (fun o => bI (F o (i : Int))) n).toNat = (sumZ (fun o => bI (F o (j : Int))) n).toNat := e
      have a1 := (hb i).1
      have a2 := (hb j).1
      refine Classical.byContradiction (fun q => ?_)
      rcases hto i j (by omega) with c | c
      · have := hm i j (by omega) (by omega) c
        omega
      · have := hm j i (by omega) (by omega) c
        omega) p.toNat (by omega)
  refine ⟨i, ⟨by omega, by omega⟩, ?_⟩
  have hfi' : (sumZ (fun o => bI (F o (i : Int))) n).toNat = p.toNat := hfi
  have := (hb i).1
  omega
theorem bF_tr {S : St} {x y z : Int} (h1 : bFirst S x y) (h2 : bFirst S y z) : bFirst S x z := by
  unfold bFirst at *
  omega
theorem bF_to {S : St} {x y : Int} (h : x ≠ y) : bFirst S x y ∨ bFirst S y x := by
  unfold bFirst
  omega
theorem tF_tr {S : St} {x y z : Int} (h1 : tFirst S x y) (h2 : tFirst S y z) : tFirst S x z := by
  unfold tFirst at *
  omega
theorem tF_to {S : St} {x y : Int} (h : x ≠ y) : tFirst S x y ∨ tFirst S y x := by
  unfold tFirst
  omega
theorem bbR_p {S : St} (hI : Bd S) : (∀ p : Int, 0 ≤ p → p < S 0 0 → 0 ≤ bbR S p ∧ bbR S p < S 0 0 ∧ bAhead S (bbR S p) = p) ∧ bbR S (S 0 0) = -1 := by
  have h0 := hI.1
  obtain ⟨hb, hl, hm, hs⟩ := rank_all (F := bFirst S) (n := (S 0 0).toNat) (bF_irr S) (fun x y z => bF_tr) (fun x y => bF_to)
  refine ⟨fun p h1 h2 => ?_, ?_⟩
  · obtain ⟨x, hx, e⟩ := hs p h1 (by omega)
    have a1 := scan_n (p := fun a => bAhead S a = p) (S 0 0 - 0).toNat 0 x hx.1 (by omega) e
    rcases scan_r (p := fun a => bAhead S a = p) (S 0 0 - 0).toNat 0 (by omega) with a2 | ⟨a2, a3, a4⟩
    · omega
    · exact ⟨a2, by have a3' : bbR S p < 0 + ((S 0 0 - 0).toNat : Int) := a3; omega, a4⟩
  · rcases scan_r (p := fun a => bAhead S a = S 0 0) (S 0 0 - 0).toNat 0 (by omega) with a2 | ⟨a2, a3, a4⟩
    · exact a2
    · have a5 := hl (scan (fun a => bAhead S a = S 0 0) (S 0 0 - 0).toNat 0) a2 (by omega)
      have a6 : sumZ (fun o => bI (bFirst S o (scan (fun a => bAhead S a = S 0 0) (S 0 0 - 0).toNat 0))) (S 0 0).toNat = S 0 0 := a4
      omega
theorem bbR_o {S : St} (hI : Bd S) {p : Int} (h1 : 1 ≤ p) (h2 : p < S 0 0) : rent S (bbR S (p - 1)) < rent S (bbR S p) ∨ (rent S (bbR S (p - 1)) = rent S (bbR S p) ∧ (S 4 (bbR S (p - 1)) ≠ 0 → S 4 (bbR S p) ≠ 0)) := by
  obtain ⟨hb, hl, hm, hs⟩ := rank_all (F := bFirst S) (n := (S 0 0).toNat) (bF_irr S) (fun x y z => bF_tr) (fun x y => bF_to)
  obtain ⟨a1, a2, a3⟩ := (bbR_p hI).1 p (by omega) h2
  obtain ⟨b1, b2, b3⟩ := (bbR_p hI).1 (p - 1) (by omega) (by omega)
  have hF : bFirst S (bbR S (p - 1)) (bbR S p) := by
    rcases bF_to (S := S) (x := bbR S (p - 1)) (y := bbR S p) (fun e => by rw [e] at b3; omega) with c | c
    · exact c
    · have := hm (bbR S p) (bbR S (p - 1)) a1 (by omega) c
      have e1 : sumZ (fun o => bI (bFirst S o (bbR S p))) (S 0 0).toNat = p := a3
      have e2 : sumZ (fun o => bI (bFirst S o (bbR S (p - 1)))) (S 0 0).toNat = p - 1 := b3
      omega
  unfold bFirst at hF
  omega
theorem tbC_p {S : St} (hI : Bd S) : (∀ p : Int, 0 ≤ p → p < S 0 2 → 0 ≤ tbC S p ∧ tbC S p < S 0 2 ∧ tAhead S (tbC S p) = p) ∧ tbC S (S 0 2) = -1 := by
  have h0 := hI.2.2.1
  obtain ⟨hb, hl, hm, hs⟩ := rank_all (F := tFirst S) (n := (S 0 2).toNat) (tF_irr S) (fun x y z => tF_tr) (fun x y => tF_to)
  refine ⟨fun p h1 h2 => ?_, ?_⟩
  · obtain ⟨x, hx, e⟩ := hs p h1 (by omega)
    have a1 := scan_n (p := fun a => tAhead S a = p) (S 0 2 - 0).toNat 0 x hx.1 (by omega) e
    rcases scan_r (p := fun a => tAhead S a = p) (S 0 2 - 0).toNat 0 (by omega) with a2 | ⟨a2, a3, a4⟩
    · omega
    · exact ⟨a2, by have a3' : tbC S p < 0 + ((S 0 2 - 0).toNat : Int) := a3; omega, a4⟩
  · rcases scan_r (p := fun a => tAhead S a = S 0 2) (S 0 2 - 0).toNat 0 (by omega) with a2 | ⟨a2, a3, a4⟩
    · exact a2
    · have a5 := hl (scan (fun a => tAhead S a = S 0 2) (S 0 2 - 0).toNat 0) a2 (by omega)
      have a6 : sumZ (fun o => bI (tFirst S o (scan (fun a => tAhead S a = S 0 2) (S 0 2 - 0).toNat 0))) (S 0 2).toNat = S 0 2 := a4
      omega
theorem tbC_o {S : St} (hI : Bd S) {p : Int} (h1 : 1 ≤ p) (h2 : p < S 0 2) : S 11 (tbC S p) < S 11 (tbC S (p - 1)) ∨ (S 11 (tbC S (p - 1)) = S 11 (tbC S p) ∧ S 12 (tbC S (p - 1)) ≤ S 12 (tbC S p)) := by
  obtain ⟨hb, hl, hm, hs⟩ := rank_all (F := tFirst S) (n := (S 0 2).toNat) (tF_irr S) (fun x y z => tF_tr) (fun x y => tF_to)
  obtain ⟨a1, a2, a3⟩ := (tbC_p hI).1 p (by omega) h2
  obtain ⟨b1, b2, b3⟩ := (tbC_p hI).1 (p - 1) (by omega) (by omega)
  have hF : tFirst S (tbC S (p - 1)) (tbC S p) := by
    rcases tF_to (S := S) (x := tbC S (p - 1)) (y := tbC S p) (fun e => by rw [e] at b3; omega) with c | c
    · exact c
    · have := hm (tbC S p) (tbC S (p - 1)) a1 (by omega) c
      have e1 : sumZ (fun o => bI (tFirst S o (tbC S p))) (S 0 2).toNat = p := a3
      have e2 : sumZ (fun o => bI (tFirst S o (tbC S (p - 1)))) (S 0 2).toNat = p - 1 := b3
      omega
  unfold tFirst at hF
  omega
