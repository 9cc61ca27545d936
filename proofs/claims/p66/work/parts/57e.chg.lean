/-! the law: what a change answers -/
theorem mN_u (S : St) : ∀ n : Nat, (mN S n).2 ≤ n
  | 0 => Int.le_refl 0
  | n + 1 => by
    have h := bil_r (mN S n).1 n
    have ih := mN_u S n
    unfold mN
    split
    · show (mN S n).2 + (bil (mN S n).1 n).2 ≤ ((n + 1 : Nat) : Int)
      omega
    · show (mN S n).2 ≤ ((n + 1 : Nat) : Int)
      omega
theorem msN_u {M : Int} {S : St} (hV : Inv M S) : ∀ k : Nat, (msN S k).2 ≤ 10 * (k : Int)
  | 0 => by
    show (0 : Int) ≤ _
    omega
  | k + 1 => by
    have ih := msN_u hV k
    have h1 := mN_u (msN S k).1 ((msN S k).1 0 0).toNat
    have h2 := (msN_inv hV k).2
    have hb := hV.bd.1
    show (msN S k).2 + (mN (msN S k).1 ((msN S k).1 0 0).toNat).2 ≤ 10 * ((k + 1 : Nat) : Int)
    omega
def CK (n : Int) (S : St) (ch : Chg) : Prop := (-2 ≤ ch.1 ∧ ch.1 ≤ 11) ∧ (ch.1 ≠ 0 → ch.2.2 = S) ∧ (ch.1 = 0 → 0 ≤ ch.2.1 ∧ ch.2.1 ≤ 4000100) ∧ Inv (n + 3100) ch.2.2 ∧ Iv2 ch.2.2
theorem CK.out {n : Int} {S : St} {ch : Chg} (h : CK n S ch) : (-80 ≤ ansK ch ∧ ansK ch ≤ 4000100) ∧ ((ch.1 ≠ 0 ∧ ansK ch ≤ -74 ∧ ch.2.2 = S) ∨ (ch.1 = 0 ∧ 0 ≤ ansK ch ∧ Inv (n + 3100) ch.2.2 ∧ Iv2 ch.2.2)) := by
  obtain ⟨h1, h2, h3, h4, h5⟩ := h
  by_cases c : ch.1 = 0
  · have e := ansK_0 c
    have h := h3 c
    exact ⟨by omega, Or.inr ⟨c, by omega, h4, h5⟩⟩
  · have e : ansK ch = -77 ∨ ansK ch = -78 ∨ ansK ch = -76 := by
      unfold ansK
      rw [if_neg c]
      split
      · exact Or.inl rfl
      · split
        · exact Or.inr (Or.inl rfl)
        · exact Or.inr (Or.inr rfl)
    exact ⟨by omega, Or.inl ⟨c, by omega, h2 c⟩⟩

theorem ck_pb {n : Int} {S : St} (hV : Inv n S) (hV2 : Iv2 S) (hn : n + 3100 ≤ 4000000) (x y v : Int) : CK n S (pbZ S x y v) := by
  have hI := hV.bd
  obtain ⟨b00, b01, b02, b03, b1, b2, b3, b4, b5, b6, b7, b8, b9, b10, b11, b12⟩ := id hI
  refine ⟨pbZ_r S x y v, fun hne => (actZ_k (S := S) (k := 0) (a := x) (b := y) (d := v) hne), ?_, Inv.mono (pbZ_inv hV) (by omega) hn, pbZ_i2 hV2⟩
  unfold pbZ
  (repeat' split) <;> intro h <;> first | (exfalso; have h9 : (-1 : Int) = 0 := h; omega) | (exfalso; have h9 : (-2 : Int) = 0 := h; omega) | (exfalso; have h9 : (1 : Int) = 0 := h; omega) | (exfalso; have h9 : (4 : Int) = 0 := h; omega) | (dsimp only; omega)

theorem ck_pf {n : Int} {S : St} (hV : Inv n S) (hV2 : Iv2 S) (hn : n + 3100 ≤ 4000000) (x y v : Int) : CK n S (pfZ S x y v) := by
  have hI := hV.bd
  obtain ⟨b00, b01, b02, b03, b1, b2, b3, b4, b5, b6, b7, b8, b9, b10, b11, b12⟩ := id hI
  refine ⟨pfZ_r S x y v, fun hne => (actZ_k (S := S) (k := 1) (a := x) (b := y) (d := v) hne), ?_, Inv.mono (pfZ_inv hV) (by omega) hn, pfZ_i2 hV2⟩
  unfold pfZ
  (repeat' split) <;> intro h <;> first | (exfalso; have h9 : (-1 : Int) = 0 := h; omega) | (exfalso; have h9 : (-2 : Int) = 0 := h; omega) | (exfalso; have h9 : (2 : Int) = 0 := h; omega) | (exfalso; have h9 : (4 : Int) = 0 := h; omega) | (dsimp only; omega)

theorem ck_cr {n : Int} {S : St} (hV : Inv n S) (hV2 : Iv2 S) (hn : n + 3100 ≤ 4000000) (b v : Int) : CK n S (crZ S b v) := by
  have hI := hV.bd
  obtain ⟨b00, b01, b02, b03, b1, b2, b3, b4, b5, b6, b7, b8, b9, b10, b11, b12⟩ := id hI
  refine ⟨crZ_r S b v, fun hne => cr_k hne, ?_, Inv.mono (crZ_inv hV) (by omega) hn, crZ_i2 hV2⟩
  have h3 := b3 b
  unfold crZ
  (repeat' split) <;> intro h <;> first | (exfalso; have h9 : (-1 : Int) = 0 := h; omega) | (exfalso; have h9 : (-2 : Int) = 0 := h; omega) | (dsimp only; omega)

theorem ck_cl {n : Int} {S : St} (hV : Inv n S) (hV2 : Iv2 S) (hn : n + 3100 ≤ 4000000) (f v : Int) : CK n S (clZ S f v) := by
  have hI := hV.bd
  obtain ⟨b00, b01, b02, b03, b1, b2, b3, b4, b5, b6, b7, b8, b9, b10, b11, b12⟩ := id hI
  refine ⟨clZ_r S f v, fun hne => cl_k hne, ?_, Inv.mono (clZ_inv hV) (by omega) hn, clZ_i2 hV2⟩
  have h3 := b9 f
  unfold clZ
  (repeat' split) <;> intro h <;> first | (exfalso; have h9 : (-1 : Int) = 0 := h; omega) | (exfalso; have h9 : (-2 : Int) = 0 := h; omega) | (dsimp only; omega)

theorem ck_tg {n : Int} {S : St} (hV : Inv n S) (hV2 : Iv2 S) (hn : n + 3100 ≤ 4000000) (f : Int) : CK n S (tgZ S f) := by
  have hI := hV.bd
  obtain ⟨b00, b01, b02, b03, b1, b2, b3, b4, b5, b6, b7, b8, b9, b10, b11, b12⟩ := id hI
  refine ⟨tgZ_r S f, fun hne => (actZ_k (S := S) (k := 7) (a := f) (b := 0) (d := 0) hne), ?_, Inv.mono (tgZ_inv hV) (by omega) hn, tgZ_i2 hV2⟩
  have h3 := b10 f
  unfold tgZ
  (repeat' split) <;> intro h <;> first | (exfalso; have h9 : (-1 : Int) = 0 := h; omega) | (exfalso; have h9 : (-2 : Int) = 0 := h; omega) | (dsimp only; omega)

theorem ck_cm {n : Int} {S : St} (hV : Inv n S) (hV2 : Iv2 S) (hn : n + 3100 ≤ 4000000) (v : Int) : CK n S (cmZ S v) := by
  have hI := hV.bd
  obtain ⟨b00, b01, b02, b03, b1, b2, b3, b4, b5, b6, b7, b8, b9, b10, b11, b12⟩ := id hI
  refine ⟨cmZ_r S v, fun hne => (actZ_k (S := S) (k := 8) (a := v) (b := 0) (d := 0) hne), ?_, Inv.mono (cmZ_inv hV) (by omega) hn, cmZ_i2 hV2⟩
  unfold cmZ
  (repeat' split) <;> intro h <;> first | (exfalso; have h9 : (-1 : Int) = 0 := h; omega) | (exfalso; have h9 : (-2 : Int) = 0 := h; omega) | (dsimp only; omega)

theorem ck_te {n : Int} {S : St} (hV : Inv n S) (hV2 : Iv2 S) (hn : n + 3100 ≤ 4000000) (x : Int) : CK n S (teZ S x) := by
  have hI := hV.bd
  obtain ⟨b00, b01, b02, b03, b1, b2, b3, b4, b5, b6, b7, b8, b9, b10, b11, b12⟩ := id hI
  refine ⟨teZ_r S x, fun hne => (actZ_k (S := S) (k := 2) (a := x) (b := 0) (d := 0) hne), ?_, Inv.mono (teZ_inv hV (by omega)) (by omega) hn, teZ_i2 hV hV2⟩
  unfold teZ
  (repeat' split) <;> intro h <;> first | (exfalso; have h9 : (-1 : Int) = 0 := h; omega) | (exfalso; have h9 : (-2 : Int) = 0 := h; omega) | (exfalso; have h9 : (3 : Int) = 0 := h; omega) | (dsimp only; omega)

theorem ck_gi {n : Int} {S : St} (hV : Inv n S) (hV2 : Iv2 S) (hn : n + 3100 ≤ 4000000) (t x : Int) : CK n S (giZ S t x) := by
  have hI := hV.bd
  obtain ⟨b00, b01, b02, b03, b1, b2, b3, b4, b5, b6, b7, b8, b9, b10, b11, b12⟩ := id hI
  refine ⟨giZ_r S t x, fun hne => (actZ_k (S := S) (k := 3) (a := t) (b := x) (d := 0) hne), ?_, Inv.mono (giZ_inv hV (by omega)) (by omega) hn, giZ_i2 hV2⟩
  have h3 := b11 t
  unfold giZ
  (repeat' split) <;> intro h <;> first | (exfalso; have h9 : (-1 : Int) = 0 := h; omega) | (exfalso; have h9 : (-2 : Int) = 0 := h; omega) | (dsimp only; omega)

theorem ck_le {n : Int} {S : St} (hV : Inv n S) (hV2 : Iv2 S) (hn : n + 3100 ≤ 4000000) (t b k : Int) : CK n S (leZ S t b k) := by
  have hI := hV.bd
  obtain ⟨b00, b01, b02, b03, b1, b2, b3, b4, b5, b6, b7, b8, b9, b10, b11, b12⟩ := id hI
  refine ⟨leZ_r S t b k, fun hne => (actZ_k (S := S) (k := 4) (a := t) (b := b) (d := k) hne), ?_, Inv.mono (leZ_inv hV) (by omega) hn, leZ_i2 hV hV2⟩
  have h3 := rent_r hI b
  unfold leZ
  (repeat' split) <;> intro h <;> first | (exfalso; have h9 : (-1 : Int) = 0 := h; omega) | (exfalso; have h9 : (-2 : Int) = 0 := h; omega) | (exfalso; have h9 : obst S t b = 0 := h; exact absurd h9 (by assumption)) | (dsimp only; omega)

theorem ck_en {n : Int} {S : St} (hV : Inv n S) (hV2 : Iv2 S) (hn : n + 3100 ≤ 4000000) (b : Int) : CK n S (enZ S b) := by
  have hI := hV.bd
  obtain ⟨b00, b01, b02, b03, b1, b2, b3, b4, b5, b6, b7, b8, b9, b10, b11, b12⟩ := id hI
  refine ⟨enZ_r S b, fun hne => (actZ_k (S := S) (k := 5) (a := b) (b := 0) (d := 0) hne), ?_, Inv.mono (enZ_inv hV) (by omega) hn, enZ_i2 hV2⟩
  have h3 := b5 b
  unfold enZ
  (repeat' split) <;> intro h <;> first | (exfalso; have h9 : (-1 : Int) = 0 := h; omega) | (exfalso; have h9 : (-2 : Int) = 0 := h; omega) | (exfalso; have h9 : (10 : Int) = 0 := h; omega) | (dsimp only; omega)

theorem ck_re {n : Int} {S : St} (hV : Inv n S) (hV2 : Iv2 S) (hn : n + 3100 ≤ 4000000) (b k : Int) : CK n S (reZ S b k) := by
  have hI := hV.bd
  obtain ⟨b00, b01, b02, b03, b1, b2, b3, b4, b5, b6, b7, b8, b9, b10, b11, b12⟩ := id hI
  refine ⟨reZ_r S b k, fun hne => (actZ_k (S := S) (k := 6) (a := b) (b := k) (d := 0) hne), ?_, Inv.mono (reZ_inv hV) (by omega) hn, reZ_i2 hV2⟩
  have h3 := b6 b
  by_cases ht : isTerm k
  · have ht1 := ht.1
    have ht2 := ht.2
    unfold reZ
    (repeat' split) <;> intro h <;> first | (exfalso; have h9 : (-1 : Int) = 0 := h; omega) | (exfalso; have h9 : (-2 : Int) = 0 := h; omega) | (exfalso; have h9 : (10 : Int) = 0 := h; omega) | (exfalso; have h9 : (11 : Int) = 0 := h; omega) | (dsimp only; omega)
  · unfold reZ
    (repeat' split) <;> intro h <;> first | (exfalso; have h9 : (-1 : Int) = 0 := h; omega) | (exfalso; have h9 : (-2 : Int) = 0 := h; omega) | (exfalso; exact absurd ht (by assumption))

theorem ck_el {n : Int} {S : St} (hV : Inv n S) (hV2 : Iv2 S) (hn : n + 3100 ≤ 4000000) (k : Int) : CK n S (elZ S k) := by
  have hI := hV.bd
  obtain ⟨b00, b01, b02, b03, b1, b2, b3, b4, b5, b6, b7, b8, b9, b10, b11, b12⟩ := id hI
  refine ⟨elZ_r S k, fun hne => (actZ_k (S := S) (k := 9) (a := k) (b := 0) (d := 0) hne), ?_, Inv.mono (elZ_inv hV) (by omega) hn, elZ_i2 hV hV2⟩
  have h3 := msN_u hV k.toNat
  have h4 := msN_0 S k.toNat
  by_cases ht : isTerm k
  · have ht1 := ht.1
    have ht2 := ht.2
    unfold elZ
    (repeat' split) <;> intro h <;> first | (exfalso; have h9 : (-1 : Int) = 0 := h; omega) | (exfalso; have h9 : (-2 : Int) = 0 := h; omega) | (dsimp only; omega)
  · unfold elZ
    (repeat' split) <;> intro h <;> first | (exfalso; have h9 : (-1 : Int) = 0 := h; omega) | (exfalso; have h9 : (-2 : Int) = 0 := h; omega) | (exfalso; exact absurd ht (by assumption))
