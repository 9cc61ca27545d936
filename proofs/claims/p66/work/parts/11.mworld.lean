/-! the reference's cells: its array s holds a state, g1 .. g4 are frame, saved, history, thought as rows of whole numbers; M 5 text, M 6 told, M 7 out, M 8 its single numbers -/
def zz (g : Int → Int) : Nat → Int32 := fun j => zI (g j)
def encZ (S : St) : Int → Int := fun j => if j < 10 then S 0 j else if j < 70 then S (1 + ((j - 10) % 6).toNat) ((j - 10) / 6) else if j < 86 then S (7 + ((j - 70) % 4).toNat) ((j - 70) / 4) else S (11 + ((j - 86) % 2).toNat) ((j - 86) / 2)
def modelC (ck : Nat → ClassId) (a : Nat → Nat) (g0 g1 g2 g3 g4 : Int → Int) (M : St) : va_W :=
  [(a 0, .inr (11, [.int (zI (M 8 0)), .ref (a 1), .ref (a 2), .ref (a 3), .ref (a 4), .ref (a 5), .int (zI (M 8 1)), .int (zI (M 8 2)), .ref (a 6), .ref (a 7), .ref (a 8), .int (zI (M 8 3)), .int (zI (M 8 4)), .int (zI (M 8 5)), .int (zI (M 8 6)), .int (zI (M 8 7)), .int (zI (M 8 8)), .int (zI (M 8 9)), .int (zI (M 8 10)), .int (zI (M 8 11)), .int (zI (M 8 12)), .int (zI (M 8 13)), .int (zI (M 8 14))])),
   (a 1, .inl (ck 0, 102, .inl (zz g0))), (a 2, .inl (ck 0, 102, .inl (zz g1))), (a 3, .inl (ck 0, 102, .inl (zz g2))), (a 4, .inl (ck 0, 816, .inl (zz g3))), (a 5, .inl (ck 0, 102, .inl (zz g4))), (a 6, .inl (ck 0, 60, .inl (zz (M 5)))), (a 7, .inl (ck 0, 240, .inl (zz (M 6)))), (a 8, .inl (ck 0, 60, .inl (zz (M 7))))]
theorem encS {S : St} {i : Int} (h : i < 10) : encZ S i = S 0 i := by
  unfold encZ
  rw [if_pos h]
theorem encB {S : St} {j b : Int} {k : Nat} (h : 0 ≤ b ∧ b < 10) (hk : 1 ≤ k ∧ k ≤ 6) (hj : j = 10 + 6 * b + ((k : Int) - 1)) : encZ S j = S k b := by
  unfold encZ
  rw [if_neg (by omega), if_pos (by omega), show 1 + ((j - 10) % 6).toNat = k by omega, show (j - 10) / 6 = b by omega]
theorem encF {S : St} {j b : Int} {k : Nat} (h : 0 ≤ b ∧ b < 4) (hk : 7 ≤ k ∧ k ≤ 10) (hj : j = 70 + 4 * b + ((k : Int) - 7)) : encZ S j = S k b := by
  unfold encZ
  rw [if_neg (by omega), if_neg (by omega), if_pos (by omega), show 7 + ((j - 70) % 4).toNat = k by omega, show (j - 70) / 4 = b by omega]
theorem encT {S : St} {j b : Int} {k : Nat} (h : 0 ≤ b ∧ b < 8) (hk : 11 ≤ k ∧ k ≤ 12) (hj : j = 86 + 2 * b + ((k : Int) - 11)) : encZ S j = S k b := by
  unfold encZ
  rw [if_neg (by omega), if_neg (by omega), if_neg (by omega), show 11 + ((j - 86) % 2).toNat = k by omega, show (j - 86) / 2 = b by omega]
/-- the place z of the row is the number i of the state's row k -/
def encP (z : Int) (k : Nat) (i : Int) : Prop := (k = 0 ∧ 0 ≤ i ∧ i < 10 ∧ z = i) ∨ (1 ≤ k ∧ k ≤ 6 ∧ 0 ≤ i ∧ i < 10 ∧ z = 10 + 6 * i + ((k : Int) - 1)) ∨ (7 ≤ k ∧ k ≤ 10 ∧ 0 ≤ i ∧ i < 4 ∧ z = 70 + 4 * i + ((k : Int) - 7)) ∨ (11 ≤ k ∧ k ≤ 12 ∧ 0 ≤ i ∧ i < 8 ∧ z = 86 + 2 * i + ((k : Int) - 11))
theorem encV {S : St} {z i : Int} {k : Nat} (h : encP z k i) : encZ S z = S k i := by
  rcases h with ⟨rfl, h2, h3, rfl⟩ | ⟨h1, h2, h3, h4, h5⟩ | ⟨h1, h2, h3, h4, h5⟩ | ⟨h1, h2, h3, h4, h5⟩
  · exact encS h3
  · exact encB ⟨h3, h4⟩ ⟨h1, h2⟩ h5
  · exact encF ⟨h3, h4⟩ ⟨h1, h2⟩ h5
  · exact encT ⟨h3, h4⟩ ⟨h1, h2⟩ h5
theorem encU {S : St} {z i v : Int} {k : Nat} (h : encP z k i) (j : Int) (hj : 0 ≤ j ∧ j < 102) : (if j = z then v else encZ S j) = encZ (upS S k i v) j := by
  by_cases e : j = z
  · rw [if_pos e, e, encV h, upS_s]
  · rw [if_neg e]
    unfold encP at h
    unfold encZ
    split
    · exact (upS_n (by omega)).symm
    · split
      · exact (upS_n (by omega)).symm
      · split
        · exact (upS_n (by omega)).symm
        · exact (upS_n (by omega)).symm
def upZ (g : Int → Int) (z v : Int) : Int → Int := fun i => if i = z then v else g i
theorem zz_up {g : Int → Int} {z v : Int} (hz : 0 ≤ z) : upd (zz g) z.toNat (zI v) = zz (upZ g z v) := by
  funext j
  unfold upd zz upZ
  by_cases h : j = z.toNat
  · rw [if_pos h, if_pos (by omega)]
  · rw [if_neg h, if_neg (by omega)]
theorem encW {S : St} {z i v : Int} {k : Nat} (hz : 0 ≤ z) (h : encP z k i) (j : Nat) (hj : j < 102) : upd (zz (encZ S)) z.toNat (zI v) j = zz (encZ (upS S k i v)) j := by
  rw [zz_up hz]
  exact congrArg zI (encU h j (by omega))
theorem zM_up {M : St} {k : Nat} {z v : Int} (hz : 0 ≤ z) : upd (zz (M k)) z.toNat (zI v) = zz (upS M k z v k) := ar_up hz
/-- the first k places of f, then g -/
def mixZ (k : Int) (f g : Int → Int) : Int → Int := fun j => if j < k then f j else g j
theorem mix_0 (f g : Int → Int) (j : Nat) : zz g j = zz (mixZ 0 f g) j := by
  unfold zz mixZ
  rw [if_neg (by omega)]
theorem mix_s {f g : Int → Int} {k : Int} (hk : 0 ≤ k) : upd (zz (mixZ k f g)) k.toNat (zI (f k)) = zz (mixZ (k + 1) f g) := by
  funext j
  unfold upd zz mixZ
  by_cases h : j = k.toNat
  · rw [if_pos h, if_pos (by omega), show (j : Int) = k by omega]
  · rw [if_neg h]
    by_cases h2 : (j : Int) < k
    · rw [if_pos h2, if_pos (by omega)]
    · rw [if_neg h2, if_neg (by omega)]
theorem mix_e {f g : Int → Int} {k : Int} {n : Nat} (hk : (n : Int) ≤ k) (j : Nat) (hj : j < n) : zz (mixZ k f g) j = zz f j := by
  unfold zz mixZ
  rw [if_pos (by omega)]
theorem set_self {α : Type} {l : List α} {q : Nat} {x : α} (h : l[q]? = some x) : l.set q x = l := by
  obtain ⟨h1, e⟩ := List.getElem?_eq_some_iff.mp h
  rw [← e]
  exact List.set_getElem_self h1
section LIBE
variable {p : Program} {l : Launch} {e : Env} {R : Room} {s : State} {m : MethodId} {args : Array Value} {below : List Frame} {meth : Method} {c : Code} {H : Heap} {locs : List Loc} {cells slots : Nat} {Q : State → Prop}
variable {cc : ByteArray} {pc : Nat} {ls : Array Slot} {rest : List Value} {D : va_G} {cl : List vw_C} {A : Nat → Prop} {a : Nat} {tys : List (ClassId × FieldType)} {ws ws' : va_W} {H0 : Heap}
theorem va_P_ch {cA : ClassId} {n : Nat} {f g : Nat → Int32} (hP : va_P D cl ws H) (q : Nat) (ha : ws[q]? = some (a, .inl (cA, n, .inl f))) (h : ∀ j, j < n → f j = g j) (hw : ws.set q (a, .inl (cA, n, .inl g)) = ws') : va_P D cl ws' H := by
  rw [← hw]
  refine va_P_cell h ?_
  rw [set_self ha]
  exact hP
theorem va_D_ch {cA : ClassId} {n : Nat} {f g : Nat → Int32} (hD : va_D A ws) (q : Nat) (ha : ws[q]? = some (a, .inl (cA, n, .inl f))) (hw : ws.set q (a, .inl (cA, n, .inl g)) = ws') : va_D A ws' := by
  rw [← hw]
  refine va_D_cell (e1 := .inl (cA, n, .inl f)) ?_
  rw [set_self ha]
  exact hD
/-- a store into an int row, the row's new contents by another name -/
theorem x_iastC (hexec : p.tables.exec = Jvm.exec) (hb : c.code = cc) (hK : va_K D cl tys s) (hP : va_P D cl ws H) (hD : va_D A ws) (hS : va_S A H0 H locs) (q0 t0 : Nat) {cA : ClassId} {n : Nat} {f f' : Nat → Int32} (ha : ws[q0]? = some (a, .inl (cA, n, .inl f))) (ht : tys[t0]? = some (cA, .int)) {z v : Int} (hn : n < 2147483648) (hz : 0 ≤ z ∧ z < n) (hf : ∀ j, j < n → upd f z.toNat (zI v) j = f' j) (hw : ws.set q0 (a, .inl (cA, n, .inl f')) = ws') (hdg : decode cc pc = .ok (.iastore, 1))
    (kk : ∀ (H1 : Heap) (locs1 : List Loc), va_P D cl ws' H1 → va_D A ws' → va_S A H0 H1 locs1 → W p l e R s m args below meth c H1 locs1 cells slots Q (F0 m (pc + 1) ls (rest))) : W p l e R s m args below meth c H locs cells slots Q (F0 m pc ls (.int (zI v) :: .int (zI z) :: .ref a :: rest)) := by
  refine x_iast hexec hb hK hP hD hS q0 t0 ha ht hn hz rfl hdg (fun H1 locs1 hP1 hD1 hS1 => ?_)
  subst hw
  exact kk H1 locs1 (va_P_cell hf hP1) (va_D_cell hD1) hS1
end LIBE
