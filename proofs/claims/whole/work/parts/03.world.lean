/-! what a state of the system is: a table of whole numbers S k i (k = 0: single numbers, 1..6 benches, 7..10 fountains, 11, 12 tenants), and the cells that hold it -/
abbrev St : Type := Nat → Int → Int
def upS (S : St) (k : Nat) (i v : Int) : St := fun k' i' => if k' = k ∧ i' = i then v else S k' i'
def ar (S : St) (k : Nat) : Nat → Int32 := fun j => zI (S k j)
def arB (S : St) : Nat → Int32 := fun j => zI (S 4 j - 1)
theorem ar_up {S : St} {k : Nat} {z v : Int} (hz : 0 ≤ z) : upd (ar S k) z.toNat (zI v) = ar (upS S k z v) k := by
  funext j
  unfold upd ar upS
  by_cases h : j = z.toNat
  · rw [if_pos h, if_pos ⟨rfl, by omega⟩]
  · rw [if_neg h, if_neg (fun q => h (by omega))]
theorem arB_up {S : St} {z v : Int} (hz : 0 ≤ z) : upd (arB S) z.toNat (zI v) = arB (upS S 4 z (v + 1)) := by
  funext j
  unfold upd arB upS
  by_cases h : j = z.toNat
  · rw [if_pos h, if_pos ⟨rfl, by omega⟩]; congr 1; omega
  · rw [if_neg h, if_neg (fun q => h (by omega))]
/-- the array classes: ck 0 int, 1 boolean, 2 char, 3 byte, 4 Books, 5 long, 6 double -/
abbrev TY (ck : Nat → ClassId) : List (ClassId × FieldType) := [(ck 0, .int), (ck 1, .boolean), (ck 2, .char), (ck 3, .byte), (ck 4, .object "BenchBroker$Books"), (ck 5, .long), (ck 6, .double)]
def parkC (ck : Nat → ClassId) (a : Nat → Nat) (S : St) : va_W :=
  [(a 0, .inr (9, [.int (zI (S 0 0)), .ref (a 1), .ref (a 2), .ref (a 3), .int (zI (S 0 1)), .ref (a 4), .ref (a 5), .ref (a 6), .ref (a 7), .int (zI (S 0 3))])),
   (a 1, .inl (ck 0, 10, .inl (ar S 1))), (a 2, .inl (ck 0, 10, .inl (ar S 2))), (a 3, .inl (ck 0, 10, .inl (ar S 3))),
   (a 4, .inl (ck 0, 4, .inl (ar S 7))), (a 5, .inl (ck 0, 4, .inl (ar S 8))), (a 6, .inl (ck 0, 4, .inl (ar S 9))), (a 7, .inl (ck 1, 4, .inl (ar S 10)))]
def bookC (ck : Nat → ClassId) (a : Nat → Nat) (S : St) : va_W :=
  [(a 0, .inr (4, [.ref (a 6), .int (zI (S 0 2)), .ref (a 1), .ref (a 2), .ref (a 3), .ref (a 4), .ref (a 5), .int (zI (S 0 4)), .int (zI (S 0 5)), .int (zI (S 0 6)), .int (zI (S 0 7)), .int (zI (S 0 8)), .int (zI (S 0 9))])),
   (a 1, .inl (ck 0, 8, .inl (ar S 11))), (a 2, .inl (ck 0, 8, .inl (ar S 12))), (a 3, .inl (ck 0, 10, .inl (arB S))), (a 4, .inl (ck 0, 10, .inl (ar S 5))), (a 5, .inl (ck 0, 10, .inl (ar S 6)))]
def pa (a : Nat → Nat) : Nat → Nat := fun k => a (6 + k)
def booksC (ck : Nat → ClassId) (a : Nat → Nat) (S : St) : va_W := bookC ck a S ++ parkC ck (pa a) S
/-- what a method that reads asks of its world -/
def rdP (dg : va_G) (ck : Nat → ClassId) (ws : va_W) : State → Prop := fun U => va_P dg vwCl ws U.heap ∧ va_K dg vwCl (TY ck) U
theorem rd_blind {dg : va_G} {ck : Nat → ClassId} {ws : va_W} {As : List Value} : FrameBlind (va_Pc As (rdP dg ck ws)) := fun a U g mk q => by
  obtain ⟨q0, qP, qK⟩ := q
  exact ⟨q0, qP, va_K.moved (u := U) (U := U.calling g mk a) (Vm.Alike.refl U.vm) qK⟩
theorem rd_preV {dg : va_G} {ck : Nat → ClassId} {ws : va_W} {b : Nat} {As : List Value} {s : State} {H : Heap} {q : vw_C} (hK : va_K dg vwCl (TY ck) s) (hP : va_P dg vwCl ws H) (q0 ci : Nat) {fs : List Value} (hc : vwCl[ci]? = some q) (he : ws[q0]? = some (b, .inr (ci, fs))) : PreV s H q.1 b (va_Pc (.ref b :: As) (rdP dg ck ws)) As :=
  ⟨rd_blind, va_recv hK hP hc he, fun U hU hW => ⟨rfl, by rw [hU]; exact hP, va_K.moved hW.alike hK⟩⟩
theorem rd_preS {dg : va_G} {ck : Nat → ClassId} {ws : va_W} {As : List Value} {s : State} {H : Heap} (hK : va_K dg vwCl (TY ck) s) (hP : va_P dg vwCl ws H) : PreS s H (va_Pc As (rdP dg ck ws)) As :=
  ⟨rd_blind, fun U hU hW => ⟨rfl, by rw [hU]; exact hP, va_K.moved hW.alike hK⟩⟩
theorem va_P_nil {dg : va_G} {cl : List vw_C} {H : Heap} : va_P dg cl [] H := fun k q h => by simp at h
theorem va_P_l {dg : va_G} {cl : List vw_C} {w1 w2 : va_W} {H : Heap} (h : va_P dg cl (w1 ++ w2) H) : va_P dg cl w1 H := fun k q hk => h k q (by rw [List.getElem?_append_left (List.getElem?_eq_some_iff.mp hk).1]; exact hk)
theorem va_P_r {dg : va_G} {cl : List vw_C} {w1 w2 : va_W} {H : Heap} (h : va_P dg cl (w1 ++ w2) H) : va_P dg cl w2 H := fun k q hk => h (w1.length + k) q (by rw [List.getElem?_append_right (Nat.le_add_right _ _), Nat.add_sub_cancel_left]; exact hk)
/-- every single number of a state that bounds something, and the rows, within their bounds -/
def Bd (S : St) : Prop := (0 ≤ S 0 0 ∧ S 0 0 ≤ 10) ∧ (0 ≤ S 0 1 ∧ S 0 1 ≤ 4) ∧ (0 ≤ S 0 2 ∧ S 0 2 ≤ 8) ∧ (0 ≤ S 0 3 ∧ S 0 3 ≤ 20) ∧ (∀ i, 0 ≤ S 1 i ∧ S 1 i ≤ 5) ∧ (∀ i, 0 ≤ S 2 i ∧ S 2 i ≤ 5) ∧ (∀ i, 0 ≤ S 3 i ∧ S 3 i ≤ 20) ∧ (∀ i, 0 ≤ S 4 i ∧ S 4 i ≤ S 0 2) ∧ (∀ i, 0 ≤ S 5 i ∧ S 5 i ≤ 20) ∧ (∀ i, 0 ≤ S 6 i ∧ S 6 i ≤ 12) ∧ (∀ i, 0 ≤ S 7 i ∧ S 7 i ≤ 5) ∧ (∀ i, 0 ≤ S 8 i ∧ S 8 i ≤ 5) ∧ (∀ i, 0 ≤ S 9 i ∧ S 9 i ≤ 9) ∧ (∀ i, 0 ≤ S 10 i ∧ S 10 i ≤ 1) ∧ (∀ i, 0 ≤ S 11 i ∧ S 11 i ≤ 1000000) ∧ (∀ i, 0 ≤ S 12 i ∧ S 12 i ≤ 3)
