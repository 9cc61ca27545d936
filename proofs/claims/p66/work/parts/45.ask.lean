/-! the class: questions that may throw -/
theorem nar_z {z : Int} (h : 0 ≤ z ∧ z ≤ 1) : narrow .boolean (.int (zI z)) = .int (zI z) := by
  rcases (show z = 0 ∨ z = 1 by omega) with rfl | rfl <;> rfl

set_option maxHeartbeats 4000000 in
set_option maxRecDepth 100000 in
/-- BenchBroker.rowOf -/
theorem x_rowOf (l : Launch) (dg : va_G) (ck : Nat → ClassId) (ka : Nat → Nat) (ad ra : Nat → Nat → Nat) (Z O U X : Nat → Int) (S T P I : St) (V N Y : Int → Int) (Q : Nat → St) (x : Int) (sz : Nat) (hI : Bd S) (rg_x : -2147483648 ≤ x ∧ x < 2147483648) (hst : l.stackTraces = false) : vx_Met l yX8_rowOf (.code yX8_rowOf cX8_rowOf 2 (some .int) :: GW) ({ frames := 7, cells := 1, slots := 6, locals := 116 }) (va_Pc [.ref ((ad 7) 0), .int (zI x)] (wrK dg ck ka sz (brkC ad Z ++ (booksC ck (ad 0) S ++ (booksC ck (ad 1) T ++ (outC ((ad 7) 1) O ++ (booksC ck (ad 2) P ++ (nobjC (ad 3) ++ (rowC ck 36 ((ad 3) 1) V ++ (rowC ck 36 ((ad 3) 2) N ++ (inputC ck ka (ad 5) I ++ (sboC (ad 6) U ++ (sbvC ck ((ad 6) 1) Y ++ (histW ck (ad 4) ra X Q)))))))))))))) (va_Qi (fun r (_ : Unit) => r = zI (S 1 x) ∧ isBench S x) (fun _ t9 => wrQ dg sz (brkC ad Z ++ (booksC ck (ad 0) S ++ (booksC ck (ad 1) T ++ (outC ((ad 7) 1) O ++ (booksC ck (ad 2) P ++ (nobjC (ad 3) ++ (rowC ck 36 ((ad 3) 1) V ++ (rowC ck 36 ((ad 3) 2) N ++ (inputC ck ka (ad 5) I ++ (sboC (ad 6) U ++ (sbvC ck ((ad 6) 1) Y ++ (histW ck (ad 4) ra X Q)))))))))))) (brkW ck ka ad ra Z O U X S T P I V N Y Q) t9) (va_A (brkC ad Z ++ (booksC ck (ad 0) S ++ (booksC ck (ad 1) T ++ (outC ((ad 7) 1) O ++ (booksC ck (ad 2) P ++ (nobjC (ad 3) ++ (rowC ck 36 ((ad 3) 1) V ++ (rowC ck 36 ((ad 3) 2) N ++ (inputC ck ka (ad 5) I ++ (sboC (ad 6) U ++ (sbvC ck ((ad 6) 1) Y ++ (histW ck (ad 4) ra X Q)))))))))))) sz)) (vx_X (fun _ : Unit => True) (fun E (_ : Unit) t9 => (E = "java/lang/IndexOutOfBoundsException" ∧ ¬ (isBench S x)) ∧ wrQ dg sz (brkC ad Z ++ (booksC ck (ad 0) S ++ (booksC ck (ad 1) T ++ (outC ((ad 7) 1) O ++ (booksC ck (ad 2) P ++ (nobjC (ad 3) ++ (rowC ck 36 ((ad 3) 1) V ++ (rowC ck 36 ((ad 3) 2) N ++ (inputC ck ka (ad 5) I ++ (sboC (ad 6) U ++ (sbvC ck ((ad 6) 1) Y ++ (histW ck (ad 4) ra X Q)))))))))))) (brkW ck ka ad ra Z O U X S T P I V N Y Q) t9) (va_A (brkC ad Z ++ (booksC ck (ad 0) S ++ (booksC ck (ad 1) T ++ (outC ((ad 7) 1) O ++ (booksC ck (ad 2) P ++ (nobjC (ad 3) ++ (rowC ck 36 ((ad 3) 1) V ++ (rowC ck 36 ((ad 3) 2) N ++ (inputC ck ka (ad 5) I ++ (sboC (ad 6) U ++ (sbvC ck ((ad 6) 1) Y ++ (histW ck (ad 4) ra X Q)))))))))))) sz)) 1 6 (va_A (brkC ad Z ++ (booksC ck (ad 0) S ++ (booksC ck (ad 1) T ++ (outC ((ad 7) 1) O ++ (booksC ck (ad 2) P ++ (nobjC (ad 3) ++ (rowC ck 36 ((ad 3) 1) V ++ (rowC ck 36 ((ad 3) 2) N ++ (inputC ck ka (ad 5) I ++ (sboC (ad 6) U ++ (sbvC ck ((ad 6) 1) Y ++ (histW ck (ad 4) ra X Q)))))))))))) sz) := by
  refine vx_ofW (cc := cX8_rowOf) (maxL := 2) (ret := (some .int)) (by decide) rfl ?_
  intro p e s m args below meth c s₁ B hml htab hv
  obtain ⟨rfl, ⟨hsz, hP, hK, hD0⟩, hC⟩ := hv
  have hx := B.exec
  have hb := B.bytes
  have hr := B.returns
  have hts := atoms_spec (ws := .code yX8_rowOf cX8_rowOf 2 (some .int) :: GW) B.pre
  have htg : ∀ w ∈ GW, w.before _ s = true := fun w h => hts w (List.mem_cons_of_mem _ h)
  have hown : s.vm.findClass RX8 = some m.cls := findClass_of_methodNamed B.named
  have hlocks := B.notSynchronized
  subst hsz
  have hD := hD0.self (sz := s.heap.size)
  generalize hAe : va_A (brkC ad Z ++ (booksC ck (ad 0) S ++ (booksC ck (ad 1) T ++ (outC ((ad 7) 1) O ++ (booksC ck (ad 2) P ++ (nobjC (ad 3) ++ (rowC ck 36 ((ad 3) 1) V ++ (rowC ck 36 ((ad 3) 2) N ++ (inputC ck ka (ad 5) I ++ (sboC (ad 6) U ++ (sbvC ck ((ad 6) 1) Y ++ (histW ck (ad 4) ra X Q)))))))))))) s.heap.size = A at hD hC ⊢
  have hA : ∀ q : Nat, s.heap.size ≤ q → A q := fun q h => by rw [← hAe]; exact Or.inr h
  have hS : va_S A s.heap s.heap [] := va_S.rf
  have hP : va_P dg vwCl (brkC ad Z ++ (booksC ck (ad 0) S ++ (booksC ck (ad 1) T ++ (outC ((ad 7) 1) O ++ (booksC ck (ad 2) P ++ (nobjC (ad 3) ++ (rowC ck 36 ((ad 3) 1) V ++ (rowC ck 36 ((ad 3) 2) N ++ (inputC ck ka (ad 5) I ++ (sboC (ad 6) U ++ (sbvC ck ((ad 6) 1) Y ++ (histW ck (ad 4) ra X Q)))))))))))) s.heap := hP
  have hl := lv_entry ([.ref ((ad 7) 0), .int (zI x)]) (n := 2) (Nat.le_of_ble_eq_true rfl)
  rw [lg_entry_eq]
  generalize (lg_sl ([.ref ((ad 7) 0), .int (zI x)]) ++ List.replicate (2 - (lg_sl ([.ref ((ad 7) 0), .int (zI x)])).length) Slot.unset).toArray = ls at hl ⊢
  have hl : lv_has ls 2 [(0, .ref ((ad 7) 0)), (1, .int (zI x))] := hl
  obtain ⟨b00, b01, b02, b03, b1, b2, b3, b4, b5, b6, b7, b8, b9, b10, b11, b12⟩ := id hI
  refine lv_aload_n hx hb dX8_rowOf_0 rfl (lv_at hl 0 rfl) ?_
  refine lv_iload_n hx hb dX8_rowOf_1 rfl (lv_at hl 1 rfl) ?_
  refine xx_callv hP hD hS hA (vx_runV (As := [.int (zI x)]) (rest := []) ⟨hx, hb, hml, hown, htg⟩ (x_needBench l dg ck ka ad ra Z O U X S T P I V N Y Q x _ hI (by omega) hst) (cwV 1 htg (gwV wq_425 wq_427 wp_1 wq_1 wq_428) rfl rfl rfl (by decide +kernel) ⟨Nat.le_of_ble_eq_true rfl, Nat.le_of_ble_eq_true rfl⟩) (wrK_preV hK hP hD hC hS hA 0 10 rfl rfl) rfl rfl hl.1 rfl (lv_room (Nat.le_of_ble_eq_true rfl)) dX8_rowOf_2 ⟨Nat.le_of_ble_eq_true rfl, Nat.le_of_ble_eq_true rfl⟩) (fun E9 ce9 q9 H locs hE9 hP hD hS g1 g2 g3 => ?_) (fun H locs hn2 hP hD hS => ?_)
  · have hEqX : brkW ck ka ad ra Z O U X S T P I V N Y Q = brkC ad Z ++ (booksC ck (ad 0) S ++ (booksC ck (ad 1) T ++ (outC ((ad 7) 1) O ++ (booksC ck (ad 2) P ++ (nobjC (ad 3) ++ (rowC ck 36 ((ad 3) 1) V ++ (rowC ck 36 ((ad 3) 2) N ++ (inputC ck ka (ad 5) I ++ (sboC (ad 6) U ++ (sbvC ck ((ad 6) 1) Y ++ (histW ck (ad 4) ra X Q))))))))))) := rfl
    exact x_outX (XP := fun E => E = "java/lang/IndexOutOfBoundsException" ∧ ¬ (isBench S x)) hAe htab hlocks (by rw [hEqX]; exact hP) (by rw [hEqX]; exact hD) hS hE9 g1 g2 g3 (Nat.le_of_ble_eq_true rfl) (Nat.le_of_ble_eq_true rfl)
  have hP : va_P dg vwCl (brkC ad Z ++ (booksC ck (ad 0) S ++ (booksC ck (ad 1) T ++ (outC ((ad 7) 1) O ++ (booksC ck (ad 2) P ++ (nobjC (ad 3) ++ (rowC ck 36 ((ad 3) 1) V ++ (rowC ck 36 ((ad 3) 2) N ++ (inputC ck ka (ad 5) I ++ (sboC (ad 6) U ++ (sbvC ck ((ad 6) 1) Y ++ (histW ck (ad 4) ra X Q)))))))))))) H := hP
  have hD : va_D A (brkC ad Z ++ (booksC ck (ad 0) S ++ (booksC ck (ad 1) T ++ (outC ((ad 7) 1) O ++ (booksC ck (ad 2) P ++ (nobjC (ad 3) ++ (rowC ck 36 ((ad 3) 1) V ++ (rowC ck 36 ((ad 3) 2) N ++ (inputC ck ka (ad 5) I ++ (sboC (ad 6) U ++ (sbvC ck ((ad 6) 1) Y ++ (histW ck (ad 4) ra X Q)))))))))))) := hD
  refine lv_aload_n hx hb dX8_rowOf_5 rfl (lv_at hl 0 rfl) ?_
  refine va_get (D := dg) (ci := 10) (v := .ref ((ad 0) 0)) (C := RX8) (T := TX8) (N := 13) hx hb htg inG_X8 hown hK hP 0 rfl rfl 0 (Nat.le_of_ble_eq_true rfl) (htg _ wq_279) (fun _ h9 => h9) rfl dX8_rowOf_6 ?_
  refine va_get (D := dg) (ci := 4) (v := .ref ((ad 0) 6)) (C := RX1) (T := TX1) (N := 13) hx hb htg inG_X1 hown hK hP 1 rfl rfl 0 (Nat.le_of_ble_eq_true rfl) (htg _ wq_107) (fun _ h9 => h9) rfl dX8_rowOf_9 ?_
  refine va_get (D := dg) (ci := 9) (v := .ref ((ad 0) 7)) (C := RX6) (T := TX6) (N := 10) hx hb htg inG_X6 hown hK hP 7 rfl rfl 1 (Nat.le_of_ble_eq_true rfl) (htg _ wq_58) (fun _ h9 => h9) rfl dX8_rowOf_12 ?_
  refine lv_iload_n hx hb dX8_rowOf_15 rfl (lv_at hl 1 rfl) ?_
  refine x_iald hx hb hK hP 8 0 (S 1) rfl rfl (fun _ => rfl) (P := fun y => 0 ≤ y ∧ y ≤ 5) b1 (by decide) (by omega) dX8_rowOf_16 (fun g16 => ?_)
  have hEq : brkW ck ka ad ra Z O U X S T P I V N Y Q = brkC ad Z ++ (booksC ck (ad 0) S ++ (booksC ck (ad 1) T ++ (outC ((ad 7) 1) O ++ (booksC ck (ad 2) P ++ (nobjC (ad 3) ++ (rowC ck 36 ((ad 3) 1) V ++ (rowC ck 36 ((ad 3) 2) N ++ (inputC ck ka (ad 5) I ++ (sboC (ad 6) U ++ (sbvC ck ((ad 6) 1) Y ++ (histW ck (ad 4) ra X Q))))))))))) := rfl
  exact W.widen (k := 1) (n := 6) (Nat.le_of_ble_eq_true rfl) (Nat.le_of_ble_eq_true rfl) (vx_ret (W.iret (v := _) hx hb hr (fun t9 ht9 hW9 => ⟨⟨_, (), rfl, ⟨rfl, hn2⟩, by rw [ht9, hEq]; exact hP, by rw [hEq, hAe]; exact hD⟩, hS.F ht9⟩) hS.2.2 dX8_rowOf_17))

set_option maxHeartbeats 4000000 in
set_option maxRecDepth 100000 in
/-- BenchBroker.columnOf -/
theorem x_columnOf (l : Launch) (dg : va_G) (ck : Nat → ClassId) (ka : Nat → Nat) (ad ra : Nat → Nat → Nat) (Z O U X : Nat → Int) (S T P I : St) (V N Y : Int → Int) (Q : Nat → St) (x : Int) (sz : Nat) (hI : Bd S) (rg_x : -2147483648 ≤ x ∧ x < 2147483648) (hst : l.stackTraces = false) : vx_Met l yX8_columnOf (.code yX8_columnOf cX8_columnOf 2 (some .int) :: GW) ({ frames := 7, cells := 1, slots := 6, locals := 116 }) (va_Pc [.ref ((ad 7) 0), .int (zI x)] (wrK dg ck ka sz (brkC ad Z ++ (booksC ck (ad 0) S ++ (booksC ck (ad 1) T ++ (outC ((ad 7) 1) O ++ (booksC ck (ad 2) P ++ (nobjC (ad 3) ++ (rowC ck 36 ((ad 3) 1) V ++ (rowC ck 36 ((ad 3) 2) N ++ (inputC ck ka (ad 5) I ++ (sboC (ad 6) U ++ (sbvC ck ((ad 6) 1) Y ++ (histW ck (ad 4) ra X Q)))))))))))))) (va_Qi (fun r (_ : Unit) => r = zI (S 2 x) ∧ isBench S x) (fun _ t9 => wrQ dg sz (brkC ad Z ++ (booksC ck (ad 0) S ++ (booksC ck (ad 1) T ++ (outC ((ad 7) 1) O ++ (booksC ck (ad 2) P ++ (nobjC (ad 3) ++ (rowC ck 36 ((ad 3) 1) V ++ (rowC ck 36 ((ad 3) 2) N ++ (inputC ck ka (ad 5) I ++ (sboC (ad 6) U ++ (sbvC ck ((ad 6) 1) Y ++ (histW ck (ad 4) ra X Q)))))))))))) (brkW ck ka ad ra Z O U X S T P I V N Y Q) t9) (va_A (brkC ad Z ++ (booksC ck (ad 0) S ++ (booksC ck (ad 1) T ++ (outC ((ad 7) 1) O ++ (booksC ck (ad 2) P ++ (nobjC (ad 3) ++ (rowC ck 36 ((ad 3) 1) V ++ (rowC ck 36 ((ad 3) 2) N ++ (inputC ck ka (ad 5) I ++ (sboC (ad 6) U ++ (sbvC ck ((ad 6) 1) Y ++ (histW ck (ad 4) ra X Q)))))))))))) sz)) (vx_X (fun _ : Unit => True) (fun E (_ : Unit) t9 => (E = "java/lang/IndexOutOfBoundsException" ∧ ¬ (isBench S x)) ∧ wrQ dg sz (brkC ad Z ++ (booksC ck (ad 0) S ++ (booksC ck (ad 1) T ++ (outC ((ad 7) 1) O ++ (booksC ck (ad 2) P ++ (nobjC (ad 3) ++ (rowC ck 36 ((ad 3) 1) V ++ (rowC ck 36 ((ad 3) 2) N ++ (inputC ck ka (ad 5) I ++ (sboC (ad 6) U ++ (sbvC ck ((ad 6) 1) Y ++ (histW ck (ad 4) ra X Q)))))))))))) (brkW ck ka ad ra Z O U X S T P I V N Y Q) t9) (va_A (brkC ad Z ++ (booksC ck (ad 0) S ++ (booksC ck (ad 1) T ++ (outC ((ad 7) 1) O ++ (booksC ck (ad 2) P ++ (nobjC (ad 3) ++ (rowC ck 36 ((ad 3) 1) V ++ (rowC ck 36 ((ad 3) 2) N ++ (inputC ck ka (ad 5) I ++ (sboC (ad 6) U ++ (sbvC ck ((ad 6) 1) Y ++ (histW ck (ad 4) ra X Q)))))))))))) sz)) 1 6 (va_A (brkC ad Z ++ (booksC ck (ad 0) S ++ (booksC ck (ad 1) T ++ (outC ((ad 7) 1) O ++ (booksC ck (ad 2) P ++ (nobjC (ad 3) ++ (rowC ck 36 ((ad 3) 1) V ++ (rowC ck 36 ((ad 3) 2) N ++ (inputC ck ka (ad 5) I ++ (sboC (ad 6) U ++ (sbvC ck ((ad 6) 1) Y ++ (histW ck (ad 4) ra X Q)))))))))))) sz) := by
  refine vx_ofW (cc := cX8_columnOf) (maxL := 2) (ret := (some .int)) (by decide) rfl ?_
  intro p e s m args below meth c s₁ B hml htab hv
  obtain ⟨rfl, ⟨hsz, hP, hK, hD0⟩, hC⟩ := hv
  have hx := B.exec
  have hb := B.bytes
  have hr := B.returns
  have hts := atoms_spec (ws := .code yX8_columnOf cX8_columnOf 2 (some .int) :: GW) B.pre
  have htg : ∀ w ∈ GW, w.before _ s = true := fun w h => hts w (List.mem_cons_of_mem _ h)
  have hown : s.vm.findClass RX8 = some m.cls := findClass_of_methodNamed B.named
  have hlocks := B.notSynchronized
  subst hsz
  have hD := hD0.self (sz := s.heap.size)
  generalize hAe : va_A (brkC ad Z ++ (booksC ck (ad 0) S ++ (booksC ck (ad 1) T ++ (outC ((ad 7) 1) O ++ (booksC ck (ad 2) P ++ (nobjC (ad 3) ++ (rowC ck 36 ((ad 3) 1) V ++ (rowC ck 36 ((ad 3) 2) N ++ (inputC ck ka (ad 5) I ++ (sboC (ad 6) U ++ (sbvC ck ((ad 6) 1) Y ++ (histW ck (ad 4) ra X Q)))))))))))) s.heap.size = A at hD hC ⊢
  have hA : ∀ q : Nat, s.heap.size ≤ q → A q := fun q h => by rw [← hAe]; exact Or.inr h
  have hS : va_S A s.heap s.heap [] := va_S.rf
  have hP : va_P dg vwCl (brkC ad Z ++ (booksC ck (ad 0) S ++ (booksC ck (ad 1) T ++ (outC ((ad 7) 1) O ++ (booksC ck (ad 2) P ++ (nobjC (ad 3) ++ (rowC ck 36 ((ad 3) 1) V ++ (rowC ck 36 ((ad 3) 2) N ++ (inputC ck ka (ad 5) I ++ (sboC (ad 6) U ++ (sbvC ck ((ad 6) 1) Y ++ (histW ck (ad 4) ra X Q)))))))))))) s.heap := hP
  have hl := lv_entry ([.ref ((ad 7) 0), .int (zI x)]) (n := 2) (Nat.le_of_ble_eq_true rfl)
  rw [lg_entry_eq]
  generalize (lg_sl ([.ref ((ad 7) 0), .int (zI x)]) ++ List.replicate (2 - (lg_sl ([.ref ((ad 7) 0), .int (zI x)])).length) Slot.unset).toArray = ls at hl ⊢
  have hl : lv_has ls 2 [(0, .ref ((ad 7) 0)), (1, .int (zI x))] := hl
  obtain ⟨b00, b01, b02, b03, b1, b2, b3, b4, b5, b6, b7, b8, b9, b10, b11, b12⟩ := id hI
  refine lv_aload_n hx hb dX8_columnOf_0 rfl (lv_at hl 0 rfl) ?_
  refine lv_iload_n hx hb dX8_columnOf_1 rfl (lv_at hl 1 rfl) ?_
  refine xx_callv hP hD hS hA (vx_runV (As := [.int (zI x)]) (rest := []) ⟨hx, hb, hml, hown, htg⟩ (x_needBench l dg ck ka ad ra Z O U X S T P I V N Y Q x _ hI (by omega) hst) (cwV 1 htg (gwV wq_425 wq_427 wp_1 wq_1 wq_428) rfl rfl rfl (by decide +kernel) ⟨Nat.le_of_ble_eq_true rfl, Nat.le_of_ble_eq_true rfl⟩) (wrK_preV hK hP hD hC hS hA 0 10 rfl rfl) rfl rfl hl.1 rfl (lv_room (Nat.le_of_ble_eq_true rfl)) dX8_columnOf_2 ⟨Nat.le_of_ble_eq_true rfl, Nat.le_of_ble_eq_true rfl⟩) (fun E9 ce9 q9 H locs hE9 hP hD hS g1 g2 g3 => ?_) (fun H locs hn2 hP hD hS => ?_)
  · have hEqX : brkW ck ka ad ra Z O U X S T P I V N Y Q = brkC ad Z ++ (booksC ck (ad 0) S ++ (booksC ck (ad 1) T ++ (outC ((ad 7) 1) O ++ (booksC ck (ad 2) P ++ (nobjC (ad 3) ++ (rowC ck 36 ((ad 3) 1) V ++ (rowC ck 36 ((ad 3) 2) N ++ (inputC ck ka (ad 5) I ++ (sboC (ad 6) U ++ (sbvC ck ((ad 6) 1) Y ++ (histW ck (ad 4) ra X Q))))))))))) := rfl
    exact x_outX (XP := fun E => E = "java/lang/IndexOutOfBoundsException" ∧ ¬ (isBench S x)) hAe htab hlocks (by rw [hEqX]; exact hP) (by rw [hEqX]; exact hD) hS hE9 g1 g2 g3 (Nat.le_of_ble_eq_true rfl) (Nat.le_of_ble_eq_true rfl)
  have hP : va_P dg vwCl (brkC ad Z ++ (booksC ck (ad 0) S ++ (booksC ck (ad 1) T ++ (outC ((ad 7) 1) O ++ (booksC ck (ad 2) P ++ (nobjC (ad 3) ++ (rowC ck 36 ((ad 3) 1) V ++ (rowC ck 36 ((ad 3) 2) N ++ (inputC ck ka (ad 5) I ++ (sboC (ad 6) U ++ (sbvC ck ((ad 6) 1) Y ++ (histW ck (ad 4) ra X Q)))))))))))) H := hP
  have hD : va_D A (brkC ad Z ++ (booksC ck (ad 0) S ++ (booksC ck (ad 1) T ++ (outC ((ad 7) 1) O ++ (booksC ck (ad 2) P ++ (nobjC (ad 3) ++ (rowC ck 36 ((ad 3) 1) V ++ (rowC ck 36 ((ad 3) 2) N ++ (inputC ck ka (ad 5) I ++ (sboC (ad 6) U ++ (sbvC ck ((ad 6) 1) Y ++ (histW ck (ad 4) ra X Q)))))))))))) := hD
  refine lv_aload_n hx hb dX8_columnOf_5 rfl (lv_at hl 0 rfl) ?_
  refine va_get (D := dg) (ci := 10) (v := .ref ((ad 0) 0)) (C := RX8) (T := TX8) (N := 13) hx hb htg inG_X8 hown hK hP 0 rfl rfl 0 (Nat.le_of_ble_eq_true rfl) (htg _ wq_279) (fun _ h9 => h9) rfl dX8_columnOf_6 ?_
  refine va_get (D := dg) (ci := 4) (v := .ref ((ad 0) 6)) (C := RX1) (T := TX1) (N := 13) hx hb htg inG_X1 hown hK hP 1 rfl rfl 0 (Nat.le_of_ble_eq_true rfl) (htg _ wq_107) (fun _ h9 => h9) rfl dX8_columnOf_9 ?_
  refine va_get (D := dg) (ci := 9) (v := .ref ((ad 0) 8)) (C := RX6) (T := TX6) (N := 10) hx hb htg inG_X6 hown hK hP 7 rfl rfl 2 (Nat.le_of_ble_eq_true rfl) (htg _ wq_62) (fun _ h9 => h9) rfl dX8_columnOf_12 ?_
  refine lv_iload_n hx hb dX8_columnOf_15 rfl (lv_at hl 1 rfl) ?_
  refine x_iald hx hb hK hP 9 0 (S 2) rfl rfl (fun _ => rfl) (P := fun y => 0 ≤ y ∧ y ≤ 5) b2 (by decide) (by omega) dX8_columnOf_16 (fun g16 => ?_)
  have hEq : brkW ck ka ad ra Z O U X S T P I V N Y Q = brkC ad Z ++ (booksC ck (ad 0) S ++ (booksC ck (ad 1) T ++ (outC ((ad 7) 1) O ++ (booksC ck (ad 2) P ++ (nobjC (ad 3) ++ (rowC ck 36 ((ad 3) 1) V ++ (rowC ck 36 ((ad 3) 2) N ++ (inputC ck ka (ad 5) I ++ (sboC (ad 6) U ++ (sbvC ck ((ad 6) 1) Y ++ (histW ck (ad 4) ra X Q))))))))))) := rfl
  exact W.widen (k := 1) (n := 6) (Nat.le_of_ble_eq_true rfl) (Nat.le_of_ble_eq_true rfl) (vx_ret (W.iret (v := _) hx hb hr (fun t9 ht9 hW9 => ⟨⟨_, (), rfl, ⟨rfl, hn2⟩, by rw [ht9, hEq]; exact hP, by rw [hEq, hAe]; exact hD⟩, hS.F ht9⟩) hS.2.2 dX8_columnOf_17))

set_option maxHeartbeats 4000000 in
set_option maxRecDepth 100000 in
/-- BenchBroker.baseRent -/
theorem x_baseRent (l : Launch) (dg : va_G) (ck : Nat → ClassId) (ka : Nat → Nat) (ad ra : Nat → Nat → Nat) (Z O U X : Nat → Int) (S T P I : St) (V N Y : Int → Int) (Q : Nat → St) (x : Int) (sz : Nat) (hI : Bd S) (rg_x : -2147483648 ≤ x ∧ x < 2147483648) (hst : l.stackTraces = false) : vx_Met l yX8_baseRent (.code yX8_baseRent cX8_baseRent 2 (some .int) :: GW) ({ frames := 7, cells := 1, slots := 6, locals := 116 }) (va_Pc [.ref ((ad 7) 0), .int (zI x)] (wrK dg ck ka sz (brkC ad Z ++ (booksC ck (ad 0) S ++ (booksC ck (ad 1) T ++ (outC ((ad 7) 1) O ++ (booksC ck (ad 2) P ++ (nobjC (ad 3) ++ (rowC ck 36 ((ad 3) 1) V ++ (rowC ck 36 ((ad 3) 2) N ++ (inputC ck ka (ad 5) I ++ (sboC (ad 6) U ++ (sbvC ck ((ad 6) 1) Y ++ (histW ck (ad 4) ra X Q)))))))))))))) (va_Qi (fun r (_ : Unit) => r = zI (S 3 x) ∧ isBench S x) (fun _ t9 => wrQ dg sz (brkC ad Z ++ (booksC ck (ad 0) S ++ (booksC ck (ad 1) T ++ (outC ((ad 7) 1) O ++ (booksC ck (ad 2) P ++ (nobjC (ad 3) ++ (rowC ck 36 ((ad 3) 1) V ++ (rowC ck 36 ((ad 3) 2) N ++ (inputC ck ka (ad 5) I ++ (sboC (ad 6) U ++ (sbvC ck ((ad 6) 1) Y ++ (histW ck (ad 4) ra X Q)))))))))))) (brkW ck ka ad ra Z O U X S T P I V N Y Q) t9) (va_A (brkC ad Z ++ (booksC ck (ad 0) S ++ (booksC ck (ad 1) T ++ (outC ((ad 7) 1) O ++ (booksC ck (ad 2) P ++ (nobjC (ad 3) ++ (rowC ck 36 ((ad 3) 1) V ++ (rowC ck 36 ((ad 3) 2) N ++ (inputC ck ka (ad 5) I ++ (sboC (ad 6) U ++ (sbvC ck ((ad 6) 1) Y ++ (histW ck (ad 4) ra X Q)))))))))))) sz)) (vx_X (fun _ : Unit => True) (fun E (_ : Unit) t9 => (E = "java/lang/IndexOutOfBoundsException" ∧ ¬ (isBench S x)) ∧ wrQ dg sz (brkC ad Z ++ (booksC ck (ad 0) S ++ (booksC ck (ad 1) T ++ (outC ((ad 7) 1) O ++ (booksC ck (ad 2) P ++ (nobjC (ad 3) ++ (rowC ck 36 ((ad 3) 1) V ++ (rowC ck 36 ((ad 3) 2) N ++ (inputC ck ka (ad 5) I ++ (sboC (ad 6) U ++ (sbvC ck ((ad 6) 1) Y ++ (histW ck (ad 4) ra X Q)))))))))))) (brkW ck ka ad ra Z O U X S T P I V N Y Q) t9) (va_A (brkC ad Z ++ (booksC ck (ad 0) S ++ (booksC ck (ad 1) T ++ (outC ((ad 7) 1) O ++ (booksC ck (ad 2) P ++ (nobjC (ad 3) ++ (rowC ck 36 ((ad 3) 1) V ++ (rowC ck 36 ((ad 3) 2) N ++ (inputC ck ka (ad 5) I ++ (sboC (ad 6) U ++ (sbvC ck ((ad 6) 1) Y ++ (histW ck (ad 4) ra X Q)))))))))))) sz)) 1 6 (va_A (brkC ad Z ++ (booksC ck (ad 0) S ++ (booksC ck (ad 1) T ++ (outC ((ad 7) 1) O ++ (booksC ck (ad 2) P ++ (nobjC (ad 3) ++ (rowC ck 36 ((ad 3) 1) V ++ (rowC ck 36 ((ad 3) 2) N ++ (inputC ck ka (ad 5) I ++ (sboC (ad 6) U ++ (sbvC ck ((ad 6) 1) Y ++ (histW ck (ad 4) ra X Q)))))))))))) sz) := by
  refine vx_ofW (cc := cX8_baseRent) (maxL := 2) (ret := (some .int)) (by decide) rfl ?_
  intro p e s m args below meth c s₁ B hml htab hv
  obtain ⟨rfl, ⟨hsz, hP, hK, hD0⟩, hC⟩ := hv
  have hx := B.exec
  have hb := B.bytes
  have hr := B.returns
  have hts := atoms_spec (ws := .code yX8_baseRent cX8_baseRent 2 (some .int) :: GW) B.pre
  have htg : ∀ w ∈ GW, w.before _ s = true := fun w h => hts w (List.mem_cons_of_mem _ h)
  have hown : s.vm.findClass RX8 = some m.cls := findClass_of_methodNamed B.named
  have hlocks := B.notSynchronized
  subst hsz
  have hD := hD0.self (sz := s.heap.size)
  generalize hAe : va_A (brkC ad Z ++ (booksC ck (ad 0) S ++ (booksC ck (ad 1) T ++ (outC ((ad 7) 1) O ++ (booksC ck (ad 2) P ++ (nobjC (ad 3) ++ (rowC ck 36 ((ad 3) 1) V ++ (rowC ck 36 ((ad 3) 2) N ++ (inputC ck ka (ad 5) I ++ (sboC (ad 6) U ++ (sbvC ck ((ad 6) 1) Y ++ (histW ck (ad 4) ra X Q)))))))))))) s.heap.size = A at hD hC ⊢
  have hA : ∀ q : Nat, s.heap.size ≤ q → A q := fun q h => by rw [← hAe]; exact Or.inr h
  have hS : va_S A s.heap s.heap [] := va_S.rf
  have hP : va_P dg vwCl (brkC ad Z ++ (booksC ck (ad 0) S ++ (booksC ck (ad 1) T ++ (outC ((ad 7) 1) O ++ (booksC ck (ad 2) P ++ (nobjC (ad 3) ++ (rowC ck 36 ((ad 3) 1) V ++ (rowC ck 36 ((ad 3) 2) N ++ (inputC ck ka (ad 5) I ++ (sboC (ad 6) U ++ (sbvC ck ((ad 6) 1) Y ++ (histW ck (ad 4) ra X Q)))))))))))) s.heap := hP
  have hl := lv_entry ([.ref ((ad 7) 0), .int (zI x)]) (n := 2) (Nat.le_of_ble_eq_true rfl)
  rw [lg_entry_eq]
  generalize (lg_sl ([.ref ((ad 7) 0), .int (zI x)]) ++ List.replicate (2 - (lg_sl ([.ref ((ad 7) 0), .int (zI x)])).length) Slot.unset).toArray = ls at hl ⊢
  have hl : lv_has ls 2 [(0, .ref ((ad 7) 0)), (1, .int (zI x))] := hl
  obtain ⟨b00, b01, b02, b03, b1, b2, b3, b4, b5, b6, b7, b8, b9, b10, b11, b12⟩ := id hI
  refine lv_aload_n hx hb dX8_baseRent_0 rfl (lv_at hl 0 rfl) ?_
  refine lv_iload_n hx hb dX8_baseRent_1 rfl (lv_at hl 1 rfl) ?_
  refine xx_callv hP hD hS hA (vx_runV (As := [.int (zI x)]) (rest := []) ⟨hx, hb, hml, hown, htg⟩ (x_needBench l dg ck ka ad ra Z O U X S T P I V N Y Q x _ hI (by omega) hst) (cwV 1 htg (gwV wq_425 wq_427 wp_1 wq_1 wq_428) rfl rfl rfl (by decide +kernel) ⟨Nat.le_of_ble_eq_true rfl, Nat.le_of_ble_eq_true rfl⟩) (wrK_preV hK hP hD hC hS hA 0 10 rfl rfl) rfl rfl hl.1 rfl (lv_room (Nat.le_of_ble_eq_true rfl)) dX8_baseRent_2 ⟨Nat.le_of_ble_eq_true rfl, Nat.le_of_ble_eq_true rfl⟩) (fun E9 ce9 q9 H locs hE9 hP hD hS g1 g2 g3 => ?_) (fun H locs hn2 hP hD hS => ?_)
  · have hEqX : brkW ck ka ad ra Z O U X S T P I V N Y Q = brkC ad Z ++ (booksC ck (ad 0) S ++ (booksC ck (ad 1) T ++ (outC ((ad 7) 1) O ++ (booksC ck (ad 2) P ++ (nobjC (ad 3) ++ (rowC ck 36 ((ad 3) 1) V ++ (rowC ck 36 ((ad 3) 2) N ++ (inputC ck ka (ad 5) I ++ (sboC (ad 6) U ++ (sbvC ck ((ad 6) 1) Y ++ (histW ck (ad 4) ra X Q))))))))))) := rfl
    exact x_outX (XP := fun E => E = "java/lang/IndexOutOfBoundsException" ∧ ¬ (isBench S x)) hAe htab hlocks (by rw [hEqX]; exact hP) (by rw [hEqX]; exact hD) hS hE9 g1 g2 g3 (Nat.le_of_ble_eq_true rfl) (Nat.le_of_ble_eq_true rfl)
  have hP : va_P dg vwCl (brkC ad Z ++ (booksC ck (ad 0) S ++ (booksC ck (ad 1) T ++ (outC ((ad 7) 1) O ++ (booksC ck (ad 2) P ++ (nobjC (ad 3) ++ (rowC ck 36 ((ad 3) 1) V ++ (rowC ck 36 ((ad 3) 2) N ++ (inputC ck ka (ad 5) I ++ (sboC (ad 6) U ++ (sbvC ck ((ad 6) 1) Y ++ (histW ck (ad 4) ra X Q)))))))))))) H := hP
  have hD : va_D A (brkC ad Z ++ (booksC ck (ad 0) S ++ (booksC ck (ad 1) T ++ (outC ((ad 7) 1) O ++ (booksC ck (ad 2) P ++ (nobjC (ad 3) ++ (rowC ck 36 ((ad 3) 1) V ++ (rowC ck 36 ((ad 3) 2) N ++ (inputC ck ka (ad 5) I ++ (sboC (ad 6) U ++ (sbvC ck ((ad 6) 1) Y ++ (histW ck (ad 4) ra X Q)))))))))))) := hD
  refine lv_aload_n hx hb dX8_baseRent_5 rfl (lv_at hl 0 rfl) ?_
  refine va_get (D := dg) (ci := 10) (v := .ref ((ad 0) 0)) (C := RX8) (T := TX8) (N := 13) hx hb htg inG_X8 hown hK hP 0 rfl rfl 0 (Nat.le_of_ble_eq_true rfl) (htg _ wq_279) (fun _ h9 => h9) rfl dX8_baseRent_6 ?_
  refine va_get (D := dg) (ci := 4) (v := .ref ((ad 0) 6)) (C := RX1) (T := TX1) (N := 13) hx hb htg inG_X1 hown hK hP 1 rfl rfl 0 (Nat.le_of_ble_eq_true rfl) (htg _ wq_107) (fun _ h9 => h9) rfl dX8_baseRent_9 ?_
  refine va_get (D := dg) (ci := 9) (v := .ref ((ad 0) 9)) (C := RX6) (T := TX6) (N := 10) hx hb htg inG_X6 hown hK hP 7 rfl rfl 3 (Nat.le_of_ble_eq_true rfl) (htg _ wq_64) (fun _ h9 => h9) rfl dX8_baseRent_12 ?_
  refine lv_iload_n hx hb dX8_baseRent_15 rfl (lv_at hl 1 rfl) ?_
  refine x_iald hx hb hK hP 10 0 (S 3) rfl rfl (fun _ => rfl) (P := fun y => 0 ≤ y ∧ y ≤ 20) b3 (by decide) (by omega) dX8_baseRent_16 (fun g16 => ?_)
  have hEq : brkW ck ka ad ra Z O U X S T P I V N Y Q = brkC ad Z ++ (booksC ck (ad 0) S ++ (booksC ck (ad 1) T ++ (outC ((ad 7) 1) O ++ (booksC ck (ad 2) P ++ (nobjC (ad 3) ++ (rowC ck 36 ((ad 3) 1) V ++ (rowC ck 36 ((ad 3) 2) N ++ (inputC ck ka (ad 5) I ++ (sboC (ad 6) U ++ (sbvC ck ((ad 6) 1) Y ++ (histW ck (ad 4) ra X Q))))))))))) := rfl
  exact W.widen (k := 1) (n := 6) (Nat.le_of_ble_eq_true rfl) (Nat.le_of_ble_eq_true rfl) (vx_ret (W.iret (v := _) hx hb hr (fun t9 ht9 hW9 => ⟨⟨_, (), rfl, ⟨rfl, hn2⟩, by rw [ht9, hEq]; exact hP, by rw [hEq, hAe]; exact hD⟩, hS.F ht9⟩) hS.2.2 dX8_baseRent_17))

set_option maxHeartbeats 4000000 in
set_option maxRecDepth 100000 in
/-- BenchBroker.rentOf -/
theorem x_rentOf (l : Launch) (dg : va_G) (ck : Nat → ClassId) (ka : Nat → Nat) (ad ra : Nat → Nat → Nat) (Z O U X : Nat → Int) (S T P I : St) (V N Y : Int → Int) (Q : Nat → St) (x : Int) (sz : Nat) (hI : Bd S) (rg_x : -2147483648 ≤ x ∧ x < 2147483648) (hst : l.stackTraces = false) : vx_Met l yX8_rentOf (.code yX8_rentOf cX8_rentOf 2 (some .int) :: GW) ({ frames := 7, cells := 1, slots := 6, locals := 116 }) (va_Pc [.ref ((ad 7) 0), .int (zI x)] (wrK dg ck ka sz (brkC ad Z ++ (booksC ck (ad 0) S ++ (booksC ck (ad 1) T ++ (outC ((ad 7) 1) O ++ (booksC ck (ad 2) P ++ (nobjC (ad 3) ++ (rowC ck 36 ((ad 3) 1) V ++ (rowC ck 36 ((ad 3) 2) N ++ (inputC ck ka (ad 5) I ++ (sboC (ad 6) U ++ (sbvC ck ((ad 6) 1) Y ++ (histW ck (ad 4) ra X Q)))))))))))))) (va_Qi (fun r (_ : Unit) => r = zI (rent S x) ∧ isBench S x) (fun _ t9 => wrQ dg sz (brkC ad Z ++ (booksC ck (ad 0) S ++ (booksC ck (ad 1) T ++ (outC ((ad 7) 1) O ++ (booksC ck (ad 2) P ++ (nobjC (ad 3) ++ (rowC ck 36 ((ad 3) 1) V ++ (rowC ck 36 ((ad 3) 2) N ++ (inputC ck ka (ad 5) I ++ (sboC (ad 6) U ++ (sbvC ck ((ad 6) 1) Y ++ (histW ck (ad 4) ra X Q)))))))))))) (brkW ck ka ad ra Z O U X S T P I V N Y Q) t9) (va_A (brkC ad Z ++ (booksC ck (ad 0) S ++ (booksC ck (ad 1) T ++ (outC ((ad 7) 1) O ++ (booksC ck (ad 2) P ++ (nobjC (ad 3) ++ (rowC ck 36 ((ad 3) 1) V ++ (rowC ck 36 ((ad 3) 2) N ++ (inputC ck ka (ad 5) I ++ (sboC (ad 6) U ++ (sbvC ck ((ad 6) 1) Y ++ (histW ck (ad 4) ra X Q)))))))))))) sz)) (vx_X (fun _ : Unit => True) (fun E (_ : Unit) t9 => (E = "java/lang/IndexOutOfBoundsException" ∧ ¬ (isBench S x)) ∧ wrQ dg sz (brkC ad Z ++ (booksC ck (ad 0) S ++ (booksC ck (ad 1) T ++ (outC ((ad 7) 1) O ++ (booksC ck (ad 2) P ++ (nobjC (ad 3) ++ (rowC ck 36 ((ad 3) 1) V ++ (rowC ck 36 ((ad 3) 2) N ++ (inputC ck ka (ad 5) I ++ (sboC (ad 6) U ++ (sbvC ck ((ad 6) 1) Y ++ (histW ck (ad 4) ra X Q)))))))))))) (brkW ck ka ad ra Z O U X S T P I V N Y Q) t9) (va_A (brkC ad Z ++ (booksC ck (ad 0) S ++ (booksC ck (ad 1) T ++ (outC ((ad 7) 1) O ++ (booksC ck (ad 2) P ++ (nobjC (ad 3) ++ (rowC ck 36 ((ad 3) 1) V ++ (rowC ck 36 ((ad 3) 2) N ++ (inputC ck ka (ad 5) I ++ (sboC (ad 6) U ++ (sbvC ck ((ad 6) 1) Y ++ (histW ck (ad 4) ra X Q)))))))))))) sz)) 1 6 (va_A (brkC ad Z ++ (booksC ck (ad 0) S ++ (booksC ck (ad 1) T ++ (outC ((ad 7) 1) O ++ (booksC ck (ad 2) P ++ (nobjC (ad 3) ++ (rowC ck 36 ((ad 3) 1) V ++ (rowC ck 36 ((ad 3) 2) N ++ (inputC ck ka (ad 5) I ++ (sboC (ad 6) U ++ (sbvC ck ((ad 6) 1) Y ++ (histW ck (ad 4) ra X Q)))))))))))) sz) := by
  refine vx_ofW (cc := cX8_rentOf) (maxL := 2) (ret := (some .int)) (by decide) rfl ?_
  intro p e s m args below meth c s₁ B hml htab hv
  obtain ⟨rfl, ⟨hsz, hP, hK, hD0⟩, hC⟩ := hv
  have hx := B.exec
  have hb := B.bytes
  have hr := B.returns
  have hts := atoms_spec (ws := .code yX8_rentOf cX8_rentOf 2 (some .int) :: GW) B.pre
  have htg : ∀ w ∈ GW, w.before _ s = true := fun w h => hts w (List.mem_cons_of_mem _ h)
  have hown : s.vm.findClass RX8 = some m.cls := findClass_of_methodNamed B.named
  have hlocks := B.notSynchronized
  subst hsz
  have hD := hD0.self (sz := s.heap.size)
  generalize hAe : va_A (brkC ad Z ++ (booksC ck (ad 0) S ++ (booksC ck (ad 1) T ++ (outC ((ad 7) 1) O ++ (booksC ck (ad 2) P ++ (nobjC (ad 3) ++ (rowC ck 36 ((ad 3) 1) V ++ (rowC ck 36 ((ad 3) 2) N ++ (inputC ck ka (ad 5) I ++ (sboC (ad 6) U ++ (sbvC ck ((ad 6) 1) Y ++ (histW ck (ad 4) ra X Q)))))))))))) s.heap.size = A at hD hC ⊢
  have hA : ∀ q : Nat, s.heap.size ≤ q → A q := fun q h => by rw [← hAe]; exact Or.inr h
  have hS : va_S A s.heap s.heap [] := va_S.rf
  have hP : va_P dg vwCl (brkC ad Z ++ (booksC ck (ad 0) S ++ (booksC ck (ad 1) T ++ (outC ((ad 7) 1) O ++ (booksC ck (ad 2) P ++ (nobjC (ad 3) ++ (rowC ck 36 ((ad 3) 1) V ++ (rowC ck 36 ((ad 3) 2) N ++ (inputC ck ka (ad 5) I ++ (sboC (ad 6) U ++ (sbvC ck ((ad 6) 1) Y ++ (histW ck (ad 4) ra X Q)))))))))))) s.heap := hP
  have hl := lv_entry ([.ref ((ad 7) 0), .int (zI x)]) (n := 2) (Nat.le_of_ble_eq_true rfl)
  rw [lg_entry_eq]
  generalize (lg_sl ([.ref ((ad 7) 0), .int (zI x)]) ++ List.replicate (2 - (lg_sl ([.ref ((ad 7) 0), .int (zI x)])).length) Slot.unset).toArray = ls at hl ⊢
  have hl : lv_has ls 2 [(0, .ref ((ad 7) 0)), (1, .int (zI x))] := hl
  obtain ⟨b00, b01, b02, b03, b1, b2, b3, b4, b5, b6, b7, b8, b9, b10, b11, b12⟩ := id hI
  refine lv_aload_n hx hb dX8_rentOf_0 rfl (lv_at hl 0 rfl) ?_
  refine lv_iload_n hx hb dX8_rentOf_1 rfl (lv_at hl 1 rfl) ?_
  refine xx_callv hP hD hS hA (vx_runV (As := [.int (zI x)]) (rest := []) ⟨hx, hb, hml, hown, htg⟩ (x_needBench l dg ck ka ad ra Z O U X S T P I V N Y Q x _ hI (by omega) hst) (cwV 1 htg (gwV wq_425 wq_427 wp_1 wq_1 wq_428) rfl rfl rfl (by decide +kernel) ⟨Nat.le_of_ble_eq_true rfl, Nat.le_of_ble_eq_true rfl⟩) (wrK_preV hK hP hD hC hS hA 0 10 rfl rfl) rfl rfl hl.1 rfl (lv_room (Nat.le_of_ble_eq_true rfl)) dX8_rentOf_2 ⟨Nat.le_of_ble_eq_true rfl, Nat.le_of_ble_eq_true rfl⟩) (fun E9 ce9 q9 H locs hE9 hP hD hS g1 g2 g3 => ?_) (fun H locs hn2 hP hD hS => ?_)
  · have hEqX : brkW ck ka ad ra Z O U X S T P I V N Y Q = brkC ad Z ++ (booksC ck (ad 0) S ++ (booksC ck (ad 1) T ++ (outC ((ad 7) 1) O ++ (booksC ck (ad 2) P ++ (nobjC (ad 3) ++ (rowC ck 36 ((ad 3) 1) V ++ (rowC ck 36 ((ad 3) 2) N ++ (inputC ck ka (ad 5) I ++ (sboC (ad 6) U ++ (sbvC ck ((ad 6) 1) Y ++ (histW ck (ad 4) ra X Q))))))))))) := rfl
    exact x_outX (XP := fun E => E = "java/lang/IndexOutOfBoundsException" ∧ ¬ (isBench S x)) hAe htab hlocks (by rw [hEqX]; exact hP) (by rw [hEqX]; exact hD) hS hE9 g1 g2 g3 (Nat.le_of_ble_eq_true rfl) (Nat.le_of_ble_eq_true rfl)
  have hP : va_P dg vwCl (brkC ad Z ++ (booksC ck (ad 0) S ++ (booksC ck (ad 1) T ++ (outC ((ad 7) 1) O ++ (booksC ck (ad 2) P ++ (nobjC (ad 3) ++ (rowC ck 36 ((ad 3) 1) V ++ (rowC ck 36 ((ad 3) 2) N ++ (inputC ck ka (ad 5) I ++ (sboC (ad 6) U ++ (sbvC ck ((ad 6) 1) Y ++ (histW ck (ad 4) ra X Q)))))))))))) H := hP
  have hD : va_D A (brkC ad Z ++ (booksC ck (ad 0) S ++ (booksC ck (ad 1) T ++ (outC ((ad 7) 1) O ++ (booksC ck (ad 2) P ++ (nobjC (ad 3) ++ (rowC ck 36 ((ad 3) 1) V ++ (rowC ck 36 ((ad 3) 2) N ++ (inputC ck ka (ad 5) I ++ (sboC (ad 6) U ++ (sbvC ck ((ad 6) 1) Y ++ (histW ck (ad 4) ra X Q)))))))))))) := hD
  refine lv_aload_n hx hb dX8_rentOf_5 rfl (lv_at hl 0 rfl) ?_
  refine va_get (D := dg) (ci := 10) (v := .ref ((ad 0) 0)) (C := RX8) (T := TX8) (N := 13) hx hb htg inG_X8 hown hK hP 0 rfl rfl 0 (Nat.le_of_ble_eq_true rfl) (htg _ wq_279) (fun _ h9 => h9) rfl dX8_rentOf_6 ?_
  refine va_get (D := dg) (ci := 4) (v := .ref ((ad 0) 6)) (C := RX1) (T := TX1) (N := 13) hx hb htg inG_X1 hown hK hP 1 rfl rfl 0 (Nat.le_of_ble_eq_true rfl) (htg _ wq_107) (fun _ h9 => h9) rfl dX8_rentOf_9 ?_
  refine lv_iload_n hx hb dX8_rentOf_12 rfl (lv_at hl 1 rfl) ?_
  refine vp_callSi (W.runV (As := [.int (zI x)]) (rest := []) ⟨hx, hb, hml, hown, htg⟩ (c_rent l dg ck (pa (ad 0)) S x hI (by omega)) (cwV 1 htg (gwV wq_454 wq_455 wq_456 wq_3 wq_457) rfl rfl rfl (by decide +kernel) ⟨Nat.le_of_ble_eq_true rfl, Nat.le_of_ble_eq_true rfl⟩) (rd_preV hK (va_P_r (w1 := bookC ck (ad 0) S) (w2 := parkC ck (pa (ad 0)) S) (va_P_l (va_P_r hP))) 0 9 rfl rfl) rfl rfl hl.1 rfl (lv_room (Nat.le_of_ble_eq_true rfl)) dX8_rentOf_13 ⟨Nat.le_of_ble_eq_true rfl, Nat.le_of_ble_eq_true rfl⟩) (fun r13 hr13 => ?_)
  subst hr13
  have hEq : brkW ck ka ad ra Z O U X S T P I V N Y Q = brkC ad Z ++ (booksC ck (ad 0) S ++ (booksC ck (ad 1) T ++ (outC ((ad 7) 1) O ++ (booksC ck (ad 2) P ++ (nobjC (ad 3) ++ (rowC ck 36 ((ad 3) 1) V ++ (rowC ck 36 ((ad 3) 2) N ++ (inputC ck ka (ad 5) I ++ (sboC (ad 6) U ++ (sbvC ck ((ad 6) 1) Y ++ (histW ck (ad 4) ra X Q))))))))))) := rfl
  exact W.widen (k := 1) (n := 6) (Nat.le_of_ble_eq_true rfl) (Nat.le_of_ble_eq_true rfl) (vx_ret (W.iret (v := _) hx hb hr (fun t9 ht9 hW9 => ⟨⟨_, (), rfl, ⟨rfl, hn2⟩, by rw [ht9, hEq]; exact hP, by rw [hEq, hAe]; exact hD⟩, hS.F ht9⟩) hS.2.2 dX8_rentOf_16))

set_option maxHeartbeats 4000000 in
set_option maxRecDepth 100000 in
/-- BenchBroker.loudnessOf -/
theorem x_loudnessOf (l : Launch) (dg : va_G) (ck : Nat → ClassId) (ka : Nat → Nat) (ad ra : Nat → Nat → Nat) (Z O U X : Nat → Int) (S T P I : St) (V N Y : Int → Int) (Q : Nat → St) (x : Int) (sz : Nat) (hI : Bd S) (rg_x : -2147483648 ≤ x ∧ x < 2147483648) (hst : l.stackTraces = false) : vx_Met l yX8_loudnessOf (.code yX8_loudnessOf cX8_loudnessOf 2 (some .int) :: GW) ({ frames := 7, cells := 1, slots := 6, locals := 116 }) (va_Pc [.ref ((ad 7) 0), .int (zI x)] (wrK dg ck ka sz (brkC ad Z ++ (booksC ck (ad 0) S ++ (booksC ck (ad 1) T ++ (outC ((ad 7) 1) O ++ (booksC ck (ad 2) P ++ (nobjC (ad 3) ++ (rowC ck 36 ((ad 3) 1) V ++ (rowC ck 36 ((ad 3) 2) N ++ (inputC ck ka (ad 5) I ++ (sboC (ad 6) U ++ (sbvC ck ((ad 6) 1) Y ++ (histW ck (ad 4) ra X Q)))))))))))))) (va_Qi (fun r (_ : Unit) => r = zI (S 9 x) ∧ isFount S x) (fun _ t9 => wrQ dg sz (brkC ad Z ++ (booksC ck (ad 0) S ++ (booksC ck (ad 1) T ++ (outC ((ad 7) 1) O ++ (booksC ck (ad 2) P ++ (nobjC (ad 3) ++ (rowC ck 36 ((ad 3) 1) V ++ (rowC ck 36 ((ad 3) 2) N ++ (inputC ck ka (ad 5) I ++ (sboC (ad 6) U ++ (sbvC ck ((ad 6) 1) Y ++ (histW ck (ad 4) ra X Q)))))))))))) (brkW ck ka ad ra Z O U X S T P I V N Y Q) t9) (va_A (brkC ad Z ++ (booksC ck (ad 0) S ++ (booksC ck (ad 1) T ++ (outC ((ad 7) 1) O ++ (booksC ck (ad 2) P ++ (nobjC (ad 3) ++ (rowC ck 36 ((ad 3) 1) V ++ (rowC ck 36 ((ad 3) 2) N ++ (inputC ck ka (ad 5) I ++ (sboC (ad 6) U ++ (sbvC ck ((ad 6) 1) Y ++ (histW ck (ad 4) ra X Q)))))))))))) sz)) (vx_X (fun _ : Unit => True) (fun E (_ : Unit) t9 => (E = "java/lang/IndexOutOfBoundsException" ∧ ¬ (isFount S x)) ∧ wrQ dg sz (brkC ad Z ++ (booksC ck (ad 0) S ++ (booksC ck (ad 1) T ++ (outC ((ad 7) 1) O ++ (booksC ck (ad 2) P ++ (nobjC (ad 3) ++ (rowC ck 36 ((ad 3) 1) V ++ (rowC ck 36 ((ad 3) 2) N ++ (inputC ck ka (ad 5) I ++ (sboC (ad 6) U ++ (sbvC ck ((ad 6) 1) Y ++ (histW ck (ad 4) ra X Q)))))))))))) (brkW ck ka ad ra Z O U X S T P I V N Y Q) t9) (va_A (brkC ad Z ++ (booksC ck (ad 0) S ++ (booksC ck (ad 1) T ++ (outC ((ad 7) 1) O ++ (booksC ck (ad 2) P ++ (nobjC (ad 3) ++ (rowC ck 36 ((ad 3) 1) V ++ (rowC ck 36 ((ad 3) 2) N ++ (inputC ck ka (ad 5) I ++ (sboC (ad 6) U ++ (sbvC ck ((ad 6) 1) Y ++ (histW ck (ad 4) ra X Q)))))))))))) sz)) 1 6 (va_A (brkC ad Z ++ (booksC ck (ad 0) S ++ (booksC ck (ad 1) T ++ (outC ((ad 7) 1) O ++ (booksC ck (ad 2) P ++ (nobjC (ad 3) ++ (rowC ck 36 ((ad 3) 1) V ++ (rowC ck 36 ((ad 3) 2) N ++ (inputC ck ka (ad 5) I ++ (sboC (ad 6) U ++ (sbvC ck ((ad 6) 1) Y ++ (histW ck (ad 4) ra X Q)))))))))))) sz) := by
  refine vx_ofW (cc := cX8_loudnessOf) (maxL := 2) (ret := (some .int)) (by decide) rfl ?_
  intro p e s m args below meth c s₁ B hml htab hv
  obtain ⟨rfl, ⟨hsz, hP, hK, hD0⟩, hC⟩ := hv
  have hx := B.exec
  have hb := B.bytes
  have hr := B.returns
  have hts := atoms_spec (ws := .code yX8_loudnessOf cX8_loudnessOf 2 (some .int) :: GW) B.pre
  have htg : ∀ w ∈ GW, w.before _ s = true := fun w h => hts w (List.mem_cons_of_mem _ h)
  have hown : s.vm.findClass RX8 = some m.cls := findClass_of_methodNamed B.named
  have hlocks := B.notSynchronized
  subst hsz
  have hD := hD0.self (sz := s.heap.size)
  generalize hAe : va_A (brkC ad Z ++ (booksC ck (ad 0) S ++ (booksC ck (ad 1) T ++ (outC ((ad 7) 1) O ++ (booksC ck (ad 2) P ++ (nobjC (ad 3) ++ (rowC ck 36 ((ad 3) 1) V ++ (rowC ck 36 ((ad 3) 2) N ++ (inputC ck ka (ad 5) I ++ (sboC (ad 6) U ++ (sbvC ck ((ad 6) 1) Y ++ (histW ck (ad 4) ra X Q)))))))))))) s.heap.size = A at hD hC ⊢
  have hA : ∀ q : Nat, s.heap.size ≤ q → A q := fun q h => by rw [← hAe]; exact Or.inr h
  have hS : va_S A s.heap s.heap [] := va_S.rf
  have hP : va_P dg vwCl (brkC ad Z ++ (booksC ck (ad 0) S ++ (booksC ck (ad 1) T ++ (outC ((ad 7) 1) O ++ (booksC ck (ad 2) P ++ (nobjC (ad 3) ++ (rowC ck 36 ((ad 3) 1) V ++ (rowC ck 36 ((ad 3) 2) N ++ (inputC ck ka (ad 5) I ++ (sboC (ad 6) U ++ (sbvC ck ((ad 6) 1) Y ++ (histW ck (ad 4) ra X Q)))))))))))) s.heap := hP
  have hl := lv_entry ([.ref ((ad 7) 0), .int (zI x)]) (n := 2) (Nat.le_of_ble_eq_true rfl)
  rw [lg_entry_eq]
  generalize (lg_sl ([.ref ((ad 7) 0), .int (zI x)]) ++ List.replicate (2 - (lg_sl ([.ref ((ad 7) 0), .int (zI x)])).length) Slot.unset).toArray = ls at hl ⊢
  have hl : lv_has ls 2 [(0, .ref ((ad 7) 0)), (1, .int (zI x))] := hl
  obtain ⟨b00, b01, b02, b03, b1, b2, b3, b4, b5, b6, b7, b8, b9, b10, b11, b12⟩ := id hI
  refine lv_aload_n hx hb dX8_loudnessOf_0 rfl (lv_at hl 0 rfl) ?_
  refine lv_iload_n hx hb dX8_loudnessOf_1 rfl (lv_at hl 1 rfl) ?_
  refine xx_callv hP hD hS hA (vx_runV (As := [.int (zI x)]) (rest := []) ⟨hx, hb, hml, hown, htg⟩ (x_needFountain l dg ck ka ad ra Z O U X S T P I V N Y Q x _ hI (by omega) hst) (cwV 1 htg (gwV wq_1232 wq_1234 wp_20 wq_1 wq_1235) rfl rfl rfl (by decide +kernel) ⟨Nat.le_of_ble_eq_true rfl, Nat.le_of_ble_eq_true rfl⟩) (wrK_preV hK hP hD hC hS hA 0 10 rfl rfl) rfl rfl hl.1 rfl (lv_room (Nat.le_of_ble_eq_true rfl)) dX8_loudnessOf_2 ⟨Nat.le_of_ble_eq_true rfl, Nat.le_of_ble_eq_true rfl⟩) (fun E9 ce9 q9 H locs hE9 hP hD hS g1 g2 g3 => ?_) (fun H locs hn2 hP hD hS => ?_)
  · have hEqX : brkW ck ka ad ra Z O U X S T P I V N Y Q = brkC ad Z ++ (booksC ck (ad 0) S ++ (booksC ck (ad 1) T ++ (outC ((ad 7) 1) O ++ (booksC ck (ad 2) P ++ (nobjC (ad 3) ++ (rowC ck 36 ((ad 3) 1) V ++ (rowC ck 36 ((ad 3) 2) N ++ (inputC ck ka (ad 5) I ++ (sboC (ad 6) U ++ (sbvC ck ((ad 6) 1) Y ++ (histW ck (ad 4) ra X Q))))))))))) := rfl
    exact x_outX (XP := fun E => E = "java/lang/IndexOutOfBoundsException" ∧ ¬ (isFount S x)) hAe htab hlocks (by rw [hEqX]; exact hP) (by rw [hEqX]; exact hD) hS hE9 g1 g2 g3 (Nat.le_of_ble_eq_true rfl) (Nat.le_of_ble_eq_true rfl)
  have hP : va_P dg vwCl (brkC ad Z ++ (booksC ck (ad 0) S ++ (booksC ck (ad 1) T ++ (outC ((ad 7) 1) O ++ (booksC ck (ad 2) P ++ (nobjC (ad 3) ++ (rowC ck 36 ((ad 3) 1) V ++ (rowC ck 36 ((ad 3) 2) N ++ (inputC ck ka (ad 5) I ++ (sboC (ad 6) U ++ (sbvC ck ((ad 6) 1) Y ++ (histW ck (ad 4) ra X Q)))))))))))) H := hP
  have hD : va_D A (brkC ad Z ++ (booksC ck (ad 0) S ++ (booksC ck (ad 1) T ++ (outC ((ad 7) 1) O ++ (booksC ck (ad 2) P ++ (nobjC (ad 3) ++ (rowC ck 36 ((ad 3) 1) V ++ (rowC ck 36 ((ad 3) 2) N ++ (inputC ck ka (ad 5) I ++ (sboC (ad 6) U ++ (sbvC ck ((ad 6) 1) Y ++ (histW ck (ad 4) ra X Q)))))))))))) := hD
  refine lv_aload_n hx hb dX8_loudnessOf_5 rfl (lv_at hl 0 rfl) ?_
  refine va_get (D := dg) (ci := 10) (v := .ref ((ad 0) 0)) (C := RX8) (T := TX8) (N := 13) hx hb htg inG_X8 hown hK hP 0 rfl rfl 0 (Nat.le_of_ble_eq_true rfl) (htg _ wq_279) (fun _ h9 => h9) rfl dX8_loudnessOf_6 ?_
  refine va_get (D := dg) (ci := 4) (v := .ref ((ad 0) 6)) (C := RX1) (T := TX1) (N := 13) hx hb htg inG_X1 hown hK hP 1 rfl rfl 0 (Nat.le_of_ble_eq_true rfl) (htg _ wq_107) (fun _ h9 => h9) rfl dX8_loudnessOf_9 ?_
  refine va_get (D := dg) (ci := 9) (v := .ref ((ad 0) 12)) (C := RX6) (T := TX6) (N := 10) hx hb htg inG_X6 hown hK hP 7 rfl rfl 7 (Nat.le_of_ble_eq_true rfl) (htg _ wq_74) (fun _ h9 => h9) rfl dX8_loudnessOf_12 ?_
  refine lv_iload_n hx hb dX8_loudnessOf_15 rfl (lv_at hl 1 rfl) ?_
  refine x_iald hx hb hK hP 13 0 (S 9) rfl rfl (fun _ => rfl) (P := fun y => 0 ≤ y ∧ y ≤ 9) b9 (by decide) (by omega) dX8_loudnessOf_16 (fun g16 => ?_)
  have hEq : brkW ck ka ad ra Z O U X S T P I V N Y Q = brkC ad Z ++ (booksC ck (ad 0) S ++ (booksC ck (ad 1) T ++ (outC ((ad 7) 1) O ++ (booksC ck (ad 2) P ++ (nobjC (ad 3) ++ (rowC ck 36 ((ad 3) 1) V ++ (rowC ck 36 ((ad 3) 2) N ++ (inputC ck ka (ad 5) I ++ (sboC (ad 6) U ++ (sbvC ck ((ad 6) 1) Y ++ (histW ck (ad 4) ra X Q))))))))))) := rfl
  exact W.widen (k := 1) (n := 6) (Nat.le_of_ble_eq_true rfl) (Nat.le_of_ble_eq_true rfl) (vx_ret (W.iret (v := _) hx hb hr (fun t9 ht9 hW9 => ⟨⟨_, (), rfl, ⟨rfl, hn2⟩, by rw [ht9, hEq]; exact hP, by rw [hEq, hAe]; exact hD⟩, hS.F ht9⟩) hS.2.2 dX8_loudnessOf_17))

set_option maxHeartbeats 4000000 in
set_option maxRecDepth 100000 in
/-- BenchBroker.isRunning -/
theorem x_isRunning (l : Launch) (dg : va_G) (ck : Nat → ClassId) (ka : Nat → Nat) (ad ra : Nat → Nat → Nat) (Z O U X : Nat → Int) (S T P I : St) (V N Y : Int → Int) (Q : Nat → St) (x : Int) (sz : Nat) (hI : Bd S) (rg_x : -2147483648 ≤ x ∧ x < 2147483648) (hst : l.stackTraces = false) : vx_Met l yX8_isRunning (.code yX8_isRunning cX8_isRunning 2 (some .boolean) :: GW) ({ frames := 7, cells := 1, slots := 6, locals := 116 }) (va_Pc [.ref ((ad 7) 0), .int (zI x)] (wrK dg ck ka sz (brkC ad Z ++ (booksC ck (ad 0) S ++ (booksC ck (ad 1) T ++ (outC ((ad 7) 1) O ++ (booksC ck (ad 2) P ++ (nobjC (ad 3) ++ (rowC ck 36 ((ad 3) 1) V ++ (rowC ck 36 ((ad 3) 2) N ++ (inputC ck ka (ad 5) I ++ (sboC (ad 6) U ++ (sbvC ck ((ad 6) 1) Y ++ (histW ck (ad 4) ra X Q)))))))))))))) (va_Qi (fun r (_ : Unit) => r = zI (S 10 x) ∧ isFount S x) (fun _ t9 => wrQ dg sz (brkC ad Z ++ (booksC ck (ad 0) S ++ (booksC ck (ad 1) T ++ (outC ((ad 7) 1) O ++ (booksC ck (ad 2) P ++ (nobjC (ad 3) ++ (rowC ck 36 ((ad 3) 1) V ++ (rowC ck 36 ((ad 3) 2) N ++ (inputC ck ka (ad 5) I ++ (sboC (ad 6) U ++ (sbvC ck ((ad 6) 1) Y ++ (histW ck (ad 4) ra X Q)))))))))))) (brkW ck ka ad ra Z O U X S T P I V N Y Q) t9) (va_A (brkC ad Z ++ (booksC ck (ad 0) S ++ (booksC ck (ad 1) T ++ (outC ((ad 7) 1) O ++ (booksC ck (ad 2) P ++ (nobjC (ad 3) ++ (rowC ck 36 ((ad 3) 1) V ++ (rowC ck 36 ((ad 3) 2) N ++ (inputC ck ka (ad 5) I ++ (sboC (ad 6) U ++ (sbvC ck ((ad 6) 1) Y ++ (histW ck (ad 4) ra X Q)))))))))))) sz)) (vx_X (fun _ : Unit => True) (fun E (_ : Unit) t9 => (E = "java/lang/IndexOutOfBoundsException" ∧ ¬ (isFount S x)) ∧ wrQ dg sz (brkC ad Z ++ (booksC ck (ad 0) S ++ (booksC ck (ad 1) T ++ (outC ((ad 7) 1) O ++ (booksC ck (ad 2) P ++ (nobjC (ad 3) ++ (rowC ck 36 ((ad 3) 1) V ++ (rowC ck 36 ((ad 3) 2) N ++ (inputC ck ka (ad 5) I ++ (sboC (ad 6) U ++ (sbvC ck ((ad 6) 1) Y ++ (histW ck (ad 4) ra X Q)))))))))))) (brkW ck ka ad ra Z O U X S T P I V N Y Q) t9) (va_A (brkC ad Z ++ (booksC ck (ad 0) S ++ (booksC ck (ad 1) T ++ (outC ((ad 7) 1) O ++ (booksC ck (ad 2) P ++ (nobjC (ad 3) ++ (rowC ck 36 ((ad 3) 1) V ++ (rowC ck 36 ((ad 3) 2) N ++ (inputC ck ka (ad 5) I ++ (sboC (ad 6) U ++ (sbvC ck ((ad 6) 1) Y ++ (histW ck (ad 4) ra X Q)))))))))))) sz)) 1 6 (va_A (brkC ad Z ++ (booksC ck (ad 0) S ++ (booksC ck (ad 1) T ++ (outC ((ad 7) 1) O ++ (booksC ck (ad 2) P ++ (nobjC (ad 3) ++ (rowC ck 36 ((ad 3) 1) V ++ (rowC ck 36 ((ad 3) 2) N ++ (inputC ck ka (ad 5) I ++ (sboC (ad 6) U ++ (sbvC ck ((ad 6) 1) Y ++ (histW ck (ad 4) ra X Q)))))))))))) sz) := by
  refine vx_ofW (cc := cX8_isRunning) (maxL := 2) (ret := (some .boolean)) (by decide) rfl ?_
  intro p e s m args below meth c s₁ B hml htab hv
  obtain ⟨rfl, ⟨hsz, hP, hK, hD0⟩, hC⟩ := hv
  have hx := B.exec
  have hb := B.bytes
  have hr := B.returns
  have hts := atoms_spec (ws := .code yX8_isRunning cX8_isRunning 2 (some .boolean) :: GW) B.pre
  have htg : ∀ w ∈ GW, w.before _ s = true := fun w h => hts w (List.mem_cons_of_mem _ h)
  have hown : s.vm.findClass RX8 = some m.cls := findClass_of_methodNamed B.named
  have hlocks := B.notSynchronized
  subst hsz
  have hD := hD0.self (sz := s.heap.size)
  generalize hAe : va_A (brkC ad Z ++ (booksC ck (ad 0) S ++ (booksC ck (ad 1) T ++ (outC ((ad 7) 1) O ++ (booksC ck (ad 2) P ++ (nobjC (ad 3) ++ (rowC ck 36 ((ad 3) 1) V ++ (rowC ck 36 ((ad 3) 2) N ++ (inputC ck ka (ad 5) I ++ (sboC (ad 6) U ++ (sbvC ck ((ad 6) 1) Y ++ (histW ck (ad 4) ra X Q)))))))))))) s.heap.size = A at hD hC ⊢
  have hA : ∀ q : Nat, s.heap.size ≤ q → A q := fun q h => by rw [← hAe]; exact Or.inr h
  have hS : va_S A s.heap s.heap [] := va_S.rf
  have hP : va_P dg vwCl (brkC ad Z ++ (booksC ck (ad 0) S ++ (booksC ck (ad 1) T ++ (outC ((ad 7) 1) O ++ (booksC ck (ad 2) P ++ (nobjC (ad 3) ++ (rowC ck 36 ((ad 3) 1) V ++ (rowC ck 36 ((ad 3) 2) N ++ (inputC ck ka (ad 5) I ++ (sboC (ad 6) U ++ (sbvC ck ((ad 6) 1) Y ++ (histW ck (ad 4) ra X Q)))))))))))) s.heap := hP
  have hl := lv_entry ([.ref ((ad 7) 0), .int (zI x)]) (n := 2) (Nat.le_of_ble_eq_true rfl)
  rw [lg_entry_eq]
  generalize (lg_sl ([.ref ((ad 7) 0), .int (zI x)]) ++ List.replicate (2 - (lg_sl ([.ref ((ad 7) 0), .int (zI x)])).length) Slot.unset).toArray = ls at hl ⊢
  have hl : lv_has ls 2 [(0, .ref ((ad 7) 0)), (1, .int (zI x))] := hl
  obtain ⟨b00, b01, b02, b03, b1, b2, b3, b4, b5, b6, b7, b8, b9, b10, b11, b12⟩ := id hI
  refine lv_aload_n hx hb dX8_isRunning_0 rfl (lv_at hl 0 rfl) ?_
  refine lv_iload_n hx hb dX8_isRunning_1 rfl (lv_at hl 1 rfl) ?_
  refine xx_callv hP hD hS hA (vx_runV (As := [.int (zI x)]) (rest := []) ⟨hx, hb, hml, hown, htg⟩ (x_needFountain l dg ck ka ad ra Z O U X S T P I V N Y Q x _ hI (by omega) hst) (cwV 1 htg (gwV wq_1232 wq_1234 wp_20 wq_1 wq_1235) rfl rfl rfl (by decide +kernel) ⟨Nat.le_of_ble_eq_true rfl, Nat.le_of_ble_eq_true rfl⟩) (wrK_preV hK hP hD hC hS hA 0 10 rfl rfl) rfl rfl hl.1 rfl (lv_room (Nat.le_of_ble_eq_true rfl)) dX8_isRunning_2 ⟨Nat.le_of_ble_eq_true rfl, Nat.le_of_ble_eq_true rfl⟩) (fun E9 ce9 q9 H locs hE9 hP hD hS g1 g2 g3 => ?_) (fun H locs hn2 hP hD hS => ?_)
  · have hEqX : brkW ck ka ad ra Z O U X S T P I V N Y Q = brkC ad Z ++ (booksC ck (ad 0) S ++ (booksC ck (ad 1) T ++ (outC ((ad 7) 1) O ++ (booksC ck (ad 2) P ++ (nobjC (ad 3) ++ (rowC ck 36 ((ad 3) 1) V ++ (rowC ck 36 ((ad 3) 2) N ++ (inputC ck ka (ad 5) I ++ (sboC (ad 6) U ++ (sbvC ck ((ad 6) 1) Y ++ (histW ck (ad 4) ra X Q))))))))))) := rfl
    exact x_outX (XP := fun E => E = "java/lang/IndexOutOfBoundsException" ∧ ¬ (isFount S x)) hAe htab hlocks (by rw [hEqX]; exact hP) (by rw [hEqX]; exact hD) hS hE9 g1 g2 g3 (Nat.le_of_ble_eq_true rfl) (Nat.le_of_ble_eq_true rfl)
  have hP : va_P dg vwCl (brkC ad Z ++ (booksC ck (ad 0) S ++ (booksC ck (ad 1) T ++ (outC ((ad 7) 1) O ++ (booksC ck (ad 2) P ++ (nobjC (ad 3) ++ (rowC ck 36 ((ad 3) 1) V ++ (rowC ck 36 ((ad 3) 2) N ++ (inputC ck ka (ad 5) I ++ (sboC (ad 6) U ++ (sbvC ck ((ad 6) 1) Y ++ (histW ck (ad 4) ra X Q)))))))))))) H := hP
  have hD : va_D A (brkC ad Z ++ (booksC ck (ad 0) S ++ (booksC ck (ad 1) T ++ (outC ((ad 7) 1) O ++ (booksC ck (ad 2) P ++ (nobjC (ad 3) ++ (rowC ck 36 ((ad 3) 1) V ++ (rowC ck 36 ((ad 3) 2) N ++ (inputC ck ka (ad 5) I ++ (sboC (ad 6) U ++ (sbvC ck ((ad 6) 1) Y ++ (histW ck (ad 4) ra X Q)))))))))))) := hD
  refine lv_aload_n hx hb dX8_isRunning_5 rfl (lv_at hl 0 rfl) ?_
  refine va_get (D := dg) (ci := 10) (v := .ref ((ad 0) 0)) (C := RX8) (T := TX8) (N := 13) hx hb htg inG_X8 hown hK hP 0 rfl rfl 0 (Nat.le_of_ble_eq_true rfl) (htg _ wq_279) (fun _ h9 => h9) rfl dX8_isRunning_6 ?_
  refine va_get (D := dg) (ci := 4) (v := .ref ((ad 0) 6)) (C := RX1) (T := TX1) (N := 13) hx hb htg inG_X1 hown hK hP 1 rfl rfl 0 (Nat.le_of_ble_eq_true rfl) (htg _ wq_107) (fun _ h9 => h9) rfl dX8_isRunning_9 ?_
  refine va_get (D := dg) (ci := 9) (v := .ref ((ad 0) 13)) (C := RX6) (T := TX6) (N := 10) hx hb htg inG_X6 hown hK hP 7 rfl rfl 8 (Nat.le_of_ble_eq_true rfl) (htg _ wq_77) (fun _ h9 => h9) rfl dX8_isRunning_12 ?_
  refine lv_iload_n hx hb dX8_isRunning_15 rfl (lv_at hl 1 rfl) ?_
  refine x_zald hx hb hK hP 14 1 (S 10) rfl rfl (fun _ => rfl) (P := fun y => 0 ≤ y ∧ y ≤ 1) b10 (by decide) (by omega) dX8_isRunning_16 (fun g16 => ?_)
  have hEq : brkW ck ka ad ra Z O U X S T P I V N Y Q = brkC ad Z ++ (booksC ck (ad 0) S ++ (booksC ck (ad 1) T ++ (outC ((ad 7) 1) O ++ (booksC ck (ad 2) P ++ (nobjC (ad 3) ++ (rowC ck 36 ((ad 3) 1) V ++ (rowC ck 36 ((ad 3) 2) N ++ (inputC ck ka (ad 5) I ++ (sboC (ad 6) U ++ (sbvC ck ((ad 6) 1) Y ++ (histW ck (ad 4) ra X Q))))))))))) := rfl
  exact W.widen (k := 1) (n := 6) (Nat.le_of_ble_eq_true rfl) (Nat.le_of_ble_eq_true rfl) (vx_ret (W.zret (v := _) hx hb hr (by first | rfl | exact nar_z (b10 x)) (fun t9 ht9 hW9 => ⟨⟨_, (), rfl, ⟨rfl, hn2⟩, by rw [ht9, hEq]; exact hP, by rw [hEq, hAe]; exact hD⟩, hS.F ht9⟩) hS.2.2 dX8_isRunning_17))

set_option maxHeartbeats 4000000 in
set_option maxRecDepth 100000 in
/-- BenchBroker.noiseAt -/
theorem x_noiseAt (l : Launch) (dg : va_G) (ck : Nat → ClassId) (ka : Nat → Nat) (ad ra : Nat → Nat → Nat) (Z O U X : Nat → Int) (S T P I : St) (V N Y : Int → Int) (Q : Nat → St) (x y : Int) (sz : Nat) (hI : Bd S) (rg_x : -2147483648 ≤ x ∧ x < 2147483648) (rg_y : -2147483648 ≤ y ∧ y < 2147483648) (hst : l.stackTraces = false) : vx_Met l yX8_noiseAt (.code yX8_noiseAt cX8_noiseAt 3 (some .int) :: GW) ({ frames := 7, cells := 1, slots := 6, locals := 117 }) (va_Pc [.ref ((ad 7) 0), .int (zI x), .int (zI y)] (wrK dg ck ka sz (brkC ad Z ++ (booksC ck (ad 0) S ++ (booksC ck (ad 1) T ++ (outC ((ad 7) 1) O ++ (booksC ck (ad 2) P ++ (nobjC (ad 3) ++ (rowC ck 36 ((ad 3) 1) V ++ (rowC ck 36 ((ad 3) 2) N ++ (inputC ck ka (ad 5) I ++ (sboC (ad 6) U ++ (sbvC ck ((ad 6) 1) Y ++ (histW ck (ad 4) ra X Q)))))))))))))) (va_Qi (fun r (_ : Unit) => r = zI (noise S x y) ∧ isCell x y) (fun _ t9 => wrQ dg sz (brkC ad Z ++ (booksC ck (ad 0) S ++ (booksC ck (ad 1) T ++ (outC ((ad 7) 1) O ++ (booksC ck (ad 2) P ++ (nobjC (ad 3) ++ (rowC ck 36 ((ad 3) 1) V ++ (rowC ck 36 ((ad 3) 2) N ++ (inputC ck ka (ad 5) I ++ (sboC (ad 6) U ++ (sbvC ck ((ad 6) 1) Y ++ (histW ck (ad 4) ra X Q)))))))))))) (brkW ck ka ad ra Z O U X S T P I V N Y Q) t9) (va_A (brkC ad Z ++ (booksC ck (ad 0) S ++ (booksC ck (ad 1) T ++ (outC ((ad 7) 1) O ++ (booksC ck (ad 2) P ++ (nobjC (ad 3) ++ (rowC ck 36 ((ad 3) 1) V ++ (rowC ck 36 ((ad 3) 2) N ++ (inputC ck ka (ad 5) I ++ (sboC (ad 6) U ++ (sbvC ck ((ad 6) 1) Y ++ (histW ck (ad 4) ra X Q)))))))))))) sz)) (vx_X (fun _ : Unit => True) (fun E (_ : Unit) t9 => (E = "java/lang/IndexOutOfBoundsException" ∧ ¬ isCell x y) ∧ wrQ dg sz (brkC ad Z ++ (booksC ck (ad 0) S ++ (booksC ck (ad 1) T ++ (outC ((ad 7) 1) O ++ (booksC ck (ad 2) P ++ (nobjC (ad 3) ++ (rowC ck 36 ((ad 3) 1) V ++ (rowC ck 36 ((ad 3) 2) N ++ (inputC ck ka (ad 5) I ++ (sboC (ad 6) U ++ (sbvC ck ((ad 6) 1) Y ++ (histW ck (ad 4) ra X Q)))))))))))) (brkW ck ka ad ra Z O U X S T P I V N Y Q) t9) (va_A (brkC ad Z ++ (booksC ck (ad 0) S ++ (booksC ck (ad 1) T ++ (outC ((ad 7) 1) O ++ (booksC ck (ad 2) P ++ (nobjC (ad 3) ++ (rowC ck 36 ((ad 3) 1) V ++ (rowC ck 36 ((ad 3) 2) N ++ (inputC ck ka (ad 5) I ++ (sboC (ad 6) U ++ (sbvC ck ((ad 6) 1) Y ++ (histW ck (ad 4) ra X Q)))))))))))) sz)) 1 6 (va_A (brkC ad Z ++ (booksC ck (ad 0) S ++ (booksC ck (ad 1) T ++ (outC ((ad 7) 1) O ++ (booksC ck (ad 2) P ++ (nobjC (ad 3) ++ (rowC ck 36 ((ad 3) 1) V ++ (rowC ck 36 ((ad 3) 2) N ++ (inputC ck ka (ad 5) I ++ (sboC (ad 6) U ++ (sbvC ck ((ad 6) 1) Y ++ (histW ck (ad 4) ra X Q)))))))))))) sz) := by
  refine vx_ofW (cc := cX8_noiseAt) (maxL := 3) (ret := (some .int)) (by decide) rfl ?_
  intro p e s m args below meth c s₁ B hml htab hv
  obtain ⟨rfl, ⟨hsz, hP, hK, hD0⟩, hC⟩ := hv
  have hx := B.exec
  have hb := B.bytes
  have hr := B.returns
  have hts := atoms_spec (ws := .code yX8_noiseAt cX8_noiseAt 3 (some .int) :: GW) B.pre
  have htg : ∀ w ∈ GW, w.before _ s = true := fun w h => hts w (List.mem_cons_of_mem _ h)
  have hown : s.vm.findClass RX8 = some m.cls := findClass_of_methodNamed B.named
  have hlocks := B.notSynchronized
  subst hsz
  have hD := hD0.self (sz := s.heap.size)
  generalize hAe : va_A (brkC ad Z ++ (booksC ck (ad 0) S ++ (booksC ck (ad 1) T ++ (outC ((ad 7) 1) O ++ (booksC ck (ad 2) P ++ (nobjC (ad 3) ++ (rowC ck 36 ((ad 3) 1) V ++ (rowC ck 36 ((ad 3) 2) N ++ (inputC ck ka (ad 5) I ++ (sboC (ad 6) U ++ (sbvC ck ((ad 6) 1) Y ++ (histW ck (ad 4) ra X Q)))))))))))) s.heap.size = A at hD hC ⊢
  have hA : ∀ q : Nat, s.heap.size ≤ q → A q := fun q h => by rw [← hAe]; exact Or.inr h
  have hS : va_S A s.heap s.heap [] := va_S.rf
  have hP : va_P dg vwCl (brkC ad Z ++ (booksC ck (ad 0) S ++ (booksC ck (ad 1) T ++ (outC ((ad 7) 1) O ++ (booksC ck (ad 2) P ++ (nobjC (ad 3) ++ (rowC ck 36 ((ad 3) 1) V ++ (rowC ck 36 ((ad 3) 2) N ++ (inputC ck ka (ad 5) I ++ (sboC (ad 6) U ++ (sbvC ck ((ad 6) 1) Y ++ (histW ck (ad 4) ra X Q)))))))))))) s.heap := hP
  have hl := lv_entry ([.ref ((ad 7) 0), .int (zI x), .int (zI y)]) (n := 3) (Nat.le_of_ble_eq_true rfl)
  rw [lg_entry_eq]
  generalize (lg_sl ([.ref ((ad 7) 0), .int (zI x), .int (zI y)]) ++ List.replicate (3 - (lg_sl ([.ref ((ad 7) 0), .int (zI x), .int (zI y)])).length) Slot.unset).toArray = ls at hl ⊢
  have hl : lv_has ls 3 [(0, .ref ((ad 7) 0)), (1, .int (zI x)), (2, .int (zI y))] := hl
  obtain ⟨b00, b01, b02, b03, b1, b2, b3, b4, b5, b6, b7, b8, b9, b10, b11, b12⟩ := id hI
  refine lv_aload_n hx hb dX8_noiseAt_0 rfl (lv_at hl 0 rfl) ?_
  refine lv_iload_n hx hb dX8_noiseAt_1 rfl (lv_at hl 1 rfl) ?_
  refine lv_iload_n hx hb dX8_noiseAt_2 rfl (lv_at hl 2 rfl) ?_
  refine xx_callv hP hD hS hA (vx_runV (As := [.int (zI x), .int (zI y)]) (rest := []) ⟨hx, hb, hml, hown, htg⟩ (x_needCell l dg ck ka ad ra Z O U X S T P I V N Y Q x y _ (by omega) (by omega) hst) (cwV 2 htg (gwV wq_1265 wq_1267 wp_21 wq_1 wq_1268) rfl rfl rfl (by decide +kernel) ⟨Nat.le_of_ble_eq_true rfl, Nat.le_of_ble_eq_true rfl⟩) (wrK_preV hK hP hD hC hS hA 0 10 rfl rfl) rfl rfl hl.1 rfl (lv_room (Nat.le_of_ble_eq_true rfl)) dX8_noiseAt_3 ⟨Nat.le_of_ble_eq_true rfl, Nat.le_of_ble_eq_true rfl⟩) (fun E9 ce9 q9 H locs hE9 hP hD hS g1 g2 g3 => ?_) (fun H locs hn3 hP hD hS => ?_)
  · have hEqX : brkW ck ka ad ra Z O U X S T P I V N Y Q = brkC ad Z ++ (booksC ck (ad 0) S ++ (booksC ck (ad 1) T ++ (outC ((ad 7) 1) O ++ (booksC ck (ad 2) P ++ (nobjC (ad 3) ++ (rowC ck 36 ((ad 3) 1) V ++ (rowC ck 36 ((ad 3) 2) N ++ (inputC ck ka (ad 5) I ++ (sboC (ad 6) U ++ (sbvC ck ((ad 6) 1) Y ++ (histW ck (ad 4) ra X Q))))))))))) := rfl
    exact x_outX (XP := fun E => E = "java/lang/IndexOutOfBoundsException" ∧ ¬ isCell x y) hAe htab hlocks (by rw [hEqX]; exact hP) (by rw [hEqX]; exact hD) hS hE9 g1 g2 g3 (Nat.le_of_ble_eq_true rfl) (Nat.le_of_ble_eq_true rfl)
  have hP : va_P dg vwCl (brkC ad Z ++ (booksC ck (ad 0) S ++ (booksC ck (ad 1) T ++ (outC ((ad 7) 1) O ++ (booksC ck (ad 2) P ++ (nobjC (ad 3) ++ (rowC ck 36 ((ad 3) 1) V ++ (rowC ck 36 ((ad 3) 2) N ++ (inputC ck ka (ad 5) I ++ (sboC (ad 6) U ++ (sbvC ck ((ad 6) 1) Y ++ (histW ck (ad 4) ra X Q)))))))))))) H := hP
  have hD : va_D A (brkC ad Z ++ (booksC ck (ad 0) S ++ (booksC ck (ad 1) T ++ (outC ((ad 7) 1) O ++ (booksC ck (ad 2) P ++ (nobjC (ad 3) ++ (rowC ck 36 ((ad 3) 1) V ++ (rowC ck 36 ((ad 3) 2) N ++ (inputC ck ka (ad 5) I ++ (sboC (ad 6) U ++ (sbvC ck ((ad 6) 1) Y ++ (histW ck (ad 4) ra X Q)))))))))))) := hD
  refine lv_aload_n hx hb dX8_noiseAt_6 rfl (lv_at hl 0 rfl) ?_
  refine va_get (D := dg) (ci := 10) (v := .ref ((ad 0) 0)) (C := RX8) (T := TX8) (N := 13) hx hb htg inG_X8 hown hK hP 0 rfl rfl 0 (Nat.le_of_ble_eq_true rfl) (htg _ wq_279) (fun _ h9 => h9) rfl dX8_noiseAt_7 ?_
  refine va_get (D := dg) (ci := 4) (v := .ref ((ad 0) 6)) (C := RX1) (T := TX1) (N := 13) hx hb htg inG_X1 hown hK hP 1 rfl rfl 0 (Nat.le_of_ble_eq_true rfl) (htg _ wq_107) (fun _ h9 => h9) rfl dX8_noiseAt_10 ?_
  refine lv_iload_n hx hb dX8_noiseAt_13 rfl (lv_at hl 1 rfl) ?_
  refine lv_iload_n hx hb dX8_noiseAt_14 rfl (lv_at hl 2 rfl) ?_
  refine vp_callSi (W.runV (As := [.int (zI x), .int (zI y)]) (rest := []) ⟨hx, hb, hml, hown, htg⟩ (c_noise l dg ck (pa (ad 0)) S x y hI (by omega) (by omega)) (cwV 2 htg (gwV wq_1370 wq_459 wq_460 wq_3 wq_461) rfl rfl rfl (by decide +kernel) ⟨Nat.le_of_ble_eq_true rfl, Nat.le_of_ble_eq_true rfl⟩) (rd_preV hK (va_P_r (w1 := bookC ck (ad 0) S) (w2 := parkC ck (pa (ad 0)) S) (va_P_l (va_P_r hP))) 0 9 rfl rfl) rfl rfl hl.1 rfl (lv_room (Nat.le_of_ble_eq_true rfl)) dX8_noiseAt_15 ⟨Nat.le_of_ble_eq_true rfl, Nat.le_of_ble_eq_true rfl⟩) (fun r15 hr15 => ?_)
  subst hr15
  have hEq : brkW ck ka ad ra Z O U X S T P I V N Y Q = brkC ad Z ++ (booksC ck (ad 0) S ++ (booksC ck (ad 1) T ++ (outC ((ad 7) 1) O ++ (booksC ck (ad 2) P ++ (nobjC (ad 3) ++ (rowC ck 36 ((ad 3) 1) V ++ (rowC ck 36 ((ad 3) 2) N ++ (inputC ck ka (ad 5) I ++ (sboC (ad 6) U ++ (sbvC ck ((ad 6) 1) Y ++ (histW ck (ad 4) ra X Q))))))))))) := rfl
  exact W.widen (k := 1) (n := 6) (Nat.le_of_ble_eq_true rfl) (Nat.le_of_ble_eq_true rfl) (vx_ret (W.iret (v := _) hx hb hr (fun t9 ht9 hW9 => ⟨⟨_, (), rfl, ⟨rfl, hn3⟩, by rw [ht9, hEq]; exact hP, by rw [hEq, hAe]; exact hD⟩, hS.F ht9⟩) hS.2.2 dX8_noiseAt_18))

set_option maxHeartbeats 4000000 in
set_option maxRecDepth 100000 in
/-- BenchBroker.noiseBySpreading -/
theorem x_noiseBySpreading (l : Launch) (dg : va_G) (ck : Nat → ClassId) (ka : Nat → Nat) (ad ra : Nat → Nat → Nat) (Z O U X : Nat → Int) (S T P I : St) (V N Y : Int → Int) (Q : Nat → St) (x y : Int) (sz : Nat) (hI : Bd S) (rg_x : -2147483648 ≤ x ∧ x < 2147483648) (rg_y : -2147483648 ≤ y ∧ y < 2147483648) (hst : l.stackTraces = false) : vx_Met l yX8_noiseBySpreading (.code yX8_noiseBySpreading cX8_noiseBySpreading 3 (some .int) :: GW) ({ frames := 7, cells := 1, slots := 6, locals := 117 }) (va_Pc [.ref ((ad 7) 0), .int (zI x), .int (zI y)] (wrK dg ck ka sz (brkC ad Z ++ (booksC ck (ad 0) S ++ (booksC ck (ad 1) T ++ (outC ((ad 7) 1) O ++ (booksC ck (ad 2) P ++ (nobjC (ad 3) ++ (rowC ck 36 ((ad 3) 1) V ++ (rowC ck 36 ((ad 3) 2) N ++ (inputC ck ka (ad 5) I ++ (sboC (ad 6) U ++ (sbvC ck ((ad 6) 1) Y ++ (histW ck (ad 4) ra X Q)))))))))))))) (va_Qi (fun r (_ : Unit) => r = zI (noise S x y) ∧ isCell x y) (fun _ t9 => wrQ dg sz (brkC ad Z ++ (booksC ck (ad 0) S ++ (booksC ck (ad 1) T ++ (outC ((ad 7) 1) O ++ (booksC ck (ad 2) P ++ (nobjC (ad 3) ++ (rowC ck 36 ((ad 3) 1) V ++ (rowC ck 36 ((ad 3) 2) N ++ (inputC ck ka (ad 5) I ++ (sboC (ad 6) U ++ (sbvC ck ((ad 6) 1) Y ++ (histW ck (ad 4) ra X Q)))))))))))) (brkW ck ka ad ra Z O U X S T P I (nsF S) (slZ S N (S 0 1).toNat) Y Q) t9) (va_A (brkC ad Z ++ (booksC ck (ad 0) S ++ (booksC ck (ad 1) T ++ (outC ((ad 7) 1) O ++ (booksC ck (ad 2) P ++ (nobjC (ad 3) ++ (rowC ck 36 ((ad 3) 1) V ++ (rowC ck 36 ((ad 3) 2) N ++ (inputC ck ka (ad 5) I ++ (sboC (ad 6) U ++ (sbvC ck ((ad 6) 1) Y ++ (histW ck (ad 4) ra X Q)))))))))))) sz)) (vx_X (fun _ : Unit => True) (fun E (_ : Unit) t9 => (E = "java/lang/IndexOutOfBoundsException" ∧ ¬ isCell x y) ∧ wrQ dg sz (brkC ad Z ++ (booksC ck (ad 0) S ++ (booksC ck (ad 1) T ++ (outC ((ad 7) 1) O ++ (booksC ck (ad 2) P ++ (nobjC (ad 3) ++ (rowC ck 36 ((ad 3) 1) V ++ (rowC ck 36 ((ad 3) 2) N ++ (inputC ck ka (ad 5) I ++ (sboC (ad 6) U ++ (sbvC ck ((ad 6) 1) Y ++ (histW ck (ad 4) ra X Q)))))))))))) (brkW ck ka ad ra Z O U X S T P I V N Y Q) t9) (va_A (brkC ad Z ++ (booksC ck (ad 0) S ++ (booksC ck (ad 1) T ++ (outC ((ad 7) 1) O ++ (booksC ck (ad 2) P ++ (nobjC (ad 3) ++ (rowC ck 36 ((ad 3) 1) V ++ (rowC ck 36 ((ad 3) 2) N ++ (inputC ck ka (ad 5) I ++ (sboC (ad 6) U ++ (sbvC ck ((ad 6) 1) Y ++ (histW ck (ad 4) ra X Q)))))))))))) sz)) 1 6 (va_A (brkC ad Z ++ (booksC ck (ad 0) S ++ (booksC ck (ad 1) T ++ (outC ((ad 7) 1) O ++ (booksC ck (ad 2) P ++ (nobjC (ad 3) ++ (rowC ck 36 ((ad 3) 1) V ++ (rowC ck 36 ((ad 3) 2) N ++ (inputC ck ka (ad 5) I ++ (sboC (ad 6) U ++ (sbvC ck ((ad 6) 1) Y ++ (histW ck (ad 4) ra X Q)))))))))))) sz) := by
  refine vx_ofW (cc := cX8_noiseBySpreading) (maxL := 3) (ret := (some .int)) (by decide) rfl ?_
  intro p e s m args below meth c s₁ B hml htab hv
  obtain ⟨rfl, ⟨hsz, hP, hK, hD0⟩, hC⟩ := hv
  have hx := B.exec
  have hb := B.bytes
  have hr := B.returns
  have hts := atoms_spec (ws := .code yX8_noiseBySpreading cX8_noiseBySpreading 3 (some .int) :: GW) B.pre
  have htg : ∀ w ∈ GW, w.before _ s = true := fun w h => hts w (List.mem_cons_of_mem _ h)
  have hown : s.vm.findClass RX8 = some m.cls := findClass_of_methodNamed B.named
  have hlocks := B.notSynchronized
  subst hsz
  have hD := hD0.self (sz := s.heap.size)
  generalize hAe : va_A (brkC ad Z ++ (booksC ck (ad 0) S ++ (booksC ck (ad 1) T ++ (outC ((ad 7) 1) O ++ (booksC ck (ad 2) P ++ (nobjC (ad 3) ++ (rowC ck 36 ((ad 3) 1) V ++ (rowC ck 36 ((ad 3) 2) N ++ (inputC ck ka (ad 5) I ++ (sboC (ad 6) U ++ (sbvC ck ((ad 6) 1) Y ++ (histW ck (ad 4) ra X Q)))))))))))) s.heap.size = A at hD hC ⊢
  have hA : ∀ q : Nat, s.heap.size ≤ q → A q := fun q h => by rw [← hAe]; exact Or.inr h
  have hS : va_S A s.heap s.heap [] := va_S.rf
  have hP : va_P dg vwCl (brkC ad Z ++ (booksC ck (ad 0) S ++ (booksC ck (ad 1) T ++ (outC ((ad 7) 1) O ++ (booksC ck (ad 2) P ++ (nobjC (ad 3) ++ (rowC ck 36 ((ad 3) 1) V ++ (rowC ck 36 ((ad 3) 2) N ++ (inputC ck ka (ad 5) I ++ (sboC (ad 6) U ++ (sbvC ck ((ad 6) 1) Y ++ (histW ck (ad 4) ra X Q)))))))))))) s.heap := hP
  have hl := lv_entry ([.ref ((ad 7) 0), .int (zI x), .int (zI y)]) (n := 3) (Nat.le_of_ble_eq_true rfl)
  rw [lg_entry_eq]
  generalize (lg_sl ([.ref ((ad 7) 0), .int (zI x), .int (zI y)]) ++ List.replicate (3 - (lg_sl ([.ref ((ad 7) 0), .int (zI x), .int (zI y)])).length) Slot.unset).toArray = ls at hl ⊢
  have hl : lv_has ls 3 [(0, .ref ((ad 7) 0)), (1, .int (zI x)), (2, .int (zI y))] := hl
  obtain ⟨b00, b01, b02, b03, b1, b2, b3, b4, b5, b6, b7, b8, b9, b10, b11, b12⟩ := id hI
  refine lv_aload_n hx hb dX8_noiseBySpreading_0 rfl (lv_at hl 0 rfl) ?_
  refine lv_iload_n hx hb dX8_noiseBySpreading_1 rfl (lv_at hl 1 rfl) ?_
  refine lv_iload_n hx hb dX8_noiseBySpreading_2 rfl (lv_at hl 2 rfl) ?_
  refine xx_callv hP hD hS hA (vx_runV (As := [.int (zI x), .int (zI y)]) (rest := []) ⟨hx, hb, hml, hown, htg⟩ (x_needCell l dg ck ka ad ra Z O U X S T P I V N Y Q x y _ (by omega) (by omega) hst) (cwV 2 htg (gwV wq_1265 wq_1267 wp_21 wq_1 wq_1268) rfl rfl rfl (by decide +kernel) ⟨Nat.le_of_ble_eq_true rfl, Nat.le_of_ble_eq_true rfl⟩) (wrK_preV hK hP hD hC hS hA 0 10 rfl rfl) rfl rfl hl.1 rfl (lv_room (Nat.le_of_ble_eq_true rfl)) dX8_noiseBySpreading_3 ⟨Nat.le_of_ble_eq_true rfl, Nat.le_of_ble_eq_true rfl⟩) (fun E9 ce9 q9 H locs hE9 hP hD hS g1 g2 g3 => ?_) (fun H locs hn3 hP hD hS => ?_)
  · have hEqX : brkW ck ka ad ra Z O U X S T P I V N Y Q = brkC ad Z ++ (booksC ck (ad 0) S ++ (booksC ck (ad 1) T ++ (outC ((ad 7) 1) O ++ (booksC ck (ad 2) P ++ (nobjC (ad 3) ++ (rowC ck 36 ((ad 3) 1) V ++ (rowC ck 36 ((ad 3) 2) N ++ (inputC ck ka (ad 5) I ++ (sboC (ad 6) U ++ (sbvC ck ((ad 6) 1) Y ++ (histW ck (ad 4) ra X Q))))))))))) := rfl
    exact x_outX (XP := fun E => E = "java/lang/IndexOutOfBoundsException" ∧ ¬ isCell x y) hAe htab hlocks (by rw [hEqX]; exact hP) (by rw [hEqX]; exact hD) hS hE9 g1 g2 g3 (Nat.le_of_ble_eq_true rfl) (Nat.le_of_ble_eq_true rfl)
  have hP : va_P dg vwCl (brkC ad Z ++ (booksC ck (ad 0) S ++ (booksC ck (ad 1) T ++ (outC ((ad 7) 1) O ++ (booksC ck (ad 2) P ++ (nobjC (ad 3) ++ (rowC ck 36 ((ad 3) 1) V ++ (rowC ck 36 ((ad 3) 2) N ++ (inputC ck ka (ad 5) I ++ (sboC (ad 6) U ++ (sbvC ck ((ad 6) 1) Y ++ (histW ck (ad 4) ra X Q)))))))))))) H := hP
  have hD : va_D A (brkC ad Z ++ (booksC ck (ad 0) S ++ (booksC ck (ad 1) T ++ (outC ((ad 7) 1) O ++ (booksC ck (ad 2) P ++ (nobjC (ad 3) ++ (rowC ck 36 ((ad 3) 1) V ++ (rowC ck 36 ((ad 3) 2) N ++ (inputC ck ka (ad 5) I ++ (sboC (ad 6) U ++ (sbvC ck ((ad 6) 1) Y ++ (histW ck (ad 4) ra X Q)))))))))))) := hD
  refine lv_aload_n hx hb dX8_noiseBySpreading_6 rfl (lv_at hl 0 rfl) ?_
  refine va_get (D := dg) (ci := 10) (v := .ref ((ad 3) 0)) (C := RX8) (T := TX8) (N := 13) hx hb htg inG_X8 hown hK hP 0 rfl rfl 6 (Nat.le_of_ble_eq_true rfl) (htg _ wq_285) (fun _ h9 => h9) rfl dX8_noiseBySpreading_7 ?_
  refine lv_aload_n hx hb dX8_noiseBySpreading_10 rfl (lv_at hl 0 rfl) ?_
  refine va_get (D := dg) (ci := 10) (v := .ref ((ad 0) 0)) (C := RX8) (T := TX8) (N := 13) hx hb htg inG_X8 hown hK hP 0 rfl rfl 0 (Nat.le_of_ble_eq_true rfl) (htg _ wq_279) (fun _ h9 => h9) rfl dX8_noiseBySpreading_11 ?_
  refine va_get (D := dg) (ci := 4) (v := .ref ((ad 0) 6)) (C := RX1) (T := TX1) (N := 13) hx hb htg inG_X1 hown hK hP 1 rfl rfl 0 (Nat.le_of_ble_eq_true rfl) (htg _ wq_107) (fun _ h9 => h9) rfl dX8_noiseBySpreading_14 ?_
  refine x_callvB (ws' := brkC ad Z ++ (booksC ck (ad 0) S ++ (booksC ck (ad 1) T ++ (outC ((ad 7) 1) O ++ (booksC ck (ad 2) P ++ (nobjC (ad 3) ++ (rowC ck 36 ((ad 3) 1) (nsF S) ++ (rowC ck 36 ((ad 3) 2) (slZ S N (S 0 1).toNat) ++ (inputC ck ka (ad 5) I ++ (sboC (ad 6) U ++ (sbvC ck ((ad 6) 1) Y ++ (histW ck (ad 4) ra X Q)))))))))))) (M := nobjC (ad 3) ++ (rowC ck 36 ((ad 3) 1) V ++ (rowC ck 36 ((ad 3) 2) N ++ (parkC ck (pa (ad 0)) S)))) (M' := nobjC (ad 3) ++ (rowC ck 36 ((ad 3) 1) (nsF S) ++ (rowC ck 36 ((ad 3) 2) (slZ S N (S 0 1).toNat) ++ (parkC ck (pa (ad 0)) S)))) (N := brkC ad Z ++ (bookC ck (ad 0) S ++ (booksC ck (ad 1) T ++ (outC ((ad 7) 1) O ++ (booksC ck (ad 2) P ++ (inputC ck ka (ad 5) I ++ (sboC (ad 6) U ++ (sbvC ck ((ad 6) 1) Y ++ (histW ck (ad 4) ra X Q))))))))) (by rw [sp_b ck (ad 0) S]; exact cat_perm [brkC ad Z, bookC ck (ad 0) S, parkC ck (pa (ad 0)) S, booksC ck (ad 1) T, outC ((ad 7) 1) O, booksC ck (ad 2) P, nobjC (ad 3), rowC ck 36 ((ad 3) 1) V, rowC ck 36 ((ad 3) 2) N, inputC ck ka (ad 5) I, sboC (ad 6) U, sbvC ck ((ad 6) 1) Y, histW ck (ad 4) ra X Q] [6, 7, 8, 2] [0, 1, 3, 4, 5, 9, 10, 11, 12] 13 rfl (by decide)) (by rw [sp_b ck (ad 0) S]; exact cat_perm [brkC ad Z, bookC ck (ad 0) S, parkC ck (pa (ad 0)) S, booksC ck (ad 1) T, outC ((ad 7) 1) O, booksC ck (ad 2) P, nobjC (ad 3), rowC ck 36 ((ad 3) 1) (nsF S), rowC ck 36 ((ad 3) 2) (slZ S N (S 0 1).toNat), inputC ck ka (ad 5) I, sboC (ad 6) U, sbvC ck ((ad 6) 1) Y, histW ck (ad 4) ra X Q] [6, 7, 8, 2] [0, 1, 3, 4, 5, 9, 10, 11, 12] 13 rfl (by decide)) hP hD hS hA (fun hPm hDm => va_runV (As := [.ref ((ad 0) 6)]) (rest := []) ⟨hx, hb, hml, hown, htg⟩ (c_spreadAll l dg ck (ad 3) (pa (ad 0)) V N S _ hI) (cwV 1 htg (gwV wq_1430 wq_1431 wq_1432 wq_7 wq_1433) rfl rfl rfl (by decide +kernel) ⟨Nat.le_of_ble_eq_true rfl, Nat.le_of_ble_eq_true rfl⟩) (wr_preV hK hPm hDm 0 7 rfl rfl) rfl rfl hl.1 rfl (lv_room (Nat.le_of_ble_eq_true rfl)) dX8_noiseBySpreading_17 ⟨Nat.le_of_ble_eq_true rfl, Nat.le_of_ble_eq_true rfl⟩) (fun H locs hP hD hS => ?_)
  refine lv_aload_n hx hb dX8_noiseBySpreading_20 rfl (lv_at hl 0 rfl) ?_
  refine va_get (D := dg) (ci := 10) (v := .ref ((ad 3) 0)) (C := RX8) (T := TX8) (N := 13) hx hb htg inG_X8 hown hK hP 0 rfl rfl 6 (Nat.le_of_ble_eq_true rfl) (htg _ wq_285) (fun _ h9 => h9) rfl dX8_noiseBySpreading_21 ?_
  refine va_get (D := dg) (ci := 7) (v := .ref ((ad 3) 1)) (C := RX4) (T := TX4) (N := 2) hx hb htg inG_X4 hown hK hP 44 rfl rfl 0 (Nat.le_of_ble_eq_true rfl) (htg _ wq_209) (fun _ h9 => h9) rfl dX8_noiseBySpreading_24 ?_
  refine lv_iload_n hx hb dX8_noiseBySpreading_27 rfl (lv_at hl 1 rfl) ?_
  refine x_bipush hx hb dX8_noiseBySpreading_28 (by decide) ?_
  refine x_imul hx hb dX8_noiseBySpreading_30 ?_
  refine lv_iload_n hx hb dX8_noiseBySpreading_31 rfl (lv_at hl 2 rfl) ?_
  refine x_iadd hx hb dX8_noiseBySpreading_32 ?_
  refine x_iald hx hb hK hP 45 0 (nsF S) rfl rfl (fun _ => rfl) (P := fun _ => True) (fun _ => trivial) (by decide) (by omega) dX8_noiseBySpreading_33 (fun _ => ?_)
  have hEq : brkW ck ka ad ra Z O U X S T P I (nsF S) (slZ S N (S 0 1).toNat) Y Q = brkC ad Z ++ (booksC ck (ad 0) S ++ (booksC ck (ad 1) T ++ (outC ((ad 7) 1) O ++ (booksC ck (ad 2) P ++ (nobjC (ad 3) ++ (rowC ck 36 ((ad 3) 1) (nsF S) ++ (rowC ck 36 ((ad 3) 2) (slZ S N (S 0 1).toNat) ++ (inputC ck ka (ad 5) I ++ (sboC (ad 6) U ++ (sbvC ck ((ad 6) 1) Y ++ (histW ck (ad 4) ra X Q))))))))))) := rfl
  exact W.widen (k := 1) (n := 6) (Nat.le_of_ble_eq_true rfl) (Nat.le_of_ble_eq_true rfl) (vx_ret (W.iret (v := _) hx hb hr (fun t9 ht9 hW9 => ⟨⟨_, (), rfl, ⟨congrArg zI (by unfold nsF; rw [show ((x * 6) + y) / 6 = x by omega, show ((x * 6) + y) % 6 = y by omega]), hn3⟩, by rw [ht9, hEq]; exact hP, by rw [hEq, hAe]; exact hD⟩, hS.F ht9⟩) hS.2.2 dX8_noiseBySpreading_34))

set_option maxHeartbeats 4000000 in
set_option maxRecDepth 100000 in
/-- BenchBroker.isQuiet -/
theorem x_isQuiet (l : Launch) (dg : va_G) (ck : Nat → ClassId) (ka : Nat → Nat) (ad ra : Nat → Nat → Nat) (Z O U X : Nat → Int) (S T P I : St) (V N Y : Int → Int) (Q : Nat → St) (x : Int) (sz : Nat) (hI : Bd S) (rg_x : -2147483648 ≤ x ∧ x < 2147483648) (hst : l.stackTraces = false) : vx_Met l yX8_isQuiet (.code yX8_isQuiet cX8_isQuiet 2 (some .boolean) :: GW) ({ frames := 7, cells := 1, slots := 6, locals := 116 }) (va_Pc [.ref ((ad 7) 0), .int (zI x)] (wrK dg ck ka sz (brkC ad Z ++ (booksC ck (ad 0) S ++ (booksC ck (ad 1) T ++ (outC ((ad 7) 1) O ++ (booksC ck (ad 2) P ++ (nobjC (ad 3) ++ (rowC ck 36 ((ad 3) 1) V ++ (rowC ck 36 ((ad 3) 2) N ++ (inputC ck ka (ad 5) I ++ (sboC (ad 6) U ++ (sbvC ck ((ad 6) 1) Y ++ (histW ck (ad 4) ra X Q)))))))))))))) (va_Qi (fun r (_ : Unit) => r = zI (bI (quietB S x)) ∧ isBench S x) (fun _ t9 => wrQ dg sz (brkC ad Z ++ (booksC ck (ad 0) S ++ (booksC ck (ad 1) T ++ (outC ((ad 7) 1) O ++ (booksC ck (ad 2) P ++ (nobjC (ad 3) ++ (rowC ck 36 ((ad 3) 1) V ++ (rowC ck 36 ((ad 3) 2) N ++ (inputC ck ka (ad 5) I ++ (sboC (ad 6) U ++ (sbvC ck ((ad 6) 1) Y ++ (histW ck (ad 4) ra X Q)))))))))))) (brkW ck ka ad ra Z O U X S T P I V N Y Q) t9) (va_A (brkC ad Z ++ (booksC ck (ad 0) S ++ (booksC ck (ad 1) T ++ (outC ((ad 7) 1) O ++ (booksC ck (ad 2) P ++ (nobjC (ad 3) ++ (rowC ck 36 ((ad 3) 1) V ++ (rowC ck 36 ((ad 3) 2) N ++ (inputC ck ka (ad 5) I ++ (sboC (ad 6) U ++ (sbvC ck ((ad 6) 1) Y ++ (histW ck (ad 4) ra X Q)))))))))))) sz)) (vx_X (fun _ : Unit => True) (fun E (_ : Unit) t9 => (E = "java/lang/IndexOutOfBoundsException" ∧ ¬ (isBench S x)) ∧ wrQ dg sz (brkC ad Z ++ (booksC ck (ad 0) S ++ (booksC ck (ad 1) T ++ (outC ((ad 7) 1) O ++ (booksC ck (ad 2) P ++ (nobjC (ad 3) ++ (rowC ck 36 ((ad 3) 1) V ++ (rowC ck 36 ((ad 3) 2) N ++ (inputC ck ka (ad 5) I ++ (sboC (ad 6) U ++ (sbvC ck ((ad 6) 1) Y ++ (histW ck (ad 4) ra X Q)))))))))))) (brkW ck ka ad ra Z O U X S T P I V N Y Q) t9) (va_A (brkC ad Z ++ (booksC ck (ad 0) S ++ (booksC ck (ad 1) T ++ (outC ((ad 7) 1) O ++ (booksC ck (ad 2) P ++ (nobjC (ad 3) ++ (rowC ck 36 ((ad 3) 1) V ++ (rowC ck 36 ((ad 3) 2) N ++ (inputC ck ka (ad 5) I ++ (sboC (ad 6) U ++ (sbvC ck ((ad 6) 1) Y ++ (histW ck (ad 4) ra X Q)))))))))))) sz)) 1 6 (va_A (brkC ad Z ++ (booksC ck (ad 0) S ++ (booksC ck (ad 1) T ++ (outC ((ad 7) 1) O ++ (booksC ck (ad 2) P ++ (nobjC (ad 3) ++ (rowC ck 36 ((ad 3) 1) V ++ (rowC ck 36 ((ad 3) 2) N ++ (inputC ck ka (ad 5) I ++ (sboC (ad 6) U ++ (sbvC ck ((ad 6) 1) Y ++ (histW ck (ad 4) ra X Q)))))))))))) sz) := by
  refine vx_ofW (cc := cX8_isQuiet) (maxL := 2) (ret := (some .boolean)) (by decide) rfl ?_
  intro p e s m args below meth c s₁ B hml htab hv
  obtain ⟨rfl, ⟨hsz, hP, hK, hD0⟩, hC⟩ := hv
  have hx := B.exec
  have hb := B.bytes
  have hr := B.returns
  have hts := atoms_spec (ws := .code yX8_isQuiet cX8_isQuiet 2 (some .boolean) :: GW) B.pre
  have htg : ∀ w ∈ GW, w.before _ s = true := fun w h => hts w (List.mem_cons_of_mem _ h)
  have hown : s.vm.findClass RX8 = some m.cls := findClass_of_methodNamed B.named
  have hlocks := B.notSynchronized
  subst hsz
  have hD := hD0.self (sz := s.heap.size)
  generalize hAe : va_A (brkC ad Z ++ (booksC ck (ad 0) S ++ (booksC ck (ad 1) T ++ (outC ((ad 7) 1) O ++ (booksC ck (ad 2) P ++ (nobjC (ad 3) ++ (rowC ck 36 ((ad 3) 1) V ++ (rowC ck 36 ((ad 3) 2) N ++ (inputC ck ka (ad 5) I ++ (sboC (ad 6) U ++ (sbvC ck ((ad 6) 1) Y ++ (histW ck (ad 4) ra X Q)))))))))))) s.heap.size = A at hD hC ⊢
  have hA : ∀ q : Nat, s.heap.size ≤ q → A q := fun q h => by rw [← hAe]; exact Or.inr h
  have hS : va_S A s.heap s.heap [] := va_S.rf
  have hP : va_P dg vwCl (brkC ad Z ++ (booksC ck (ad 0) S ++ (booksC ck (ad 1) T ++ (outC ((ad 7) 1) O ++ (booksC ck (ad 2) P ++ (nobjC (ad 3) ++ (rowC ck 36 ((ad 3) 1) V ++ (rowC ck 36 ((ad 3) 2) N ++ (inputC ck ka (ad 5) I ++ (sboC (ad 6) U ++ (sbvC ck ((ad 6) 1) Y ++ (histW ck (ad 4) ra X Q)))))))))))) s.heap := hP
  have hl := lv_entry ([.ref ((ad 7) 0), .int (zI x)]) (n := 2) (Nat.le_of_ble_eq_true rfl)
  rw [lg_entry_eq]
  generalize (lg_sl ([.ref ((ad 7) 0), .int (zI x)]) ++ List.replicate (2 - (lg_sl ([.ref ((ad 7) 0), .int (zI x)])).length) Slot.unset).toArray = ls at hl ⊢
  have hl : lv_has ls 2 [(0, .ref ((ad 7) 0)), (1, .int (zI x))] := hl
  obtain ⟨b00, b01, b02, b03, b1, b2, b3, b4, b5, b6, b7, b8, b9, b10, b11, b12⟩ := id hI
  refine lv_aload_n hx hb dX8_isQuiet_0 rfl (lv_at hl 0 rfl) ?_
  refine lv_iload_n hx hb dX8_isQuiet_1 rfl (lv_at hl 1 rfl) ?_
  refine xx_callv hP hD hS hA (vx_runV (As := [.int (zI x)]) (rest := []) ⟨hx, hb, hml, hown, htg⟩ (x_needBench l dg ck ka ad ra Z O U X S T P I V N Y Q x _ hI (by omega) hst) (cwV 1 htg (gwV wq_425 wq_427 wp_1 wq_1 wq_428) rfl rfl rfl (by decide +kernel) ⟨Nat.le_of_ble_eq_true rfl, Nat.le_of_ble_eq_true rfl⟩) (wrK_preV hK hP hD hC hS hA 0 10 rfl rfl) rfl rfl hl.1 rfl (lv_room (Nat.le_of_ble_eq_true rfl)) dX8_isQuiet_2 ⟨Nat.le_of_ble_eq_true rfl, Nat.le_of_ble_eq_true rfl⟩) (fun E9 ce9 q9 H locs hE9 hP hD hS g1 g2 g3 => ?_) (fun H locs hn2 hP hD hS => ?_)
  · have hEqX : brkW ck ka ad ra Z O U X S T P I V N Y Q = brkC ad Z ++ (booksC ck (ad 0) S ++ (booksC ck (ad 1) T ++ (outC ((ad 7) 1) O ++ (booksC ck (ad 2) P ++ (nobjC (ad 3) ++ (rowC ck 36 ((ad 3) 1) V ++ (rowC ck 36 ((ad 3) 2) N ++ (inputC ck ka (ad 5) I ++ (sboC (ad 6) U ++ (sbvC ck ((ad 6) 1) Y ++ (histW ck (ad 4) ra X Q))))))))))) := rfl
    exact x_outX (XP := fun E => E = "java/lang/IndexOutOfBoundsException" ∧ ¬ (isBench S x)) hAe htab hlocks (by rw [hEqX]; exact hP) (by rw [hEqX]; exact hD) hS hE9 g1 g2 g3 (Nat.le_of_ble_eq_true rfl) (Nat.le_of_ble_eq_true rfl)
  have hP : va_P dg vwCl (brkC ad Z ++ (booksC ck (ad 0) S ++ (booksC ck (ad 1) T ++ (outC ((ad 7) 1) O ++ (booksC ck (ad 2) P ++ (nobjC (ad 3) ++ (rowC ck 36 ((ad 3) 1) V ++ (rowC ck 36 ((ad 3) 2) N ++ (inputC ck ka (ad 5) I ++ (sboC (ad 6) U ++ (sbvC ck ((ad 6) 1) Y ++ (histW ck (ad 4) ra X Q)))))))))))) H := hP
  have hD : va_D A (brkC ad Z ++ (booksC ck (ad 0) S ++ (booksC ck (ad 1) T ++ (outC ((ad 7) 1) O ++ (booksC ck (ad 2) P ++ (nobjC (ad 3) ++ (rowC ck 36 ((ad 3) 1) V ++ (rowC ck 36 ((ad 3) 2) N ++ (inputC ck ka (ad 5) I ++ (sboC (ad 6) U ++ (sbvC ck ((ad 6) 1) Y ++ (histW ck (ad 4) ra X Q)))))))))))) := hD
  refine lv_aload_n hx hb dX8_isQuiet_5 rfl (lv_at hl 0 rfl) ?_
  refine va_get (D := dg) (ci := 10) (v := .ref ((ad 0) 0)) (C := RX8) (T := TX8) (N := 13) hx hb htg inG_X8 hown hK hP 0 rfl rfl 0 (Nat.le_of_ble_eq_true rfl) (htg _ wq_279) (fun _ h9 => h9) rfl dX8_isQuiet_6 ?_
  refine va_get (D := dg) (ci := 4) (v := .ref ((ad 0) 6)) (C := RX1) (T := TX1) (N := 13) hx hb htg inG_X1 hown hK hP 1 rfl rfl 0 (Nat.le_of_ble_eq_true rfl) (htg _ wq_107) (fun _ h9 => h9) rfl dX8_isQuiet_9 ?_
  refine lv_iload_n hx hb dX8_isQuiet_12 rfl (lv_at hl 1 rfl) ?_
  refine vp_callSi (W.runV (As := [.int (zI x)]) (rest := []) ⟨hx, hb, hml, hown, htg⟩ (c_quiet l dg ck (pa (ad 0)) S x hI (by omega)) (cwV 1 htg (gwV wq_562 wq_521 wq_522 wq_3 wq_523) rfl rfl rfl (by decide +kernel) ⟨Nat.le_of_ble_eq_true rfl, Nat.le_of_ble_eq_true rfl⟩) (rd_preV hK (va_P_r (w1 := bookC ck (ad 0) S) (w2 := parkC ck (pa (ad 0)) S) (va_P_l (va_P_r hP))) 0 9 rfl rfl) rfl rfl hl.1 rfl (lv_room (Nat.le_of_ble_eq_true rfl)) dX8_isQuiet_13 ⟨Nat.le_of_ble_eq_true rfl, Nat.le_of_ble_eq_true rfl⟩) (fun r13 hr13 => ?_)
  subst hr13
  have hEq : brkW ck ka ad ra Z O U X S T P I V N Y Q = brkC ad Z ++ (booksC ck (ad 0) S ++ (booksC ck (ad 1) T ++ (outC ((ad 7) 1) O ++ (booksC ck (ad 2) P ++ (nobjC (ad 3) ++ (rowC ck 36 ((ad 3) 1) V ++ (rowC ck 36 ((ad 3) 2) N ++ (inputC ck ka (ad 5) I ++ (sboC (ad 6) U ++ (sbvC ck ((ad 6) 1) Y ++ (histW ck (ad 4) ra X Q))))))))))) := rfl
  exact W.widen (k := 1) (n := 6) (Nat.le_of_ble_eq_true rfl) (Nat.le_of_ble_eq_true rfl) (vx_ret (W.zret (v := _) hx hb hr (by first | rfl | exact nar_b _) (fun t9 ht9 hW9 => ⟨⟨_, (), rfl, ⟨rfl, hn2⟩, by rw [ht9, hEq]; exact hP, by rw [hEq, hAe]; exact hD⟩, hS.F ht9⟩) hS.2.2 dX8_isQuiet_16))

set_option maxHeartbeats 4000000 in
set_option maxRecDepth 100000 in
/-- BenchBroker.coinsOf -/
theorem x_coinsOf (l : Launch) (dg : va_G) (ck : Nat → ClassId) (ka : Nat → Nat) (ad ra : Nat → Nat → Nat) (Z O U X : Nat → Int) (S T P I : St) (V N Y : Int → Int) (Q : Nat → St) (x : Int) (sz : Nat) (hI : Bd S) (rg_x : -2147483648 ≤ x ∧ x < 2147483648) (hst : l.stackTraces = false) : vx_Met l yX8_coinsOf (.code yX8_coinsOf cX8_coinsOf 2 (some .int) :: GW) ({ frames := 7, cells := 1, slots := 6, locals := 116 }) (va_Pc [.ref ((ad 7) 0), .int (zI x)] (wrK dg ck ka sz (brkC ad Z ++ (booksC ck (ad 0) S ++ (booksC ck (ad 1) T ++ (outC ((ad 7) 1) O ++ (booksC ck (ad 2) P ++ (nobjC (ad 3) ++ (rowC ck 36 ((ad 3) 1) V ++ (rowC ck 36 ((ad 3) 2) N ++ (inputC ck ka (ad 5) I ++ (sboC (ad 6) U ++ (sbvC ck ((ad 6) 1) Y ++ (histW ck (ad 4) ra X Q)))))))))))))) (va_Qi (fun r (_ : Unit) => r = zI (S 11 x) ∧ isTen S x) (fun _ t9 => wrQ dg sz (brkC ad Z ++ (booksC ck (ad 0) S ++ (booksC ck (ad 1) T ++ (outC ((ad 7) 1) O ++ (booksC ck (ad 2) P ++ (nobjC (ad 3) ++ (rowC ck 36 ((ad 3) 1) V ++ (rowC ck 36 ((ad 3) 2) N ++ (inputC ck ka (ad 5) I ++ (sboC (ad 6) U ++ (sbvC ck ((ad 6) 1) Y ++ (histW ck (ad 4) ra X Q)))))))))))) (brkW ck ka ad ra Z O U X S T P I V N Y Q) t9) (va_A (brkC ad Z ++ (booksC ck (ad 0) S ++ (booksC ck (ad 1) T ++ (outC ((ad 7) 1) O ++ (booksC ck (ad 2) P ++ (nobjC (ad 3) ++ (rowC ck 36 ((ad 3) 1) V ++ (rowC ck 36 ((ad 3) 2) N ++ (inputC ck ka (ad 5) I ++ (sboC (ad 6) U ++ (sbvC ck ((ad 6) 1) Y ++ (histW ck (ad 4) ra X Q)))))))))))) sz)) (vx_X (fun _ : Unit => True) (fun E (_ : Unit) t9 => (E = "java/lang/IndexOutOfBoundsException" ∧ ¬ (isTen S x)) ∧ wrQ dg sz (brkC ad Z ++ (booksC ck (ad 0) S ++ (booksC ck (ad 1) T ++ (outC ((ad 7) 1) O ++ (booksC ck (ad 2) P ++ (nobjC (ad 3) ++ (rowC ck 36 ((ad 3) 1) V ++ (rowC ck 36 ((ad 3) 2) N ++ (inputC ck ka (ad 5) I ++ (sboC (ad 6) U ++ (sbvC ck ((ad 6) 1) Y ++ (histW ck (ad 4) ra X Q)))))))))))) (brkW ck ka ad ra Z O U X S T P I V N Y Q) t9) (va_A (brkC ad Z ++ (booksC ck (ad 0) S ++ (booksC ck (ad 1) T ++ (outC ((ad 7) 1) O ++ (booksC ck (ad 2) P ++ (nobjC (ad 3) ++ (rowC ck 36 ((ad 3) 1) V ++ (rowC ck 36 ((ad 3) 2) N ++ (inputC ck ka (ad 5) I ++ (sboC (ad 6) U ++ (sbvC ck ((ad 6) 1) Y ++ (histW ck (ad 4) ra X Q)))))))))))) sz)) 1 6 (va_A (brkC ad Z ++ (booksC ck (ad 0) S ++ (booksC ck (ad 1) T ++ (outC ((ad 7) 1) O ++ (booksC ck (ad 2) P ++ (nobjC (ad 3) ++ (rowC ck 36 ((ad 3) 1) V ++ (rowC ck 36 ((ad 3) 2) N ++ (inputC ck ka (ad 5) I ++ (sboC (ad 6) U ++ (sbvC ck ((ad 6) 1) Y ++ (histW ck (ad 4) ra X Q)))))))))))) sz) := by
  refine vx_ofW (cc := cX8_coinsOf) (maxL := 2) (ret := (some .int)) (by decide) rfl ?_
  intro p e s m args below meth c s₁ B hml htab hv
  obtain ⟨rfl, ⟨hsz, hP, hK, hD0⟩, hC⟩ := hv
  have hx := B.exec
  have hb := B.bytes
  have hr := B.returns
  have hts := atoms_spec (ws := .code yX8_coinsOf cX8_coinsOf 2 (some .int) :: GW) B.pre
  have htg : ∀ w ∈ GW, w.before _ s = true := fun w h => hts w (List.mem_cons_of_mem _ h)
  have hown : s.vm.findClass RX8 = some m.cls := findClass_of_methodNamed B.named
  have hlocks := B.notSynchronized
  subst hsz
  have hD := hD0.self (sz := s.heap.size)
  generalize hAe : va_A (brkC ad Z ++ (booksC ck (ad 0) S ++ (booksC ck (ad 1) T ++ (outC ((ad 7) 1) O ++ (booksC ck (ad 2) P ++ (nobjC (ad 3) ++ (rowC ck 36 ((ad 3) 1) V ++ (rowC ck 36 ((ad 3) 2) N ++ (inputC ck ka (ad 5) I ++ (sboC (ad 6) U ++ (sbvC ck ((ad 6) 1) Y ++ (histW ck (ad 4) ra X Q)))))))))))) s.heap.size = A at hD hC ⊢
  have hA : ∀ q : Nat, s.heap.size ≤ q → A q := fun q h => by rw [← hAe]; exact Or.inr h
  have hS : va_S A s.heap s.heap [] := va_S.rf
  have hP : va_P dg vwCl (brkC ad Z ++ (booksC ck (ad 0) S ++ (booksC ck (ad 1) T ++ (outC ((ad 7) 1) O ++ (booksC ck (ad 2) P ++ (nobjC (ad 3) ++ (rowC ck 36 ((ad 3) 1) V ++ (rowC ck 36 ((ad 3) 2) N ++ (inputC ck ka (ad 5) I ++ (sboC (ad 6) U ++ (sbvC ck ((ad 6) 1) Y ++ (histW ck (ad 4) ra X Q)))))))))))) s.heap := hP
  have hl := lv_entry ([.ref ((ad 7) 0), .int (zI x)]) (n := 2) (Nat.le_of_ble_eq_true rfl)
  rw [lg_entry_eq]
  generalize (lg_sl ([.ref ((ad 7) 0), .int (zI x)]) ++ List.replicate (2 - (lg_sl ([.ref ((ad 7) 0), .int (zI x)])).length) Slot.unset).toArray = ls at hl ⊢
  have hl : lv_has ls 2 [(0, .ref ((ad 7) 0)), (1, .int (zI x))] := hl
  obtain ⟨b00, b01, b02, b03, b1, b2, b3, b4, b5, b6, b7, b8, b9, b10, b11, b12⟩ := id hI
  refine lv_aload_n hx hb dX8_coinsOf_0 rfl (lv_at hl 0 rfl) ?_
  refine lv_iload_n hx hb dX8_coinsOf_1 rfl (lv_at hl 1 rfl) ?_
  refine xx_callv hP hD hS hA (vx_runV (As := [.int (zI x)]) (rest := []) ⟨hx, hb, hml, hown, htg⟩ (x_needTenant l dg ck ka ad ra Z O U X S T P I V N Y Q x _ hI (by omega) hst) (cwV 1 htg (gwV wq_476 wq_478 wp_2 wq_1 wq_479) rfl rfl rfl (by decide +kernel) ⟨Nat.le_of_ble_eq_true rfl, Nat.le_of_ble_eq_true rfl⟩) (wrK_preV hK hP hD hC hS hA 0 10 rfl rfl) rfl rfl hl.1 rfl (lv_room (Nat.le_of_ble_eq_true rfl)) dX8_coinsOf_2 ⟨Nat.le_of_ble_eq_true rfl, Nat.le_of_ble_eq_true rfl⟩) (fun E9 ce9 q9 H locs hE9 hP hD hS g1 g2 g3 => ?_) (fun H locs hn2 hP hD hS => ?_)
  · have hEqX : brkW ck ka ad ra Z O U X S T P I V N Y Q = brkC ad Z ++ (booksC ck (ad 0) S ++ (booksC ck (ad 1) T ++ (outC ((ad 7) 1) O ++ (booksC ck (ad 2) P ++ (nobjC (ad 3) ++ (rowC ck 36 ((ad 3) 1) V ++ (rowC ck 36 ((ad 3) 2) N ++ (inputC ck ka (ad 5) I ++ (sboC (ad 6) U ++ (sbvC ck ((ad 6) 1) Y ++ (histW ck (ad 4) ra X Q))))))))))) := rfl
    exact x_outX (XP := fun E => E = "java/lang/IndexOutOfBoundsException" ∧ ¬ (isTen S x)) hAe htab hlocks (by rw [hEqX]; exact hP) (by rw [hEqX]; exact hD) hS hE9 g1 g2 g3 (Nat.le_of_ble_eq_true rfl) (Nat.le_of_ble_eq_true rfl)
  have hP : va_P dg vwCl (brkC ad Z ++ (booksC ck (ad 0) S ++ (booksC ck (ad 1) T ++ (outC ((ad 7) 1) O ++ (booksC ck (ad 2) P ++ (nobjC (ad 3) ++ (rowC ck 36 ((ad 3) 1) V ++ (rowC ck 36 ((ad 3) 2) N ++ (inputC ck ka (ad 5) I ++ (sboC (ad 6) U ++ (sbvC ck ((ad 6) 1) Y ++ (histW ck (ad 4) ra X Q)))))))))))) H := hP
  have hD : va_D A (brkC ad Z ++ (booksC ck (ad 0) S ++ (booksC ck (ad 1) T ++ (outC ((ad 7) 1) O ++ (booksC ck (ad 2) P ++ (nobjC (ad 3) ++ (rowC ck 36 ((ad 3) 1) V ++ (rowC ck 36 ((ad 3) 2) N ++ (inputC ck ka (ad 5) I ++ (sboC (ad 6) U ++ (sbvC ck ((ad 6) 1) Y ++ (histW ck (ad 4) ra X Q)))))))))))) := hD
  refine lv_aload_n hx hb dX8_coinsOf_5 rfl (lv_at hl 0 rfl) ?_
  refine va_get (D := dg) (ci := 10) (v := .ref ((ad 0) 0)) (C := RX8) (T := TX8) (N := 13) hx hb htg inG_X8 hown hK hP 0 rfl rfl 0 (Nat.le_of_ble_eq_true rfl) (htg _ wq_279) (fun _ h9 => h9) rfl dX8_coinsOf_6 ?_
  refine va_get (D := dg) (ci := 4) (v := .ref ((ad 0) 1)) (C := RX1) (T := TX1) (N := 13) hx hb htg inG_X1 hown hK hP 1 rfl rfl 2 (Nat.le_of_ble_eq_true rfl) (htg _ wq_111) (fun _ h9 => h9) rfl dX8_coinsOf_9 ?_
  refine lv_iload_n hx hb dX8_coinsOf_12 rfl (lv_at hl 1 rfl) ?_
  refine x_iald hx hb hK hP 2 0 (S 11) rfl rfl (fun _ => rfl) (P := fun y => 0 ≤ y ∧ y ≤ 4000000) b11 (by decide) (by omega) dX8_coinsOf_13 (fun g13 => ?_)
  have hEq : brkW ck ka ad ra Z O U X S T P I V N Y Q = brkC ad Z ++ (booksC ck (ad 0) S ++ (booksC ck (ad 1) T ++ (outC ((ad 7) 1) O ++ (booksC ck (ad 2) P ++ (nobjC (ad 3) ++ (rowC ck 36 ((ad 3) 1) V ++ (rowC ck 36 ((ad 3) 2) N ++ (inputC ck ka (ad 5) I ++ (sboC (ad 6) U ++ (sbvC ck ((ad 6) 1) Y ++ (histW ck (ad 4) ra X Q))))))))))) := rfl
  exact W.widen (k := 1) (n := 6) (Nat.le_of_ble_eq_true rfl) (Nat.le_of_ble_eq_true rfl) (vx_ret (W.iret (v := _) hx hb hr (fun t9 ht9 hW9 => ⟨⟨_, (), rfl, ⟨rfl, hn2⟩, by rw [ht9, hEq]; exact hP, by rw [hEq, hAe]; exact hD⟩, hS.F ht9⟩) hS.2.2 dX8_coinsOf_14))

set_option maxHeartbeats 4000000 in
set_option maxRecDepth 100000 in
/-- BenchBroker.defaultsOf -/
theorem x_defaultsOf (l : Launch) (dg : va_G) (ck : Nat → ClassId) (ka : Nat → Nat) (ad ra : Nat → Nat → Nat) (Z O U X : Nat → Int) (S T P I : St) (V N Y : Int → Int) (Q : Nat → St) (x : Int) (sz : Nat) (hI : Bd S) (rg_x : -2147483648 ≤ x ∧ x < 2147483648) (hst : l.stackTraces = false) : vx_Met l yX8_defaultsOf (.code yX8_defaultsOf cX8_defaultsOf 2 (some .int) :: GW) ({ frames := 7, cells := 1, slots := 6, locals := 116 }) (va_Pc [.ref ((ad 7) 0), .int (zI x)] (wrK dg ck ka sz (brkC ad Z ++ (booksC ck (ad 0) S ++ (booksC ck (ad 1) T ++ (outC ((ad 7) 1) O ++ (booksC ck (ad 2) P ++ (nobjC (ad 3) ++ (rowC ck 36 ((ad 3) 1) V ++ (rowC ck 36 ((ad 3) 2) N ++ (inputC ck ka (ad 5) I ++ (sboC (ad 6) U ++ (sbvC ck ((ad 6) 1) Y ++ (histW ck (ad 4) ra X Q)))))))))))))) (va_Qi (fun r (_ : Unit) => r = zI (S 12 x) ∧ isTen S x) (fun _ t9 => wrQ dg sz (brkC ad Z ++ (booksC ck (ad 0) S ++ (booksC ck (ad 1) T ++ (outC ((ad 7) 1) O ++ (booksC ck (ad 2) P ++ (nobjC (ad 3) ++ (rowC ck 36 ((ad 3) 1) V ++ (rowC ck 36 ((ad 3) 2) N ++ (inputC ck ka (ad 5) I ++ (sboC (ad 6) U ++ (sbvC ck ((ad 6) 1) Y ++ (histW ck (ad 4) ra X Q)))))))))))) (brkW ck ka ad ra Z O U X S T P I V N Y Q) t9) (va_A (brkC ad Z ++ (booksC ck (ad 0) S ++ (booksC ck (ad 1) T ++ (outC ((ad 7) 1) O ++ (booksC ck (ad 2) P ++ (nobjC (ad 3) ++ (rowC ck 36 ((ad 3) 1) V ++ (rowC ck 36 ((ad 3) 2) N ++ (inputC ck ka (ad 5) I ++ (sboC (ad 6) U ++ (sbvC ck ((ad 6) 1) Y ++ (histW ck (ad 4) ra X Q)))))))))))) sz)) (vx_X (fun _ : Unit => True) (fun E (_ : Unit) t9 => (E = "java/lang/IndexOutOfBoundsException" ∧ ¬ (isTen S x)) ∧ wrQ dg sz (brkC ad Z ++ (booksC ck (ad 0) S ++ (booksC ck (ad 1) T ++ (outC ((ad 7) 1) O ++ (booksC ck (ad 2) P ++ (nobjC (ad 3) ++ (rowC ck 36 ((ad 3) 1) V ++ (rowC ck 36 ((ad 3) 2) N ++ (inputC ck ka (ad 5) I ++ (sboC (ad 6) U ++ (sbvC ck ((ad 6) 1) Y ++ (histW ck (ad 4) ra X Q)))))))))))) (brkW ck ka ad ra Z O U X S T P I V N Y Q) t9) (va_A (brkC ad Z ++ (booksC ck (ad 0) S ++ (booksC ck (ad 1) T ++ (outC ((ad 7) 1) O ++ (booksC ck (ad 2) P ++ (nobjC (ad 3) ++ (rowC ck 36 ((ad 3) 1) V ++ (rowC ck 36 ((ad 3) 2) N ++ (inputC ck ka (ad 5) I ++ (sboC (ad 6) U ++ (sbvC ck ((ad 6) 1) Y ++ (histW ck (ad 4) ra X Q)))))))))))) sz)) 1 6 (va_A (brkC ad Z ++ (booksC ck (ad 0) S ++ (booksC ck (ad 1) T ++ (outC ((ad 7) 1) O ++ (booksC ck (ad 2) P ++ (nobjC (ad 3) ++ (rowC ck 36 ((ad 3) 1) V ++ (rowC ck 36 ((ad 3) 2) N ++ (inputC ck ka (ad 5) I ++ (sboC (ad 6) U ++ (sbvC ck ((ad 6) 1) Y ++ (histW ck (ad 4) ra X Q)))))))))))) sz) := by
  refine vx_ofW (cc := cX8_defaultsOf) (maxL := 2) (ret := (some .int)) (by decide) rfl ?_
  intro p e s m args below meth c s₁ B hml htab hv
  obtain ⟨rfl, ⟨hsz, hP, hK, hD0⟩, hC⟩ := hv
  have hx := B.exec
  have hb := B.bytes
  have hr := B.returns
  have hts := atoms_spec (ws := .code yX8_defaultsOf cX8_defaultsOf 2 (some .int) :: GW) B.pre
  have htg : ∀ w ∈ GW, w.before _ s = true := fun w h => hts w (List.mem_cons_of_mem _ h)
  have hown : s.vm.findClass RX8 = some m.cls := findClass_of_methodNamed B.named
  have hlocks := B.notSynchronized
  subst hsz
  have hD := hD0.self (sz := s.heap.size)
  generalize hAe : va_A (brkC ad Z ++ (booksC ck (ad 0) S ++ (booksC ck (ad 1) T ++ (outC ((ad 7) 1) O ++ (booksC ck (ad 2) P ++ (nobjC (ad 3) ++ (rowC ck 36 ((ad 3) 1) V ++ (rowC ck 36 ((ad 3) 2) N ++ (inputC ck ka (ad 5) I ++ (sboC (ad 6) U ++ (sbvC ck ((ad 6) 1) Y ++ (histW ck (ad 4) ra X Q)))))))))))) s.heap.size = A at hD hC ⊢
  have hA : ∀ q : Nat, s.heap.size ≤ q → A q := fun q h => by rw [← hAe]; exact Or.inr h
  have hS : va_S A s.heap s.heap [] := va_S.rf
  have hP : va_P dg vwCl (brkC ad Z ++ (booksC ck (ad 0) S ++ (booksC ck (ad 1) T ++ (outC ((ad 7) 1) O ++ (booksC ck (ad 2) P ++ (nobjC (ad 3) ++ (rowC ck 36 ((ad 3) 1) V ++ (rowC ck 36 ((ad 3) 2) N ++ (inputC ck ka (ad 5) I ++ (sboC (ad 6) U ++ (sbvC ck ((ad 6) 1) Y ++ (histW ck (ad 4) ra X Q)))))))))))) s.heap := hP
  have hl := lv_entry ([.ref ((ad 7) 0), .int (zI x)]) (n := 2) (Nat.le_of_ble_eq_true rfl)
  rw [lg_entry_eq]
  generalize (lg_sl ([.ref ((ad 7) 0), .int (zI x)]) ++ List.replicate (2 - (lg_sl ([.ref ((ad 7) 0), .int (zI x)])).length) Slot.unset).toArray = ls at hl ⊢
  have hl : lv_has ls 2 [(0, .ref ((ad 7) 0)), (1, .int (zI x))] := hl
  obtain ⟨b00, b01, b02, b03, b1, b2, b3, b4, b5, b6, b7, b8, b9, b10, b11, b12⟩ := id hI
  refine lv_aload_n hx hb dX8_defaultsOf_0 rfl (lv_at hl 0 rfl) ?_
  refine lv_iload_n hx hb dX8_defaultsOf_1 rfl (lv_at hl 1 rfl) ?_
  refine xx_callv hP hD hS hA (vx_runV (As := [.int (zI x)]) (rest := []) ⟨hx, hb, hml, hown, htg⟩ (x_needTenant l dg ck ka ad ra Z O U X S T P I V N Y Q x _ hI (by omega) hst) (cwV 1 htg (gwV wq_476 wq_478 wp_2 wq_1 wq_479) rfl rfl rfl (by decide +kernel) ⟨Nat.le_of_ble_eq_true rfl, Nat.le_of_ble_eq_true rfl⟩) (wrK_preV hK hP hD hC hS hA 0 10 rfl rfl) rfl rfl hl.1 rfl (lv_room (Nat.le_of_ble_eq_true rfl)) dX8_defaultsOf_2 ⟨Nat.le_of_ble_eq_true rfl, Nat.le_of_ble_eq_true rfl⟩) (fun E9 ce9 q9 H locs hE9 hP hD hS g1 g2 g3 => ?_) (fun H locs hn2 hP hD hS => ?_)
  · have hEqX : brkW ck ka ad ra Z O U X S T P I V N Y Q = brkC ad Z ++ (booksC ck (ad 0) S ++ (booksC ck (ad 1) T ++ (outC ((ad 7) 1) O ++ (booksC ck (ad 2) P ++ (nobjC (ad 3) ++ (rowC ck 36 ((ad 3) 1) V ++ (rowC ck 36 ((ad 3) 2) N ++ (inputC ck ka (ad 5) I ++ (sboC (ad 6) U ++ (sbvC ck ((ad 6) 1) Y ++ (histW ck (ad 4) ra X Q))))))))))) := rfl
    exact x_outX (XP := fun E => E = "java/lang/IndexOutOfBoundsException" ∧ ¬ (isTen S x)) hAe htab hlocks (by rw [hEqX]; exact hP) (by rw [hEqX]; exact hD) hS hE9 g1 g2 g3 (Nat.le_of_ble_eq_true rfl) (Nat.le_of_ble_eq_true rfl)
  have hP : va_P dg vwCl (brkC ad Z ++ (booksC ck (ad 0) S ++ (booksC ck (ad 1) T ++ (outC ((ad 7) 1) O ++ (booksC ck (ad 2) P ++ (nobjC (ad 3) ++ (rowC ck 36 ((ad 3) 1) V ++ (rowC ck 36 ((ad 3) 2) N ++ (inputC ck ka (ad 5) I ++ (sboC (ad 6) U ++ (sbvC ck ((ad 6) 1) Y ++ (histW ck (ad 4) ra X Q)))))))))))) H := hP
  have hD : va_D A (brkC ad Z ++ (booksC ck (ad 0) S ++ (booksC ck (ad 1) T ++ (outC ((ad 7) 1) O ++ (booksC ck (ad 2) P ++ (nobjC (ad 3) ++ (rowC ck 36 ((ad 3) 1) V ++ (rowC ck 36 ((ad 3) 2) N ++ (inputC ck ka (ad 5) I ++ (sboC (ad 6) U ++ (sbvC ck ((ad 6) 1) Y ++ (histW ck (ad 4) ra X Q)))))))))))) := hD
  refine lv_aload_n hx hb dX8_defaultsOf_5 rfl (lv_at hl 0 rfl) ?_
  refine va_get (D := dg) (ci := 10) (v := .ref ((ad 0) 0)) (C := RX8) (T := TX8) (N := 13) hx hb htg inG_X8 hown hK hP 0 rfl rfl 0 (Nat.le_of_ble_eq_true rfl) (htg _ wq_279) (fun _ h9 => h9) rfl dX8_defaultsOf_6 ?_
  refine va_get (D := dg) (ci := 4) (v := .ref ((ad 0) 2)) (C := RX1) (T := TX1) (N := 13) hx hb htg inG_X1 hown hK hP 1 rfl rfl 3 (Nat.le_of_ble_eq_true rfl) (htg _ wq_113) (fun _ h9 => h9) rfl dX8_defaultsOf_9 ?_
  refine lv_iload_n hx hb dX8_defaultsOf_12 rfl (lv_at hl 1 rfl) ?_
  refine x_iald hx hb hK hP 3 0 (S 12) rfl rfl (fun _ => rfl) (P := fun y => 0 ≤ y ∧ y ≤ 3) b12 (by decide) (by omega) dX8_defaultsOf_13 (fun g13 => ?_)
  have hEq : brkW ck ka ad ra Z O U X S T P I V N Y Q = brkC ad Z ++ (booksC ck (ad 0) S ++ (booksC ck (ad 1) T ++ (outC ((ad 7) 1) O ++ (booksC ck (ad 2) P ++ (nobjC (ad 3) ++ (rowC ck 36 ((ad 3) 1) V ++ (rowC ck 36 ((ad 3) 2) N ++ (inputC ck ka (ad 5) I ++ (sboC (ad 6) U ++ (sbvC ck ((ad 6) 1) Y ++ (histW ck (ad 4) ra X Q))))))))))) := rfl
  exact W.widen (k := 1) (n := 6) (Nat.le_of_ble_eq_true rfl) (Nat.le_of_ble_eq_true rfl) (vx_ret (W.iret (v := _) hx hb hr (fun t9 ht9 hW9 => ⟨⟨_, (), rfl, ⟨rfl, hn2⟩, by rw [ht9, hEq]; exact hP, by rw [hEq, hAe]; exact hD⟩, hS.F ht9⟩) hS.2.2 dX8_defaultsOf_14))

set_option maxHeartbeats 4000000 in
set_option maxRecDepth 100000 in
/-- BenchBroker.benchOf -/
theorem x_benchOf (l : Launch) (dg : va_G) (ck : Nat → ClassId) (ka : Nat → Nat) (ad ra : Nat → Nat → Nat) (Z O U X : Nat → Int) (S T P I : St) (V N Y : Int → Int) (Q : Nat → St) (x : Int) (sz : Nat) (hI : Bd S) (rg_x : -2147483648 ≤ x ∧ x < 2147483648) (hst : l.stackTraces = false) : vx_Met l yX8_benchOf (.code yX8_benchOf cX8_benchOf 3 (some .int) :: GW) ({ frames := 7, cells := 2, slots := 12, locals := 116 }) (va_Pc [.ref ((ad 7) 0), .int (zI x)] (wrK dg ck ka sz (brkC ad Z ++ (booksC ck (ad 0) S ++ (booksC ck (ad 1) T ++ (outC ((ad 7) 1) O ++ (booksC ck (ad 2) P ++ (nobjC (ad 3) ++ (rowC ck 36 ((ad 3) 1) V ++ (rowC ck 36 ((ad 3) 2) N ++ (inputC ck ka (ad 5) I ++ (sboC (ad 6) U ++ (sbvC ck ((ad 6) 1) Y ++ (histW ck (ad 4) ra X Q)))))))))))))) (va_Qi (fun r (_ : Unit) => r = zI (lb S x) ∧ (isTen S x ∧ lb S x ≠ -1)) (fun _ t9 => wrQ dg sz (brkC ad Z ++ (booksC ck (ad 0) S ++ (booksC ck (ad 1) T ++ (outC ((ad 7) 1) O ++ (booksC ck (ad 2) P ++ (nobjC (ad 3) ++ (rowC ck 36 ((ad 3) 1) V ++ (rowC ck 36 ((ad 3) 2) N ++ (inputC ck ka (ad 5) I ++ (sboC (ad 6) U ++ (sbvC ck ((ad 6) 1) Y ++ (histW ck (ad 4) ra X Q)))))))))))) (brkW ck ka ad ra Z O U X S T P I V N Y Q) t9) (va_A (brkC ad Z ++ (booksC ck (ad 0) S ++ (booksC ck (ad 1) T ++ (outC ((ad 7) 1) O ++ (booksC ck (ad 2) P ++ (nobjC (ad 3) ++ (rowC ck 36 ((ad 3) 1) V ++ (rowC ck 36 ((ad 3) 2) N ++ (inputC ck ka (ad 5) I ++ (sboC (ad 6) U ++ (sbvC ck ((ad 6) 1) Y ++ (histW ck (ad 4) ra X Q)))))))))))) sz)) (vx_X (fun _ : Unit => True) (fun E (_ : Unit) t9 => ((E = "java/lang/IndexOutOfBoundsException" ∧ ¬ (isTen S x)) ∨ (E = "java/util/NoSuchElementException" ∧ (isTen S x) ∧ (lb S x = -1))) ∧ wrQ dg sz (brkC ad Z ++ (booksC ck (ad 0) S ++ (booksC ck (ad 1) T ++ (outC ((ad 7) 1) O ++ (booksC ck (ad 2) P ++ (nobjC (ad 3) ++ (rowC ck 36 ((ad 3) 1) V ++ (rowC ck 36 ((ad 3) 2) N ++ (inputC ck ka (ad 5) I ++ (sboC (ad 6) U ++ (sbvC ck ((ad 6) 1) Y ++ (histW ck (ad 4) ra X Q)))))))))))) (brkW ck ka ad ra Z O U X S T P I V N Y Q) t9) (va_A (brkC ad Z ++ (booksC ck (ad 0) S ++ (booksC ck (ad 1) T ++ (outC ((ad 7) 1) O ++ (booksC ck (ad 2) P ++ (nobjC (ad 3) ++ (rowC ck 36 ((ad 3) 1) V ++ (rowC ck 36 ((ad 3) 2) N ++ (inputC ck ka (ad 5) I ++ (sboC (ad 6) U ++ (sbvC ck ((ad 6) 1) Y ++ (histW ck (ad 4) ra X Q)))))))))))) sz)) 2 12 (va_A (brkC ad Z ++ (booksC ck (ad 0) S ++ (booksC ck (ad 1) T ++ (outC ((ad 7) 1) O ++ (booksC ck (ad 2) P ++ (nobjC (ad 3) ++ (rowC ck 36 ((ad 3) 1) V ++ (rowC ck 36 ((ad 3) 2) N ++ (inputC ck ka (ad 5) I ++ (sboC (ad 6) U ++ (sbvC ck ((ad 6) 1) Y ++ (histW ck (ad 4) ra X Q)))))))))))) sz) := by
  refine vx_ofW (cc := cX8_benchOf) (maxL := 3) (ret := (some .int)) (by decide) rfl ?_
  intro p e s m args below meth c s₁ B hml htab hv
  obtain ⟨rfl, ⟨hsz, hP, hK, hD0⟩, hC⟩ := hv
  have hx := B.exec
  have hb := B.bytes
  have hr := B.returns
  have hts := atoms_spec (ws := .code yX8_benchOf cX8_benchOf 3 (some .int) :: GW) B.pre
  have htg : ∀ w ∈ GW, w.before _ s = true := fun w h => hts w (List.mem_cons_of_mem _ h)
  have hown : s.vm.findClass RX8 = some m.cls := findClass_of_methodNamed B.named
  have hlocks := B.notSynchronized
  subst hsz
  have hD := hD0.self (sz := s.heap.size)
  generalize hAe : va_A (brkC ad Z ++ (booksC ck (ad 0) S ++ (booksC ck (ad 1) T ++ (outC ((ad 7) 1) O ++ (booksC ck (ad 2) P ++ (nobjC (ad 3) ++ (rowC ck 36 ((ad 3) 1) V ++ (rowC ck 36 ((ad 3) 2) N ++ (inputC ck ka (ad 5) I ++ (sboC (ad 6) U ++ (sbvC ck ((ad 6) 1) Y ++ (histW ck (ad 4) ra X Q)))))))))))) s.heap.size = A at hD hC ⊢
  have hA : ∀ q : Nat, s.heap.size ≤ q → A q := fun q h => by rw [← hAe]; exact Or.inr h
  have hS : va_S A s.heap s.heap [] := va_S.rf
  have hP : va_P dg vwCl (brkC ad Z ++ (booksC ck (ad 0) S ++ (booksC ck (ad 1) T ++ (outC ((ad 7) 1) O ++ (booksC ck (ad 2) P ++ (nobjC (ad 3) ++ (rowC ck 36 ((ad 3) 1) V ++ (rowC ck 36 ((ad 3) 2) N ++ (inputC ck ka (ad 5) I ++ (sboC (ad 6) U ++ (sbvC ck ((ad 6) 1) Y ++ (histW ck (ad 4) ra X Q)))))))))))) s.heap := hP
  have hl := lv_entry ([.ref ((ad 7) 0), .int (zI x)]) (n := 3) (Nat.le_of_ble_eq_true rfl)
  rw [lg_entry_eq]
  generalize (lg_sl ([.ref ((ad 7) 0), .int (zI x)]) ++ List.replicate (3 - (lg_sl ([.ref ((ad 7) 0), .int (zI x)])).length) Slot.unset).toArray = ls at hl ⊢
  have hl : lv_has ls 3 [(0, .ref ((ad 7) 0)), (1, .int (zI x))] := hl
  obtain ⟨b00, b01, b02, b03, b1, b2, b3, b4, b5, b6, b7, b8, b9, b10, b11, b12⟩ := id hI
  have hlb := lb_r hI x
  refine lv_aload_n hx hb dX8_benchOf_0 rfl (lv_at hl 0 rfl) ?_
  refine lv_iload_n hx hb dX8_benchOf_1 rfl (lv_at hl 1 rfl) ?_
  refine xx_callv hP hD hS hA (vx_runV (As := [.int (zI x)]) (rest := []) ⟨hx, hb, hml, hown, htg⟩ (x_needTenant l dg ck ka ad ra Z O U X S T P I V N Y Q x _ hI (by omega) hst) (cwV 1 htg (gwV wq_476 wq_478 wp_2 wq_1 wq_479) rfl rfl rfl (by decide +kernel) ⟨Nat.le_of_ble_eq_true rfl, Nat.le_of_ble_eq_true rfl⟩) (wrK_preV hK hP hD hC hS hA 0 10 rfl rfl) rfl rfl hl.1 rfl (lv_room (Nat.le_of_ble_eq_true rfl)) dX8_benchOf_2 ⟨Nat.le_of_ble_eq_true rfl, Nat.le_of_ble_eq_true rfl⟩) (fun E9 ce9 q9 H locs hE9 hP hD hS g1 g2 g3 => ?_) (fun H locs hn2 hP hD hS => ?_)
  · have hEqX : brkW ck ka ad ra Z O U X S T P I V N Y Q = brkC ad Z ++ (booksC ck (ad 0) S ++ (booksC ck (ad 1) T ++ (outC ((ad 7) 1) O ++ (booksC ck (ad 2) P ++ (nobjC (ad 3) ++ (rowC ck 36 ((ad 3) 1) V ++ (rowC ck 36 ((ad 3) 2) N ++ (inputC ck ka (ad 5) I ++ (sboC (ad 6) U ++ (sbvC ck ((ad 6) 1) Y ++ (histW ck (ad 4) ra X Q))))))))))) := rfl
    exact x_outX (XP := fun E => (E = "java/lang/IndexOutOfBoundsException" ∧ ¬ (isTen S x)) ∨ (E = "java/util/NoSuchElementException" ∧ (isTen S x) ∧ (lb S x = -1))) hAe htab hlocks (by rw [hEqX]; exact hP) (by rw [hEqX]; exact hD) hS (Or.inl hE9) g1 g2 g3 (Nat.le_of_ble_eq_true rfl) (Nat.le_of_ble_eq_true rfl)
  have hP : va_P dg vwCl (brkC ad Z ++ (booksC ck (ad 0) S ++ (booksC ck (ad 1) T ++ (outC ((ad 7) 1) O ++ (booksC ck (ad 2) P ++ (nobjC (ad 3) ++ (rowC ck 36 ((ad 3) 1) V ++ (rowC ck 36 ((ad 3) 2) N ++ (inputC ck ka (ad 5) I ++ (sboC (ad 6) U ++ (sbvC ck ((ad 6) 1) Y ++ (histW ck (ad 4) ra X Q)))))))))))) H := hP
  have hD : va_D A (brkC ad Z ++ (booksC ck (ad 0) S ++ (booksC ck (ad 1) T ++ (outC ((ad 7) 1) O ++ (booksC ck (ad 2) P ++ (nobjC (ad 3) ++ (rowC ck 36 ((ad 3) 1) V ++ (rowC ck 36 ((ad 3) 2) N ++ (inputC ck ka (ad 5) I ++ (sboC (ad 6) U ++ (sbvC ck ((ad 6) 1) Y ++ (histW ck (ad 4) ra X Q)))))))))))) := hD
  refine lv_aload_n hx hb dX8_benchOf_5 rfl (lv_at hl 0 rfl) ?_
  refine va_get (D := dg) (ci := 10) (v := .ref ((ad 0) 0)) (C := RX8) (T := TX8) (N := 13) hx hb htg inG_X8 hown hK hP 0 rfl rfl 0 (Nat.le_of_ble_eq_true rfl) (htg _ wq_279) (fun _ h9 => h9) rfl dX8_benchOf_6 ?_
  refine lv_iload_n hx hb dX8_benchOf_9 rfl (lv_at hl 1 rfl) ?_
  refine vp_callSi (W.runV (As := [.int (zI x)]) (rest := []) ⟨hx, hb, hml, hown, htg⟩ (c_leasedBench l dg ck (ad 0) S x hI (by omega)) (cwV 1 htg (gwV wq_484 wq_485 wq_486 wq_2 wq_487) rfl rfl rfl (by decide +kernel) ⟨Nat.le_of_ble_eq_true rfl, Nat.le_of_ble_eq_true rfl⟩) (rd_preV hK (va_P_l (va_P_r hP)) 0 4 rfl rfl) rfl rfl hl.1 rfl (lv_room (Nat.le_of_ble_eq_true rfl)) dX8_benchOf_10 ⟨Nat.le_of_ble_eq_true rfl, Nat.le_of_ble_eq_true rfl⟩) (fun r10 hr10 => ?_)
  subst hr10
  refine lv_istore_n (lv' := [(2, .int (zI (lb S x))), (0, .ref ((ad 7) 0)), (1, .int (zI x))]) hx hb dX8_benchOf_13 rfl hl (by decide) rfl (fun ls hl => ?_)
  refine lv_iload_n hx hb dX8_benchOf_14 rfl (lv_at hl 0 rfl) ?_
  refine x_iconst hx hb dX8_benchOf_15 ?_
  refine x_icmp_ne (tgt := 27) hx hb dX8_benchOf_16 (by decide) (by omega) (by omega) (fun c16 => ?_) (fun c16 => ?_)
  · refine lv_iload_n hx hb dX8_benchOf_27 rfl (lv_at hl 0 rfl) ?_
    have hEq : brkW ck ka ad ra Z O U X S T P I V N Y Q = brkC ad Z ++ (booksC ck (ad 0) S ++ (booksC ck (ad 1) T ++ (outC ((ad 7) 1) O ++ (booksC ck (ad 2) P ++ (nobjC (ad 3) ++ (rowC ck 36 ((ad 3) 1) V ++ (rowC ck 36 ((ad 3) 2) N ++ (inputC ck ka (ad 5) I ++ (sboC (ad 6) U ++ (sbvC ck ((ad 6) 1) Y ++ (histW ck (ad 4) ra X Q))))))))))) := rfl
    exact W.widen (k := 2) (n := 12) (Nat.le_of_ble_eq_true rfl) (Nat.le_of_ble_eq_true rfl) (vx_ret (W.iret (v := _) hx hb hr (fun t9 ht9 hW9 => ⟨⟨_, (), rfl, ⟨rfl, hn2, by omega⟩, by rw [ht9, hEq]; exact hP, by rw [hEq, hAe]; exact hD⟩, hS.F ht9⟩) hS.2.2 dX8_benchOf_28))
  · have hEqX : brkW ck ka ad ra Z O U X S T P I V N Y Q = brkC ad Z ++ (booksC ck (ad 0) S ++ (booksC ck (ad 1) T ++ (outC ((ad 7) 1) O ++ (booksC ck (ad 2) P ++ (nobjC (ad 3) ++ (rowC ck 36 ((ad 3) 1) V ++ (rowC ck 36 ((ad 3) 2) N ++ (inputC ck ka (ad 5) I ++ (sboC (ad 6) U ++ (sbvC ck ((ad 6) 1) Y ++ (histW ck (ad 4) ra X Q))))))))))) := rfl
    exact vx_throw0 (names := ["java/lang/RuntimeException", "java/lang/Exception"]) hx hb hst hown (by decide +kernel) (by decide +kernel) (htg _ wq_488) (htg _ wq_20) (vx_hat (fun w hw => htg w (ax_NS w hw)) an_NS (nw_all hC)) ao_NS hC.2.2.2.1 hC.2.2.2.2.1 hS (hl.1.trans hml.symm) dX8_benchOf_19 dX8_benchOf_22 dX8_benchOf_23 dX8_benchOf_26 (fun x hx9 => (htab x hx9).elim) (Nat.le_of_ble_eq_true rfl) (Nat.le_of_ble_eq_true rfl) (Nat.le_of_ble_eq_true rfl) (Nat.le_of_ble_eq_true rfl) hlocks (fun t9 _ h1 h2 => x_thrX (XP := fun E => (E = "java/lang/IndexOutOfBoundsException" ∧ ¬ (isTen S x)) ∨ (E = "java/util/NoSuchElementException" ∧ (isTen S x) ∧ (lb S x = -1))) hAe (by rw [hEqX]; exact hP) (by rw [hEqX]; exact hD) hS (Or.inr ⟨rfl, hn2, by omega⟩) h1 h2) hS.2.2 (Nat.le_of_ble_eq_true rfl) (Nat.le_of_ble_eq_true rfl)

set_option maxHeartbeats 4000000 in
set_option maxRecDepth 100000 in
/-- BenchBroker.canLease -/
theorem x_canLease (l : Launch) (dg : va_G) (ck : Nat → ClassId) (ka : Nat → Nat) (ad ra : Nat → Nat → Nat) (Z O U X : Nat → Int) (S T P I : St) (V N Y : Int → Int) (Q : Nat → St) (x y : Int) (sz : Nat) (hI : Bd S) (rg_x : -2147483648 ≤ x ∧ x < 2147483648) (rg_y : -2147483648 ≤ y ∧ y < 2147483648) (hst : l.stackTraces = false) : vx_Met l yX8_canLease (.code yX8_canLease cX8_canLease 3 (some .boolean) :: GW) ({ frames := 7, cells := 2, slots := 12, locals := 116 }) (va_Pc [.ref ((ad 7) 0), .int (zI x), .int (zI y)] (wrK dg ck ka sz (brkC ad Z ++ (booksC ck (ad 0) S ++ (booksC ck (ad 1) T ++ (outC ((ad 7) 1) O ++ (booksC ck (ad 2) P ++ (nobjC (ad 3) ++ (rowC ck 36 ((ad 3) 1) V ++ (rowC ck 36 ((ad 3) 2) N ++ (inputC ck ka (ad 5) I ++ (sboC (ad 6) U ++ (sbvC ck ((ad 6) 1) Y ++ (histW ck (ad 4) ra X Q)))))))))))))) (va_Qi (fun r (_ : Unit) => r = zI (bI (obst S x y = 0)) ∧ (isTen S x ∧ isBench S y)) (fun _ t9 => wrQ dg sz (brkC ad Z ++ (booksC ck (ad 0) S ++ (booksC ck (ad 1) T ++ (outC ((ad 7) 1) O ++ (booksC ck (ad 2) P ++ (nobjC (ad 3) ++ (rowC ck 36 ((ad 3) 1) V ++ (rowC ck 36 ((ad 3) 2) N ++ (inputC ck ka (ad 5) I ++ (sboC (ad 6) U ++ (sbvC ck ((ad 6) 1) Y ++ (histW ck (ad 4) ra X Q)))))))))))) (brkW ck ka ad ra Z O U X S T P I V N Y Q) t9) (va_A (brkC ad Z ++ (booksC ck (ad 0) S ++ (booksC ck (ad 1) T ++ (outC ((ad 7) 1) O ++ (booksC ck (ad 2) P ++ (nobjC (ad 3) ++ (rowC ck 36 ((ad 3) 1) V ++ (rowC ck 36 ((ad 3) 2) N ++ (inputC ck ka (ad 5) I ++ (sboC (ad 6) U ++ (sbvC ck ((ad 6) 1) Y ++ (histW ck (ad 4) ra X Q)))))))))))) sz)) (vx_X (fun _ : Unit => True) (fun E (_ : Unit) t9 => (E = "java/lang/IndexOutOfBoundsException" ∧ ¬ (isTen S x ∧ isBench S y)) ∧ wrQ dg sz (brkC ad Z ++ (booksC ck (ad 0) S ++ (booksC ck (ad 1) T ++ (outC ((ad 7) 1) O ++ (booksC ck (ad 2) P ++ (nobjC (ad 3) ++ (rowC ck 36 ((ad 3) 1) V ++ (rowC ck 36 ((ad 3) 2) N ++ (inputC ck ka (ad 5) I ++ (sboC (ad 6) U ++ (sbvC ck ((ad 6) 1) Y ++ (histW ck (ad 4) ra X Q)))))))))))) (brkW ck ka ad ra Z O U X S T P I V N Y Q) t9) (va_A (brkC ad Z ++ (booksC ck (ad 0) S ++ (booksC ck (ad 1) T ++ (outC ((ad 7) 1) O ++ (booksC ck (ad 2) P ++ (nobjC (ad 3) ++ (rowC ck 36 ((ad 3) 1) V ++ (rowC ck 36 ((ad 3) 2) N ++ (inputC ck ka (ad 5) I ++ (sboC (ad 6) U ++ (sbvC ck ((ad 6) 1) Y ++ (histW ck (ad 4) ra X Q)))))))))))) sz)) 2 12 (va_A (brkC ad Z ++ (booksC ck (ad 0) S ++ (booksC ck (ad 1) T ++ (outC ((ad 7) 1) O ++ (booksC ck (ad 2) P ++ (nobjC (ad 3) ++ (rowC ck 36 ((ad 3) 1) V ++ (rowC ck 36 ((ad 3) 2) N ++ (inputC ck ka (ad 5) I ++ (sboC (ad 6) U ++ (sbvC ck ((ad 6) 1) Y ++ (histW ck (ad 4) ra X Q)))))))))))) sz) := by
  refine vx_ofW (cc := cX8_canLease) (maxL := 3) (ret := (some .boolean)) (by decide) rfl ?_
  intro p e s m args below meth c s₁ B hml htab hv
  obtain ⟨rfl, ⟨hsz, hP, hK, hD0⟩, hC⟩ := hv
  have hx := B.exec
  have hb := B.bytes
  have hr := B.returns
  have hts := atoms_spec (ws := .code yX8_canLease cX8_canLease 3 (some .boolean) :: GW) B.pre
  have htg : ∀ w ∈ GW, w.before _ s = true := fun w h => hts w (List.mem_cons_of_mem _ h)
  have hown : s.vm.findClass RX8 = some m.cls := findClass_of_methodNamed B.named
  have hlocks := B.notSynchronized
  subst hsz
  have hD := hD0.self (sz := s.heap.size)
  generalize hAe : va_A (brkC ad Z ++ (booksC ck (ad 0) S ++ (booksC ck (ad 1) T ++ (outC ((ad 7) 1) O ++ (booksC ck (ad 2) P ++ (nobjC (ad 3) ++ (rowC ck 36 ((ad 3) 1) V ++ (rowC ck 36 ((ad 3) 2) N ++ (inputC ck ka (ad 5) I ++ (sboC (ad 6) U ++ (sbvC ck ((ad 6) 1) Y ++ (histW ck (ad 4) ra X Q)))))))))))) s.heap.size = A at hD hC ⊢
  have hA : ∀ q : Nat, s.heap.size ≤ q → A q := fun q h => by rw [← hAe]; exact Or.inr h
  have hS : va_S A s.heap s.heap [] := va_S.rf
  have hP : va_P dg vwCl (brkC ad Z ++ (booksC ck (ad 0) S ++ (booksC ck (ad 1) T ++ (outC ((ad 7) 1) O ++ (booksC ck (ad 2) P ++ (nobjC (ad 3) ++ (rowC ck 36 ((ad 3) 1) V ++ (rowC ck 36 ((ad 3) 2) N ++ (inputC ck ka (ad 5) I ++ (sboC (ad 6) U ++ (sbvC ck ((ad 6) 1) Y ++ (histW ck (ad 4) ra X Q)))))))))))) s.heap := hP
  have hl := lv_entry ([.ref ((ad 7) 0), .int (zI x), .int (zI y)]) (n := 3) (Nat.le_of_ble_eq_true rfl)
  rw [lg_entry_eq]
  generalize (lg_sl ([.ref ((ad 7) 0), .int (zI x), .int (zI y)]) ++ List.replicate (3 - (lg_sl ([.ref ((ad 7) 0), .int (zI x), .int (zI y)])).length) Slot.unset).toArray = ls at hl ⊢
  have hl : lv_has ls 3 [(0, .ref ((ad 7) 0)), (1, .int (zI x)), (2, .int (zI y))] := hl
  obtain ⟨b00, b01, b02, b03, b1, b2, b3, b4, b5, b6, b7, b8, b9, b10, b11, b12⟩ := id hI
  have hob := obst_r S x y
  refine lv_aload_n hx hb dX8_canLease_0 rfl (lv_at hl 0 rfl) ?_
  refine lv_iload_n hx hb dX8_canLease_1 rfl (lv_at hl 1 rfl) ?_
  refine xx_callv hP hD hS hA (vx_runV (As := [.int (zI x)]) (rest := []) ⟨hx, hb, hml, hown, htg⟩ (x_needTenant l dg ck ka ad ra Z O U X S T P I V N Y Q x _ hI (by omega) hst) (cwV 1 htg (gwV wq_476 wq_478 wp_2 wq_1 wq_479) rfl rfl rfl (by decide +kernel) ⟨Nat.le_of_ble_eq_true rfl, Nat.le_of_ble_eq_true rfl⟩) (wrK_preV hK hP hD hC hS hA 0 10 rfl rfl) rfl rfl hl.1 rfl (lv_room (Nat.le_of_ble_eq_true rfl)) dX8_canLease_2 ⟨Nat.le_of_ble_eq_true rfl, Nat.le_of_ble_eq_true rfl⟩) (fun E9 ce9 q9 H locs hE9 hP hD hS g1 g2 g3 => ?_) (fun H locs hn2 hP hD hS => ?_)
  · have hEqX : brkW ck ka ad ra Z O U X S T P I V N Y Q = brkC ad Z ++ (booksC ck (ad 0) S ++ (booksC ck (ad 1) T ++ (outC ((ad 7) 1) O ++ (booksC ck (ad 2) P ++ (nobjC (ad 3) ++ (rowC ck 36 ((ad 3) 1) V ++ (rowC ck 36 ((ad 3) 2) N ++ (inputC ck ka (ad 5) I ++ (sboC (ad 6) U ++ (sbvC ck ((ad 6) 1) Y ++ (histW ck (ad 4) ra X Q))))))))))) := rfl
    exact x_outX (XP := fun E => E = "java/lang/IndexOutOfBoundsException" ∧ ¬ (isTen S x ∧ isBench S y)) hAe htab hlocks (by rw [hEqX]; exact hP) (by rw [hEqX]; exact hD) hS ⟨hE9.1, fun q => hE9.2 q.1⟩ g1 g2 g3 (Nat.le_of_ble_eq_true rfl) (Nat.le_of_ble_eq_true rfl)
  have hP : va_P dg vwCl (brkC ad Z ++ (booksC ck (ad 0) S ++ (booksC ck (ad 1) T ++ (outC ((ad 7) 1) O ++ (booksC ck (ad 2) P ++ (nobjC (ad 3) ++ (rowC ck 36 ((ad 3) 1) V ++ (rowC ck 36 ((ad 3) 2) N ++ (inputC ck ka (ad 5) I ++ (sboC (ad 6) U ++ (sbvC ck ((ad 6) 1) Y ++ (histW ck (ad 4) ra X Q)))))))))))) H := hP
  have hD : va_D A (brkC ad Z ++ (booksC ck (ad 0) S ++ (booksC ck (ad 1) T ++ (outC ((ad 7) 1) O ++ (booksC ck (ad 2) P ++ (nobjC (ad 3) ++ (rowC ck 36 ((ad 3) 1) V ++ (rowC ck 36 ((ad 3) 2) N ++ (inputC ck ka (ad 5) I ++ (sboC (ad 6) U ++ (sbvC ck ((ad 6) 1) Y ++ (histW ck (ad 4) ra X Q)))))))))))) := hD
  refine lv_aload_n hx hb dX8_canLease_5 rfl (lv_at hl 0 rfl) ?_
  refine lv_iload_n hx hb dX8_canLease_6 rfl (lv_at hl 2 rfl) ?_
  refine xx_callv hP hD hS hA (vx_runV (As := [.int (zI y)]) (rest := []) ⟨hx, hb, hml, hown, htg⟩ (x_needBench l dg ck ka ad ra Z O U X S T P I V N Y Q y _ hI (by omega) hst) (cwV 1 htg (gwV wq_425 wq_427 wp_1 wq_1 wq_428) rfl rfl rfl (by decide +kernel) ⟨Nat.le_of_ble_eq_true rfl, Nat.le_of_ble_eq_true rfl⟩) (wrK_preV hK hP hD hC hS hA 0 10 rfl rfl) rfl rfl hl.1 rfl (lv_room (Nat.le_of_ble_eq_true rfl)) dX8_canLease_7 ⟨Nat.le_of_ble_eq_true rfl, Nat.le_of_ble_eq_true rfl⟩) (fun E9 ce9 q9 H locs hE9 hP hD hS g1 g2 g3 => ?_) (fun H locs hn7 hP hD hS => ?_)
  · have hEqX : brkW ck ka ad ra Z O U X S T P I V N Y Q = brkC ad Z ++ (booksC ck (ad 0) S ++ (booksC ck (ad 1) T ++ (outC ((ad 7) 1) O ++ (booksC ck (ad 2) P ++ (nobjC (ad 3) ++ (rowC ck 36 ((ad 3) 1) V ++ (rowC ck 36 ((ad 3) 2) N ++ (inputC ck ka (ad 5) I ++ (sboC (ad 6) U ++ (sbvC ck ((ad 6) 1) Y ++ (histW ck (ad 4) ra X Q))))))))))) := rfl
    exact x_outX (XP := fun E => E = "java/lang/IndexOutOfBoundsException" ∧ ¬ (isTen S x ∧ isBench S y)) hAe htab hlocks (by rw [hEqX]; exact hP) (by rw [hEqX]; exact hD) hS ⟨hE9.1, fun q => hE9.2 q.2⟩ g1 g2 g3 (Nat.le_of_ble_eq_true rfl) (Nat.le_of_ble_eq_true rfl)
  have hP : va_P dg vwCl (brkC ad Z ++ (booksC ck (ad 0) S ++ (booksC ck (ad 1) T ++ (outC ((ad 7) 1) O ++ (booksC ck (ad 2) P ++ (nobjC (ad 3) ++ (rowC ck 36 ((ad 3) 1) V ++ (rowC ck 36 ((ad 3) 2) N ++ (inputC ck ka (ad 5) I ++ (sboC (ad 6) U ++ (sbvC ck ((ad 6) 1) Y ++ (histW ck (ad 4) ra X Q)))))))))))) H := hP
  have hD : va_D A (brkC ad Z ++ (booksC ck (ad 0) S ++ (booksC ck (ad 1) T ++ (outC ((ad 7) 1) O ++ (booksC ck (ad 2) P ++ (nobjC (ad 3) ++ (rowC ck 36 ((ad 3) 1) V ++ (rowC ck 36 ((ad 3) 2) N ++ (inputC ck ka (ad 5) I ++ (sboC (ad 6) U ++ (sbvC ck ((ad 6) 1) Y ++ (histW ck (ad 4) ra X Q)))))))))))) := hD
  refine lv_aload_n hx hb dX8_canLease_10 rfl (lv_at hl 0 rfl) ?_
  refine va_get (D := dg) (ci := 10) (v := .ref ((ad 0) 0)) (C := RX8) (T := TX8) (N := 13) hx hb htg inG_X8 hown hK hP 0 rfl rfl 0 (Nat.le_of_ble_eq_true rfl) (htg _ wq_279) (fun _ h9 => h9) rfl dX8_canLease_11 ?_
  refine lv_iload_n hx hb dX8_canLease_14 rfl (lv_at hl 1 rfl) ?_
  refine lv_iload_n hx hb dX8_canLease_15 rfl (lv_at hl 2 rfl) ?_
  refine vp_callSi (W.runV (As := [.int (zI x), .int (zI y)]) (rest := []) ⟨hx, hb, hml, hown, htg⟩ (c_leaseObstacle l dg ck (ad 0) S x y hI (by omega) (by omega)) (cwV 2 htg (gwV wq_510 wq_511 wq_512 wq_2 wq_513) rfl rfl rfl (by decide +kernel) ⟨Nat.le_of_ble_eq_true rfl, Nat.le_of_ble_eq_true rfl⟩) (rd_preV hK (va_P_l (va_P_r hP)) 0 4 rfl rfl) rfl rfl hl.1 rfl (lv_room (Nat.le_of_ble_eq_true rfl)) dX8_canLease_16 ⟨Nat.le_of_ble_eq_true rfl, Nat.le_of_ble_eq_true rfl⟩) (fun r16 hr16 => ?_)
  subst hr16
  refine x_if_ne (tgt := 26) hx hb dX8_canLease_19 (by decide) (by omega) (fun c19 => ?_) (fun c19 => ?_)
  · refine x_iconst hx hb dX8_canLease_26 ?_
    have hEq : brkW ck ka ad ra Z O U X S T P I V N Y Q = brkC ad Z ++ (booksC ck (ad 0) S ++ (booksC ck (ad 1) T ++ (outC ((ad 7) 1) O ++ (booksC ck (ad 2) P ++ (nobjC (ad 3) ++ (rowC ck 36 ((ad 3) 1) V ++ (rowC ck 36 ((ad 3) 2) N ++ (inputC ck ka (ad 5) I ++ (sboC (ad 6) U ++ (sbvC ck ((ad 6) 1) Y ++ (histW ck (ad 4) ra X Q))))))))))) := rfl
    exact W.widen (k := 2) (n := 12) (Nat.le_of_ble_eq_true rfl) (Nat.le_of_ble_eq_true rfl) (vx_ret (W.zret (v := _) hx hb hr (by first | rfl | rfl) (fun t9 ht9 hW9 => ⟨⟨_, (), rfl, ⟨congrArg zI (by first | (rw [bI_t (by omega)]) | (rw [bI_f (by omega)])), hn2, hn7⟩, by rw [ht9, hEq]; exact hP, by rw [hEq, hAe]; exact hD⟩, hS.F ht9⟩) hS.2.2 dX8_canLease_27))
  · refine x_iconst hx hb dX8_canLease_22 ?_
    refine lv_goto (tgt := 27) hx hb dX8_canLease_23 (by decide) ?_
    have hEq : brkW ck ka ad ra Z O U X S T P I V N Y Q = brkC ad Z ++ (booksC ck (ad 0) S ++ (booksC ck (ad 1) T ++ (outC ((ad 7) 1) O ++ (booksC ck (ad 2) P ++ (nobjC (ad 3) ++ (rowC ck 36 ((ad 3) 1) V ++ (rowC ck 36 ((ad 3) 2) N ++ (inputC ck ka (ad 5) I ++ (sboC (ad 6) U ++ (sbvC ck ((ad 6) 1) Y ++ (histW ck (ad 4) ra X Q))))))))))) := rfl
    exact W.widen (k := 2) (n := 12) (Nat.le_of_ble_eq_true rfl) (Nat.le_of_ble_eq_true rfl) (vx_ret (W.zret (v := _) hx hb hr (by first | rfl | rfl) (fun t9 ht9 hW9 => ⟨⟨_, (), rfl, ⟨congrArg zI (by first | (rw [bI_t (by omega)]) | (rw [bI_f (by omega)])), hn2, hn7⟩, by rw [ht9, hEq]; exact hP, by rw [hEq, hAe]; exact hD⟩, hS.F ht9⟩) hS.2.2 dX8_canLease_27))

set_option maxHeartbeats 4000000 in
set_option maxRecDepth 100000 in
/-- BenchBroker.cheapestFor -/
theorem x_cheapestFor (l : Launch) (dg : va_G) (ck : Nat → ClassId) (ka : Nat → Nat) (ad ra : Nat → Nat → Nat) (Z O U X : Nat → Int) (S T P I : St) (V N Y : Int → Int) (Q : Nat → St) (x : Int) (sz : Nat) (hI : Bd S) (rg_x : -2147483648 ≤ x ∧ x < 2147483648) (hst : l.stackTraces = false) : vx_Met l yX8_cheapestFor (.code yX8_cheapestFor cX8_cheapestFor 3 (some .int) :: GW) ({ frames := 7, cells := 2, slots := 12, locals := 116 }) (va_Pc [.ref ((ad 7) 0), .int (zI x)] (wrK dg ck ka sz (brkC ad Z ++ (booksC ck (ad 0) S ++ (booksC ck (ad 1) T ++ (outC ((ad 7) 1) O ++ (booksC ck (ad 2) P ++ (nobjC (ad 3) ++ (rowC ck 36 ((ad 3) 1) V ++ (rowC ck 36 ((ad 3) 2) N ++ (inputC ck ka (ad 5) I ++ (sboC (ad 6) U ++ (sbvC ck ((ad 6) 1) Y ++ (histW ck (ad 4) ra X Q)))))))))))))) (va_Qi (fun r (_ : Unit) => r = zI (chB S x (S 0 0).toNat) ∧ (isTen S x ∧ chB S x (S 0 0).toNat ≠ -1)) (fun _ t9 => wrQ dg sz (brkC ad Z ++ (booksC ck (ad 0) S ++ (booksC ck (ad 1) T ++ (outC ((ad 7) 1) O ++ (booksC ck (ad 2) P ++ (nobjC (ad 3) ++ (rowC ck 36 ((ad 3) 1) V ++ (rowC ck 36 ((ad 3) 2) N ++ (inputC ck ka (ad 5) I ++ (sboC (ad 6) U ++ (sbvC ck ((ad 6) 1) Y ++ (histW ck (ad 4) ra X Q)))))))))))) (brkW ck ka ad ra Z O U X S T P I V N Y Q) t9) (va_A (brkC ad Z ++ (booksC ck (ad 0) S ++ (booksC ck (ad 1) T ++ (outC ((ad 7) 1) O ++ (booksC ck (ad 2) P ++ (nobjC (ad 3) ++ (rowC ck 36 ((ad 3) 1) V ++ (rowC ck 36 ((ad 3) 2) N ++ (inputC ck ka (ad 5) I ++ (sboC (ad 6) U ++ (sbvC ck ((ad 6) 1) Y ++ (histW ck (ad 4) ra X Q)))))))))))) sz)) (vx_X (fun _ : Unit => True) (fun E (_ : Unit) t9 => ((E = "java/lang/IndexOutOfBoundsException" ∧ ¬ (isTen S x)) ∨ (E = "java/util/NoSuchElementException" ∧ (isTen S x) ∧ (chB S x (S 0 0).toNat = -1))) ∧ wrQ dg sz (brkC ad Z ++ (booksC ck (ad 0) S ++ (booksC ck (ad 1) T ++ (outC ((ad 7) 1) O ++ (booksC ck (ad 2) P ++ (nobjC (ad 3) ++ (rowC ck 36 ((ad 3) 1) V ++ (rowC ck 36 ((ad 3) 2) N ++ (inputC ck ka (ad 5) I ++ (sboC (ad 6) U ++ (sbvC ck ((ad 6) 1) Y ++ (histW ck (ad 4) ra X Q)))))))))))) (brkW ck ka ad ra Z O U X S T P I V N Y Q) t9) (va_A (brkC ad Z ++ (booksC ck (ad 0) S ++ (booksC ck (ad 1) T ++ (outC ((ad 7) 1) O ++ (booksC ck (ad 2) P ++ (nobjC (ad 3) ++ (rowC ck 36 ((ad 3) 1) V ++ (rowC ck 36 ((ad 3) 2) N ++ (inputC ck ka (ad 5) I ++ (sboC (ad 6) U ++ (sbvC ck ((ad 6) 1) Y ++ (histW ck (ad 4) ra X Q)))))))))))) sz)) 2 12 (va_A (brkC ad Z ++ (booksC ck (ad 0) S ++ (booksC ck (ad 1) T ++ (outC ((ad 7) 1) O ++ (booksC ck (ad 2) P ++ (nobjC (ad 3) ++ (rowC ck 36 ((ad 3) 1) V ++ (rowC ck 36 ((ad 3) 2) N ++ (inputC ck ka (ad 5) I ++ (sboC (ad 6) U ++ (sbvC ck ((ad 6) 1) Y ++ (histW ck (ad 4) ra X Q)))))))))))) sz) := by
  refine vx_ofW (cc := cX8_cheapestFor) (maxL := 3) (ret := (some .int)) (by decide) rfl ?_
  intro p e s m args below meth c s₁ B hml htab hv
  obtain ⟨rfl, ⟨hsz, hP, hK, hD0⟩, hC⟩ := hv
  have hx := B.exec
  have hb := B.bytes
  have hr := B.returns
  have hts := atoms_spec (ws := .code yX8_cheapestFor cX8_cheapestFor 3 (some .int) :: GW) B.pre
  have htg : ∀ w ∈ GW, w.before _ s = true := fun w h => hts w (List.mem_cons_of_mem _ h)
  have hown : s.vm.findClass RX8 = some m.cls := findClass_of_methodNamed B.named
  have hlocks := B.notSynchronized
  subst hsz
  have hD := hD0.self (sz := s.heap.size)
  generalize hAe : va_A (brkC ad Z ++ (booksC ck (ad 0) S ++ (booksC ck (ad 1) T ++ (outC ((ad 7) 1) O ++ (booksC ck (ad 2) P ++ (nobjC (ad 3) ++ (rowC ck 36 ((ad 3) 1) V ++ (rowC ck 36 ((ad 3) 2) N ++ (inputC ck ka (ad 5) I ++ (sboC (ad 6) U ++ (sbvC ck ((ad 6) 1) Y ++ (histW ck (ad 4) ra X Q)))))))))))) s.heap.size = A at hD hC ⊢
  have hA : ∀ q : Nat, s.heap.size ≤ q → A q := fun q h => by rw [← hAe]; exact Or.inr h
  have hS : va_S A s.heap s.heap [] := va_S.rf
  have hP : va_P dg vwCl (brkC ad Z ++ (booksC ck (ad 0) S ++ (booksC ck (ad 1) T ++ (outC ((ad 7) 1) O ++ (booksC ck (ad 2) P ++ (nobjC (ad 3) ++ (rowC ck 36 ((ad 3) 1) V ++ (rowC ck 36 ((ad 3) 2) N ++ (inputC ck ka (ad 5) I ++ (sboC (ad 6) U ++ (sbvC ck ((ad 6) 1) Y ++ (histW ck (ad 4) ra X Q)))))))))))) s.heap := hP
  have hl := lv_entry ([.ref ((ad 7) 0), .int (zI x)]) (n := 3) (Nat.le_of_ble_eq_true rfl)
  rw [lg_entry_eq]
  generalize (lg_sl ([.ref ((ad 7) 0), .int (zI x)]) ++ List.replicate (3 - (lg_sl ([.ref ((ad 7) 0), .int (zI x)])).length) Slot.unset).toArray = ls at hl ⊢
  have hl : lv_has ls 3 [(0, .ref ((ad 7) 0)), (1, .int (zI x))] := hl
  obtain ⟨b00, b01, b02, b03, b1, b2, b3, b4, b5, b6, b7, b8, b9, b10, b11, b12⟩ := id hI
  have hcr := chB_r S x (S 0 0).toNat
  refine lv_aload_n hx hb dX8_cheapestFor_0 rfl (lv_at hl 0 rfl) ?_
  refine lv_iload_n hx hb dX8_cheapestFor_1 rfl (lv_at hl 1 rfl) ?_
  refine xx_callv hP hD hS hA (vx_runV (As := [.int (zI x)]) (rest := []) ⟨hx, hb, hml, hown, htg⟩ (x_needTenant l dg ck ka ad ra Z O U X S T P I V N Y Q x _ hI (by omega) hst) (cwV 1 htg (gwV wq_476 wq_478 wp_2 wq_1 wq_479) rfl rfl rfl (by decide +kernel) ⟨Nat.le_of_ble_eq_true rfl, Nat.le_of_ble_eq_true rfl⟩) (wrK_preV hK hP hD hC hS hA 0 10 rfl rfl) rfl rfl hl.1 rfl (lv_room (Nat.le_of_ble_eq_true rfl)) dX8_cheapestFor_2 ⟨Nat.le_of_ble_eq_true rfl, Nat.le_of_ble_eq_true rfl⟩) (fun E9 ce9 q9 H locs hE9 hP hD hS g1 g2 g3 => ?_) (fun H locs hn2 hP hD hS => ?_)
  · have hEqX : brkW ck ka ad ra Z O U X S T P I V N Y Q = brkC ad Z ++ (booksC ck (ad 0) S ++ (booksC ck (ad 1) T ++ (outC ((ad 7) 1) O ++ (booksC ck (ad 2) P ++ (nobjC (ad 3) ++ (rowC ck 36 ((ad 3) 1) V ++ (rowC ck 36 ((ad 3) 2) N ++ (inputC ck ka (ad 5) I ++ (sboC (ad 6) U ++ (sbvC ck ((ad 6) 1) Y ++ (histW ck (ad 4) ra X Q))))))))))) := rfl
    exact x_outX (XP := fun E => (E = "java/lang/IndexOutOfBoundsException" ∧ ¬ (isTen S x)) ∨ (E = "java/util/NoSuchElementException" ∧ (isTen S x) ∧ (chB S x (S 0 0).toNat = -1))) hAe htab hlocks (by rw [hEqX]; exact hP) (by rw [hEqX]; exact hD) hS (Or.inl hE9) g1 g2 g3 (Nat.le_of_ble_eq_true rfl) (Nat.le_of_ble_eq_true rfl)
  have hP : va_P dg vwCl (brkC ad Z ++ (booksC ck (ad 0) S ++ (booksC ck (ad 1) T ++ (outC ((ad 7) 1) O ++ (booksC ck (ad 2) P ++ (nobjC (ad 3) ++ (rowC ck 36 ((ad 3) 1) V ++ (rowC ck 36 ((ad 3) 2) N ++ (inputC ck ka (ad 5) I ++ (sboC (ad 6) U ++ (sbvC ck ((ad 6) 1) Y ++ (histW ck (ad 4) ra X Q)))))))))))) H := hP
  have hD : va_D A (brkC ad Z ++ (booksC ck (ad 0) S ++ (booksC ck (ad 1) T ++ (outC ((ad 7) 1) O ++ (booksC ck (ad 2) P ++ (nobjC (ad 3) ++ (rowC ck 36 ((ad 3) 1) V ++ (rowC ck 36 ((ad 3) 2) N ++ (inputC ck ka (ad 5) I ++ (sboC (ad 6) U ++ (sbvC ck ((ad 6) 1) Y ++ (histW ck (ad 4) ra X Q)))))))))))) := hD
  refine lv_aload_n hx hb dX8_cheapestFor_5 rfl (lv_at hl 0 rfl) ?_
  refine va_get (D := dg) (ci := 10) (v := .ref ((ad 0) 0)) (C := RX8) (T := TX8) (N := 13) hx hb htg inG_X8 hown hK hP 0 rfl rfl 0 (Nat.le_of_ble_eq_true rfl) (htg _ wq_279) (fun _ h9 => h9) rfl dX8_cheapestFor_6 ?_
  refine lv_iload_n hx hb dX8_cheapestFor_9 rfl (lv_at hl 1 rfl) ?_
  refine vp_callSi (W.runV (As := [.int (zI x)]) (rest := []) ⟨hx, hb, hml, hown, htg⟩ (c_cheapestBench l dg ck (ad 0) S x hI (by omega)) (cwV 1 htg (gwV wq_1404 wq_1405 wq_1406 wq_2 wq_1407) rfl rfl rfl (by decide +kernel) ⟨Nat.le_of_ble_eq_true rfl, Nat.le_of_ble_eq_true rfl⟩) (rd_preV hK (va_P_l (va_P_r hP)) 0 4 rfl rfl) rfl rfl hl.1 rfl (lv_room (Nat.le_of_ble_eq_true rfl)) dX8_cheapestFor_10 ⟨Nat.le_of_ble_eq_true rfl, Nat.le_of_ble_eq_true rfl⟩) (fun r10 hr10 => ?_)
  subst hr10
  refine lv_istore_n (lv' := [(2, .int (zI (chB S x (S 0 0).toNat))), (0, .ref ((ad 7) 0)), (1, .int (zI x))]) hx hb dX8_cheapestFor_13 rfl hl (by decide) rfl (fun ls hl => ?_)
  refine lv_iload_n hx hb dX8_cheapestFor_14 rfl (lv_at hl 0 rfl) ?_
  refine x_iconst hx hb dX8_cheapestFor_15 ?_
  refine x_icmp_ne (tgt := 27) hx hb dX8_cheapestFor_16 (by decide) (by omega) (by omega) (fun c16 => ?_) (fun c16 => ?_)
  · refine lv_iload_n hx hb dX8_cheapestFor_27 rfl (lv_at hl 0 rfl) ?_
    have hEq : brkW ck ka ad ra Z O U X S T P I V N Y Q = brkC ad Z ++ (booksC ck (ad 0) S ++ (booksC ck (ad 1) T ++ (outC ((ad 7) 1) O ++ (booksC ck (ad 2) P ++ (nobjC (ad 3) ++ (rowC ck 36 ((ad 3) 1) V ++ (rowC ck 36 ((ad 3) 2) N ++ (inputC ck ka (ad 5) I ++ (sboC (ad 6) U ++ (sbvC ck ((ad 6) 1) Y ++ (histW ck (ad 4) ra X Q))))))))))) := rfl
    exact W.widen (k := 2) (n := 12) (Nat.le_of_ble_eq_true rfl) (Nat.le_of_ble_eq_true rfl) (vx_ret (W.iret (v := _) hx hb hr (fun t9 ht9 hW9 => ⟨⟨_, (), rfl, ⟨rfl, hn2, by omega⟩, by rw [ht9, hEq]; exact hP, by rw [hEq, hAe]; exact hD⟩, hS.F ht9⟩) hS.2.2 dX8_cheapestFor_28))
  · have hEqX : brkW ck ka ad ra Z O U X S T P I V N Y Q = brkC ad Z ++ (booksC ck (ad 0) S ++ (booksC ck (ad 1) T ++ (outC ((ad 7) 1) O ++ (booksC ck (ad 2) P ++ (nobjC (ad 3) ++ (rowC ck 36 ((ad 3) 1) V ++ (rowC ck 36 ((ad 3) 2) N ++ (inputC ck ka (ad 5) I ++ (sboC (ad 6) U ++ (sbvC ck ((ad 6) 1) Y ++ (histW ck (ad 4) ra X Q))))))))))) := rfl
    exact vx_throw0 (names := ["java/lang/RuntimeException", "java/lang/Exception"]) hx hb hst hown (by decide +kernel) (by decide +kernel) (htg _ wq_488) (htg _ wq_20) (vx_hat (fun w hw => htg w (ax_NS w hw)) an_NS (nw_all hC)) ao_NS hC.2.2.2.1 hC.2.2.2.2.1 hS (hl.1.trans hml.symm) dX8_cheapestFor_19 dX8_cheapestFor_22 dX8_cheapestFor_23 dX8_cheapestFor_26 (fun x hx9 => (htab x hx9).elim) (Nat.le_of_ble_eq_true rfl) (Nat.le_of_ble_eq_true rfl) (Nat.le_of_ble_eq_true rfl) (Nat.le_of_ble_eq_true rfl) hlocks (fun t9 _ h1 h2 => x_thrX (XP := fun E => (E = "java/lang/IndexOutOfBoundsException" ∧ ¬ (isTen S x)) ∨ (E = "java/util/NoSuchElementException" ∧ (isTen S x) ∧ (chB S x (S 0 0).toNat = -1))) hAe (by rw [hEqX]; exact hP) (by rw [hEqX]; exact hD) hS (Or.inr ⟨rfl, hn2, by omega⟩) h1 h2) hS.2.2 (Nat.le_of_ble_eq_true rfl) (Nat.le_of_ble_eq_true rfl)

set_option maxHeartbeats 4000000 in
set_option maxRecDepth 100000 in
/-- BenchBroker.needLease -/
theorem x_needLease (l : Launch) (dg : va_G) (ck : Nat → ClassId) (ka : Nat → Nat) (ad ra : Nat → Nat → Nat) (Z O U X : Nat → Int) (S T P I : St) (V N Y : Int → Int) (Q : Nat → St) (x : Int) (sz : Nat) (hI : Bd S) (rg_x : -2147483648 ≤ x ∧ x < 2147483648) (hst : l.stackTraces = false) : vx_Met l yX8_needLease (.code yX8_needLease cX8_needLease 2 none :: GW) ({ frames := 7, cells := 2, slots := 12, locals := 116 }) (va_Pc [.ref ((ad 7) 0), .int (zI x)] (wrK dg ck ka sz (brkC ad Z ++ (booksC ck (ad 0) S ++ (booksC ck (ad 1) T ++ (outC ((ad 7) 1) O ++ (booksC ck (ad 2) P ++ (nobjC (ad 3) ++ (rowC ck 36 ((ad 3) 1) V ++ (rowC ck 36 ((ad 3) 2) N ++ (inputC ck ka (ad 5) I ++ (sboC (ad 6) U ++ (sbvC ck ((ad 6) 1) Y ++ (histW ck (ad 4) ra X Q)))))))))))))) (va_Qv (fun _ : Unit => isBench S x ∧ S 4 x ≠ 0) (fun _ t9 => wrQ dg sz (brkC ad Z ++ (booksC ck (ad 0) S ++ (booksC ck (ad 1) T ++ (outC ((ad 7) 1) O ++ (booksC ck (ad 2) P ++ (nobjC (ad 3) ++ (rowC ck 36 ((ad 3) 1) V ++ (rowC ck 36 ((ad 3) 2) N ++ (inputC ck ka (ad 5) I ++ (sboC (ad 6) U ++ (sbvC ck ((ad 6) 1) Y ++ (histW ck (ad 4) ra X Q)))))))))))) (brkW ck ka ad ra Z O U X S T P I V N Y Q) t9) (va_A (brkC ad Z ++ (booksC ck (ad 0) S ++ (booksC ck (ad 1) T ++ (outC ((ad 7) 1) O ++ (booksC ck (ad 2) P ++ (nobjC (ad 3) ++ (rowC ck 36 ((ad 3) 1) V ++ (rowC ck 36 ((ad 3) 2) N ++ (inputC ck ka (ad 5) I ++ (sboC (ad 6) U ++ (sbvC ck ((ad 6) 1) Y ++ (histW ck (ad 4) ra X Q)))))))))))) sz)) (vx_X (fun _ : Unit => True) (fun E (_ : Unit) t9 => ((E = "java/lang/IndexOutOfBoundsException" ∧ ¬ (isBench S x)) ∨ (E = "java/util/NoSuchElementException" ∧ (isBench S x) ∧ (S 4 x = 0))) ∧ wrQ dg sz (brkC ad Z ++ (booksC ck (ad 0) S ++ (booksC ck (ad 1) T ++ (outC ((ad 7) 1) O ++ (booksC ck (ad 2) P ++ (nobjC (ad 3) ++ (rowC ck 36 ((ad 3) 1) V ++ (rowC ck 36 ((ad 3) 2) N ++ (inputC ck ka (ad 5) I ++ (sboC (ad 6) U ++ (sbvC ck ((ad 6) 1) Y ++ (histW ck (ad 4) ra X Q)))))))))))) (brkW ck ka ad ra Z O U X S T P I V N Y Q) t9) (va_A (brkC ad Z ++ (booksC ck (ad 0) S ++ (booksC ck (ad 1) T ++ (outC ((ad 7) 1) O ++ (booksC ck (ad 2) P ++ (nobjC (ad 3) ++ (rowC ck 36 ((ad 3) 1) V ++ (rowC ck 36 ((ad 3) 2) N ++ (inputC ck ka (ad 5) I ++ (sboC (ad 6) U ++ (sbvC ck ((ad 6) 1) Y ++ (histW ck (ad 4) ra X Q)))))))))))) sz)) 2 12 (va_A (brkC ad Z ++ (booksC ck (ad 0) S ++ (booksC ck (ad 1) T ++ (outC ((ad 7) 1) O ++ (booksC ck (ad 2) P ++ (nobjC (ad 3) ++ (rowC ck 36 ((ad 3) 1) V ++ (rowC ck 36 ((ad 3) 2) N ++ (inputC ck ka (ad 5) I ++ (sboC (ad 6) U ++ (sbvC ck ((ad 6) 1) Y ++ (histW ck (ad 4) ra X Q)))))))))))) sz) := by
  refine vx_ofW (cc := cX8_needLease) (maxL := 2) (ret := none) (by decide) rfl ?_
  intro p e s m args below meth c s₁ B hml htab hv
  obtain ⟨rfl, ⟨hsz, hP, hK, hD0⟩, hC⟩ := hv
  have hx := B.exec
  have hb := B.bytes
  have hr := B.returns
  have hts := atoms_spec (ws := .code yX8_needLease cX8_needLease 2 none :: GW) B.pre
  have htg : ∀ w ∈ GW, w.before _ s = true := fun w h => hts w (List.mem_cons_of_mem _ h)
  have hown : s.vm.findClass RX8 = some m.cls := findClass_of_methodNamed B.named
  have hlocks := B.notSynchronized
  subst hsz
  have hD := hD0.self (sz := s.heap.size)
  generalize hAe : va_A (brkC ad Z ++ (booksC ck (ad 0) S ++ (booksC ck (ad 1) T ++ (outC ((ad 7) 1) O ++ (booksC ck (ad 2) P ++ (nobjC (ad 3) ++ (rowC ck 36 ((ad 3) 1) V ++ (rowC ck 36 ((ad 3) 2) N ++ (inputC ck ka (ad 5) I ++ (sboC (ad 6) U ++ (sbvC ck ((ad 6) 1) Y ++ (histW ck (ad 4) ra X Q)))))))))))) s.heap.size = A at hD hC ⊢
  have hA : ∀ q : Nat, s.heap.size ≤ q → A q := fun q h => by rw [← hAe]; exact Or.inr h
  have hS : va_S A s.heap s.heap [] := va_S.rf
  have hP : va_P dg vwCl (brkC ad Z ++ (booksC ck (ad 0) S ++ (booksC ck (ad 1) T ++ (outC ((ad 7) 1) O ++ (booksC ck (ad 2) P ++ (nobjC (ad 3) ++ (rowC ck 36 ((ad 3) 1) V ++ (rowC ck 36 ((ad 3) 2) N ++ (inputC ck ka (ad 5) I ++ (sboC (ad 6) U ++ (sbvC ck ((ad 6) 1) Y ++ (histW ck (ad 4) ra X Q)))))))))))) s.heap := hP
  have hl := lv_entry ([.ref ((ad 7) 0), .int (zI x)]) (n := 2) (Nat.le_of_ble_eq_true rfl)
  rw [lg_entry_eq]
  generalize (lg_sl ([.ref ((ad 7) 0), .int (zI x)]) ++ List.replicate (2 - (lg_sl ([.ref ((ad 7) 0), .int (zI x)])).length) Slot.unset).toArray = ls at hl ⊢
  have hl : lv_has ls 2 [(0, .ref ((ad 7) 0)), (1, .int (zI x))] := hl
  obtain ⟨b00, b01, b02, b03, b1, b2, b3, b4, b5, b6, b7, b8, b9, b10, b11, b12⟩ := id hI
  refine lv_aload_n hx hb dX8_needLease_0 rfl (lv_at hl 0 rfl) ?_
  refine lv_iload_n hx hb dX8_needLease_1 rfl (lv_at hl 1 rfl) ?_
  refine xx_callv hP hD hS hA (vx_runV (As := [.int (zI x)]) (rest := []) ⟨hx, hb, hml, hown, htg⟩ (x_needBench l dg ck ka ad ra Z O U X S T P I V N Y Q x _ hI (by omega) hst) (cwV 1 htg (gwV wq_425 wq_427 wp_1 wq_1 wq_428) rfl rfl rfl (by decide +kernel) ⟨Nat.le_of_ble_eq_true rfl, Nat.le_of_ble_eq_true rfl⟩) (wrK_preV hK hP hD hC hS hA 0 10 rfl rfl) rfl rfl hl.1 rfl (lv_room (Nat.le_of_ble_eq_true rfl)) dX8_needLease_2 ⟨Nat.le_of_ble_eq_true rfl, Nat.le_of_ble_eq_true rfl⟩) (fun E9 ce9 q9 H locs hE9 hP hD hS g1 g2 g3 => ?_) (fun H locs hn2 hP hD hS => ?_)
  · have hEqX : brkW ck ka ad ra Z O U X S T P I V N Y Q = brkC ad Z ++ (booksC ck (ad 0) S ++ (booksC ck (ad 1) T ++ (outC ((ad 7) 1) O ++ (booksC ck (ad 2) P ++ (nobjC (ad 3) ++ (rowC ck 36 ((ad 3) 1) V ++ (rowC ck 36 ((ad 3) 2) N ++ (inputC ck ka (ad 5) I ++ (sboC (ad 6) U ++ (sbvC ck ((ad 6) 1) Y ++ (histW ck (ad 4) ra X Q))))))))))) := rfl
    exact x_outX (XP := fun E => (E = "java/lang/IndexOutOfBoundsException" ∧ ¬ (isBench S x)) ∨ (E = "java/util/NoSuchElementException" ∧ (isBench S x) ∧ (S 4 x = 0))) hAe htab hlocks (by rw [hEqX]; exact hP) (by rw [hEqX]; exact hD) hS (Or.inl hE9) g1 g2 g3 (Nat.le_of_ble_eq_true rfl) (Nat.le_of_ble_eq_true rfl)
  have hP : va_P dg vwCl (brkC ad Z ++ (booksC ck (ad 0) S ++ (booksC ck (ad 1) T ++ (outC ((ad 7) 1) O ++ (booksC ck (ad 2) P ++ (nobjC (ad 3) ++ (rowC ck 36 ((ad 3) 1) V ++ (rowC ck 36 ((ad 3) 2) N ++ (inputC ck ka (ad 5) I ++ (sboC (ad 6) U ++ (sbvC ck ((ad 6) 1) Y ++ (histW ck (ad 4) ra X Q)))))))))))) H := hP
  have hD : va_D A (brkC ad Z ++ (booksC ck (ad 0) S ++ (booksC ck (ad 1) T ++ (outC ((ad 7) 1) O ++ (booksC ck (ad 2) P ++ (nobjC (ad 3) ++ (rowC ck 36 ((ad 3) 1) V ++ (rowC ck 36 ((ad 3) 2) N ++ (inputC ck ka (ad 5) I ++ (sboC (ad 6) U ++ (sbvC ck ((ad 6) 1) Y ++ (histW ck (ad 4) ra X Q)))))))))))) := hD
  refine lv_aload_n hx hb dX8_needLease_5 rfl (lv_at hl 0 rfl) ?_
  refine va_get (D := dg) (ci := 10) (v := .ref ((ad 0) 0)) (C := RX8) (T := TX8) (N := 13) hx hb htg inG_X8 hown hK hP 0 rfl rfl 0 (Nat.le_of_ble_eq_true rfl) (htg _ wq_279) (fun _ h9 => h9) rfl dX8_needLease_6 ?_
  refine lv_iload_n hx hb dX8_needLease_9 rfl (lv_at hl 1 rfl) ?_
  refine vp_callSi (W.runV (As := [.int (zI x)]) (rest := []) ⟨hx, hb, hml, hown, htg⟩ (c_leased l dg ck (ad 0) S x hI (by omega)) (cwV 1 htg (gwV wq_532 wq_516 wq_517 wq_2 wq_518) rfl rfl rfl (by decide +kernel) ⟨Nat.le_of_ble_eq_true rfl, Nat.le_of_ble_eq_true rfl⟩) (rd_preV hK (va_P_l (va_P_r hP)) 0 4 rfl rfl) rfl rfl hl.1 rfl (lv_room (Nat.le_of_ble_eq_true rfl)) dX8_needLease_10 ⟨Nat.le_of_ble_eq_true rfl, Nat.le_of_ble_eq_true rfl⟩) (fun r10 hr10 => ?_)
  subst hr10
  refine x_bz_ne (tgt := 24) hx hb dX8_needLease_13 (by decide) (fun c13 => ?_) (fun c13 => ?_)
  · have hEq : brkW ck ka ad ra Z O U X S T P I V N Y Q = brkC ad Z ++ (booksC ck (ad 0) S ++ (booksC ck (ad 1) T ++ (outC ((ad 7) 1) O ++ (booksC ck (ad 2) P ++ (nobjC (ad 3) ++ (rowC ck 36 ((ad 3) 1) V ++ (rowC ck 36 ((ad 3) 2) N ++ (inputC ck ka (ad 5) I ++ (sboC (ad 6) U ++ (sbvC ck ((ad 6) 1) Y ++ (histW ck (ad 4) ra X Q))))))))))) := rfl
    exact W.widen (k := 2) (n := 12) (Nat.le_of_ble_eq_true rfl) (Nat.le_of_ble_eq_true rfl) (vx_ret (W.vret hx hb hr (fun t9 ht9 hW9 => ⟨⟨(), rfl, ⟨hn2, c13⟩, by rw [ht9, hEq]; exact hP, by rw [hEq, hAe]; exact hD⟩, hS.F ht9⟩) hS.2.2 dX8_needLease_24))
  · have hEqX : brkW ck ka ad ra Z O U X S T P I V N Y Q = brkC ad Z ++ (booksC ck (ad 0) S ++ (booksC ck (ad 1) T ++ (outC ((ad 7) 1) O ++ (booksC ck (ad 2) P ++ (nobjC (ad 3) ++ (rowC ck 36 ((ad 3) 1) V ++ (rowC ck 36 ((ad 3) 2) N ++ (inputC ck ka (ad 5) I ++ (sboC (ad 6) U ++ (sbvC ck ((ad 6) 1) Y ++ (histW ck (ad 4) ra X Q))))))))))) := rfl
    exact vx_throw0 (names := ["java/lang/RuntimeException", "java/lang/Exception"]) hx hb hst hown (by decide +kernel) (by decide +kernel) (htg _ wq_488) (htg _ wq_20) (vx_hat (fun w hw => htg w (ax_NS w hw)) an_NS (nw_all hC)) ao_NS hC.2.2.2.1 hC.2.2.2.2.1 hS (hl.1.trans hml.symm) dX8_needLease_16 dX8_needLease_19 dX8_needLease_20 dX8_needLease_23 (fun x hx9 => (htab x hx9).elim) (Nat.le_of_ble_eq_true rfl) (Nat.le_of_ble_eq_true rfl) (Nat.le_of_ble_eq_true rfl) (Nat.le_of_ble_eq_true rfl) hlocks (fun t9 _ h1 h2 => x_thrX (XP := fun E => (E = "java/lang/IndexOutOfBoundsException" ∧ ¬ (isBench S x)) ∨ (E = "java/util/NoSuchElementException" ∧ (isBench S x) ∧ (S 4 x = 0))) hAe (by rw [hEqX]; exact hP) (by rw [hEqX]; exact hD) hS (Or.inr ⟨rfl, hn2, Classical.byContradiction c13⟩) h1 h2) hS.2.2 (Nat.le_of_ble_eq_true rfl) (Nat.le_of_ble_eq_true rfl)

set_option maxHeartbeats 4000000 in
set_option maxRecDepth 100000 in
/-- BenchBroker.isLet -/
theorem x_isLet (l : Launch) (dg : va_G) (ck : Nat → ClassId) (ka : Nat → Nat) (ad ra : Nat → Nat → Nat) (Z O U X : Nat → Int) (S T P I : St) (V N Y : Int → Int) (Q : Nat → St) (x : Int) (sz : Nat) (hI : Bd S) (rg_x : -2147483648 ≤ x ∧ x < 2147483648) (hst : l.stackTraces = false) : vx_Met l yX8_isLet (.code yX8_isLet cX8_isLet 2 (some .boolean) :: GW) ({ frames := 7, cells := 1, slots := 6, locals := 116 }) (va_Pc [.ref ((ad 7) 0), .int (zI x)] (wrK dg ck ka sz (brkC ad Z ++ (booksC ck (ad 0) S ++ (booksC ck (ad 1) T ++ (outC ((ad 7) 1) O ++ (booksC ck (ad 2) P ++ (nobjC (ad 3) ++ (rowC ck 36 ((ad 3) 1) V ++ (rowC ck 36 ((ad 3) 2) N ++ (inputC ck ka (ad 5) I ++ (sboC (ad 6) U ++ (sbvC ck ((ad 6) 1) Y ++ (histW ck (ad 4) ra X Q)))))))))))))) (va_Qi (fun r (_ : Unit) => r = zI (bI (S 4 x ≠ 0)) ∧ isBench S x) (fun _ t9 => wrQ dg sz (brkC ad Z ++ (booksC ck (ad 0) S ++ (booksC ck (ad 1) T ++ (outC ((ad 7) 1) O ++ (booksC ck (ad 2) P ++ (nobjC (ad 3) ++ (rowC ck 36 ((ad 3) 1) V ++ (rowC ck 36 ((ad 3) 2) N ++ (inputC ck ka (ad 5) I ++ (sboC (ad 6) U ++ (sbvC ck ((ad 6) 1) Y ++ (histW ck (ad 4) ra X Q)))))))))))) (brkW ck ka ad ra Z O U X S T P I V N Y Q) t9) (va_A (brkC ad Z ++ (booksC ck (ad 0) S ++ (booksC ck (ad 1) T ++ (outC ((ad 7) 1) O ++ (booksC ck (ad 2) P ++ (nobjC (ad 3) ++ (rowC ck 36 ((ad 3) 1) V ++ (rowC ck 36 ((ad 3) 2) N ++ (inputC ck ka (ad 5) I ++ (sboC (ad 6) U ++ (sbvC ck ((ad 6) 1) Y ++ (histW ck (ad 4) ra X Q)))))))))))) sz)) (vx_X (fun _ : Unit => True) (fun E (_ : Unit) t9 => (E = "java/lang/IndexOutOfBoundsException" ∧ ¬ (isBench S x)) ∧ wrQ dg sz (brkC ad Z ++ (booksC ck (ad 0) S ++ (booksC ck (ad 1) T ++ (outC ((ad 7) 1) O ++ (booksC ck (ad 2) P ++ (nobjC (ad 3) ++ (rowC ck 36 ((ad 3) 1) V ++ (rowC ck 36 ((ad 3) 2) N ++ (inputC ck ka (ad 5) I ++ (sboC (ad 6) U ++ (sbvC ck ((ad 6) 1) Y ++ (histW ck (ad 4) ra X Q)))))))))))) (brkW ck ka ad ra Z O U X S T P I V N Y Q) t9) (va_A (brkC ad Z ++ (booksC ck (ad 0) S ++ (booksC ck (ad 1) T ++ (outC ((ad 7) 1) O ++ (booksC ck (ad 2) P ++ (nobjC (ad 3) ++ (rowC ck 36 ((ad 3) 1) V ++ (rowC ck 36 ((ad 3) 2) N ++ (inputC ck ka (ad 5) I ++ (sboC (ad 6) U ++ (sbvC ck ((ad 6) 1) Y ++ (histW ck (ad 4) ra X Q)))))))))))) sz)) 1 6 (va_A (brkC ad Z ++ (booksC ck (ad 0) S ++ (booksC ck (ad 1) T ++ (outC ((ad 7) 1) O ++ (booksC ck (ad 2) P ++ (nobjC (ad 3) ++ (rowC ck 36 ((ad 3) 1) V ++ (rowC ck 36 ((ad 3) 2) N ++ (inputC ck ka (ad 5) I ++ (sboC (ad 6) U ++ (sbvC ck ((ad 6) 1) Y ++ (histW ck (ad 4) ra X Q)))))))))))) sz) := by
  refine vx_ofW (cc := cX8_isLet) (maxL := 2) (ret := (some .boolean)) (by decide) rfl ?_
  intro p e s m args below meth c s₁ B hml htab hv
  obtain ⟨rfl, ⟨hsz, hP, hK, hD0⟩, hC⟩ := hv
  have hx := B.exec
  have hb := B.bytes
  have hr := B.returns
  have hts := atoms_spec (ws := .code yX8_isLet cX8_isLet 2 (some .boolean) :: GW) B.pre
  have htg : ∀ w ∈ GW, w.before _ s = true := fun w h => hts w (List.mem_cons_of_mem _ h)
  have hown : s.vm.findClass RX8 = some m.cls := findClass_of_methodNamed B.named
  have hlocks := B.notSynchronized
  subst hsz
  have hD := hD0.self (sz := s.heap.size)
  generalize hAe : va_A (brkC ad Z ++ (booksC ck (ad 0) S ++ (booksC ck (ad 1) T ++ (outC ((ad 7) 1) O ++ (booksC ck (ad 2) P ++ (nobjC (ad 3) ++ (rowC ck 36 ((ad 3) 1) V ++ (rowC ck 36 ((ad 3) 2) N ++ (inputC ck ka (ad 5) I ++ (sboC (ad 6) U ++ (sbvC ck ((ad 6) 1) Y ++ (histW ck (ad 4) ra X Q)))))))))))) s.heap.size = A at hD hC ⊢
  have hA : ∀ q : Nat, s.heap.size ≤ q → A q := fun q h => by rw [← hAe]; exact Or.inr h
  have hS : va_S A s.heap s.heap [] := va_S.rf
  have hP : va_P dg vwCl (brkC ad Z ++ (booksC ck (ad 0) S ++ (booksC ck (ad 1) T ++ (outC ((ad 7) 1) O ++ (booksC ck (ad 2) P ++ (nobjC (ad 3) ++ (rowC ck 36 ((ad 3) 1) V ++ (rowC ck 36 ((ad 3) 2) N ++ (inputC ck ka (ad 5) I ++ (sboC (ad 6) U ++ (sbvC ck ((ad 6) 1) Y ++ (histW ck (ad 4) ra X Q)))))))))))) s.heap := hP
  have hl := lv_entry ([.ref ((ad 7) 0), .int (zI x)]) (n := 2) (Nat.le_of_ble_eq_true rfl)
  rw [lg_entry_eq]
  generalize (lg_sl ([.ref ((ad 7) 0), .int (zI x)]) ++ List.replicate (2 - (lg_sl ([.ref ((ad 7) 0), .int (zI x)])).length) Slot.unset).toArray = ls at hl ⊢
  have hl : lv_has ls 2 [(0, .ref ((ad 7) 0)), (1, .int (zI x))] := hl
  obtain ⟨b00, b01, b02, b03, b1, b2, b3, b4, b5, b6, b7, b8, b9, b10, b11, b12⟩ := id hI
  refine lv_aload_n hx hb dX8_isLet_0 rfl (lv_at hl 0 rfl) ?_
  refine lv_iload_n hx hb dX8_isLet_1 rfl (lv_at hl 1 rfl) ?_
  refine xx_callv hP hD hS hA (vx_runV (As := [.int (zI x)]) (rest := []) ⟨hx, hb, hml, hown, htg⟩ (x_needBench l dg ck ka ad ra Z O U X S T P I V N Y Q x _ hI (by omega) hst) (cwV 1 htg (gwV wq_425 wq_427 wp_1 wq_1 wq_428) rfl rfl rfl (by decide +kernel) ⟨Nat.le_of_ble_eq_true rfl, Nat.le_of_ble_eq_true rfl⟩) (wrK_preV hK hP hD hC hS hA 0 10 rfl rfl) rfl rfl hl.1 rfl (lv_room (Nat.le_of_ble_eq_true rfl)) dX8_isLet_2 ⟨Nat.le_of_ble_eq_true rfl, Nat.le_of_ble_eq_true rfl⟩) (fun E9 ce9 q9 H locs hE9 hP hD hS g1 g2 g3 => ?_) (fun H locs hn2 hP hD hS => ?_)
  · have hEqX : brkW ck ka ad ra Z O U X S T P I V N Y Q = brkC ad Z ++ (booksC ck (ad 0) S ++ (booksC ck (ad 1) T ++ (outC ((ad 7) 1) O ++ (booksC ck (ad 2) P ++ (nobjC (ad 3) ++ (rowC ck 36 ((ad 3) 1) V ++ (rowC ck 36 ((ad 3) 2) N ++ (inputC ck ka (ad 5) I ++ (sboC (ad 6) U ++ (sbvC ck ((ad 6) 1) Y ++ (histW ck (ad 4) ra X Q))))))))))) := rfl
    exact x_outX (XP := fun E => E = "java/lang/IndexOutOfBoundsException" ∧ ¬ (isBench S x)) hAe htab hlocks (by rw [hEqX]; exact hP) (by rw [hEqX]; exact hD) hS hE9 g1 g2 g3 (Nat.le_of_ble_eq_true rfl) (Nat.le_of_ble_eq_true rfl)
  have hP : va_P dg vwCl (brkC ad Z ++ (booksC ck (ad 0) S ++ (booksC ck (ad 1) T ++ (outC ((ad 7) 1) O ++ (booksC ck (ad 2) P ++ (nobjC (ad 3) ++ (rowC ck 36 ((ad 3) 1) V ++ (rowC ck 36 ((ad 3) 2) N ++ (inputC ck ka (ad 5) I ++ (sboC (ad 6) U ++ (sbvC ck ((ad 6) 1) Y ++ (histW ck (ad 4) ra X Q)))))))))))) H := hP
  have hD : va_D A (brkC ad Z ++ (booksC ck (ad 0) S ++ (booksC ck (ad 1) T ++ (outC ((ad 7) 1) O ++ (booksC ck (ad 2) P ++ (nobjC (ad 3) ++ (rowC ck 36 ((ad 3) 1) V ++ (rowC ck 36 ((ad 3) 2) N ++ (inputC ck ka (ad 5) I ++ (sboC (ad 6) U ++ (sbvC ck ((ad 6) 1) Y ++ (histW ck (ad 4) ra X Q)))))))))))) := hD
  refine lv_aload_n hx hb dX8_isLet_5 rfl (lv_at hl 0 rfl) ?_
  refine va_get (D := dg) (ci := 10) (v := .ref ((ad 0) 0)) (C := RX8) (T := TX8) (N := 13) hx hb htg inG_X8 hown hK hP 0 rfl rfl 0 (Nat.le_of_ble_eq_true rfl) (htg _ wq_279) (fun _ h9 => h9) rfl dX8_isLet_6 ?_
  refine lv_iload_n hx hb dX8_isLet_9 rfl (lv_at hl 1 rfl) ?_
  refine vp_callSi (W.runV (As := [.int (zI x)]) (rest := []) ⟨hx, hb, hml, hown, htg⟩ (c_leased l dg ck (ad 0) S x hI (by omega)) (cwV 1 htg (gwV wq_532 wq_516 wq_517 wq_2 wq_518) rfl rfl rfl (by decide +kernel) ⟨Nat.le_of_ble_eq_true rfl, Nat.le_of_ble_eq_true rfl⟩) (rd_preV hK (va_P_l (va_P_r hP)) 0 4 rfl rfl) rfl rfl hl.1 rfl (lv_room (Nat.le_of_ble_eq_true rfl)) dX8_isLet_10 ⟨Nat.le_of_ble_eq_true rfl, Nat.le_of_ble_eq_true rfl⟩) (fun r10 hr10 => ?_)
  subst hr10
  have hEq : brkW ck ka ad ra Z O U X S T P I V N Y Q = brkC ad Z ++ (booksC ck (ad 0) S ++ (booksC ck (ad 1) T ++ (outC ((ad 7) 1) O ++ (booksC ck (ad 2) P ++ (nobjC (ad 3) ++ (rowC ck 36 ((ad 3) 1) V ++ (rowC ck 36 ((ad 3) 2) N ++ (inputC ck ka (ad 5) I ++ (sboC (ad 6) U ++ (sbvC ck ((ad 6) 1) Y ++ (histW ck (ad 4) ra X Q))))))))))) := rfl
  exact W.widen (k := 1) (n := 6) (Nat.le_of_ble_eq_true rfl) (Nat.le_of_ble_eq_true rfl) (vx_ret (W.zret (v := _) hx hb hr (by first | rfl | exact nar_b _) (fun t9 ht9 hW9 => ⟨⟨_, (), rfl, ⟨rfl, hn2⟩, by rw [ht9, hEq]; exact hP, by rw [hEq, hAe]; exact hD⟩, hS.F ht9⟩) hS.2.2 dX8_isLet_13))

set_option maxHeartbeats 4000000 in
set_option maxRecDepth 100000 in
/-- BenchBroker.tenantOf -/
theorem x_tenantOf (l : Launch) (dg : va_G) (ck : Nat → ClassId) (ka : Nat → Nat) (ad ra : Nat → Nat → Nat) (Z O U X : Nat → Int) (S T P I : St) (V N Y : Int → Int) (Q : Nat → St) (x : Int) (sz : Nat) (hI : Bd S) (rg_x : -2147483648 ≤ x ∧ x < 2147483648) (hst : l.stackTraces = false) : vx_Met l yX8_tenantOf (.code yX8_tenantOf cX8_tenantOf 2 (some .int) :: GW) ({ frames := 8, cells := 2, slots := 12, locals := 137 }) (va_Pc [.ref ((ad 7) 0), .int (zI x)] (wrK dg ck ka sz (brkC ad Z ++ (booksC ck (ad 0) S ++ (booksC ck (ad 1) T ++ (outC ((ad 7) 1) O ++ (booksC ck (ad 2) P ++ (nobjC (ad 3) ++ (rowC ck 36 ((ad 3) 1) V ++ (rowC ck 36 ((ad 3) 2) N ++ (inputC ck ka (ad 5) I ++ (sboC (ad 6) U ++ (sbvC ck ((ad 6) 1) Y ++ (histW ck (ad 4) ra X Q)))))))))))))) (va_Qi (fun r (_ : Unit) => r = zI (S 4 x - 1) ∧ isBench S x ∧ S 4 x ≠ 0) (fun _ t9 => wrQ dg sz (brkC ad Z ++ (booksC ck (ad 0) S ++ (booksC ck (ad 1) T ++ (outC ((ad 7) 1) O ++ (booksC ck (ad 2) P ++ (nobjC (ad 3) ++ (rowC ck 36 ((ad 3) 1) V ++ (rowC ck 36 ((ad 3) 2) N ++ (inputC ck ka (ad 5) I ++ (sboC (ad 6) U ++ (sbvC ck ((ad 6) 1) Y ++ (histW ck (ad 4) ra X Q)))))))))))) (brkW ck ka ad ra Z O U X S T P I V N Y Q) t9) (va_A (brkC ad Z ++ (booksC ck (ad 0) S ++ (booksC ck (ad 1) T ++ (outC ((ad 7) 1) O ++ (booksC ck (ad 2) P ++ (nobjC (ad 3) ++ (rowC ck 36 ((ad 3) 1) V ++ (rowC ck 36 ((ad 3) 2) N ++ (inputC ck ka (ad 5) I ++ (sboC (ad 6) U ++ (sbvC ck ((ad 6) 1) Y ++ (histW ck (ad 4) ra X Q)))))))))))) sz)) (vx_X (fun _ : Unit => True) (fun E (_ : Unit) t9 => ((E = "java/lang/IndexOutOfBoundsException" ∧ ¬ (isBench S x)) ∨ (E = "java/util/NoSuchElementException" ∧ (isBench S x) ∧ (S 4 x = 0))) ∧ wrQ dg sz (brkC ad Z ++ (booksC ck (ad 0) S ++ (booksC ck (ad 1) T ++ (outC ((ad 7) 1) O ++ (booksC ck (ad 2) P ++ (nobjC (ad 3) ++ (rowC ck 36 ((ad 3) 1) V ++ (rowC ck 36 ((ad 3) 2) N ++ (inputC ck ka (ad 5) I ++ (sboC (ad 6) U ++ (sbvC ck ((ad 6) 1) Y ++ (histW ck (ad 4) ra X Q)))))))))))) (brkW ck ka ad ra Z O U X S T P I V N Y Q) t9) (va_A (brkC ad Z ++ (booksC ck (ad 0) S ++ (booksC ck (ad 1) T ++ (outC ((ad 7) 1) O ++ (booksC ck (ad 2) P ++ (nobjC (ad 3) ++ (rowC ck 36 ((ad 3) 1) V ++ (rowC ck 36 ((ad 3) 2) N ++ (inputC ck ka (ad 5) I ++ (sboC (ad 6) U ++ (sbvC ck ((ad 6) 1) Y ++ (histW ck (ad 4) ra X Q)))))))))))) sz)) 2 12 (va_A (brkC ad Z ++ (booksC ck (ad 0) S ++ (booksC ck (ad 1) T ++ (outC ((ad 7) 1) O ++ (booksC ck (ad 2) P ++ (nobjC (ad 3) ++ (rowC ck 36 ((ad 3) 1) V ++ (rowC ck 36 ((ad 3) 2) N ++ (inputC ck ka (ad 5) I ++ (sboC (ad 6) U ++ (sbvC ck ((ad 6) 1) Y ++ (histW ck (ad 4) ra X Q)))))))))))) sz) := by
  refine vx_ofW (cc := cX8_tenantOf) (maxL := 2) (ret := (some .int)) (by decide) rfl ?_
  intro p e s m args below meth c s₁ B hml htab hv
  obtain ⟨rfl, ⟨hsz, hP, hK, hD0⟩, hC⟩ := hv
  have hx := B.exec
  have hb := B.bytes
  have hr := B.returns
  have hts := atoms_spec (ws := .code yX8_tenantOf cX8_tenantOf 2 (some .int) :: GW) B.pre
  have htg : ∀ w ∈ GW, w.before _ s = true := fun w h => hts w (List.mem_cons_of_mem _ h)
  have hown : s.vm.findClass RX8 = some m.cls := findClass_of_methodNamed B.named
  have hlocks := B.notSynchronized
  subst hsz
  have hD := hD0.self (sz := s.heap.size)
  generalize hAe : va_A (brkC ad Z ++ (booksC ck (ad 0) S ++ (booksC ck (ad 1) T ++ (outC ((ad 7) 1) O ++ (booksC ck (ad 2) P ++ (nobjC (ad 3) ++ (rowC ck 36 ((ad 3) 1) V ++ (rowC ck 36 ((ad 3) 2) N ++ (inputC ck ka (ad 5) I ++ (sboC (ad 6) U ++ (sbvC ck ((ad 6) 1) Y ++ (histW ck (ad 4) ra X Q)))))))))))) s.heap.size = A at hD hC ⊢
  have hA : ∀ q : Nat, s.heap.size ≤ q → A q := fun q h => by rw [← hAe]; exact Or.inr h
  have hS : va_S A s.heap s.heap [] := va_S.rf
  have hP : va_P dg vwCl (brkC ad Z ++ (booksC ck (ad 0) S ++ (booksC ck (ad 1) T ++ (outC ((ad 7) 1) O ++ (booksC ck (ad 2) P ++ (nobjC (ad 3) ++ (rowC ck 36 ((ad 3) 1) V ++ (rowC ck 36 ((ad 3) 2) N ++ (inputC ck ka (ad 5) I ++ (sboC (ad 6) U ++ (sbvC ck ((ad 6) 1) Y ++ (histW ck (ad 4) ra X Q)))))))))))) s.heap := hP
  have hl := lv_entry ([.ref ((ad 7) 0), .int (zI x)]) (n := 2) (Nat.le_of_ble_eq_true rfl)
  rw [lg_entry_eq]
  generalize (lg_sl ([.ref ((ad 7) 0), .int (zI x)]) ++ List.replicate (2 - (lg_sl ([.ref ((ad 7) 0), .int (zI x)])).length) Slot.unset).toArray = ls at hl ⊢
  have hl : lv_has ls 2 [(0, .ref ((ad 7) 0)), (1, .int (zI x))] := hl
  obtain ⟨b00, b01, b02, b03, b1, b2, b3, b4, b5, b6, b7, b8, b9, b10, b11, b12⟩ := id hI
  refine lv_aload_n hx hb dX8_tenantOf_0 rfl (lv_at hl 0 rfl) ?_
  refine lv_iload_n hx hb dX8_tenantOf_1 rfl (lv_at hl 1 rfl) ?_
  refine xx_callv hP hD hS hA (vx_runV (As := [.int (zI x)]) (rest := []) ⟨hx, hb, hml, hown, htg⟩ (x_needLease l dg ck ka ad ra Z O U X S T P I V N Y Q x _ hI (by omega) hst) (cwV 1 htg (gwV wq_540 wq_542 wp_3 wq_1 wq_543) rfl rfl rfl (by decide +kernel) ⟨Nat.le_of_ble_eq_true rfl, Nat.le_of_ble_eq_true rfl⟩) (wrK_preV hK hP hD hC hS hA 0 10 rfl rfl) rfl rfl hl.1 rfl (lv_room (Nat.le_of_ble_eq_true rfl)) dX8_tenantOf_2 ⟨Nat.le_of_ble_eq_true rfl, Nat.le_of_ble_eq_true rfl⟩) (fun E9 ce9 q9 H locs hE9 hP hD hS g1 g2 g3 => ?_) (fun H locs hn2 hP hD hS => ?_)
  · have hEqX : brkW ck ka ad ra Z O U X S T P I V N Y Q = brkC ad Z ++ (booksC ck (ad 0) S ++ (booksC ck (ad 1) T ++ (outC ((ad 7) 1) O ++ (booksC ck (ad 2) P ++ (nobjC (ad 3) ++ (rowC ck 36 ((ad 3) 1) V ++ (rowC ck 36 ((ad 3) 2) N ++ (inputC ck ka (ad 5) I ++ (sboC (ad 6) U ++ (sbvC ck ((ad 6) 1) Y ++ (histW ck (ad 4) ra X Q))))))))))) := rfl
    exact x_outX (XP := fun E => (E = "java/lang/IndexOutOfBoundsException" ∧ ¬ (isBench S x)) ∨ (E = "java/util/NoSuchElementException" ∧ (isBench S x) ∧ (S 4 x = 0))) hAe htab hlocks (by rw [hEqX]; exact hP) (by rw [hEqX]; exact hD) hS hE9 g1 g2 g3 (Nat.le_of_ble_eq_true rfl) (Nat.le_of_ble_eq_true rfl)
  have hP : va_P dg vwCl (brkC ad Z ++ (booksC ck (ad 0) S ++ (booksC ck (ad 1) T ++ (outC ((ad 7) 1) O ++ (booksC ck (ad 2) P ++ (nobjC (ad 3) ++ (rowC ck 36 ((ad 3) 1) V ++ (rowC ck 36 ((ad 3) 2) N ++ (inputC ck ka (ad 5) I ++ (sboC (ad 6) U ++ (sbvC ck ((ad 6) 1) Y ++ (histW ck (ad 4) ra X Q)))))))))))) H := hP
  have hD : va_D A (brkC ad Z ++ (booksC ck (ad 0) S ++ (booksC ck (ad 1) T ++ (outC ((ad 7) 1) O ++ (booksC ck (ad 2) P ++ (nobjC (ad 3) ++ (rowC ck 36 ((ad 3) 1) V ++ (rowC ck 36 ((ad 3) 2) N ++ (inputC ck ka (ad 5) I ++ (sboC (ad 6) U ++ (sbvC ck ((ad 6) 1) Y ++ (histW ck (ad 4) ra X Q)))))))))))) := hD
  refine lv_aload_n hx hb dX8_tenantOf_5 rfl (lv_at hl 0 rfl) ?_
  refine va_get (D := dg) (ci := 10) (v := .ref ((ad 0) 0)) (C := RX8) (T := TX8) (N := 13) hx hb htg inG_X8 hown hK hP 0 rfl rfl 0 (Nat.le_of_ble_eq_true rfl) (htg _ wq_279) (fun _ h9 => h9) rfl dX8_tenantOf_6 ?_
  refine va_get (D := dg) (ci := 4) (v := .ref ((ad 0) 3)) (C := RX1) (T := TX1) (N := 13) hx hb htg inG_X1 hown hK hP 1 rfl rfl 4 (Nat.le_of_ble_eq_true rfl) (htg _ wq_115) (fun _ h9 => h9) rfl dX8_tenantOf_9 ?_
  refine lv_iload_n hx hb dX8_tenantOf_12 rfl (lv_at hl 1 rfl) ?_
  refine x_iald hx hb hK hP 4 0 (fun i => S 4 i - 1) rfl rfl (fun _ => rfl) (P := fun y => -1 ≤ y ∧ y ≤ S 0 2 - 1) (fun i => by have := b4 i; omega) (by decide) (by omega) dX8_tenantOf_13 (fun g13 => ?_)
  have hEq : brkW ck ka ad ra Z O U X S T P I V N Y Q = brkC ad Z ++ (booksC ck (ad 0) S ++ (booksC ck (ad 1) T ++ (outC ((ad 7) 1) O ++ (booksC ck (ad 2) P ++ (nobjC (ad 3) ++ (rowC ck 36 ((ad 3) 1) V ++ (rowC ck 36 ((ad 3) 2) N ++ (inputC ck ka (ad 5) I ++ (sboC (ad 6) U ++ (sbvC ck ((ad 6) 1) Y ++ (histW ck (ad 4) ra X Q))))))))))) := rfl
  exact W.widen (k := 2) (n := 12) (Nat.le_of_ble_eq_true rfl) (Nat.le_of_ble_eq_true rfl) (vx_ret (W.iret (v := _) hx hb hr (fun t9 ht9 hW9 => ⟨⟨_, (), rfl, ⟨rfl, hn2⟩, by rw [ht9, hEq]; exact hP, by rw [hEq, hAe]; exact hD⟩, hS.F ht9⟩) hS.2.2 dX8_tenantOf_14))

set_option maxHeartbeats 4000000 in
set_option maxRecDepth 100000 in
/-- BenchBroker.depositOf -/
theorem x_depositOf (l : Launch) (dg : va_G) (ck : Nat → ClassId) (ka : Nat → Nat) (ad ra : Nat → Nat → Nat) (Z O U X : Nat → Int) (S T P I : St) (V N Y : Int → Int) (Q : Nat → St) (x : Int) (sz : Nat) (hI : Bd S) (rg_x : -2147483648 ≤ x ∧ x < 2147483648) (hst : l.stackTraces = false) : vx_Met l yX8_depositOf (.code yX8_depositOf cX8_depositOf 2 (some .int) :: GW) ({ frames := 8, cells := 2, slots := 12, locals := 137 }) (va_Pc [.ref ((ad 7) 0), .int (zI x)] (wrK dg ck ka sz (brkC ad Z ++ (booksC ck (ad 0) S ++ (booksC ck (ad 1) T ++ (outC ((ad 7) 1) O ++ (booksC ck (ad 2) P ++ (nobjC (ad 3) ++ (rowC ck 36 ((ad 3) 1) V ++ (rowC ck 36 ((ad 3) 2) N ++ (inputC ck ka (ad 5) I ++ (sboC (ad 6) U ++ (sbvC ck ((ad 6) 1) Y ++ (histW ck (ad 4) ra X Q)))))))))))))) (va_Qi (fun r (_ : Unit) => r = zI (S 5 x) ∧ isBench S x ∧ S 4 x ≠ 0) (fun _ t9 => wrQ dg sz (brkC ad Z ++ (booksC ck (ad 0) S ++ (booksC ck (ad 1) T ++ (outC ((ad 7) 1) O ++ (booksC ck (ad 2) P ++ (nobjC (ad 3) ++ (rowC ck 36 ((ad 3) 1) V ++ (rowC ck 36 ((ad 3) 2) N ++ (inputC ck ka (ad 5) I ++ (sboC (ad 6) U ++ (sbvC ck ((ad 6) 1) Y ++ (histW ck (ad 4) ra X Q)))))))))))) (brkW ck ka ad ra Z O U X S T P I V N Y Q) t9) (va_A (brkC ad Z ++ (booksC ck (ad 0) S ++ (booksC ck (ad 1) T ++ (outC ((ad 7) 1) O ++ (booksC ck (ad 2) P ++ (nobjC (ad 3) ++ (rowC ck 36 ((ad 3) 1) V ++ (rowC ck 36 ((ad 3) 2) N ++ (inputC ck ka (ad 5) I ++ (sboC (ad 6) U ++ (sbvC ck ((ad 6) 1) Y ++ (histW ck (ad 4) ra X Q)))))))))))) sz)) (vx_X (fun _ : Unit => True) (fun E (_ : Unit) t9 => ((E = "java/lang/IndexOutOfBoundsException" ∧ ¬ (isBench S x)) ∨ (E = "java/util/NoSuchElementException" ∧ (isBench S x) ∧ (S 4 x = 0))) ∧ wrQ dg sz (brkC ad Z ++ (booksC ck (ad 0) S ++ (booksC ck (ad 1) T ++ (outC ((ad 7) 1) O ++ (booksC ck (ad 2) P ++ (nobjC (ad 3) ++ (rowC ck 36 ((ad 3) 1) V ++ (rowC ck 36 ((ad 3) 2) N ++ (inputC ck ka (ad 5) I ++ (sboC (ad 6) U ++ (sbvC ck ((ad 6) 1) Y ++ (histW ck (ad 4) ra X Q)))))))))))) (brkW ck ka ad ra Z O U X S T P I V N Y Q) t9) (va_A (brkC ad Z ++ (booksC ck (ad 0) S ++ (booksC ck (ad 1) T ++ (outC ((ad 7) 1) O ++ (booksC ck (ad 2) P ++ (nobjC (ad 3) ++ (rowC ck 36 ((ad 3) 1) V ++ (rowC ck 36 ((ad 3) 2) N ++ (inputC ck ka (ad 5) I ++ (sboC (ad 6) U ++ (sbvC ck ((ad 6) 1) Y ++ (histW ck (ad 4) ra X Q)))))))))))) sz)) 2 12 (va_A (brkC ad Z ++ (booksC ck (ad 0) S ++ (booksC ck (ad 1) T ++ (outC ((ad 7) 1) O ++ (booksC ck (ad 2) P ++ (nobjC (ad 3) ++ (rowC ck 36 ((ad 3) 1) V ++ (rowC ck 36 ((ad 3) 2) N ++ (inputC ck ka (ad 5) I ++ (sboC (ad 6) U ++ (sbvC ck ((ad 6) 1) Y ++ (histW ck (ad 4) ra X Q)))))))))))) sz) := by
  refine vx_ofW (cc := cX8_depositOf) (maxL := 2) (ret := (some .int)) (by decide) rfl ?_
  intro p e s m args below meth c s₁ B hml htab hv
  obtain ⟨rfl, ⟨hsz, hP, hK, hD0⟩, hC⟩ := hv
  have hx := B.exec
  have hb := B.bytes
  have hr := B.returns
  have hts := atoms_spec (ws := .code yX8_depositOf cX8_depositOf 2 (some .int) :: GW) B.pre
  have htg : ∀ w ∈ GW, w.before _ s = true := fun w h => hts w (List.mem_cons_of_mem _ h)
  have hown : s.vm.findClass RX8 = some m.cls := findClass_of_methodNamed B.named
  have hlocks := B.notSynchronized
  subst hsz
  have hD := hD0.self (sz := s.heap.size)
  generalize hAe : va_A (brkC ad Z ++ (booksC ck (ad 0) S ++ (booksC ck (ad 1) T ++ (outC ((ad 7) 1) O ++ (booksC ck (ad 2) P ++ (nobjC (ad 3) ++ (rowC ck 36 ((ad 3) 1) V ++ (rowC ck 36 ((ad 3) 2) N ++ (inputC ck ka (ad 5) I ++ (sboC (ad 6) U ++ (sbvC ck ((ad 6) 1) Y ++ (histW ck (ad 4) ra X Q)))))))))))) s.heap.size = A at hD hC ⊢
  have hA : ∀ q : Nat, s.heap.size ≤ q → A q := fun q h => by rw [← hAe]; exact Or.inr h
  have hS : va_S A s.heap s.heap [] := va_S.rf
  have hP : va_P dg vwCl (brkC ad Z ++ (booksC ck (ad 0) S ++ (booksC ck (ad 1) T ++ (outC ((ad 7) 1) O ++ (booksC ck (ad 2) P ++ (nobjC (ad 3) ++ (rowC ck 36 ((ad 3) 1) V ++ (rowC ck 36 ((ad 3) 2) N ++ (inputC ck ka (ad 5) I ++ (sboC (ad 6) U ++ (sbvC ck ((ad 6) 1) Y ++ (histW ck (ad 4) ra X Q)))))))))))) s.heap := hP
  have hl := lv_entry ([.ref ((ad 7) 0), .int (zI x)]) (n := 2) (Nat.le_of_ble_eq_true rfl)
  rw [lg_entry_eq]
  generalize (lg_sl ([.ref ((ad 7) 0), .int (zI x)]) ++ List.replicate (2 - (lg_sl ([.ref ((ad 7) 0), .int (zI x)])).length) Slot.unset).toArray = ls at hl ⊢
  have hl : lv_has ls 2 [(0, .ref ((ad 7) 0)), (1, .int (zI x))] := hl
  obtain ⟨b00, b01, b02, b03, b1, b2, b3, b4, b5, b6, b7, b8, b9, b10, b11, b12⟩ := id hI
  refine lv_aload_n hx hb dX8_depositOf_0 rfl (lv_at hl 0 rfl) ?_
  refine lv_iload_n hx hb dX8_depositOf_1 rfl (lv_at hl 1 rfl) ?_
  refine xx_callv hP hD hS hA (vx_runV (As := [.int (zI x)]) (rest := []) ⟨hx, hb, hml, hown, htg⟩ (x_needLease l dg ck ka ad ra Z O U X S T P I V N Y Q x _ hI (by omega) hst) (cwV 1 htg (gwV wq_540 wq_542 wp_3 wq_1 wq_543) rfl rfl rfl (by decide +kernel) ⟨Nat.le_of_ble_eq_true rfl, Nat.le_of_ble_eq_true rfl⟩) (wrK_preV hK hP hD hC hS hA 0 10 rfl rfl) rfl rfl hl.1 rfl (lv_room (Nat.le_of_ble_eq_true rfl)) dX8_depositOf_2 ⟨Nat.le_of_ble_eq_true rfl, Nat.le_of_ble_eq_true rfl⟩) (fun E9 ce9 q9 H locs hE9 hP hD hS g1 g2 g3 => ?_) (fun H locs hn2 hP hD hS => ?_)
  · have hEqX : brkW ck ka ad ra Z O U X S T P I V N Y Q = brkC ad Z ++ (booksC ck (ad 0) S ++ (booksC ck (ad 1) T ++ (outC ((ad 7) 1) O ++ (booksC ck (ad 2) P ++ (nobjC (ad 3) ++ (rowC ck 36 ((ad 3) 1) V ++ (rowC ck 36 ((ad 3) 2) N ++ (inputC ck ka (ad 5) I ++ (sboC (ad 6) U ++ (sbvC ck ((ad 6) 1) Y ++ (histW ck (ad 4) ra X Q))))))))))) := rfl
    exact x_outX (XP := fun E => (E = "java/lang/IndexOutOfBoundsException" ∧ ¬ (isBench S x)) ∨ (E = "java/util/NoSuchElementException" ∧ (isBench S x) ∧ (S 4 x = 0))) hAe htab hlocks (by rw [hEqX]; exact hP) (by rw [hEqX]; exact hD) hS hE9 g1 g2 g3 (Nat.le_of_ble_eq_true rfl) (Nat.le_of_ble_eq_true rfl)
  have hP : va_P dg vwCl (brkC ad Z ++ (booksC ck (ad 0) S ++ (booksC ck (ad 1) T ++ (outC ((ad 7) 1) O ++ (booksC ck (ad 2) P ++ (nobjC (ad 3) ++ (rowC ck 36 ((ad 3) 1) V ++ (rowC ck 36 ((ad 3) 2) N ++ (inputC ck ka (ad 5) I ++ (sboC (ad 6) U ++ (sbvC ck ((ad 6) 1) Y ++ (histW ck (ad 4) ra X Q)))))))))))) H := hP
  have hD : va_D A (brkC ad Z ++ (booksC ck (ad 0) S ++ (booksC ck (ad 1) T ++ (outC ((ad 7) 1) O ++ (booksC ck (ad 2) P ++ (nobjC (ad 3) ++ (rowC ck 36 ((ad 3) 1) V ++ (rowC ck 36 ((ad 3) 2) N ++ (inputC ck ka (ad 5) I ++ (sboC (ad 6) U ++ (sbvC ck ((ad 6) 1) Y ++ (histW ck (ad 4) ra X Q)))))))))))) := hD
  refine lv_aload_n hx hb dX8_depositOf_5 rfl (lv_at hl 0 rfl) ?_
  refine va_get (D := dg) (ci := 10) (v := .ref ((ad 0) 0)) (C := RX8) (T := TX8) (N := 13) hx hb htg inG_X8 hown hK hP 0 rfl rfl 0 (Nat.le_of_ble_eq_true rfl) (htg _ wq_279) (fun _ h9 => h9) rfl dX8_depositOf_6 ?_
  refine va_get (D := dg) (ci := 4) (v := .ref ((ad 0) 4)) (C := RX1) (T := TX1) (N := 13) hx hb htg inG_X1 hown hK hP 1 rfl rfl 5 (Nat.le_of_ble_eq_true rfl) (htg _ wq_117) (fun _ h9 => h9) rfl dX8_depositOf_9 ?_
  refine lv_iload_n hx hb dX8_depositOf_12 rfl (lv_at hl 1 rfl) ?_
  refine x_iald hx hb hK hP 5 0 (S 5) rfl rfl (fun _ => rfl) (P := fun y => 0 ≤ y ∧ y ≤ 20) b5 (by decide) (by omega) dX8_depositOf_13 (fun g13 => ?_)
  have hEq : brkW ck ka ad ra Z O U X S T P I V N Y Q = brkC ad Z ++ (booksC ck (ad 0) S ++ (booksC ck (ad 1) T ++ (outC ((ad 7) 1) O ++ (booksC ck (ad 2) P ++ (nobjC (ad 3) ++ (rowC ck 36 ((ad 3) 1) V ++ (rowC ck 36 ((ad 3) 2) N ++ (inputC ck ka (ad 5) I ++ (sboC (ad 6) U ++ (sbvC ck ((ad 6) 1) Y ++ (histW ck (ad 4) ra X Q))))))))))) := rfl
  exact W.widen (k := 2) (n := 12) (Nat.le_of_ble_eq_true rfl) (Nat.le_of_ble_eq_true rfl) (vx_ret (W.iret (v := _) hx hb hr (fun t9 ht9 hW9 => ⟨⟨_, (), rfl, ⟨rfl, hn2⟩, by rw [ht9, hEq]; exact hP, by rw [hEq, hAe]; exact hD⟩, hS.F ht9⟩) hS.2.2 dX8_depositOf_14))

set_option maxHeartbeats 4000000 in
set_option maxRecDepth 100000 in
/-- BenchBroker.monthsLeft -/
theorem x_monthsLeft (l : Launch) (dg : va_G) (ck : Nat → ClassId) (ka : Nat → Nat) (ad ra : Nat → Nat → Nat) (Z O U X : Nat → Int) (S T P I : St) (V N Y : Int → Int) (Q : Nat → St) (x : Int) (sz : Nat) (hI : Bd S) (rg_x : -2147483648 ≤ x ∧ x < 2147483648) (hst : l.stackTraces = false) : vx_Met l yX8_monthsLeft (.code yX8_monthsLeft cX8_monthsLeft 2 (some .int) :: GW) ({ frames := 8, cells := 2, slots := 12, locals := 137 }) (va_Pc [.ref ((ad 7) 0), .int (zI x)] (wrK dg ck ka sz (brkC ad Z ++ (booksC ck (ad 0) S ++ (booksC ck (ad 1) T ++ (outC ((ad 7) 1) O ++ (booksC ck (ad 2) P ++ (nobjC (ad 3) ++ (rowC ck 36 ((ad 3) 1) V ++ (rowC ck 36 ((ad 3) 2) N ++ (inputC ck ka (ad 5) I ++ (sboC (ad 6) U ++ (sbvC ck ((ad 6) 1) Y ++ (histW ck (ad 4) ra X Q)))))))))))))) (va_Qi (fun r (_ : Unit) => r = zI (S 6 x) ∧ isBench S x ∧ S 4 x ≠ 0) (fun _ t9 => wrQ dg sz (brkC ad Z ++ (booksC ck (ad 0) S ++ (booksC ck (ad 1) T ++ (outC ((ad 7) 1) O ++ (booksC ck (ad 2) P ++ (nobjC (ad 3) ++ (rowC ck 36 ((ad 3) 1) V ++ (rowC ck 36 ((ad 3) 2) N ++ (inputC ck ka (ad 5) I ++ (sboC (ad 6) U ++ (sbvC ck ((ad 6) 1) Y ++ (histW ck (ad 4) ra X Q)))))))))))) (brkW ck ka ad ra Z O U X S T P I V N Y Q) t9) (va_A (brkC ad Z ++ (booksC ck (ad 0) S ++ (booksC ck (ad 1) T ++ (outC ((ad 7) 1) O ++ (booksC ck (ad 2) P ++ (nobjC (ad 3) ++ (rowC ck 36 ((ad 3) 1) V ++ (rowC ck 36 ((ad 3) 2) N ++ (inputC ck ka (ad 5) I ++ (sboC (ad 6) U ++ (sbvC ck ((ad 6) 1) Y ++ (histW ck (ad 4) ra X Q)))))))))))) sz)) (vx_X (fun _ : Unit => True) (fun E (_ : Unit) t9 => ((E = "java/lang/IndexOutOfBoundsException" ∧ ¬ (isBench S x)) ∨ (E = "java/util/NoSuchElementException" ∧ (isBench S x) ∧ (S 4 x = 0))) ∧ wrQ dg sz (brkC ad Z ++ (booksC ck (ad 0) S ++ (booksC ck (ad 1) T ++ (outC ((ad 7) 1) O ++ (booksC ck (ad 2) P ++ (nobjC (ad 3) ++ (rowC ck 36 ((ad 3) 1) V ++ (rowC ck 36 ((ad 3) 2) N ++ (inputC ck ka (ad 5) I ++ (sboC (ad 6) U ++ (sbvC ck ((ad 6) 1) Y ++ (histW ck (ad 4) ra X Q)))))))))))) (brkW ck ka ad ra Z O U X S T P I V N Y Q) t9) (va_A (brkC ad Z ++ (booksC ck (ad 0) S ++ (booksC ck (ad 1) T ++ (outC ((ad 7) 1) O ++ (booksC ck (ad 2) P ++ (nobjC (ad 3) ++ (rowC ck 36 ((ad 3) 1) V ++ (rowC ck 36 ((ad 3) 2) N ++ (inputC ck ka (ad 5) I ++ (sboC (ad 6) U ++ (sbvC ck ((ad 6) 1) Y ++ (histW ck (ad 4) ra X Q)))))))))))) sz)) 2 12 (va_A (brkC ad Z ++ (booksC ck (ad 0) S ++ (booksC ck (ad 1) T ++ (outC ((ad 7) 1) O ++ (booksC ck (ad 2) P ++ (nobjC (ad 3) ++ (rowC ck 36 ((ad 3) 1) V ++ (rowC ck 36 ((ad 3) 2) N ++ (inputC ck ka (ad 5) I ++ (sboC (ad 6) U ++ (sbvC ck ((ad 6) 1) Y ++ (histW ck (ad 4) ra X Q)))))))))))) sz) := by
  refine vx_ofW (cc := cX8_monthsLeft) (maxL := 2) (ret := (some .int)) (by decide) rfl ?_
  intro p e s m args below meth c s₁ B hml htab hv
  obtain ⟨rfl, ⟨hsz, hP, hK, hD0⟩, hC⟩ := hv
  have hx := B.exec
  have hb := B.bytes
  have hr := B.returns
  have hts := atoms_spec (ws := .code yX8_monthsLeft cX8_monthsLeft 2 (some .int) :: GW) B.pre
  have htg : ∀ w ∈ GW, w.before _ s = true := fun w h => hts w (List.mem_cons_of_mem _ h)
  have hown : s.vm.findClass RX8 = some m.cls := findClass_of_methodNamed B.named
  have hlocks := B.notSynchronized
  subst hsz
  have hD := hD0.self (sz := s.heap.size)
  generalize hAe : va_A (brkC ad Z ++ (booksC ck (ad 0) S ++ (booksC ck (ad 1) T ++ (outC ((ad 7) 1) O ++ (booksC ck (ad 2) P ++ (nobjC (ad 3) ++ (rowC ck 36 ((ad 3) 1) V ++ (rowC ck 36 ((ad 3) 2) N ++ (inputC ck ka (ad 5) I ++ (sboC (ad 6) U ++ (sbvC ck ((ad 6) 1) Y ++ (histW ck (ad 4) ra X Q)))))))))))) s.heap.size = A at hD hC ⊢
  have hA : ∀ q : Nat, s.heap.size ≤ q → A q := fun q h => by rw [← hAe]; exact Or.inr h
  have hS : va_S A s.heap s.heap [] := va_S.rf
  have hP : va_P dg vwCl (brkC ad Z ++ (booksC ck (ad 0) S ++ (booksC ck (ad 1) T ++ (outC ((ad 7) 1) O ++ (booksC ck (ad 2) P ++ (nobjC (ad 3) ++ (rowC ck 36 ((ad 3) 1) V ++ (rowC ck 36 ((ad 3) 2) N ++ (inputC ck ka (ad 5) I ++ (sboC (ad 6) U ++ (sbvC ck ((ad 6) 1) Y ++ (histW ck (ad 4) ra X Q)))))))))))) s.heap := hP
  have hl := lv_entry ([.ref ((ad 7) 0), .int (zI x)]) (n := 2) (Nat.le_of_ble_eq_true rfl)
  rw [lg_entry_eq]
  generalize (lg_sl ([.ref ((ad 7) 0), .int (zI x)]) ++ List.replicate (2 - (lg_sl ([.ref ((ad 7) 0), .int (zI x)])).length) Slot.unset).toArray = ls at hl ⊢
  have hl : lv_has ls 2 [(0, .ref ((ad 7) 0)), (1, .int (zI x))] := hl
  obtain ⟨b00, b01, b02, b03, b1, b2, b3, b4, b5, b6, b7, b8, b9, b10, b11, b12⟩ := id hI
  refine lv_aload_n hx hb dX8_monthsLeft_0 rfl (lv_at hl 0 rfl) ?_
  refine lv_iload_n hx hb dX8_monthsLeft_1 rfl (lv_at hl 1 rfl) ?_
  refine xx_callv hP hD hS hA (vx_runV (As := [.int (zI x)]) (rest := []) ⟨hx, hb, hml, hown, htg⟩ (x_needLease l dg ck ka ad ra Z O U X S T P I V N Y Q x _ hI (by omega) hst) (cwV 1 htg (gwV wq_540 wq_542 wp_3 wq_1 wq_543) rfl rfl rfl (by decide +kernel) ⟨Nat.le_of_ble_eq_true rfl, Nat.le_of_ble_eq_true rfl⟩) (wrK_preV hK hP hD hC hS hA 0 10 rfl rfl) rfl rfl hl.1 rfl (lv_room (Nat.le_of_ble_eq_true rfl)) dX8_monthsLeft_2 ⟨Nat.le_of_ble_eq_true rfl, Nat.le_of_ble_eq_true rfl⟩) (fun E9 ce9 q9 H locs hE9 hP hD hS g1 g2 g3 => ?_) (fun H locs hn2 hP hD hS => ?_)
  · have hEqX : brkW ck ka ad ra Z O U X S T P I V N Y Q = brkC ad Z ++ (booksC ck (ad 0) S ++ (booksC ck (ad 1) T ++ (outC ((ad 7) 1) O ++ (booksC ck (ad 2) P ++ (nobjC (ad 3) ++ (rowC ck 36 ((ad 3) 1) V ++ (rowC ck 36 ((ad 3) 2) N ++ (inputC ck ka (ad 5) I ++ (sboC (ad 6) U ++ (sbvC ck ((ad 6) 1) Y ++ (histW ck (ad 4) ra X Q))))))))))) := rfl
    exact x_outX (XP := fun E => (E = "java/lang/IndexOutOfBoundsException" ∧ ¬ (isBench S x)) ∨ (E = "java/util/NoSuchElementException" ∧ (isBench S x) ∧ (S 4 x = 0))) hAe htab hlocks (by rw [hEqX]; exact hP) (by rw [hEqX]; exact hD) hS hE9 g1 g2 g3 (Nat.le_of_ble_eq_true rfl) (Nat.le_of_ble_eq_true rfl)
  have hP : va_P dg vwCl (brkC ad Z ++ (booksC ck (ad 0) S ++ (booksC ck (ad 1) T ++ (outC ((ad 7) 1) O ++ (booksC ck (ad 2) P ++ (nobjC (ad 3) ++ (rowC ck 36 ((ad 3) 1) V ++ (rowC ck 36 ((ad 3) 2) N ++ (inputC ck ka (ad 5) I ++ (sboC (ad 6) U ++ (sbvC ck ((ad 6) 1) Y ++ (histW ck (ad 4) ra X Q)))))))))))) H := hP
  have hD : va_D A (brkC ad Z ++ (booksC ck (ad 0) S ++ (booksC ck (ad 1) T ++ (outC ((ad 7) 1) O ++ (booksC ck (ad 2) P ++ (nobjC (ad 3) ++ (rowC ck 36 ((ad 3) 1) V ++ (rowC ck 36 ((ad 3) 2) N ++ (inputC ck ka (ad 5) I ++ (sboC (ad 6) U ++ (sbvC ck ((ad 6) 1) Y ++ (histW ck (ad 4) ra X Q)))))))))))) := hD
  refine lv_aload_n hx hb dX8_monthsLeft_5 rfl (lv_at hl 0 rfl) ?_
  refine va_get (D := dg) (ci := 10) (v := .ref ((ad 0) 0)) (C := RX8) (T := TX8) (N := 13) hx hb htg inG_X8 hown hK hP 0 rfl rfl 0 (Nat.le_of_ble_eq_true rfl) (htg _ wq_279) (fun _ h9 => h9) rfl dX8_monthsLeft_6 ?_
  refine va_get (D := dg) (ci := 4) (v := .ref ((ad 0) 5)) (C := RX1) (T := TX1) (N := 13) hx hb htg inG_X1 hown hK hP 1 rfl rfl 6 (Nat.le_of_ble_eq_true rfl) (htg _ wq_119) (fun _ h9 => h9) rfl dX8_monthsLeft_9 ?_
  refine lv_iload_n hx hb dX8_monthsLeft_12 rfl (lv_at hl 1 rfl) ?_
  refine x_iald hx hb hK hP 6 0 (S 6) rfl rfl (fun _ => rfl) (P := fun y => 0 ≤ y ∧ y ≤ 12) b6 (by decide) (by omega) dX8_monthsLeft_13 (fun g13 => ?_)
  have hEq : brkW ck ka ad ra Z O U X S T P I V N Y Q = brkC ad Z ++ (booksC ck (ad 0) S ++ (booksC ck (ad 1) T ++ (outC ((ad 7) 1) O ++ (booksC ck (ad 2) P ++ (nobjC (ad 3) ++ (rowC ck 36 ((ad 3) 1) V ++ (rowC ck 36 ((ad 3) 2) N ++ (inputC ck ka (ad 5) I ++ (sboC (ad 6) U ++ (sbvC ck ((ad 6) 1) Y ++ (histW ck (ad 4) ra X Q))))))))))) := rfl
  exact W.widen (k := 2) (n := 12) (Nat.le_of_ble_eq_true rfl) (Nat.le_of_ble_eq_true rfl) (vx_ret (W.iret (v := _) hx hb hr (fun t9 ht9 hW9 => ⟨⟨_, (), rfl, ⟨rfl, hn2⟩, by rw [ht9, hEq]; exact hP, by rw [hEq, hAe]; exact hD⟩, hS.F ht9⟩) hS.2.2 dX8_monthsLeft_14))

set_option maxHeartbeats 4000000 in
set_option maxRecDepth 100000 in
/-- BenchBroker.defaultMonth -/
theorem x_defaultMonth (l : Launch) (dg : va_G) (ck : Nat → ClassId) (ka : Nat → Nat) (ad ra : Nat → Nat → Nat) (Z O U X : Nat → Int) (S T P I : St) (V N Y : Int → Int) (Q : Nat → St) (x : Int) (sz : Nat) (hI : Bd S) (rg_x : -2147483648 ≤ x ∧ x < 2147483648) (hst : l.stackTraces = false) : vx_Met l yX8_defaultMonth (.code yX8_defaultMonth cX8_defaultMonth 3 (some .int) :: GW) ({ frames := 8, cells := 3, slots := 18, locals := 137 }) (va_Pc [.ref ((ad 7) 0), .int (zI x)] (wrK dg ck ka sz (brkC ad Z ++ (booksC ck (ad 0) S ++ (booksC ck (ad 1) T ++ (outC ((ad 7) 1) O ++ (booksC ck (ad 2) P ++ (nobjC (ad 3) ++ (rowC ck 36 ((ad 3) 1) V ++ (rowC ck 36 ((ad 3) 2) N ++ (inputC ck ka (ad 5) I ++ (sboC (ad 6) U ++ (sbvC ck ((ad 6) 1) Y ++ (histW ck (ad 4) ra X Q)))))))))))))) (va_Qi (fun r (_ : Unit) => r = zI (payable S x + 1) ∧ (isBench S x ∧ S 4 x ≠ 0 ∧ quietB S x ∧ payable S x < S 6 x)) (fun _ t9 => wrQ dg sz (brkC ad Z ++ (booksC ck (ad 0) S ++ (booksC ck (ad 1) T ++ (outC ((ad 7) 1) O ++ (booksC ck (ad 2) P ++ (nobjC (ad 3) ++ (rowC ck 36 ((ad 3) 1) V ++ (rowC ck 36 ((ad 3) 2) N ++ (inputC ck ka (ad 5) I ++ (sboC (ad 6) U ++ (sbvC ck ((ad 6) 1) Y ++ (histW ck (ad 4) ra X Q)))))))))))) (brkW ck ka ad ra Z O U X S T P I V N Y Q) t9) (va_A (brkC ad Z ++ (booksC ck (ad 0) S ++ (booksC ck (ad 1) T ++ (outC ((ad 7) 1) O ++ (booksC ck (ad 2) P ++ (nobjC (ad 3) ++ (rowC ck 36 ((ad 3) 1) V ++ (rowC ck 36 ((ad 3) 2) N ++ (inputC ck ka (ad 5) I ++ (sboC (ad 6) U ++ (sbvC ck ((ad 6) 1) Y ++ (histW ck (ad 4) ra X Q)))))))))))) sz)) (vx_X (fun _ : Unit => True) (fun E (_ : Unit) t9 => ((E = "java/lang/IndexOutOfBoundsException" ∧ ¬ isBench S x) ∨ (E = "java/util/NoSuchElementException" ∧ isBench S x ∧ ¬ (S 4 x ≠ 0 ∧ quietB S x ∧ payable S x < S 6 x))) ∧ wrQ dg sz (brkC ad Z ++ (booksC ck (ad 0) S ++ (booksC ck (ad 1) T ++ (outC ((ad 7) 1) O ++ (booksC ck (ad 2) P ++ (nobjC (ad 3) ++ (rowC ck 36 ((ad 3) 1) V ++ (rowC ck 36 ((ad 3) 2) N ++ (inputC ck ka (ad 5) I ++ (sboC (ad 6) U ++ (sbvC ck ((ad 6) 1) Y ++ (histW ck (ad 4) ra X Q)))))))))))) (brkW ck ka ad ra Z O U X S T P I V N Y Q) t9) (va_A (brkC ad Z ++ (booksC ck (ad 0) S ++ (booksC ck (ad 1) T ++ (outC ((ad 7) 1) O ++ (booksC ck (ad 2) P ++ (nobjC (ad 3) ++ (rowC ck 36 ((ad 3) 1) V ++ (rowC ck 36 ((ad 3) 2) N ++ (inputC ck ka (ad 5) I ++ (sboC (ad 6) U ++ (sbvC ck ((ad 6) 1) Y ++ (histW ck (ad 4) ra X Q)))))))))))) sz)) 3 18 (va_A (brkC ad Z ++ (booksC ck (ad 0) S ++ (booksC ck (ad 1) T ++ (outC ((ad 7) 1) O ++ (booksC ck (ad 2) P ++ (nobjC (ad 3) ++ (rowC ck 36 ((ad 3) 1) V ++ (rowC ck 36 ((ad 3) 2) N ++ (inputC ck ka (ad 5) I ++ (sboC (ad 6) U ++ (sbvC ck ((ad 6) 1) Y ++ (histW ck (ad 4) ra X Q)))))))))))) sz) := by
  refine vx_ofW (cc := cX8_defaultMonth) (maxL := 3) (ret := (some .int)) (by decide) rfl ?_
  intro p e s m args below meth c s₁ B hml htab hv
  obtain ⟨rfl, ⟨hsz, hP, hK, hD0⟩, hC⟩ := hv
  have hx := B.exec
  have hb := B.bytes
  have hr := B.returns
  have hts := atoms_spec (ws := .code yX8_defaultMonth cX8_defaultMonth 3 (some .int) :: GW) B.pre
  have htg : ∀ w ∈ GW, w.before _ s = true := fun w h => hts w (List.mem_cons_of_mem _ h)
  have hown : s.vm.findClass RX8 = some m.cls := findClass_of_methodNamed B.named
  have hlocks := B.notSynchronized
  subst hsz
  have hD := hD0.self (sz := s.heap.size)
  generalize hAe : va_A (brkC ad Z ++ (booksC ck (ad 0) S ++ (booksC ck (ad 1) T ++ (outC ((ad 7) 1) O ++ (booksC ck (ad 2) P ++ (nobjC (ad 3) ++ (rowC ck 36 ((ad 3) 1) V ++ (rowC ck 36 ((ad 3) 2) N ++ (inputC ck ka (ad 5) I ++ (sboC (ad 6) U ++ (sbvC ck ((ad 6) 1) Y ++ (histW ck (ad 4) ra X Q)))))))))))) s.heap.size = A at hD hC ⊢
  have hA : ∀ q : Nat, s.heap.size ≤ q → A q := fun q h => by rw [← hAe]; exact Or.inr h
  have hS : va_S A s.heap s.heap [] := va_S.rf
  have hP : va_P dg vwCl (brkC ad Z ++ (booksC ck (ad 0) S ++ (booksC ck (ad 1) T ++ (outC ((ad 7) 1) O ++ (booksC ck (ad 2) P ++ (nobjC (ad 3) ++ (rowC ck 36 ((ad 3) 1) V ++ (rowC ck 36 ((ad 3) 2) N ++ (inputC ck ka (ad 5) I ++ (sboC (ad 6) U ++ (sbvC ck ((ad 6) 1) Y ++ (histW ck (ad 4) ra X Q)))))))))))) s.heap := hP
  have hl := lv_entry ([.ref ((ad 7) 0), .int (zI x)]) (n := 3) (Nat.le_of_ble_eq_true rfl)
  rw [lg_entry_eq]
  generalize (lg_sl ([.ref ((ad 7) 0), .int (zI x)]) ++ List.replicate (3 - (lg_sl ([.ref ((ad 7) 0), .int (zI x)])).length) Slot.unset).toArray = ls at hl ⊢
  have hl : lv_has ls 3 [(0, .ref ((ad 7) 0)), (1, .int (zI x))] := hl
  obtain ⟨b00, b01, b02, b03, b1, b2, b3, b4, b5, b6, b7, b8, b9, b10, b11, b12⟩ := id hI
  have hcn := b11 (S 4 x - 1)
  have hre := rent_r hI x
  have hpy : 0 ≤ payable S x := Int.ediv_nonneg hcn.1 (by omega)
  have hpy2 : payable S x ≤ S 11 (S 4 x - 1) := Int.ediv_le_self _ hcn.1
  refine lv_aload_n hx hb dX8_defaultMonth_0 rfl (lv_at hl 0 rfl) ?_
  refine lv_iload_n hx hb dX8_defaultMonth_1 rfl (lv_at hl 1 rfl) ?_
  refine xx_callv hP hD hS hA (vx_runV (As := [.int (zI x)]) (rest := []) ⟨hx, hb, hml, hown, htg⟩ (x_needLease l dg ck ka ad ra Z O U X S T P I V N Y Q x _ hI (by omega) hst) (cwV 1 htg (gwV wq_540 wq_542 wp_3 wq_1 wq_543) rfl rfl rfl (by decide +kernel) ⟨Nat.le_of_ble_eq_true rfl, Nat.le_of_ble_eq_true rfl⟩) (wrK_preV hK hP hD hC hS hA 0 10 rfl rfl) rfl rfl hl.1 rfl (lv_room (Nat.le_of_ble_eq_true rfl)) dX8_defaultMonth_2 ⟨Nat.le_of_ble_eq_true rfl, Nat.le_of_ble_eq_true rfl⟩) (fun E9 ce9 q9 H locs hE9 hP hD hS g1 g2 g3 => ?_) (fun H locs hn2 hP hD hS => ?_)
  · have hEqX : brkW ck ka ad ra Z O U X S T P I V N Y Q = brkC ad Z ++ (booksC ck (ad 0) S ++ (booksC ck (ad 1) T ++ (outC ((ad 7) 1) O ++ (booksC ck (ad 2) P ++ (nobjC (ad 3) ++ (rowC ck 36 ((ad 3) 1) V ++ (rowC ck 36 ((ad 3) 2) N ++ (inputC ck ka (ad 5) I ++ (sboC (ad 6) U ++ (sbvC ck ((ad 6) 1) Y ++ (histW ck (ad 4) ra X Q))))))))))) := rfl
    exact x_outX (XP := fun E => (E = "java/lang/IndexOutOfBoundsException" ∧ ¬ isBench S x) ∨ (E = "java/util/NoSuchElementException" ∧ isBench S x ∧ ¬ (S 4 x ≠ 0 ∧ quietB S x ∧ payable S x < S 6 x))) hAe htab hlocks (by rw [hEqX]; exact hP) (by rw [hEqX]; exact hD) hS (hE9.elim Or.inl (fun q => Or.inr ⟨q.1, q.2.1, fun z => z.1 q.2.2⟩)) g1 g2 g3 (Nat.le_of_ble_eq_true rfl) (Nat.le_of_ble_eq_true rfl)
  have hP : va_P dg vwCl (brkC ad Z ++ (booksC ck (ad 0) S ++ (booksC ck (ad 1) T ++ (outC ((ad 7) 1) O ++ (booksC ck (ad 2) P ++ (nobjC (ad 3) ++ (rowC ck 36 ((ad 3) 1) V ++ (rowC ck 36 ((ad 3) 2) N ++ (inputC ck ka (ad 5) I ++ (sboC (ad 6) U ++ (sbvC ck ((ad 6) 1) Y ++ (histW ck (ad 4) ra X Q)))))))))))) H := hP
  have hD : va_D A (brkC ad Z ++ (booksC ck (ad 0) S ++ (booksC ck (ad 1) T ++ (outC ((ad 7) 1) O ++ (booksC ck (ad 2) P ++ (nobjC (ad 3) ++ (rowC ck 36 ((ad 3) 1) V ++ (rowC ck 36 ((ad 3) 2) N ++ (inputC ck ka (ad 5) I ++ (sboC (ad 6) U ++ (sbvC ck ((ad 6) 1) Y ++ (histW ck (ad 4) ra X Q)))))))))))) := hD
  refine lv_aload_n hx hb dX8_defaultMonth_5 rfl (lv_at hl 0 rfl) ?_
  refine va_get (D := dg) (ci := 10) (v := .ref ((ad 0) 0)) (C := RX8) (T := TX8) (N := 13) hx hb htg inG_X8 hown hK hP 0 rfl rfl 0 (Nat.le_of_ble_eq_true rfl) (htg _ wq_279) (fun _ h9 => h9) rfl dX8_defaultMonth_6 ?_
  refine lv_iload_n hx hb dX8_defaultMonth_9 rfl (lv_at hl 1 rfl) ?_
  refine vp_callSi (W.runV (As := [.int (zI x)]) (rest := []) ⟨hx, hb, hml, hown, htg⟩ (c_payableMonths l dg ck (ad 0) S x hI (by omega) (by omega)) (cwV 1 htg (gwV wq_558 wq_559 wq_560 wq_2 wq_561) rfl rfl rfl (by decide +kernel) ⟨Nat.le_of_ble_eq_true rfl, Nat.le_of_ble_eq_true rfl⟩) (rd_preV hK (va_P_l (va_P_r hP)) 0 4 rfl rfl) rfl rfl hl.1 rfl (lv_room (Nat.le_of_ble_eq_true rfl)) dX8_defaultMonth_10 ⟨Nat.le_of_ble_eq_true rfl, Nat.le_of_ble_eq_true rfl⟩) (fun r10 hr10 => ?_)
  subst hr10
  refine lv_istore_n (lv' := [(2, .int (zI (payable S x))), (0, .ref ((ad 7) 0)), (1, .int (zI x))]) hx hb dX8_defaultMonth_13 rfl hl (by decide) rfl (fun ls hl => ?_)
  refine lv_aload_n hx hb dX8_defaultMonth_14 rfl (lv_at hl 1 rfl) ?_
  refine va_get (D := dg) (ci := 10) (v := .ref ((ad 0) 0)) (C := RX8) (T := TX8) (N := 13) hx hb htg inG_X8 hown hK hP 0 rfl rfl 0 (Nat.le_of_ble_eq_true rfl) (htg _ wq_279) (fun _ h9 => h9) rfl dX8_defaultMonth_15 ?_
  refine va_get (D := dg) (ci := 4) (v := .ref ((ad 0) 6)) (C := RX1) (T := TX1) (N := 13) hx hb htg inG_X1 hown hK hP 1 rfl rfl 0 (Nat.le_of_ble_eq_true rfl) (htg _ wq_107) (fun _ h9 => h9) rfl dX8_defaultMonth_18 ?_
  refine lv_iload_n hx hb dX8_defaultMonth_21 rfl (lv_at hl 2 rfl) ?_
  refine vp_callSi (W.runV (As := [.int (zI x)]) (rest := []) ⟨hx, hb, hml, hown, htg⟩ (c_quiet l dg ck (pa (ad 0)) S x hI (by omega)) (cwV 1 htg (gwV wq_562 wq_521 wq_522 wq_3 wq_523) rfl rfl rfl (by decide +kernel) ⟨Nat.le_of_ble_eq_true rfl, Nat.le_of_ble_eq_true rfl⟩) (rd_preV hK (va_P_r (w1 := bookC ck (ad 0) S) (w2 := parkC ck (pa (ad 0)) S) (va_P_l (va_P_r hP))) 0 9 rfl rfl) rfl rfl hl.1 rfl (lv_room (Nat.le_of_ble_eq_true rfl)) dX8_defaultMonth_22 ⟨Nat.le_of_ble_eq_true rfl, Nat.le_of_ble_eq_true rfl⟩) (fun r22 hr22 => ?_)
  subst hr22
  refine x_bz_eq (tgt := 41) hx hb dX8_defaultMonth_25 (by decide) (fun c25 => ?_) (fun c25 => ?_)
  · have hEqX : brkW ck ka ad ra Z O U X S T P I V N Y Q = brkC ad Z ++ (booksC ck (ad 0) S ++ (booksC ck (ad 1) T ++ (outC ((ad 7) 1) O ++ (booksC ck (ad 2) P ++ (nobjC (ad 3) ++ (rowC ck 36 ((ad 3) 1) V ++ (rowC ck 36 ((ad 3) 2) N ++ (inputC ck ka (ad 5) I ++ (sboC (ad 6) U ++ (sbvC ck ((ad 6) 1) Y ++ (histW ck (ad 4) ra X Q))))))))))) := rfl
    exact vx_throw0 (names := ["java/lang/RuntimeException", "java/lang/Exception"]) hx hb hst hown (by decide +kernel) (by decide +kernel) (htg _ wq_488) (htg _ wq_20) (vx_hat (fun w hw => htg w (ax_NS w hw)) an_NS (nw_all hC)) ao_NS hC.2.2.2.1 hC.2.2.2.2.1 hS (hl.1.trans hml.symm) dX8_defaultMonth_41 dX8_defaultMonth_44 dX8_defaultMonth_45 dX8_defaultMonth_48 (fun x hx9 => (htab x hx9).elim) (Nat.le_of_ble_eq_true rfl) (Nat.le_of_ble_eq_true rfl) (Nat.le_of_ble_eq_true rfl) (Nat.le_of_ble_eq_true rfl) hlocks (fun t9 _ h1 h2 => x_thrX (XP := fun E => (E = "java/lang/IndexOutOfBoundsException" ∧ ¬ isBench S x) ∨ (E = "java/util/NoSuchElementException" ∧ isBench S x ∧ ¬ (S 4 x ≠ 0 ∧ quietB S x ∧ payable S x < S 6 x))) hAe (by rw [hEqX]; exact hP) (by rw [hEqX]; exact hD) hS (Or.inr ⟨rfl, hn2.1, fun z => by omega⟩) h1 h2) hS.2.2 (Nat.le_of_ble_eq_true rfl) (Nat.le_of_ble_eq_true rfl)
  · refine lv_iload_n hx hb dX8_defaultMonth_28 rfl (lv_at hl 0 rfl) ?_
    refine lv_aload_n hx hb dX8_defaultMonth_29 rfl (lv_at hl 1 rfl) ?_
    refine va_get (D := dg) (ci := 10) (v := .ref ((ad 0) 0)) (C := RX8) (T := TX8) (N := 13) hx hb htg inG_X8 hown hK hP 0 rfl rfl 0 (Nat.le_of_ble_eq_true rfl) (htg _ wq_279) (fun _ h9 => h9) rfl dX8_defaultMonth_30 ?_
    refine va_get (D := dg) (ci := 4) (v := .ref ((ad 0) 5)) (C := RX1) (T := TX1) (N := 13) hx hb htg inG_X1 hown hK hP 1 rfl rfl 6 (Nat.le_of_ble_eq_true rfl) (htg _ wq_119) (fun _ h9 => h9) rfl dX8_defaultMonth_33 ?_
    refine lv_iload_n hx hb dX8_defaultMonth_36 rfl (lv_at hl 2 rfl) ?_
    refine x_iald hx hb hK hP 6 0 (S 6) rfl rfl (fun _ => rfl) (P := fun y => 0 ≤ y ∧ y ≤ 12) b6 (by decide) (by omega) dX8_defaultMonth_37 (fun g37 => ?_)
    refine x_icmp_lt (tgt := 49) hx hb dX8_defaultMonth_38 (by decide) (by omega) (by omega) (fun c38 => ?_) (fun c38 => ?_)
    · refine lv_iload_n hx hb dX8_defaultMonth_49 rfl (lv_at hl 0 rfl) ?_
      refine x_iconst hx hb dX8_defaultMonth_50 ?_
      refine x_iadd hx hb dX8_defaultMonth_51 ?_
      have hEq : brkW ck ka ad ra Z O U X S T P I V N Y Q = brkC ad Z ++ (booksC ck (ad 0) S ++ (booksC ck (ad 1) T ++ (outC ((ad 7) 1) O ++ (booksC ck (ad 2) P ++ (nobjC (ad 3) ++ (rowC ck 36 ((ad 3) 1) V ++ (rowC ck 36 ((ad 3) 2) N ++ (inputC ck ka (ad 5) I ++ (sboC (ad 6) U ++ (sbvC ck ((ad 6) 1) Y ++ (histW ck (ad 4) ra X Q))))))))))) := rfl
      exact W.widen (k := 3) (n := 18) (Nat.le_of_ble_eq_true rfl) (Nat.le_of_ble_eq_true rfl) (vx_ret (W.iret (v := _) hx hb hr (fun t9 ht9 hW9 => ⟨⟨_, (), rfl, ⟨rfl, hn2.1, hn2.2, by omega, by omega⟩, by rw [ht9, hEq]; exact hP, by rw [hEq, hAe]; exact hD⟩, hS.F ht9⟩) hS.2.2 dX8_defaultMonth_52))
    · have hEqX : brkW ck ka ad ra Z O U X S T P I V N Y Q = brkC ad Z ++ (booksC ck (ad 0) S ++ (booksC ck (ad 1) T ++ (outC ((ad 7) 1) O ++ (booksC ck (ad 2) P ++ (nobjC (ad 3) ++ (rowC ck 36 ((ad 3) 1) V ++ (rowC ck 36 ((ad 3) 2) N ++ (inputC ck ka (ad 5) I ++ (sboC (ad 6) U ++ (sbvC ck ((ad 6) 1) Y ++ (histW ck (ad 4) ra X Q))))))))))) := rfl
      exact vx_throw0 (names := ["java/lang/RuntimeException", "java/lang/Exception"]) hx hb hst hown (by decide +kernel) (by decide +kernel) (htg _ wq_488) (htg _ wq_20) (vx_hat (fun w hw => htg w (ax_NS w hw)) an_NS (nw_all hC)) ao_NS hC.2.2.2.1 hC.2.2.2.2.1 hS (hl.1.trans hml.symm) dX8_defaultMonth_41 dX8_defaultMonth_44 dX8_defaultMonth_45 dX8_defaultMonth_48 (fun x hx9 => (htab x hx9).elim) (Nat.le_of_ble_eq_true rfl) (Nat.le_of_ble_eq_true rfl) (Nat.le_of_ble_eq_true rfl) (Nat.le_of_ble_eq_true rfl) hlocks (fun t9 _ h1 h2 => x_thrX (XP := fun E => (E = "java/lang/IndexOutOfBoundsException" ∧ ¬ isBench S x) ∨ (E = "java/util/NoSuchElementException" ∧ isBench S x ∧ ¬ (S 4 x ≠ 0 ∧ quietB S x ∧ payable S x < S 6 x))) hAe (by rw [hEqX]; exact hP) (by rw [hEqX]; exact hD) hS (Or.inr ⟨rfl, hn2.1, fun z => by omega⟩) h1 h2) hS.2.2 (Nat.le_of_ble_eq_true rfl) (Nat.le_of_ble_eq_true rfl)

set_option maxHeartbeats 4000000 in
set_option maxRecDepth 100000 in
/-- BenchBroker.incomeWithin -/
theorem x_incomeWithin (l : Launch) (dg : va_G) (ck : Nat → ClassId) (ka : Nat → Nat) (ad ra : Nat → Nat → Nat) (Z O U X : Nat → Int) (S T P I : St) (V N Y : Int → Int) (Q : Nat → St) (x : Int) (sz : Nat) {Mx : Int} (hV : Inv Mx S) (rg_x : -2147483648 ≤ x ∧ x < 2147483648) (hst : l.stackTraces = false) : vx_Met l yX8_incomeWithin (.code yX8_incomeWithin cX8_incomeWithin 2 (some .int) :: GW) ({ frames := 7, cells := 1, slots := 6, locals := 137 }) (va_Pc [.ref ((ad 7) 0), .int (zI x)] (wrK dg ck ka sz (brkC ad Z ++ (booksC ck (ad 0) S ++ (booksC ck (ad 1) T ++ (outC ((ad 7) 1) O ++ (booksC ck (ad 2) P ++ (nobjC (ad 3) ++ (rowC ck 36 ((ad 3) 1) V ++ (rowC ck 36 ((ad 3) 2) N ++ (inputC ck ka (ad 5) I ++ (sboC (ad 6) U ++ (sbvC ck ((ad 6) 1) Y ++ (histW ck (ad 4) ra X Q)))))))))))))) (va_Qi (fun r (_ : Unit) => r = zI ((elZ S x).2.2 0 5 - S 0 5) ∧ isTerm x) (fun _ t9 => wrQ dg sz (brkC ad Z ++ (booksC ck (ad 0) S ++ (booksC ck (ad 1) T ++ (outC ((ad 7) 1) O ++ (booksC ck (ad 2) P ++ (nobjC (ad 3) ++ (rowC ck 36 ((ad 3) 1) V ++ (rowC ck 36 ((ad 3) 2) N ++ (inputC ck ka (ad 5) I ++ (sboC (ad 6) U ++ (sbvC ck ((ad 6) 1) Y ++ (histW ck (ad 4) ra X Q)))))))))))) (brkW ck ka ad ra Z (outc O (elZ S x).1 (elZ S x).2.1) U X S (elZ S x).2.2 P I V N Y Q) t9) (va_A (brkC ad Z ++ (booksC ck (ad 0) S ++ (booksC ck (ad 1) T ++ (outC ((ad 7) 1) O ++ (booksC ck (ad 2) P ++ (nobjC (ad 3) ++ (rowC ck 36 ((ad 3) 1) V ++ (rowC ck 36 ((ad 3) 2) N ++ (inputC ck ka (ad 5) I ++ (sboC (ad 6) U ++ (sbvC ck ((ad 6) 1) Y ++ (histW ck (ad 4) ra X Q)))))))))))) sz)) (vx_X (fun _ : Unit => True) (fun E (_ : Unit) t9 => (E = "java/lang/IllegalArgumentException" ∧ ¬ isTerm x) ∧ wrQ dg sz (brkC ad Z ++ (booksC ck (ad 0) S ++ (booksC ck (ad 1) T ++ (outC ((ad 7) 1) O ++ (booksC ck (ad 2) P ++ (nobjC (ad 3) ++ (rowC ck 36 ((ad 3) 1) V ++ (rowC ck 36 ((ad 3) 2) N ++ (inputC ck ka (ad 5) I ++ (sboC (ad 6) U ++ (sbvC ck ((ad 6) 1) Y ++ (histW ck (ad 4) ra X Q)))))))))))) (brkW ck ka ad ra Z O U X S T P I V N Y Q) t9) (va_A (brkC ad Z ++ (booksC ck (ad 0) S ++ (booksC ck (ad 1) T ++ (outC ((ad 7) 1) O ++ (booksC ck (ad 2) P ++ (nobjC (ad 3) ++ (rowC ck 36 ((ad 3) 1) V ++ (rowC ck 36 ((ad 3) 2) N ++ (inputC ck ka (ad 5) I ++ (sboC (ad 6) U ++ (sbvC ck ((ad 6) 1) Y ++ (histW ck (ad 4) ra X Q)))))))))))) sz)) 1 6 (va_A (brkC ad Z ++ (booksC ck (ad 0) S ++ (booksC ck (ad 1) T ++ (outC ((ad 7) 1) O ++ (booksC ck (ad 2) P ++ (nobjC (ad 3) ++ (rowC ck 36 ((ad 3) 1) V ++ (rowC ck 36 ((ad 3) 2) N ++ (inputC ck ka (ad 5) I ++ (sboC (ad 6) U ++ (sbvC ck ((ad 6) 1) Y ++ (histW ck (ad 4) ra X Q)))))))))))) sz) := by
  refine vx_ofW (cc := cX8_incomeWithin) (maxL := 2) (ret := (some .int)) (by decide) rfl ?_
  intro p e s m args below meth c s₁ B hml htab hv
  obtain ⟨rfl, ⟨hsz, hP, hK, hD0⟩, hC⟩ := hv
  have hx := B.exec
  have hb := B.bytes
  have hr := B.returns
  have hts := atoms_spec (ws := .code yX8_incomeWithin cX8_incomeWithin 2 (some .int) :: GW) B.pre
  have htg : ∀ w ∈ GW, w.before _ s = true := fun w h => hts w (List.mem_cons_of_mem _ h)
  have hown : s.vm.findClass RX8 = some m.cls := findClass_of_methodNamed B.named
  have hlocks := B.notSynchronized
  subst hsz
  have hD := hD0.self (sz := s.heap.size)
  generalize hAe : va_A (brkC ad Z ++ (booksC ck (ad 0) S ++ (booksC ck (ad 1) T ++ (outC ((ad 7) 1) O ++ (booksC ck (ad 2) P ++ (nobjC (ad 3) ++ (rowC ck 36 ((ad 3) 1) V ++ (rowC ck 36 ((ad 3) 2) N ++ (inputC ck ka (ad 5) I ++ (sboC (ad 6) U ++ (sbvC ck ((ad 6) 1) Y ++ (histW ck (ad 4) ra X Q)))))))))))) s.heap.size = A at hD hC ⊢
  have hA : ∀ q : Nat, s.heap.size ≤ q → A q := fun q h => by rw [← hAe]; exact Or.inr h
  have hS : va_S A s.heap s.heap [] := va_S.rf
  have hP : va_P dg vwCl (brkC ad Z ++ (booksC ck (ad 0) S ++ (booksC ck (ad 1) T ++ (outC ((ad 7) 1) O ++ (booksC ck (ad 2) P ++ (nobjC (ad 3) ++ (rowC ck 36 ((ad 3) 1) V ++ (rowC ck 36 ((ad 3) 2) N ++ (inputC ck ka (ad 5) I ++ (sboC (ad 6) U ++ (sbvC ck ((ad 6) 1) Y ++ (histW ck (ad 4) ra X Q)))))))))))) s.heap := hP
  have hl := lv_entry ([.ref ((ad 7) 0), .int (zI x)]) (n := 2) (Nat.le_of_ble_eq_true rfl)
  rw [lg_entry_eq]
  generalize (lg_sl ([.ref ((ad 7) 0), .int (zI x)]) ++ List.replicate (2 - (lg_sl ([.ref ((ad 7) 0), .int (zI x)])).length) Slot.unset).toArray = ls at hl ⊢
  have hl : lv_has ls 2 [(0, .ref ((ad 7) 0)), (1, .int (zI x))] := hl
  refine lv_aload_n hx hb dX8_incomeWithin_0 rfl (lv_at hl 0 rfl) ?_
  refine lv_iload_n hx hb dX8_incomeWithin_1 rfl (lv_at hl 1 rfl) ?_
  refine xx_callv hP hD hS hA (vx_runV (As := [.int (zI x)]) (rest := []) ⟨hx, hb, hml, hown, htg⟩ (x_needTerm l dg ck ka ad ra Z O U X S T P I V N Y Q x _ (by omega) hst) (cwV 1 htg (gwV wq_571 wq_573 wp_4 wq_1 wq_574) rfl rfl rfl (by decide +kernel) ⟨Nat.le_of_ble_eq_true rfl, Nat.le_of_ble_eq_true rfl⟩) (wrK_preV hK hP hD hC hS hA 0 10 rfl rfl) rfl rfl hl.1 rfl (lv_room (Nat.le_of_ble_eq_true rfl)) dX8_incomeWithin_2 ⟨Nat.le_of_ble_eq_true rfl, Nat.le_of_ble_eq_true rfl⟩) (fun E9 ce9 q9 H locs hE9 hP hD hS g1 g2 g3 => ?_) (fun H locs hn2 hP hD hS => ?_)
  · have hEqX : brkW ck ka ad ra Z O U X S T P I V N Y Q = brkC ad Z ++ (booksC ck (ad 0) S ++ (booksC ck (ad 1) T ++ (outC ((ad 7) 1) O ++ (booksC ck (ad 2) P ++ (nobjC (ad 3) ++ (rowC ck 36 ((ad 3) 1) V ++ (rowC ck 36 ((ad 3) 2) N ++ (inputC ck ka (ad 5) I ++ (sboC (ad 6) U ++ (sbvC ck ((ad 6) 1) Y ++ (histW ck (ad 4) ra X Q))))))))))) := rfl
    exact x_outX (XP := fun E => E = "java/lang/IllegalArgumentException" ∧ ¬ isTerm x) hAe htab hlocks (by rw [hEqX]; exact hP) (by rw [hEqX]; exact hD) hS hE9 g1 g2 g3 (Nat.le_of_ble_eq_true rfl) (Nat.le_of_ble_eq_true rfl)
  have hP : va_P dg vwCl (brkC ad Z ++ (booksC ck (ad 0) S ++ (booksC ck (ad 1) T ++ (outC ((ad 7) 1) O ++ (booksC ck (ad 2) P ++ (nobjC (ad 3) ++ (rowC ck 36 ((ad 3) 1) V ++ (rowC ck 36 ((ad 3) 2) N ++ (inputC ck ka (ad 5) I ++ (sboC (ad 6) U ++ (sbvC ck ((ad 6) 1) Y ++ (histW ck (ad 4) ra X Q)))))))))))) H := hP
  have hD : va_D A (brkC ad Z ++ (booksC ck (ad 0) S ++ (booksC ck (ad 1) T ++ (outC ((ad 7) 1) O ++ (booksC ck (ad 2) P ++ (nobjC (ad 3) ++ (rowC ck 36 ((ad 3) 1) V ++ (rowC ck 36 ((ad 3) 2) N ++ (inputC ck ka (ad 5) I ++ (sboC (ad 6) U ++ (sbvC ck ((ad 6) 1) Y ++ (histW ck (ad 4) ra X Q)))))))))))) := hD
  refine lv_aload_n hx hb dX8_incomeWithin_5 rfl (lv_at hl 0 rfl) ?_
  refine lv_iload_n hx hb dX8_incomeWithin_6 rfl (lv_at hl 1 rfl) ?_
  refine x_calli (ws' := brkC ad Z ++ (booksC ck (ad 0) S ++ (booksC ck (ad 1) (elZ S x).2.2 ++ (outC ((ad 7) 1) (outc O (elZ S x).1 (elZ S x).2.1) ++ (booksC ck (ad 2) P ++ (nobjC (ad 3) ++ (rowC ck 36 ((ad 3) 1) V ++ (rowC ck 36 ((ad 3) 2) N ++ (inputC ck ka (ad 5) I ++ (sboC (ad 6) U ++ (sbvC ck ((ad 6) 1) Y ++ (histW ck (ad 4) ra X Q)))))))))))) [] (M := brkC ad Z ++ (booksC ck (ad 0) S ++ (booksC ck (ad 1) T ++ (outC ((ad 7) 1) O ++ (booksC ck (ad 2) P ++ (nobjC (ad 3) ++ (rowC ck 36 ((ad 3) 1) V ++ (rowC ck 36 ((ad 3) 2) N ++ (inputC ck ka (ad 5) I ++ (sboC (ad 6) U ++ (sbvC ck ((ad 6) 1) Y ++ (histW ck (ad 4) ra X Q)))))))))))) (M' := brkC ad Z ++ (booksC ck (ad 0) S ++ (booksC ck (ad 1) (elZ S x).2.2 ++ (outC ((ad 7) 1) (outc O (elZ S x).1 (elZ S x).2.1) ++ (booksC ck (ad 2) P ++ (nobjC (ad 3) ++ (rowC ck 36 ((ad 3) 1) V ++ (rowC ck 36 ((ad 3) 2) N ++ (inputC ck ka (ad 5) I ++ (sboC (ad 6) U ++ (sbvC ck ((ad 6) 1) Y ++ (histW ck (ad 4) ra X Q)))))))))))) ([]) (List.append_nil _).symm (List.append_nil _).symm hP hD hS hA (fun hPm hDm => va_runV (As := [.int (zI x)]) (rest := []) ⟨hx, hb, hml, hown, htg⟩ (x_incomeOnCopy l dg ck ka ad ra Z O U X S T P I V N Y Q x _ hV (by omega)) (cwV 1 htg (gwV wq_593 wq_595 wp_5 wq_1 wq_596) rfl rfl rfl (by decide +kernel) ⟨Nat.le_of_ble_eq_true rfl, Nat.le_of_ble_eq_true rfl⟩) (wrK_preV hK hPm hDm hC hS hA 0 10 rfl rfl) rfl rfl hl.1 rfl (lv_room (Nat.le_of_ble_eq_true rfl)) dX8_incomeWithin_7 ⟨Nat.le_of_ble_eq_true rfl, Nat.le_of_ble_eq_true rfl⟩) (fun r7 H locs hr7 hP hD hS => ?_)
  subst hr7
  have hEq : brkW ck ka ad ra Z (outc O (elZ S x).1 (elZ S x).2.1) U X S (elZ S x).2.2 P I V N Y Q = brkC ad Z ++ (booksC ck (ad 0) S ++ (booksC ck (ad 1) (elZ S x).2.2 ++ (outC ((ad 7) 1) (outc O (elZ S x).1 (elZ S x).2.1) ++ (booksC ck (ad 2) P ++ (nobjC (ad 3) ++ (rowC ck 36 ((ad 3) 1) V ++ (rowC ck 36 ((ad 3) 2) N ++ (inputC ck ka (ad 5) I ++ (sboC (ad 6) U ++ (sbvC ck ((ad 6) 1) Y ++ (histW ck (ad 4) ra X Q))))))))))) := rfl
  exact W.widen (k := 1) (n := 6) (Nat.le_of_ble_eq_true rfl) (Nat.le_of_ble_eq_true rfl) (vx_ret (W.iret (v := _) hx hb hr (fun t9 ht9 hW9 => ⟨⟨_, (), rfl, ⟨rfl, hn2⟩, by rw [ht9, hEq]; exact hP, by rw [hEq, hAe]; exact hD⟩, hS.F ht9⟩) hS.2.2 dX8_incomeWithin_10))

set_option maxHeartbeats 4000000 in
set_option maxRecDepth 100000 in
/-- BenchBroker.incomeByLeases -/
theorem x_incomeByLeases (l : Launch) (dg : va_G) (ck : Nat → ClassId) (ka : Nat → Nat) (ad ra : Nat → Nat → Nat) (Z O U X : Nat → Int) (S T P I : St) (V N Y : Int → Int) (Q : Nat → St) (x : Int) (sz : Nat) (hI : Bd S) (rg_x : -2147483648 ≤ x ∧ x < 2147483648) (hst : l.stackTraces = false) : vx_Met l yX8_incomeByLeases (.code yX8_incomeByLeases cX8_incomeByLeases 2 (some .int) :: GW) ({ frames := 7, cells := 1, slots := 6, locals := 137 }) (va_Pc [.ref ((ad 7) 0), .int (zI x)] (wrK dg ck ka sz (brkC ad Z ++ (booksC ck (ad 0) S ++ (booksC ck (ad 1) T ++ (outC ((ad 7) 1) O ++ (booksC ck (ad 2) P ++ (nobjC (ad 3) ++ (rowC ck 36 ((ad 3) 1) V ++ (rowC ck 36 ((ad 3) 2) N ++ (inputC ck ka (ad 5) I ++ (sboC (ad 6) U ++ (sbvC ck ((ad 6) 1) Y ++ (histW ck (ad 4) ra X Q)))))))))))))) (va_Qi (fun r (_ : Unit) => r = zI (leaseInc S x) ∧ isTerm x) (fun _ t9 => wrQ dg sz (brkC ad Z ++ (booksC ck (ad 0) S ++ (booksC ck (ad 1) T ++ (outC ((ad 7) 1) O ++ (booksC ck (ad 2) P ++ (nobjC (ad 3) ++ (rowC ck 36 ((ad 3) 1) V ++ (rowC ck 36 ((ad 3) 2) N ++ (inputC ck ka (ad 5) I ++ (sboC (ad 6) U ++ (sbvC ck ((ad 6) 1) Y ++ (histW ck (ad 4) ra X Q)))))))))))) (brkW ck ka ad ra Z O U X S T P I V N Y Q) t9) (va_A (brkC ad Z ++ (booksC ck (ad 0) S ++ (booksC ck (ad 1) T ++ (outC ((ad 7) 1) O ++ (booksC ck (ad 2) P ++ (nobjC (ad 3) ++ (rowC ck 36 ((ad 3) 1) V ++ (rowC ck 36 ((ad 3) 2) N ++ (inputC ck ka (ad 5) I ++ (sboC (ad 6) U ++ (sbvC ck ((ad 6) 1) Y ++ (histW ck (ad 4) ra X Q)))))))))))) sz)) (vx_X (fun _ : Unit => True) (fun E (_ : Unit) t9 => (E = "java/lang/IllegalArgumentException" ∧ ¬ isTerm x) ∧ wrQ dg sz (brkC ad Z ++ (booksC ck (ad 0) S ++ (booksC ck (ad 1) T ++ (outC ((ad 7) 1) O ++ (booksC ck (ad 2) P ++ (nobjC (ad 3) ++ (rowC ck 36 ((ad 3) 1) V ++ (rowC ck 36 ((ad 3) 2) N ++ (inputC ck ka (ad 5) I ++ (sboC (ad 6) U ++ (sbvC ck ((ad 6) 1) Y ++ (histW ck (ad 4) ra X Q)))))))))))) (brkW ck ka ad ra Z O U X S T P I V N Y Q) t9) (va_A (brkC ad Z ++ (booksC ck (ad 0) S ++ (booksC ck (ad 1) T ++ (outC ((ad 7) 1) O ++ (booksC ck (ad 2) P ++ (nobjC (ad 3) ++ (rowC ck 36 ((ad 3) 1) V ++ (rowC ck 36 ((ad 3) 2) N ++ (inputC ck ka (ad 5) I ++ (sboC (ad 6) U ++ (sbvC ck ((ad 6) 1) Y ++ (histW ck (ad 4) ra X Q)))))))))))) sz)) 1 6 (va_A (brkC ad Z ++ (booksC ck (ad 0) S ++ (booksC ck (ad 1) T ++ (outC ((ad 7) 1) O ++ (booksC ck (ad 2) P ++ (nobjC (ad 3) ++ (rowC ck 36 ((ad 3) 1) V ++ (rowC ck 36 ((ad 3) 2) N ++ (inputC ck ka (ad 5) I ++ (sboC (ad 6) U ++ (sbvC ck ((ad 6) 1) Y ++ (histW ck (ad 4) ra X Q)))))))))))) sz) := by
  refine vx_ofW (cc := cX8_incomeByLeases) (maxL := 2) (ret := (some .int)) (by decide) rfl ?_
  intro p e s m args below meth c s₁ B hml htab hv
  obtain ⟨rfl, ⟨hsz, hP, hK, hD0⟩, hC⟩ := hv
  have hx := B.exec
  have hb := B.bytes
  have hr := B.returns
  have hts := atoms_spec (ws := .code yX8_incomeByLeases cX8_incomeByLeases 2 (some .int) :: GW) B.pre
  have htg : ∀ w ∈ GW, w.before _ s = true := fun w h => hts w (List.mem_cons_of_mem _ h)
  have hown : s.vm.findClass RX8 = some m.cls := findClass_of_methodNamed B.named
  have hlocks := B.notSynchronized
  subst hsz
  have hD := hD0.self (sz := s.heap.size)
  generalize hAe : va_A (brkC ad Z ++ (booksC ck (ad 0) S ++ (booksC ck (ad 1) T ++ (outC ((ad 7) 1) O ++ (booksC ck (ad 2) P ++ (nobjC (ad 3) ++ (rowC ck 36 ((ad 3) 1) V ++ (rowC ck 36 ((ad 3) 2) N ++ (inputC ck ka (ad 5) I ++ (sboC (ad 6) U ++ (sbvC ck ((ad 6) 1) Y ++ (histW ck (ad 4) ra X Q)))))))))))) s.heap.size = A at hD hC ⊢
  have hA : ∀ q : Nat, s.heap.size ≤ q → A q := fun q h => by rw [← hAe]; exact Or.inr h
  have hS : va_S A s.heap s.heap [] := va_S.rf
  have hP : va_P dg vwCl (brkC ad Z ++ (booksC ck (ad 0) S ++ (booksC ck (ad 1) T ++ (outC ((ad 7) 1) O ++ (booksC ck (ad 2) P ++ (nobjC (ad 3) ++ (rowC ck 36 ((ad 3) 1) V ++ (rowC ck 36 ((ad 3) 2) N ++ (inputC ck ka (ad 5) I ++ (sboC (ad 6) U ++ (sbvC ck ((ad 6) 1) Y ++ (histW ck (ad 4) ra X Q)))))))))))) s.heap := hP
  have hl := lv_entry ([.ref ((ad 7) 0), .int (zI x)]) (n := 2) (Nat.le_of_ble_eq_true rfl)
  rw [lg_entry_eq]
  generalize (lg_sl ([.ref ((ad 7) 0), .int (zI x)]) ++ List.replicate (2 - (lg_sl ([.ref ((ad 7) 0), .int (zI x)])).length) Slot.unset).toArray = ls at hl ⊢
  have hl : lv_has ls 2 [(0, .ref ((ad 7) 0)), (1, .int (zI x))] := hl
  refine lv_aload_n hx hb dX8_incomeByLeases_0 rfl (lv_at hl 0 rfl) ?_
  refine lv_iload_n hx hb dX8_incomeByLeases_1 rfl (lv_at hl 1 rfl) ?_
  refine xx_callv hP hD hS hA (vx_runV (As := [.int (zI x)]) (rest := []) ⟨hx, hb, hml, hown, htg⟩ (x_needTerm l dg ck ka ad ra Z O U X S T P I V N Y Q x _ (by omega) hst) (cwV 1 htg (gwV wq_571 wq_573 wp_4 wq_1 wq_574) rfl rfl rfl (by decide +kernel) ⟨Nat.le_of_ble_eq_true rfl, Nat.le_of_ble_eq_true rfl⟩) (wrK_preV hK hP hD hC hS hA 0 10 rfl rfl) rfl rfl hl.1 rfl (lv_room (Nat.le_of_ble_eq_true rfl)) dX8_incomeByLeases_2 ⟨Nat.le_of_ble_eq_true rfl, Nat.le_of_ble_eq_true rfl⟩) (fun E9 ce9 q9 H locs hE9 hP hD hS g1 g2 g3 => ?_) (fun H locs hn2 hP hD hS => ?_)
  · have hEqX : brkW ck ka ad ra Z O U X S T P I V N Y Q = brkC ad Z ++ (booksC ck (ad 0) S ++ (booksC ck (ad 1) T ++ (outC ((ad 7) 1) O ++ (booksC ck (ad 2) P ++ (nobjC (ad 3) ++ (rowC ck 36 ((ad 3) 1) V ++ (rowC ck 36 ((ad 3) 2) N ++ (inputC ck ka (ad 5) I ++ (sboC (ad 6) U ++ (sbvC ck ((ad 6) 1) Y ++ (histW ck (ad 4) ra X Q))))))))))) := rfl
    exact x_outX (XP := fun E => E = "java/lang/IllegalArgumentException" ∧ ¬ isTerm x) hAe htab hlocks (by rw [hEqX]; exact hP) (by rw [hEqX]; exact hD) hS hE9 g1 g2 g3 (Nat.le_of_ble_eq_true rfl) (Nat.le_of_ble_eq_true rfl)
  have hP : va_P dg vwCl (brkC ad Z ++ (booksC ck (ad 0) S ++ (booksC ck (ad 1) T ++ (outC ((ad 7) 1) O ++ (booksC ck (ad 2) P ++ (nobjC (ad 3) ++ (rowC ck 36 ((ad 3) 1) V ++ (rowC ck 36 ((ad 3) 2) N ++ (inputC ck ka (ad 5) I ++ (sboC (ad 6) U ++ (sbvC ck ((ad 6) 1) Y ++ (histW ck (ad 4) ra X Q)))))))))))) H := hP
  have hD : va_D A (brkC ad Z ++ (booksC ck (ad 0) S ++ (booksC ck (ad 1) T ++ (outC ((ad 7) 1) O ++ (booksC ck (ad 2) P ++ (nobjC (ad 3) ++ (rowC ck 36 ((ad 3) 1) V ++ (rowC ck 36 ((ad 3) 2) N ++ (inputC ck ka (ad 5) I ++ (sboC (ad 6) U ++ (sbvC ck ((ad 6) 1) Y ++ (histW ck (ad 4) ra X Q)))))))))))) := hD
  refine lv_aload_n hx hb dX8_incomeByLeases_5 rfl (lv_at hl 0 rfl) ?_
  refine va_get (D := dg) (ci := 10) (v := .ref ((ad 0) 0)) (C := RX8) (T := TX8) (N := 13) hx hb htg inG_X8 hown hK hP 0 rfl rfl 0 (Nat.le_of_ble_eq_true rfl) (htg _ wq_279) (fun _ h9 => h9) rfl dX8_incomeByLeases_6 ?_
  refine lv_iload_n hx hb dX8_incomeByLeases_9 rfl (lv_at hl 1 rfl) ?_
  refine vp_callSi (W.runV (As := [.int (zI x)]) (rest := []) ⟨hx, hb, hml, hown, htg⟩ (c_leaseIncome l dg ck (ad 0) S x hI (by omega)) (cwV 1 htg (gwV wq_1459 wq_1460 wq_1461 wq_2 wq_1462) rfl rfl rfl (by decide +kernel) ⟨Nat.le_of_ble_eq_true rfl, Nat.le_of_ble_eq_true rfl⟩) (rd_preV hK (va_P_l (va_P_r hP)) 0 4 rfl rfl) rfl rfl hl.1 rfl (lv_room (Nat.le_of_ble_eq_true rfl)) dX8_incomeByLeases_10 ⟨Nat.le_of_ble_eq_true rfl, Nat.le_of_ble_eq_true rfl⟩) (fun r10 hr10 => ?_)
  subst hr10
  have hEq : brkW ck ka ad ra Z O U X S T P I V N Y Q = brkC ad Z ++ (booksC ck (ad 0) S ++ (booksC ck (ad 1) T ++ (outC ((ad 7) 1) O ++ (booksC ck (ad 2) P ++ (nobjC (ad 3) ++ (rowC ck 36 ((ad 3) 1) V ++ (rowC ck 36 ((ad 3) 2) N ++ (inputC ck ka (ad 5) I ++ (sboC (ad 6) U ++ (sbvC ck ((ad 6) 1) Y ++ (histW ck (ad 4) ra X Q))))))))))) := rfl
  exact W.widen (k := 1) (n := 6) (Nat.le_of_ble_eq_true rfl) (Nat.le_of_ble_eq_true rfl) (vx_ret (W.iret (v := _) hx hb hr (fun t9 ht9 hW9 => ⟨⟨_, (), rfl, ⟨rfl, hn2⟩, by rw [ht9, hEq]; exact hP, by rw [hEq, hAe]; exact hD⟩, hS.F ht9⟩) hS.2.2 dX8_incomeByLeases_13))
