/-! the class: its questions that never throw -/

set_option maxHeartbeats 4000000 in
set_option maxRecDepth 100000 in
/-- BenchBroker.incomeOnCopy -/
theorem x_incomeOnCopy (l : Launch) (dg : va_G) (ck : Nat → ClassId) (ka : Nat → Nat) (ad ra : Nat → Nat → Nat) (Z O U X : Nat → Int) (S T P I : St) (V N Y : Int → Int) (Q : Nat → St) (x : Int) (sz : Nat) {Mx : Int} (hV : Inv Mx S) (rg_x : -2147483648 ≤ x ∧ x < 2147483648) : Met l yX8_incomeOnCopy (.code yX8_incomeOnCopy cX8_incomeOnCopy 2 (some .int) :: GW) ({ frames := 5, cells := 0, slots := 0, locals := 116 }) (va_Pc [.ref ((ad 7) 0), .int (zI x)] (wrK dg ck ka sz (brkC ad Z ++ (booksC ck (ad 0) S ++ (booksC ck (ad 1) T ++ (outC ((ad 7) 1) O ++ (booksC ck (ad 2) P ++ (nobjC (ad 3) ++ (rowC ck 36 ((ad 3) 1) V ++ (rowC ck 36 ((ad 3) 2) N ++ (inputC ck ka (ad 5) I ++ (sboC (ad 6) U ++ (sbvC ck ((ad 6) 1) Y ++ (histW ck (ad 4) ra X Q)))))))))))))) (va_Qi (fun r (_ : Unit) => r = zI ((elZ S x).2.2 0 5 - S 0 5)) (fun _ t9 => wrQ dg sz (brkC ad Z ++ (booksC ck (ad 0) S ++ (booksC ck (ad 1) T ++ (outC ((ad 7) 1) O ++ (booksC ck (ad 2) P ++ (nobjC (ad 3) ++ (rowC ck 36 ((ad 3) 1) V ++ (rowC ck 36 ((ad 3) 2) N ++ (inputC ck ka (ad 5) I ++ (sboC (ad 6) U ++ (sbvC ck ((ad 6) 1) Y ++ (histW ck (ad 4) ra X Q)))))))))))) (brkW ck ka ad ra Z (outc O (elZ S x).1 (elZ S x).2.1) U X S (elZ S x).2.2 P I V N Y Q) t9) (va_A (brkC ad Z ++ (booksC ck (ad 0) S ++ (booksC ck (ad 1) T ++ (outC ((ad 7) 1) O ++ (booksC ck (ad 2) P ++ (nobjC (ad 3) ++ (rowC ck 36 ((ad 3) 1) V ++ (rowC ck 36 ((ad 3) 2) N ++ (inputC ck ka (ad 5) I ++ (sboC (ad 6) U ++ (sbvC ck ((ad 6) 1) Y ++ (histW ck (ad 4) ra X Q)))))))))))) sz)) 0 0 (va_A (brkC ad Z ++ (booksC ck (ad 0) S ++ (booksC ck (ad 1) T ++ (outC ((ad 7) 1) O ++ (booksC ck (ad 2) P ++ (nobjC (ad 3) ++ (rowC ck 36 ((ad 3) 1) V ++ (rowC ck 36 ((ad 3) 2) N ++ (inputC ck ka (ad 5) I ++ (sboC (ad 6) U ++ (sbvC ck ((ad 6) 1) Y ++ (histW ck (ad 4) ra X Q)))))))))))) sz) := by
  refine Met.ofW (cc := cX8_incomeOnCopy) (maxL := 2) (ret := (some .int)) (by decide) rfl ?_
  intro p e s m args below meth c s₁ B hml hv
  obtain ⟨rfl, ⟨hsz, hP, hK, hD0⟩, hC⟩ := hv
  have hx := B.exec
  have hb := B.bytes
  have hr := B.returns
  have hts := atoms_spec (ws := .code yX8_incomeOnCopy cX8_incomeOnCopy 2 (some .int) :: GW) B.pre
  have htg : ∀ w ∈ GW, w.before _ s = true := fun w h => hts w (List.mem_cons_of_mem _ h)
  have hown : s.vm.findClass RX8 = some m.cls := findClass_of_methodNamed B.named
  have hlocks := B.notSynchronized
  subst hsz
  have hD := hD0.self (sz := s.heap.size)
  generalize hAe : va_A (brkC ad Z ++ (booksC ck (ad 0) S ++ (booksC ck (ad 1) T ++ (outC ((ad 7) 1) O ++ (booksC ck (ad 2) P ++ (nobjC (ad 3) ++ (rowC ck 36 ((ad 3) 1) V ++ (rowC ck 36 ((ad 3) 2) N ++ (inputC ck ka (ad 5) I ++ (sboC (ad 6) U ++ (sbvC ck ((ad 6) 1) Y ++ (histW ck (ad 4) ra X Q)))))))))))) s.heap.size = A at hD hC ⊢
  have hA : ∀ q : Nat, s.heap.size ≤ q → A q := fun q h => by rw [← hAe]; exact Or.inr h
  have hS : va_S A s.heap s.heap [] := va_S.rf
  have hP : va_P dg vwCl (brkC ad Z ++ (booksC ck (ad 0) S ++ (booksC ck (ad 1) T ++ (outC ((ad 7) 1) O ++ (booksC ck (ad 2) P ++ (nobjC (ad 3) ++ (rowC ck 36 ((ad 3) 1) V ++ (rowC ck 36 ((ad 3) 2) N ++ (inputC ck ka (ad 5) I ++ (sboC (ad 6) U ++ (sbvC ck ((ad 6) 1) Y ++ (histW ck (ad 4) ra X Q)))))))))))) s.heap := hP
  have hl := lv_entry ([.ref ((ad 7) 0), .int (zI x)]) (n := 2) (Nat.le_of_ble_eq_true rfl)
  rw [lg_entry_eq]
  generalize (lg_sl ([.ref ((ad 7) 0), .int (zI x)]) ++ List.replicate (2 - (lg_sl ([.ref ((ad 7) 0), .int (zI x)])).length) Slot.unset).toArray = ls at hl ⊢
  have hl : lv_has ls 2 [(0, .ref ((ad 7) 0)), (1, .int (zI x))] := hl
  refine lv_aload_n hx hb dX8_incomeOnCopy_0 rfl (lv_at hl 0 rfl) ?_
  refine va_get (D := dg) (ci := 10) (v := .ref ((ad 1) 0)) (C := RX8) (T := TX8) (N := 13) hx hb htg inG_X8 hown hK hP 0 rfl rfl 1 (Nat.le_of_ble_eq_true rfl) (htg _ wq_280) (fun _ h9 => h9) rfl dX8_incomeOnCopy_1 ?_
  refine lv_aload_n hx hb dX8_incomeOnCopy_4 rfl (lv_at hl 0 rfl) ?_
  refine va_get (D := dg) (ci := 10) (v := .ref ((ad 0) 0)) (C := RX8) (T := TX8) (N := 13) hx hb htg inG_X8 hown hK hP 0 rfl rfl 0 (Nat.le_of_ble_eq_true rfl) (htg _ wq_279) (fun _ h9 => h9) rfl dX8_incomeOnCopy_5 ?_
  refine x_callvB (ws' := brkC ad Z ++ (booksC ck (ad 0) S ++ (booksC ck (ad 1) S ++ (outC ((ad 7) 1) O ++ (booksC ck (ad 2) P ++ (nobjC (ad 3) ++ (rowC ck 36 ((ad 3) 1) V ++ (rowC ck 36 ((ad 3) 2) N ++ (inputC ck ka (ad 5) I ++ (sboC (ad 6) U ++ (sbvC ck ((ad 6) 1) Y ++ (histW ck (ad 4) ra X Q)))))))))))) (M := booksC ck (ad 1) T ++ (booksC ck (ad 0) S)) (M' := booksC ck (ad 1) S ++ (booksC ck (ad 0) S)) (N := brkC ad Z ++ (outC ((ad 7) 1) O ++ (booksC ck (ad 2) P ++ (nobjC (ad 3) ++ (rowC ck 36 ((ad 3) 1) V ++ (rowC ck 36 ((ad 3) 2) N ++ (inputC ck ka (ad 5) I ++ (sboC (ad 6) U ++ (sbvC ck ((ad 6) 1) Y ++ (histW ck (ad 4) ra X Q)))))))))) (cat_perm [brkC ad Z, booksC ck (ad 0) S, booksC ck (ad 1) T, outC ((ad 7) 1) O, booksC ck (ad 2) P, nobjC (ad 3), rowC ck 36 ((ad 3) 1) V, rowC ck 36 ((ad 3) 2) N, inputC ck ka (ad 5) I, sboC (ad 6) U, sbvC ck ((ad 6) 1) Y, histW ck (ad 4) ra X Q] [2, 1] [0, 3, 4, 5, 6, 7, 8, 9, 10, 11] 12 rfl (by decide)) (cat_perm [brkC ad Z, booksC ck (ad 0) S, booksC ck (ad 1) S, outC ((ad 7) 1) O, booksC ck (ad 2) P, nobjC (ad 3), rowC ck 36 ((ad 3) 1) V, rowC ck 36 ((ad 3) 2) N, inputC ck ka (ad 5) I, sboC (ad 6) U, sbvC ck ((ad 6) 1) Y, histW ck (ad 4) ra X Q] [2, 1] [0, 3, 4, 5, 6, 7, 8, 9, 10, 11] 12 rfl (by decide)) hP hD hS hA (fun hPm hDm => va_runV (As := [.ref ((ad 0) 0)]) (rest := []) ⟨hx, hb, hml, hown, htg⟩ (c_booksCopy l dg ck (ad 1) T (ad 0) S _ hV.bd.2.2.2.2.2.2.2.2.2.2.2.2.2.1) (cwV 1 htg (gwV wq_597 wq_598 wq_599 wq_2 wq_600) rfl rfl rfl (by decide +kernel) ⟨Nat.le_of_ble_eq_true rfl, Nat.le_of_ble_eq_true rfl⟩) (wr_preV hK hPm hDm 0 4 rfl rfl) rfl rfl hl.1 rfl (lv_room (Nat.le_of_ble_eq_true rfl)) dX8_incomeOnCopy_8 ⟨Nat.zero_le _, Nat.zero_le _⟩) (fun H locs hP hD hS => ?_)
  refine lv_aload_n hx hb dX8_incomeOnCopy_11 rfl (lv_at hl 0 rfl) ?_
  refine va_get (D := dg) (ci := 10) (v := .ref ((ad 1) 0)) (C := RX8) (T := TX8) (N := 13) hx hb htg inG_X8 hown hK hP 0 rfl rfl 1 (Nat.le_of_ble_eq_true rfl) (htg _ wq_280) (fun _ h9 => h9) rfl dX8_incomeOnCopy_12 ?_
  refine lv_iload_n hx hb dX8_incomeOnCopy_15 rfl (lv_at hl 1 rfl) ?_
  refine lv_aload_n hx hb dX8_incomeOnCopy_16 rfl (lv_at hl 0 rfl) ?_
  refine va_get (D := dg) (ci := 10) (v := .ref ((ad 7) 1)) (C := RX8) (T := TX8) (N := 13) hx hb htg inG_X8 hown hK hP 0 rfl rfl 5 (Nat.le_of_ble_eq_true rfl) (htg _ wq_284) (fun _ h9 => h9) rfl dX8_incomeOnCopy_17 ?_
  refine x_callvB (ws' := brkC ad Z ++ (booksC ck (ad 0) S ++ (booksC ck (ad 1) (elZ S x).2.2 ++ (outC ((ad 7) 1) (outc O (elZ S x).1 (elZ S x).2.1) ++ (booksC ck (ad 2) P ++ (nobjC (ad 3) ++ (rowC ck 36 ((ad 3) 1) V ++ (rowC ck 36 ((ad 3) 2) N ++ (inputC ck ka (ad 5) I ++ (sboC (ad 6) U ++ (sbvC ck ((ad 6) 1) Y ++ (histW ck (ad 4) ra X Q)))))))))))) (M := booksC ck (ad 1) S ++ (outC ((ad 7) 1) O)) (M' := booksC ck (ad 1) (elZ S x).2.2 ++ (outC ((ad 7) 1) (outc O (elZ S x).1 (elZ S x).2.1))) (N := brkC ad Z ++ (booksC ck (ad 0) S ++ (booksC ck (ad 2) P ++ (nobjC (ad 3) ++ (rowC ck 36 ((ad 3) 1) V ++ (rowC ck 36 ((ad 3) 2) N ++ (inputC ck ka (ad 5) I ++ (sboC (ad 6) U ++ (sbvC ck ((ad 6) 1) Y ++ (histW ck (ad 4) ra X Q)))))))))) (cat_perm [brkC ad Z, booksC ck (ad 0) S, booksC ck (ad 1) S, outC ((ad 7) 1) O, booksC ck (ad 2) P, nobjC (ad 3), rowC ck 36 ((ad 3) 1) V, rowC ck 36 ((ad 3) 2) N, inputC ck ka (ad 5) I, sboC (ad 6) U, sbvC ck ((ad 6) 1) Y, histW ck (ad 4) ra X Q] [2, 3] [0, 1, 4, 5, 6, 7, 8, 9, 10, 11] 12 rfl (by decide)) (cat_perm [brkC ad Z, booksC ck (ad 0) S, booksC ck (ad 1) (elZ S x).2.2, outC ((ad 7) 1) (outc O (elZ S x).1 (elZ S x).2.1), booksC ck (ad 2) P, nobjC (ad 3), rowC ck 36 ((ad 3) 1) V, rowC ck 36 ((ad 3) 2) N, inputC ck ka (ad 5) I, sboC (ad 6) U, sbvC ck ((ad 6) 1) Y, histW ck (ad 4) ra X Q] [2, 3] [0, 1, 4, 5, 6, 7, 8, 9, 10, 11] 12 rfl (by decide)) hP hD hS hA (fun hPm hDm => va_runV (As := [.int (zI x), .ref ((ad 7) 1)]) (rest := []) ⟨hx, hb, hml, hown, htg⟩ (c_elapse l dg ck (ad 1) S ((ad 7) 1) O x _ hV (by omega)) (cwV 2 htg (gwV wq_609 wq_610 wq_611 wq_2 wq_612) rfl rfl rfl (by decide +kernel) ⟨Nat.le_of_ble_eq_true rfl, Nat.le_of_ble_eq_true rfl⟩) (wr_preV hK hPm hDm 0 4 rfl rfl) rfl rfl hl.1 rfl (lv_room (Nat.le_of_ble_eq_true rfl)) dX8_incomeOnCopy_20 ⟨Nat.zero_le _, Nat.zero_le _⟩) (fun H locs hP hD hS => ?_)
  refine lv_aload_n hx hb dX8_incomeOnCopy_23 rfl (lv_at hl 0 rfl) ?_
  refine va_get (D := dg) (ci := 10) (v := .ref ((ad 1) 0)) (C := RX8) (T := TX8) (N := 13) hx hb htg inG_X8 hown hK hP 0 rfl rfl 1 (Nat.le_of_ble_eq_true rfl) (htg _ wq_280) (fun _ h9 => h9) rfl dX8_incomeOnCopy_24 ?_
  refine va_get (D := dg) (ci := 4) (v := .int (zI ((elZ S x).2.2 0 5))) (C := RX1) (T := TX1) (N := 13) hx hb htg inG_X1 hown hK hP 15 rfl rfl 8 (Nat.le_of_ble_eq_true rfl) (htg _ wq_123) (fun _ h9 => h9) rfl dX8_incomeOnCopy_27 ?_
  refine lv_aload_n hx hb dX8_incomeOnCopy_30 rfl (lv_at hl 0 rfl) ?_
  refine va_get (D := dg) (ci := 10) (v := .ref ((ad 0) 0)) (C := RX8) (T := TX8) (N := 13) hx hb htg inG_X8 hown hK hP 0 rfl rfl 0 (Nat.le_of_ble_eq_true rfl) (htg _ wq_279) (fun _ h9 => h9) rfl dX8_incomeOnCopy_31 ?_
  refine va_get (D := dg) (ci := 4) (v := .int (zI (S 0 5))) (C := RX1) (T := TX1) (N := 13) hx hb htg inG_X1 hown hK hP 1 rfl rfl 8 (Nat.le_of_ble_eq_true rfl) (htg _ wq_123) (fun _ h9 => h9) rfl dX8_incomeOnCopy_34 ?_
  refine x_isub hx hb dX8_incomeOnCopy_37 ?_
  have hEq : brkW ck ka ad ra Z (outc O (elZ S x).1 (elZ S x).2.1) U X S (elZ S x).2.2 P I V N Y Q = brkC ad Z ++ (booksC ck (ad 0) S ++ (booksC ck (ad 1) (elZ S x).2.2 ++ (outC ((ad 7) 1) (outc O (elZ S x).1 (elZ S x).2.1) ++ (booksC ck (ad 2) P ++ (nobjC (ad 3) ++ (rowC ck 36 ((ad 3) 1) V ++ (rowC ck 36 ((ad 3) 2) N ++ (inputC ck ka (ad 5) I ++ (sboC (ad 6) U ++ (sbvC ck ((ad 6) 1) Y ++ (histW ck (ad 4) ra X Q))))))))))) := rfl
  exact W.iret (v := _) hx hb hr (fun t9 ht9 hW9 => ⟨⟨_, (), rfl, rfl, by rw [ht9, hEq]; exact hP, by rw [hEq, hAe]; exact hD⟩, hS.F ht9⟩) hS.2.2 dX8_incomeOnCopy_38

set_option maxHeartbeats 4000000 in
set_option maxRecDepth 100000 in
/-- BenchBroker.noisesAgree -/
theorem x_noisesAgree (l : Launch) (dg : va_G) (ck : Nat → ClassId) (ka : Nat → Nat) (ad ra : Nat → Nat → Nat) (Z O U X : Nat → Int) (S T P I : St) (V N Y : Int → Int) (Q : Nat → St) (sz : Nat) (hI : Bd S) : Met l yX8_noisesAgree (.code yX8_noisesAgree cX8_noisesAgree 3 (some .boolean) :: GW) ({ frames := 5, cells := 0, slots := 0, locals := 114 }) (va_Pc [.ref ((ad 7) 0)] (wrK dg ck ka sz (brkC ad Z ++ (booksC ck (ad 0) S ++ (booksC ck (ad 1) T ++ (outC ((ad 7) 1) O ++ (booksC ck (ad 2) P ++ (nobjC (ad 3) ++ (rowC ck 36 ((ad 3) 1) V ++ (rowC ck 36 ((ad 3) 2) N ++ (inputC ck ka (ad 5) I ++ (sboC (ad 6) U ++ (sbvC ck ((ad 6) 1) Y ++ (histW ck (ad 4) ra X Q)))))))))))))) (va_Qi (fun r (_ : Unit) => r = zI (bI True)) (fun _ t9 => wrQ dg sz (brkC ad Z ++ (booksC ck (ad 0) S ++ (booksC ck (ad 1) T ++ (outC ((ad 7) 1) O ++ (booksC ck (ad 2) P ++ (nobjC (ad 3) ++ (rowC ck 36 ((ad 3) 1) V ++ (rowC ck 36 ((ad 3) 2) N ++ (inputC ck ka (ad 5) I ++ (sboC (ad 6) U ++ (sbvC ck ((ad 6) 1) Y ++ (histW ck (ad 4) ra X Q)))))))))))) (brkW ck ka ad ra Z O U X S T P I (nsF S) (slZ S N (S 0 1).toNat) Y Q) t9) (va_A (brkC ad Z ++ (booksC ck (ad 0) S ++ (booksC ck (ad 1) T ++ (outC ((ad 7) 1) O ++ (booksC ck (ad 2) P ++ (nobjC (ad 3) ++ (rowC ck 36 ((ad 3) 1) V ++ (rowC ck 36 ((ad 3) 2) N ++ (inputC ck ka (ad 5) I ++ (sboC (ad 6) U ++ (sbvC ck ((ad 6) 1) Y ++ (histW ck (ad 4) ra X Q)))))))))))) sz)) 0 0 (va_A (brkC ad Z ++ (booksC ck (ad 0) S ++ (booksC ck (ad 1) T ++ (outC ((ad 7) 1) O ++ (booksC ck (ad 2) P ++ (nobjC (ad 3) ++ (rowC ck 36 ((ad 3) 1) V ++ (rowC ck 36 ((ad 3) 2) N ++ (inputC ck ka (ad 5) I ++ (sboC (ad 6) U ++ (sbvC ck ((ad 6) 1) Y ++ (histW ck (ad 4) ra X Q)))))))))))) sz) := by
  refine Met.ofW (cc := cX8_noisesAgree) (maxL := 3) (ret := (some .boolean)) (by decide) rfl ?_
  intro p e s m args below meth c s₁ B hml hv
  obtain ⟨rfl, ⟨hsz, hP, hK, hD0⟩, hC⟩ := hv
  have hx := B.exec
  have hb := B.bytes
  have hr := B.returns
  have hts := atoms_spec (ws := .code yX8_noisesAgree cX8_noisesAgree 3 (some .boolean) :: GW) B.pre
  have htg : ∀ w ∈ GW, w.before _ s = true := fun w h => hts w (List.mem_cons_of_mem _ h)
  have hown : s.vm.findClass RX8 = some m.cls := findClass_of_methodNamed B.named
  have hlocks := B.notSynchronized
  subst hsz
  have hD := hD0.self (sz := s.heap.size)
  generalize hAe : va_A (brkC ad Z ++ (booksC ck (ad 0) S ++ (booksC ck (ad 1) T ++ (outC ((ad 7) 1) O ++ (booksC ck (ad 2) P ++ (nobjC (ad 3) ++ (rowC ck 36 ((ad 3) 1) V ++ (rowC ck 36 ((ad 3) 2) N ++ (inputC ck ka (ad 5) I ++ (sboC (ad 6) U ++ (sbvC ck ((ad 6) 1) Y ++ (histW ck (ad 4) ra X Q)))))))))))) s.heap.size = A at hD hC ⊢
  have hA : ∀ q : Nat, s.heap.size ≤ q → A q := fun q h => by rw [← hAe]; exact Or.inr h
  have hS : va_S A s.heap s.heap [] := va_S.rf
  have hP : va_P dg vwCl (brkC ad Z ++ (booksC ck (ad 0) S ++ (booksC ck (ad 1) T ++ (outC ((ad 7) 1) O ++ (booksC ck (ad 2) P ++ (nobjC (ad 3) ++ (rowC ck 36 ((ad 3) 1) V ++ (rowC ck 36 ((ad 3) 2) N ++ (inputC ck ka (ad 5) I ++ (sboC (ad 6) U ++ (sbvC ck ((ad 6) 1) Y ++ (histW ck (ad 4) ra X Q)))))))))))) s.heap := hP
  have hl := lv_entry ([.ref ((ad 7) 0)]) (n := 3) (Nat.le_of_ble_eq_true rfl)
  rw [lg_entry_eq]
  generalize (lg_sl ([.ref ((ad 7) 0)]) ++ List.replicate (3 - (lg_sl ([.ref ((ad 7) 0)])).length) Slot.unset).toArray = ls at hl ⊢
  have hl : lv_has ls 3 [(0, .ref ((ad 7) 0))] := hl
  obtain ⟨b00, b01, b02, b03, b1, b2, b3, b4, b5, b6, b7, b8, b9, b10, b11, b12⟩ := id hI
  refine lv_aload_n hx hb dX8_noisesAgree_0 rfl (lv_at hl 0 rfl) ?_
  refine va_get (D := dg) (ci := 10) (v := .ref ((ad 3) 0)) (C := RX8) (T := TX8) (N := 13) hx hb htg inG_X8 hown hK hP 0 rfl rfl 6 (Nat.le_of_ble_eq_true rfl) (htg _ wq_285) (fun _ h9 => h9) rfl dX8_noisesAgree_1 ?_
  refine lv_aload_n hx hb dX8_noisesAgree_4 rfl (lv_at hl 0 rfl) ?_
  refine va_get (D := dg) (ci := 10) (v := .ref ((ad 0) 0)) (C := RX8) (T := TX8) (N := 13) hx hb htg inG_X8 hown hK hP 0 rfl rfl 0 (Nat.le_of_ble_eq_true rfl) (htg _ wq_279) (fun _ h9 => h9) rfl dX8_noisesAgree_5 ?_
  refine va_get (D := dg) (ci := 4) (v := .ref ((ad 0) 6)) (C := RX1) (T := TX1) (N := 13) hx hb htg inG_X1 hown hK hP 1 rfl rfl 0 (Nat.le_of_ble_eq_true rfl) (htg _ wq_107) (fun _ h9 => h9) rfl dX8_noisesAgree_8 ?_
  refine x_callvB (ws' := brkC ad Z ++ (booksC ck (ad 0) S ++ (booksC ck (ad 1) T ++ (outC ((ad 7) 1) O ++ (booksC ck (ad 2) P ++ (nobjC (ad 3) ++ (rowC ck 36 ((ad 3) 1) (nsF S) ++ (rowC ck 36 ((ad 3) 2) (slZ S N (S 0 1).toNat) ++ (inputC ck ka (ad 5) I ++ (sboC (ad 6) U ++ (sbvC ck ((ad 6) 1) Y ++ (histW ck (ad 4) ra X Q)))))))))))) (M := nobjC (ad 3) ++ (rowC ck 36 ((ad 3) 1) V ++ (rowC ck 36 ((ad 3) 2) N ++ (parkC ck (pa (ad 0)) S)))) (M' := nobjC (ad 3) ++ (rowC ck 36 ((ad 3) 1) (nsF S) ++ (rowC ck 36 ((ad 3) 2) (slZ S N (S 0 1).toNat) ++ (parkC ck (pa (ad 0)) S)))) (N := brkC ad Z ++ (bookC ck (ad 0) S ++ (booksC ck (ad 1) T ++ (outC ((ad 7) 1) O ++ (booksC ck (ad 2) P ++ (inputC ck ka (ad 5) I ++ (sboC (ad 6) U ++ (sbvC ck ((ad 6) 1) Y ++ (histW ck (ad 4) ra X Q))))))))) (by rw [sp_b ck (ad 0) S]; exact cat_perm [brkC ad Z, bookC ck (ad 0) S, parkC ck (pa (ad 0)) S, booksC ck (ad 1) T, outC ((ad 7) 1) O, booksC ck (ad 2) P, nobjC (ad 3), rowC ck 36 ((ad 3) 1) V, rowC ck 36 ((ad 3) 2) N, inputC ck ka (ad 5) I, sboC (ad 6) U, sbvC ck ((ad 6) 1) Y, histW ck (ad 4) ra X Q] [6, 7, 8, 2] [0, 1, 3, 4, 5, 9, 10, 11, 12] 13 rfl (by decide)) (by rw [sp_b ck (ad 0) S]; exact cat_perm [brkC ad Z, bookC ck (ad 0) S, parkC ck (pa (ad 0)) S, booksC ck (ad 1) T, outC ((ad 7) 1) O, booksC ck (ad 2) P, nobjC (ad 3), rowC ck 36 ((ad 3) 1) (nsF S), rowC ck 36 ((ad 3) 2) (slZ S N (S 0 1).toNat), inputC ck ka (ad 5) I, sboC (ad 6) U, sbvC ck ((ad 6) 1) Y, histW ck (ad 4) ra X Q] [6, 7, 8, 2] [0, 1, 3, 4, 5, 9, 10, 11, 12] 13 rfl (by decide)) hP hD hS hA (fun hPm hDm => va_runV (As := [.ref ((ad 0) 6)]) (rest := []) ⟨hx, hb, hml, hown, htg⟩ (c_spreadAll l dg ck (ad 3) (pa (ad 0)) V N S _ hI) (cwV 1 htg (gwV wq_1430 wq_1431 wq_1432 wq_7 wq_1433) rfl rfl rfl (by decide +kernel) ⟨Nat.le_of_ble_eq_true rfl, Nat.le_of_ble_eq_true rfl⟩) (wr_preV hK hPm hDm 0 7 rfl rfl) rfl rfl hl.1 rfl (lv_room (Nat.le_of_ble_eq_true rfl)) dX8_noisesAgree_11 ⟨Nat.zero_le _, Nat.zero_le _⟩) (fun H locs hP hD hS => ?_)
  refine x_iconst hx hb dX8_noisesAgree_14 ?_
  refine lv_istore_n (lv' := [(1, .int (zI 0)), (0, .ref ((ad 7) 0))]) hx hb dX8_noisesAgree_15 rfl hl (by decide) rfl (fun ls hl => ?_)
  refine x_loopW (ι := Int) (fun v => 0 ≤ v ∧ v ≤ 6) (fun v => (6 - v).toNat) (fun v => [(0, .ref ((ad 7) 0)), (1, .int (zI v))]) (fun v => brkC ad Z ++ (booksC ck (ad 0) S ++ (booksC ck (ad 1) T ++ (outC ((ad 7) 1) O ++ (booksC ck (ad 2) P ++ (nobjC (ad 3) ++ (rowC ck 36 ((ad 3) 1) (nsF S) ++ (rowC ck 36 ((ad 3) 2) (slZ S N (S 0 1).toNat) ++ (inputC ck ka (ad 5) I ++ (sboC (ad 6) U ++ (sbvC ck ((ad 6) 1) Y ++ (histW ck (ad 4) ra X Q)))))))))))) (0) (show 0 ≤ (0 : Int) ∧ (0 : Int) ≤ 6 from (by omega)) (lv_sub hl [1, 0] rfl) hP hD hS ?_
  intro v hv ih_16 ls H locs hl hP hD hS
  obtain ⟨i, rfl⟩ : ∃ z : Int, z = v := ⟨_, rfl⟩
  have hl : lv_has ls 3 [(0, .ref ((ad 7) 0)), (1, .int (zI i))] := hl
  have hv : 0 ≤ i ∧ i ≤ 6 := hv
  have hP : va_P dg vwCl (brkC ad Z ++ (booksC ck (ad 0) S ++ (booksC ck (ad 1) T ++ (outC ((ad 7) 1) O ++ (booksC ck (ad 2) P ++ (nobjC (ad 3) ++ (rowC ck 36 ((ad 3) 1) (nsF S) ++ (rowC ck 36 ((ad 3) 2) (slZ S N (S 0 1).toNat) ++ (inputC ck ka (ad 5) I ++ (sboC (ad 6) U ++ (sbvC ck ((ad 6) 1) Y ++ (histW ck (ad 4) ra X Q)))))))))))) H := hP
  have hD : va_D A (brkC ad Z ++ (booksC ck (ad 0) S ++ (booksC ck (ad 1) T ++ (outC ((ad 7) 1) O ++ (booksC ck (ad 2) P ++ (nobjC (ad 3) ++ (rowC ck 36 ((ad 3) 1) (nsF S) ++ (rowC ck 36 ((ad 3) 2) (slZ S N (S 0 1).toNat) ++ (inputC ck ka (ad 5) I ++ (sboC (ad 6) U ++ (sbvC ck ((ad 6) 1) Y ++ (histW ck (ad 4) ra X Q)))))))))))) := hD
  obtain hi := hv
  refine lv_iload_n hx hb dX8_noisesAgree_16 rfl (lv_at hl 1 rfl) ?_
  refine x_bipush hx hb dX8_noisesAgree_17 (by decide) ?_
  refine x_icmp_ge (tgt := 73) hx hb dX8_noisesAgree_19 (by decide) (by omega) (by omega) (fun c19 => ?_) (fun c19 => ?_)
  · refine x_iconst hx hb dX8_noisesAgree_73 ?_
    have hEq : brkW ck ka ad ra Z O U X S T P I (nsF S) (slZ S N (S 0 1).toNat) Y Q = brkC ad Z ++ (booksC ck (ad 0) S ++ (booksC ck (ad 1) T ++ (outC ((ad 7) 1) O ++ (booksC ck (ad 2) P ++ (nobjC (ad 3) ++ (rowC ck 36 ((ad 3) 1) (nsF S) ++ (rowC ck 36 ((ad 3) 2) (slZ S N (S 0 1).toNat) ++ (inputC ck ka (ad 5) I ++ (sboC (ad 6) U ++ (sbvC ck ((ad 6) 1) Y ++ (histW ck (ad 4) ra X Q))))))))))) := rfl
    exact W.zret (v := _) hx hb hr (by first | rfl | rfl) (fun t9 ht9 hW9 => ⟨⟨_, (), rfl, rfl, by rw [ht9, hEq]; exact hP, by rw [hEq, hAe]; exact hD⟩, hS.F ht9⟩) hS.2.2 dX8_noisesAgree_74
  · refine x_iconst hx hb dX8_noisesAgree_22 ?_
    refine lv_istore_n (lv' := [(2, .int (zI 0)), (0, .ref ((ad 7) 0)), (1, .int (zI i))]) hx hb dX8_noisesAgree_23 rfl hl (by decide) rfl (fun ls hl => ?_)
    refine x_loopW (ι := Int) (fun v => 0 ≤ v ∧ v ≤ 6) (fun v => (6 - v).toNat) (fun v => [(0, .ref ((ad 7) 0)), (1, .int (zI i)), (2, .int (zI v))]) (fun v => brkC ad Z ++ (booksC ck (ad 0) S ++ (booksC ck (ad 1) T ++ (outC ((ad 7) 1) O ++ (booksC ck (ad 2) P ++ (nobjC (ad 3) ++ (rowC ck 36 ((ad 3) 1) (nsF S) ++ (rowC ck 36 ((ad 3) 2) (slZ S N (S 0 1).toNat) ++ (inputC ck ka (ad 5) I ++ (sboC (ad 6) U ++ (sbvC ck ((ad 6) 1) Y ++ (histW ck (ad 4) ra X Q)))))))))))) (0) (show 0 ≤ (0 : Int) ∧ (0 : Int) ≤ 6 from (by omega)) (lv_sub hl [1, 2, 0] rfl) hP hD hS ?_
    intro v hv ih_24 ls H locs hl hP hD hS
    obtain ⟨j, rfl⟩ : ∃ z : Int, z = v := ⟨_, rfl⟩
    have hl : lv_has ls 3 [(0, .ref ((ad 7) 0)), (1, .int (zI i)), (2, .int (zI j))] := hl
    have hv : 0 ≤ j ∧ j ≤ 6 := hv
    have hP : va_P dg vwCl (brkC ad Z ++ (booksC ck (ad 0) S ++ (booksC ck (ad 1) T ++ (outC ((ad 7) 1) O ++ (booksC ck (ad 2) P ++ (nobjC (ad 3) ++ (rowC ck 36 ((ad 3) 1) (nsF S) ++ (rowC ck 36 ((ad 3) 2) (slZ S N (S 0 1).toNat) ++ (inputC ck ka (ad 5) I ++ (sboC (ad 6) U ++ (sbvC ck ((ad 6) 1) Y ++ (histW ck (ad 4) ra X Q)))))))))))) H := hP
    have hD : va_D A (brkC ad Z ++ (booksC ck (ad 0) S ++ (booksC ck (ad 1) T ++ (outC ((ad 7) 1) O ++ (booksC ck (ad 2) P ++ (nobjC (ad 3) ++ (rowC ck 36 ((ad 3) 1) (nsF S) ++ (rowC ck 36 ((ad 3) 2) (slZ S N (S 0 1).toNat) ++ (inputC ck ka (ad 5) I ++ (sboC (ad 6) U ++ (sbvC ck ((ad 6) 1) Y ++ (histW ck (ad 4) ra X Q)))))))))))) := hD
    obtain hj := hv
    refine lv_iload_n hx hb dX8_noisesAgree_24 rfl (lv_at hl 2 rfl) ?_
    refine x_bipush hx hb dX8_noisesAgree_25 (by decide) ?_
    refine x_icmp_ge (tgt := 67) hx hb dX8_noisesAgree_27 (by decide) (by omega) (by omega) (fun c27 => ?_) (fun c27 => ?_)
    · obtain ⟨v67, e_v67⟩ : ∃ y : Int, y = i + 1 := ⟨_, rfl⟩
      refine lv_iinc (v := zI v67) (lv' := [(1, .int (zI v67)), (0, .ref ((ad 7) 0)), (2, .int (zI j))]) hx hb dX8_noisesAgree_67 hl (k := 1) rfl (by rw [e_v67]; exact zI_add _ _) (by decide) rfl (fun ls hl => ?_)
      refine lv_goto (tgt := 16) hx hb dX8_noisesAgree_70 (by decide) ?_
      exact ih_16 (v67) (show 0 ≤ v67 ∧ v67 ≤ 6 from (by omega)) (show (6 - v67).toNat < (6 - i).toNat from by omega) ls H locs (lv_sub hl [1, 0] rfl) hP hD hS
    · have hno := noise_r hI i j
      have hnf : nsF S ((i * 6) + j) = noise S i j := by unfold nsF; rw [show ((i * 6) + j) / 6 = i by omega, show ((i * 6) + j) % 6 = j by omega]
      refine lv_aload_n hx hb dX8_noisesAgree_30 rfl (lv_at hl 0 rfl) ?_
      refine va_get (D := dg) (ci := 10) (v := .ref ((ad 0) 0)) (C := RX8) (T := TX8) (N := 13) hx hb htg inG_X8 hown hK hP 0 rfl rfl 0 (Nat.le_of_ble_eq_true rfl) (htg _ wq_279) (fun _ h9 => h9) rfl dX8_noisesAgree_31 ?_
      refine va_get (D := dg) (ci := 4) (v := .ref ((ad 0) 6)) (C := RX1) (T := TX1) (N := 13) hx hb htg inG_X1 hown hK hP 1 rfl rfl 0 (Nat.le_of_ble_eq_true rfl) (htg _ wq_107) (fun _ h9 => h9) rfl dX8_noisesAgree_34 ?_
      refine lv_iload_n hx hb dX8_noisesAgree_37 rfl (lv_at hl 1 rfl) ?_
      refine lv_iload_n hx hb dX8_noisesAgree_38 rfl (lv_at hl 2 rfl) ?_
      refine vp_callSi (W.runV (As := [.int (zI i), .int (zI j)]) (rest := []) ⟨hx, hb, hml, hown, htg⟩ (c_noise l dg ck (pa (ad 0)) S i j hI (by omega) (by omega)) (cwV 2 htg (gwV wq_1370 wq_459 wq_460 wq_3 wq_461) rfl rfl rfl (by decide +kernel) ⟨Nat.le_of_ble_eq_true rfl, Nat.le_of_ble_eq_true rfl⟩) (rd_preV hK (va_P_r (w1 := bookC ck (ad 0) S) (w2 := parkC ck (pa (ad 0)) S) (va_P_l (va_P_r hP))) 0 9 rfl rfl) rfl rfl hl.1 rfl (lv_room (Nat.le_of_ble_eq_true rfl)) dX8_noisesAgree_39 ⟨Nat.zero_le _, Nat.zero_le _⟩) (fun r39 hr39 => ?_)
      subst hr39
      refine lv_aload_n hx hb dX8_noisesAgree_42 rfl (lv_at hl 0 rfl) ?_
      refine va_get (D := dg) (ci := 10) (v := .ref ((ad 3) 0)) (C := RX8) (T := TX8) (N := 13) hx hb htg inG_X8 hown hK hP 0 rfl rfl 6 (Nat.le_of_ble_eq_true rfl) (htg _ wq_285) (fun _ h9 => h9) rfl dX8_noisesAgree_43 ?_
      refine va_get (D := dg) (ci := 7) (v := .ref ((ad 3) 1)) (C := RX4) (T := TX4) (N := 2) hx hb htg inG_X4 hown hK hP 44 rfl rfl 0 (Nat.le_of_ble_eq_true rfl) (htg _ wq_209) (fun _ h9 => h9) rfl dX8_noisesAgree_46 ?_
      refine lv_iload_n hx hb dX8_noisesAgree_49 rfl (lv_at hl 1 rfl) ?_
      refine x_bipush hx hb dX8_noisesAgree_50 (by decide) ?_
      refine x_imul hx hb dX8_noisesAgree_52 ?_
      refine lv_iload_n hx hb dX8_noisesAgree_53 rfl (lv_at hl 2 rfl) ?_
      refine x_iadd hx hb dX8_noisesAgree_54 ?_
      refine x_iald hx hb hK hP 45 0 (nsF S) rfl rfl (fun _ => rfl) (P := fun _ => True) (fun _ => trivial) (by decide) (by omega) dX8_noisesAgree_55 (fun _ => ?_)
      refine x_icmp_eq (tgt := 61) hx hb dX8_noisesAgree_56 (by decide) (by omega) (by omega) (fun c56 => ?_) (fun c56 => ?_)
      · obtain ⟨v61, e_v61⟩ : ∃ y : Int, y = j + 1 := ⟨_, rfl⟩
        refine lv_iinc (v := zI v61) (lv' := [(2, .int (zI v61)), (0, .ref ((ad 7) 0)), (1, .int (zI i))]) hx hb dX8_noisesAgree_61 hl (k := 2) rfl (by rw [e_v61]; exact zI_add _ _) (by decide) rfl (fun ls hl => ?_)
        refine lv_goto (tgt := 24) hx hb dX8_noisesAgree_64 (by decide) ?_
        exact ih_24 (v61) (show 0 ≤ v61 ∧ v61 ≤ 6 from (by omega)) (show (6 - v61).toNat < (6 - j).toNat from by omega) ls H locs (lv_sub hl [1, 2, 0] rfl) hP hD hS
      · exfalso; omega
