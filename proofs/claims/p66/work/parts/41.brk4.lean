/-! the class: consistent; single numbers -/
theorem p05_r {M : Int} {S : St} (h : Inv M S) : 0 ≤ S 0 5 ∧ S 0 5 ≤ 4000000 := by
  obtain ⟨-, h02, h4, h5, h6, h11, h12, h40, h4b, h4c, hu, ht, hb, hc, hM, hM2⟩ := h
  have h1 := sumZ_p h11 (S 0 2).toNat
  have h2 := sumZ_p (fun i => (h5 i).1) (S 0 0).toNat
  unfold coinsA deps at hc
  omega
theorem el05_r {M : Int} {S : St} {x : Int} (h : Inv M S) : 0 ≤ (elZ S x).2.2 0 5 ∧ (elZ S x).2.2 0 5 ≤ 4000000 := by
  unfold elZ
  split
  · exact p05_r h
  · exact p05_r (msN_inv h x.toNat).1
theorem Inv.coins {M : Int} {S : St} (h : Inv M S) : coinsA S = S 0 6 ∧ S 0 6 ≤ M ∧ M ≤ 4000000 ∧ 0 ≤ coinsA S := by
  obtain ⟨-, h02, h4, h5, h6, h11, h12, h40, h4b, h4c, hu, ht, hb, hc, hM, hM2⟩ := h
  have h1 := sumZ_p h11 (S 0 2).toNat
  have h2 := sumZ_p (fun i => (h5 i).1) (S 0 0).toNat
  refine ⟨hc, hM, hM2, ?_⟩
  unfold coinsA deps
  omega

set_option maxHeartbeats 4000000 in
set_option maxRecDepth 100000 in
/-- BenchBroker.incomesAgree -/
theorem x_incomesAgree (l : Launch) (dg : va_G) (ck : Nat → ClassId) (ka : Nat → Nat) (ad ra : Nat → Nat → Nat) (Z O U X : Nat → Int) (S T P I : St) (V N Y : Int → Int) (Q : Nat → St) (x : Int) (sz : Nat) {Mx : Int} (hV : Inv Mx S) (hx1 : 1 ≤ x ∧ x ≤ 12) : Met l yX8_incomesAgree (.code yX8_incomesAgree cX8_incomesAgree 2 (some .boolean) :: GW) ({ frames := 6, cells := 0, slots := 0, locals := 137 }) (va_Pc [.ref ((ad 7) 0), .int (zI x)] (wrK dg ck ka sz (brkC ad Z ++ (booksC ck (ad 0) S ++ (booksC ck (ad 1) T ++ (outC ((ad 7) 1) O ++ (booksC ck (ad 2) P ++ (nobjC (ad 3) ++ (rowC ck 36 ((ad 3) 1) V ++ (rowC ck 36 ((ad 3) 2) N ++ (inputC ck ka (ad 5) I ++ (sboC (ad 6) U ++ (sbvC ck ((ad 6) 1) Y ++ (histW ck (ad 4) ra X Q)))))))))))))) (va_Qi (fun r (_ : Unit) => r = zI (bI True)) (fun _ t9 => wrQ dg sz (brkC ad Z ++ (booksC ck (ad 0) S ++ (booksC ck (ad 1) T ++ (outC ((ad 7) 1) O ++ (booksC ck (ad 2) P ++ (nobjC (ad 3) ++ (rowC ck 36 ((ad 3) 1) V ++ (rowC ck 36 ((ad 3) 2) N ++ (inputC ck ka (ad 5) I ++ (sboC (ad 6) U ++ (sbvC ck ((ad 6) 1) Y ++ (histW ck (ad 4) ra X Q)))))))))))) (brkW ck ka ad ra Z (outc O (elZ S x).1 (elZ S x).2.1) U X S (elZ S x).2.2 P I V N Y Q) t9) (va_A (brkC ad Z ++ (booksC ck (ad 0) S ++ (booksC ck (ad 1) T ++ (outC ((ad 7) 1) O ++ (booksC ck (ad 2) P ++ (nobjC (ad 3) ++ (rowC ck 36 ((ad 3) 1) V ++ (rowC ck 36 ((ad 3) 2) N ++ (inputC ck ka (ad 5) I ++ (sboC (ad 6) U ++ (sbvC ck ((ad 6) 1) Y ++ (histW ck (ad 4) ra X Q)))))))))))) sz)) 0 0 (va_A (brkC ad Z ++ (booksC ck (ad 0) S ++ (booksC ck (ad 1) T ++ (outC ((ad 7) 1) O ++ (booksC ck (ad 2) P ++ (nobjC (ad 3) ++ (rowC ck 36 ((ad 3) 1) V ++ (rowC ck 36 ((ad 3) 2) N ++ (inputC ck ka (ad 5) I ++ (sboC (ad 6) U ++ (sbvC ck ((ad 6) 1) Y ++ (histW ck (ad 4) ra X Q)))))))))))) sz) := by
  refine Met.ofW (cc := cX8_incomesAgree) (maxL := 2) (ret := (some .boolean)) (by decide) rfl ?_
  intro p e s m args below meth c s₁ B hml hv
  obtain ⟨rfl, ⟨hsz, hP, hK, hD0⟩, hC⟩ := hv
  have hx := B.exec
  have hb := B.bytes
  have hr := B.returns
  have hts := atoms_spec (ws := .code yX8_incomesAgree cX8_incomesAgree 2 (some .boolean) :: GW) B.pre
  have htg : ∀ w ∈ GW, w.before _ s = true := fun w h => hts w (List.mem_cons_of_mem _ h)
  have hown : s.vm.findClass RX8 = some m.cls := findClass_of_methodNamed B.named
  have hlocks := B.notSynchronized
  subst hsz
  have hD := hD0.self (sz := s.heap.size)
  generalize hAe : va_A (brkC ad Z ++ (booksC ck (ad 0) S ++ (booksC ck (ad 1) T ++ (outC ((ad 7) 1) O ++ (booksC ck (ad 2) P ++ (nobjC (ad 3) ++ (rowC ck 36 ((ad 3) 1) V ++ (rowC ck 36 ((ad 3) 2) N ++ (inputC ck ka (ad 5) I ++ (sboC (ad 6) U ++ (sbvC ck ((ad 6) 1) Y ++ (histW ck (ad 4) ra X Q)))))))))))) s.heap.size = A at hD hC ⊢
  have hA : ∀ q : Nat, s.heap.size ≤ q → A q := fun q h => by rw [← hAe]; exact Or.inr h
  have hS : va_S A s.heap s.heap [] := va_S.rf
  have hP : va_P dg vwCl (brkC ad Z ++ (booksC ck (ad 0) S ++ (booksC ck (ad 1) T ++ (outC ((ad 7) 1) O ++ (booksC ck (ad 2) P ++ (nobjC (ad 3) ++ (rowC ck 36 ((ad 3) 1) V ++ (rowC ck 36 ((ad 3) 2) N ++ (inputC ck ka (ad 5) I ++ (sboC (ad 6) U ++ (sbvC ck ((ad 6) 1) Y ++ (histW ck (ad 4) ra X Q)))))))))))) s.heap := hP
  have hl := lv_entry ([.ref ((ad 7) 0), .int (zI x)]) (n := 2) (Nat.le_of_ble_eq_true rfl)
  rw [lg_entry_eq]
  generalize (lg_sl ([.ref ((ad 7) 0), .int (zI x)]) ++ List.replicate (2 - (lg_sl ([.ref ((ad 7) 0), .int (zI x)])).length) Slot.unset).toArray = ls at hl ⊢
  have hl : lv_has ls 2 [(0, .ref ((ad 7) 0)), (1, .int (zI x))] := hl
  have hie := income_e hV (show isTerm x by omega)
  have hI := hV.bd
  have hp5 := p05_r hV
  have he5 := el05_r (x := x) hV
  refine lv_aload_n hx hb dX8_incomesAgree_0 rfl (lv_at hl 0 rfl) ?_
  refine lv_iload_n hx hb dX8_incomesAgree_1 rfl (lv_at hl 1 rfl) ?_
  refine x_calli (ws' := brkC ad Z ++ (booksC ck (ad 0) S ++ (booksC ck (ad 1) (elZ S x).2.2 ++ (outC ((ad 7) 1) (outc O (elZ S x).1 (elZ S x).2.1) ++ (booksC ck (ad 2) P ++ (nobjC (ad 3) ++ (rowC ck 36 ((ad 3) 1) V ++ (rowC ck 36 ((ad 3) 2) N ++ (inputC ck ka (ad 5) I ++ (sboC (ad 6) U ++ (sbvC ck ((ad 6) 1) Y ++ (histW ck (ad 4) ra X Q)))))))))))) [] (M := brkC ad Z ++ (booksC ck (ad 0) S ++ (booksC ck (ad 1) T ++ (outC ((ad 7) 1) O ++ (booksC ck (ad 2) P ++ (nobjC (ad 3) ++ (rowC ck 36 ((ad 3) 1) V ++ (rowC ck 36 ((ad 3) 2) N ++ (inputC ck ka (ad 5) I ++ (sboC (ad 6) U ++ (sbvC ck ((ad 6) 1) Y ++ (histW ck (ad 4) ra X Q)))))))))))) (M' := brkC ad Z ++ (booksC ck (ad 0) S ++ (booksC ck (ad 1) (elZ S x).2.2 ++ (outC ((ad 7) 1) (outc O (elZ S x).1 (elZ S x).2.1) ++ (booksC ck (ad 2) P ++ (nobjC (ad 3) ++ (rowC ck 36 ((ad 3) 1) V ++ (rowC ck 36 ((ad 3) 2) N ++ (inputC ck ka (ad 5) I ++ (sboC (ad 6) U ++ (sbvC ck ((ad 6) 1) Y ++ (histW ck (ad 4) ra X Q)))))))))))) ([]) (List.append_nil _).symm (List.append_nil _).symm hP hD hS hA (fun hPm hDm => va_runV (As := [.int (zI x)]) (rest := []) ⟨hx, hb, hml, hown, htg⟩ (x_incomeOnCopy l dg ck ka ad ra Z O U X S T P I V N Y Q x _ hV (by omega)) (cwV 1 htg (gwV wq_593 wq_595 wp_5 wq_1 wq_596) rfl rfl rfl (by decide +kernel) ⟨Nat.le_of_ble_eq_true rfl, Nat.le_of_ble_eq_true rfl⟩) (wrK_preV hK hPm hDm hC hS hA 0 10 rfl rfl) rfl rfl hl.1 rfl (lv_room (Nat.le_of_ble_eq_true rfl)) dX8_incomesAgree_2 ⟨Nat.zero_le _, Nat.zero_le _⟩) (fun r2 H locs hr2 hP hD hS => ?_)
  subst hr2
  refine lv_aload_n hx hb dX8_incomesAgree_5 rfl (lv_at hl 0 rfl) ?_
  refine va_get (D := dg) (ci := 10) (v := .ref ((ad 0) 0)) (C := RX8) (T := TX8) (N := 13) hx hb htg inG_X8 hown hK hP 0 rfl rfl 0 (Nat.le_of_ble_eq_true rfl) (htg _ wq_279) (fun _ h9 => h9) rfl dX8_incomesAgree_6 ?_
  refine lv_iload_n hx hb dX8_incomesAgree_9 rfl (lv_at hl 1 rfl) ?_
  refine vp_callSi (W.runV (As := [.int (zI x)]) (rest := [.int (zI ((elZ S x).2.2 0 5 - S 0 5))]) ⟨hx, hb, hml, hown, htg⟩ (c_leaseIncome l dg ck (ad 0) S x hI (by omega)) (cwV 1 htg (gwV wq_1459 wq_1460 wq_1461 wq_2 wq_1462) rfl rfl rfl (by decide +kernel) ⟨Nat.le_of_ble_eq_true rfl, Nat.le_of_ble_eq_true rfl⟩) (rd_preV hK (va_P_l (va_P_r hP)) 0 4 rfl rfl) rfl rfl hl.1 rfl (lv_room (Nat.le_of_ble_eq_true rfl)) dX8_incomesAgree_10 ⟨Nat.zero_le _, Nat.zero_le _⟩) (fun r10 hr10 => ?_)
  subst hr10
  refine x_icmp_ne (tgt := 20) hx hb dX8_incomesAgree_13 (by decide) (by omega) (by omega) (fun c13 => ?_) (fun c13 => ?_)
  · exfalso; omega
  · refine x_iconst hx hb dX8_incomesAgree_16 ?_
    refine lv_goto (tgt := 21) hx hb dX8_incomesAgree_17 (by decide) ?_
    have hEq : brkW ck ka ad ra Z (outc O (elZ S x).1 (elZ S x).2.1) U X S (elZ S x).2.2 P I V N Y Q = brkC ad Z ++ (booksC ck (ad 0) S ++ (booksC ck (ad 1) (elZ S x).2.2 ++ (outC ((ad 7) 1) (outc O (elZ S x).1 (elZ S x).2.1) ++ (booksC ck (ad 2) P ++ (nobjC (ad 3) ++ (rowC ck 36 ((ad 3) 1) V ++ (rowC ck 36 ((ad 3) 2) N ++ (inputC ck ka (ad 5) I ++ (sboC (ad 6) U ++ (sbvC ck ((ad 6) 1) Y ++ (histW ck (ad 4) ra X Q))))))))))) := rfl
    exact W.zret (v := _) hx hb hr (by first | rfl | rfl) (fun t9 ht9 hW9 => ⟨⟨_, (), rfl, rfl, by rw [ht9, hEq]; exact hP, by rw [hEq, hAe]; exact hD⟩, hS.F ht9⟩) hS.2.2 dX8_incomesAgree_21

set_option maxHeartbeats 4000000 in
set_option maxRecDepth 100000 in
/-- BenchBroker.isConsistent -/
theorem x_isConsistent (l : Launch) (dg : va_G) (ck : Nat → ClassId) (ka : Nat → Nat) (ad ra : Nat → Nat → Nat) (Z O U X : Nat → Int) (S T P I : St) (V N Y : Int → Int) (Q : Nat → St) (sz : Nat) {Mx : Int} (hV : Inv Mx S) : Met l yX8_isConsistent (.code yX8_isConsistent cX8_isConsistent 1 (some .boolean) :: GW) ({ frames := 7, cells := 0, slots := 0, locals := 158 }) (va_Pc [.ref ((ad 7) 0)] (wrK dg ck ka sz (brkC ad Z ++ (booksC ck (ad 0) S ++ (booksC ck (ad 1) T ++ (outC ((ad 7) 1) O ++ (booksC ck (ad 2) P ++ (nobjC (ad 3) ++ (rowC ck 36 ((ad 3) 1) V ++ (rowC ck 36 ((ad 3) 2) N ++ (inputC ck ka (ad 5) I ++ (sboC (ad 6) U ++ (sbvC ck ((ad 6) 1) Y ++ (histW ck (ad 4) ra X Q)))))))))))))) (va_Qi (fun r (_ : Unit) => r = zI (bI True)) (fun _ t9 => wrQ dg sz (brkC ad Z ++ (booksC ck (ad 0) S ++ (booksC ck (ad 1) T ++ (outC ((ad 7) 1) O ++ (booksC ck (ad 2) P ++ (nobjC (ad 3) ++ (rowC ck 36 ((ad 3) 1) V ++ (rowC ck 36 ((ad 3) 2) N ++ (inputC ck ka (ad 5) I ++ (sboC (ad 6) U ++ (sbvC ck ((ad 6) 1) Y ++ (histW ck (ad 4) ra X Q)))))))))))) (brkW ck ka ad ra Z (outc (outc (outc O (elZ S 1).1 (elZ S 1).2.1) (elZ S 6).1 (elZ S 6).2.1) (elZ S 12).1 (elZ S 12).2.1) U X S (elZ S 12).2.2 P I (nsF S) (slZ S N (S 0 1).toNat) Y Q) t9) (va_A (brkC ad Z ++ (booksC ck (ad 0) S ++ (booksC ck (ad 1) T ++ (outC ((ad 7) 1) O ++ (booksC ck (ad 2) P ++ (nobjC (ad 3) ++ (rowC ck 36 ((ad 3) 1) V ++ (rowC ck 36 ((ad 3) 2) N ++ (inputC ck ka (ad 5) I ++ (sboC (ad 6) U ++ (sbvC ck ((ad 6) 1) Y ++ (histW ck (ad 4) ra X Q)))))))))))) sz)) 0 0 (va_A (brkC ad Z ++ (booksC ck (ad 0) S ++ (booksC ck (ad 1) T ++ (outC ((ad 7) 1) O ++ (booksC ck (ad 2) P ++ (nobjC (ad 3) ++ (rowC ck 36 ((ad 3) 1) V ++ (rowC ck 36 ((ad 3) 2) N ++ (inputC ck ka (ad 5) I ++ (sboC (ad 6) U ++ (sbvC ck ((ad 6) 1) Y ++ (histW ck (ad 4) ra X Q)))))))))))) sz) := by
  refine Met.ofW (cc := cX8_isConsistent) (maxL := 1) (ret := (some .boolean)) (by decide) rfl ?_
  intro p e s m args below meth c s₁ B hml hv
  obtain ⟨rfl, ⟨hsz, hP, hK, hD0⟩, hC⟩ := hv
  have hx := B.exec
  have hb := B.bytes
  have hr := B.returns
  have hts := atoms_spec (ws := .code yX8_isConsistent cX8_isConsistent 1 (some .boolean) :: GW) B.pre
  have htg : ∀ w ∈ GW, w.before _ s = true := fun w h => hts w (List.mem_cons_of_mem _ h)
  have hown : s.vm.findClass RX8 = some m.cls := findClass_of_methodNamed B.named
  have hlocks := B.notSynchronized
  subst hsz
  have hD := hD0.self (sz := s.heap.size)
  generalize hAe : va_A (brkC ad Z ++ (booksC ck (ad 0) S ++ (booksC ck (ad 1) T ++ (outC ((ad 7) 1) O ++ (booksC ck (ad 2) P ++ (nobjC (ad 3) ++ (rowC ck 36 ((ad 3) 1) V ++ (rowC ck 36 ((ad 3) 2) N ++ (inputC ck ka (ad 5) I ++ (sboC (ad 6) U ++ (sbvC ck ((ad 6) 1) Y ++ (histW ck (ad 4) ra X Q)))))))))))) s.heap.size = A at hD hC ⊢
  have hA : ∀ q : Nat, s.heap.size ≤ q → A q := fun q h => by rw [← hAe]; exact Or.inr h
  have hS : va_S A s.heap s.heap [] := va_S.rf
  have hP : va_P dg vwCl (brkC ad Z ++ (booksC ck (ad 0) S ++ (booksC ck (ad 1) T ++ (outC ((ad 7) 1) O ++ (booksC ck (ad 2) P ++ (nobjC (ad 3) ++ (rowC ck 36 ((ad 3) 1) V ++ (rowC ck 36 ((ad 3) 2) N ++ (inputC ck ka (ad 5) I ++ (sboC (ad 6) U ++ (sbvC ck ((ad 6) 1) Y ++ (histW ck (ad 4) ra X Q)))))))))))) s.heap := hP
  have hl := lv_entry ([.ref ((ad 7) 0)]) (n := 1) (Nat.le_of_ble_eq_true rfl)
  rw [lg_entry_eq]
  generalize (lg_sl ([.ref ((ad 7) 0)]) ++ List.replicate (1 - (lg_sl ([.ref ((ad 7) 0)])).length) Slot.unset).toArray = ls at hl ⊢
  have hl : lv_has ls 1 [(0, .ref ((ad 7) 0))] := hl
  have hI := hV.bd
  have hco := hV.coins
  have hu9 := hV.uniq
  refine lv_aload_n hx hb dX8_isConsistent_0 rfl (lv_at hl 0 rfl) ?_
  refine x_calli (ws' := brkC ad Z ++ (booksC ck (ad 0) S ++ (booksC ck (ad 1) T ++ (outC ((ad 7) 1) O ++ (booksC ck (ad 2) P ++ (nobjC (ad 3) ++ (rowC ck 36 ((ad 3) 1) (nsF S) ++ (rowC ck 36 ((ad 3) 2) (slZ S N (S 0 1).toNat) ++ (inputC ck ka (ad 5) I ++ (sboC (ad 6) U ++ (sbvC ck ((ad 6) 1) Y ++ (histW ck (ad 4) ra X Q)))))))))))) [] (M := brkC ad Z ++ (booksC ck (ad 0) S ++ (booksC ck (ad 1) T ++ (outC ((ad 7) 1) O ++ (booksC ck (ad 2) P ++ (nobjC (ad 3) ++ (rowC ck 36 ((ad 3) 1) V ++ (rowC ck 36 ((ad 3) 2) N ++ (inputC ck ka (ad 5) I ++ (sboC (ad 6) U ++ (sbvC ck ((ad 6) 1) Y ++ (histW ck (ad 4) ra X Q)))))))))))) (M' := brkC ad Z ++ (booksC ck (ad 0) S ++ (booksC ck (ad 1) T ++ (outC ((ad 7) 1) O ++ (booksC ck (ad 2) P ++ (nobjC (ad 3) ++ (rowC ck 36 ((ad 3) 1) (nsF S) ++ (rowC ck 36 ((ad 3) 2) (slZ S N (S 0 1).toNat) ++ (inputC ck ka (ad 5) I ++ (sboC (ad 6) U ++ (sbvC ck ((ad 6) 1) Y ++ (histW ck (ad 4) ra X Q)))))))))))) ([]) (List.append_nil _).symm (List.append_nil _).symm hP hD hS hA (fun hPm hDm => va_runV (As := []) (rest := []) ⟨hx, hb, hml, hown, htg⟩ (x_noisesAgree l dg ck ka ad ra Z O U X S T P I V N Y Q _ hI) (cwV 0 htg (gwV wq_1529 wq_1531 wp_29 wq_1 wq_1532) rfl rfl rfl (by decide +kernel) ⟨Nat.le_of_ble_eq_true rfl, Nat.le_of_ble_eq_true rfl⟩) (wrK_preV hK hPm hDm hC hS hA 0 10 rfl rfl) rfl rfl hl.1 rfl (lv_room (Nat.le_of_ble_eq_true rfl)) dX8_isConsistent_1 ⟨Nat.zero_le _, Nat.zero_le _⟩) (fun r1 H locs hr1 hP hD hS => ?_)
  subst hr1
  refine x_bz_eq (tgt := 64) hx hb dX8_isConsistent_4 (by decide) (fun c4 => ?_) (fun c4 => ?_)
  · first | (exfalso; omega) | exact absurd trivial (by assumption) | contradiction
  · refine lv_aload_n hx hb dX8_isConsistent_7 rfl (lv_at hl 0 rfl) ?_
    refine x_iconst hx hb dX8_isConsistent_8 ?_
    refine x_calli (ws' := brkC ad Z ++ (booksC ck (ad 0) S ++ (booksC ck (ad 1) (elZ S 1).2.2 ++ (outC ((ad 7) 1) (outc O (elZ S 1).1 (elZ S 1).2.1) ++ (booksC ck (ad 2) P ++ (nobjC (ad 3) ++ (rowC ck 36 ((ad 3) 1) (nsF S) ++ (rowC ck 36 ((ad 3) 2) (slZ S N (S 0 1).toNat) ++ (inputC ck ka (ad 5) I ++ (sboC (ad 6) U ++ (sbvC ck ((ad 6) 1) Y ++ (histW ck (ad 4) ra X Q)))))))))))) [] (M := brkC ad Z ++ (booksC ck (ad 0) S ++ (booksC ck (ad 1) T ++ (outC ((ad 7) 1) O ++ (booksC ck (ad 2) P ++ (nobjC (ad 3) ++ (rowC ck 36 ((ad 3) 1) (nsF S) ++ (rowC ck 36 ((ad 3) 2) (slZ S N (S 0 1).toNat) ++ (inputC ck ka (ad 5) I ++ (sboC (ad 6) U ++ (sbvC ck ((ad 6) 1) Y ++ (histW ck (ad 4) ra X Q)))))))))))) (M' := brkC ad Z ++ (booksC ck (ad 0) S ++ (booksC ck (ad 1) (elZ S 1).2.2 ++ (outC ((ad 7) 1) (outc O (elZ S 1).1 (elZ S 1).2.1) ++ (booksC ck (ad 2) P ++ (nobjC (ad 3) ++ (rowC ck 36 ((ad 3) 1) (nsF S) ++ (rowC ck 36 ((ad 3) 2) (slZ S N (S 0 1).toNat) ++ (inputC ck ka (ad 5) I ++ (sboC (ad 6) U ++ (sbvC ck ((ad 6) 1) Y ++ (histW ck (ad 4) ra X Q)))))))))))) ([]) (List.append_nil _).symm (List.append_nil _).symm hP hD hS hA (fun hPm hDm => va_runV (As := [.int (zI 1)]) (rest := []) ⟨hx, hb, hml, hown, htg⟩ (x_incomesAgree l dg ck ka ad ra Z O U X S T P I (nsF S) (slZ S N (S 0 1).toNat) Y Q 1 _ hV (by omega)) (cwV 1 htg (gwV wq_1533 wq_1535 wp_30 wq_1 wq_1536) rfl rfl rfl (by decide +kernel) ⟨Nat.le_of_ble_eq_true rfl, Nat.le_of_ble_eq_true rfl⟩) (wrK_preV hK hPm hDm hC hS hA 0 10 rfl rfl) rfl rfl hl.1 rfl (lv_room (Nat.le_of_ble_eq_true rfl)) dX8_isConsistent_9 ⟨Nat.zero_le _, Nat.zero_le _⟩) (fun r9 H locs hr9 hP hD hS => ?_)
    subst hr9
    refine x_bz_eq (tgt := 64) hx hb dX8_isConsistent_12 (by decide) (fun c12 => ?_) (fun c12 => ?_)
    · first | (exfalso; omega) | exact absurd trivial (by assumption) | contradiction
    · refine lv_aload_n hx hb dX8_isConsistent_15 rfl (lv_at hl 0 rfl) ?_
      refine x_bipush hx hb dX8_isConsistent_16 (by decide) ?_
      refine x_calli (ws' := brkC ad Z ++ (booksC ck (ad 0) S ++ (booksC ck (ad 1) (elZ S 6).2.2 ++ (outC ((ad 7) 1) (outc (outc O (elZ S 1).1 (elZ S 1).2.1) (elZ S 6).1 (elZ S 6).2.1) ++ (booksC ck (ad 2) P ++ (nobjC (ad 3) ++ (rowC ck 36 ((ad 3) 1) (nsF S) ++ (rowC ck 36 ((ad 3) 2) (slZ S N (S 0 1).toNat) ++ (inputC ck ka (ad 5) I ++ (sboC (ad 6) U ++ (sbvC ck ((ad 6) 1) Y ++ (histW ck (ad 4) ra X Q)))))))))))) [] (M := brkC ad Z ++ (booksC ck (ad 0) S ++ (booksC ck (ad 1) (elZ S 1).2.2 ++ (outC ((ad 7) 1) (outc O (elZ S 1).1 (elZ S 1).2.1) ++ (booksC ck (ad 2) P ++ (nobjC (ad 3) ++ (rowC ck 36 ((ad 3) 1) (nsF S) ++ (rowC ck 36 ((ad 3) 2) (slZ S N (S 0 1).toNat) ++ (inputC ck ka (ad 5) I ++ (sboC (ad 6) U ++ (sbvC ck ((ad 6) 1) Y ++ (histW ck (ad 4) ra X Q)))))))))))) (M' := brkC ad Z ++ (booksC ck (ad 0) S ++ (booksC ck (ad 1) (elZ S 6).2.2 ++ (outC ((ad 7) 1) (outc (outc O (elZ S 1).1 (elZ S 1).2.1) (elZ S 6).1 (elZ S 6).2.1) ++ (booksC ck (ad 2) P ++ (nobjC (ad 3) ++ (rowC ck 36 ((ad 3) 1) (nsF S) ++ (rowC ck 36 ((ad 3) 2) (slZ S N (S 0 1).toNat) ++ (inputC ck ka (ad 5) I ++ (sboC (ad 6) U ++ (sbvC ck ((ad 6) 1) Y ++ (histW ck (ad 4) ra X Q)))))))))))) ([]) (List.append_nil _).symm (List.append_nil _).symm hP hD hS hA (fun hPm hDm => va_runV (As := [.int (zI 6)]) (rest := []) ⟨hx, hb, hml, hown, htg⟩ (x_incomesAgree l dg ck ka ad ra Z (outc O (elZ S 1).1 (elZ S 1).2.1) U X S (elZ S 1).2.2 P I (nsF S) (slZ S N (S 0 1).toNat) Y Q 6 _ hV (by omega)) (cwV 1 htg (gwV wq_1533 wq_1535 wp_30 wq_1 wq_1536) rfl rfl rfl (by decide +kernel) ⟨Nat.le_of_ble_eq_true rfl, Nat.le_of_ble_eq_true rfl⟩) (wrK_preV hK hPm hDm hC hS hA 0 10 rfl rfl) rfl rfl hl.1 rfl (lv_room (Nat.le_of_ble_eq_true rfl)) dX8_isConsistent_18 ⟨Nat.zero_le _, Nat.zero_le _⟩) (fun r18 H locs hr18 hP hD hS => ?_)
      subst hr18
      refine x_bz_eq (tgt := 64) hx hb dX8_isConsistent_21 (by decide) (fun c21 => ?_) (fun c21 => ?_)
      · first | (exfalso; omega) | exact absurd trivial (by assumption) | contradiction
      · refine lv_aload_n hx hb dX8_isConsistent_24 rfl (lv_at hl 0 rfl) ?_
        refine x_bipush hx hb dX8_isConsistent_25 (by decide) ?_
        refine x_calli (ws' := brkC ad Z ++ (booksC ck (ad 0) S ++ (booksC ck (ad 1) (elZ S 12).2.2 ++ (outC ((ad 7) 1) (outc (outc (outc O (elZ S 1).1 (elZ S 1).2.1) (elZ S 6).1 (elZ S 6).2.1) (elZ S 12).1 (elZ S 12).2.1) ++ (booksC ck (ad 2) P ++ (nobjC (ad 3) ++ (rowC ck 36 ((ad 3) 1) (nsF S) ++ (rowC ck 36 ((ad 3) 2) (slZ S N (S 0 1).toNat) ++ (inputC ck ka (ad 5) I ++ (sboC (ad 6) U ++ (sbvC ck ((ad 6) 1) Y ++ (histW ck (ad 4) ra X Q)))))))))))) [] (M := brkC ad Z ++ (booksC ck (ad 0) S ++ (booksC ck (ad 1) (elZ S 6).2.2 ++ (outC ((ad 7) 1) (outc (outc O (elZ S 1).1 (elZ S 1).2.1) (elZ S 6).1 (elZ S 6).2.1) ++ (booksC ck (ad 2) P ++ (nobjC (ad 3) ++ (rowC ck 36 ((ad 3) 1) (nsF S) ++ (rowC ck 36 ((ad 3) 2) (slZ S N (S 0 1).toNat) ++ (inputC ck ka (ad 5) I ++ (sboC (ad 6) U ++ (sbvC ck ((ad 6) 1) Y ++ (histW ck (ad 4) ra X Q)))))))))))) (M' := brkC ad Z ++ (booksC ck (ad 0) S ++ (booksC ck (ad 1) (elZ S 12).2.2 ++ (outC ((ad 7) 1) (outc (outc (outc O (elZ S 1).1 (elZ S 1).2.1) (elZ S 6).1 (elZ S 6).2.1) (elZ S 12).1 (elZ S 12).2.1) ++ (booksC ck (ad 2) P ++ (nobjC (ad 3) ++ (rowC ck 36 ((ad 3) 1) (nsF S) ++ (rowC ck 36 ((ad 3) 2) (slZ S N (S 0 1).toNat) ++ (inputC ck ka (ad 5) I ++ (sboC (ad 6) U ++ (sbvC ck ((ad 6) 1) Y ++ (histW ck (ad 4) ra X Q)))))))))))) ([]) (List.append_nil _).symm (List.append_nil _).symm hP hD hS hA (fun hPm hDm => va_runV (As := [.int (zI 12)]) (rest := []) ⟨hx, hb, hml, hown, htg⟩ (x_incomesAgree l dg ck ka ad ra Z (outc (outc O (elZ S 1).1 (elZ S 1).2.1) (elZ S 6).1 (elZ S 6).2.1) U X S (elZ S 6).2.2 P I (nsF S) (slZ S N (S 0 1).toNat) Y Q 12 _ hV (by omega)) (cwV 1 htg (gwV wq_1533 wq_1535 wp_30 wq_1 wq_1536) rfl rfl rfl (by decide +kernel) ⟨Nat.le_of_ble_eq_true rfl, Nat.le_of_ble_eq_true rfl⟩) (wrK_preV hK hPm hDm hC hS hA 0 10 rfl rfl) rfl rfl hl.1 rfl (lv_room (Nat.le_of_ble_eq_true rfl)) dX8_isConsistent_27 ⟨Nat.zero_le _, Nat.zero_le _⟩) (fun r27 H locs hr27 hP hD hS => ?_)
        subst hr27
        refine x_bz_eq (tgt := 64) hx hb dX8_isConsistent_30 (by decide) (fun c30 => ?_) (fun c30 => ?_)
        · first | (exfalso; omega) | exact absurd trivial (by assumption) | contradiction
        · refine lv_aload_n hx hb dX8_isConsistent_33 rfl (lv_at hl 0 rfl) ?_
          refine va_get (D := dg) (ci := 10) (v := .ref ((ad 0) 0)) (C := RX8) (T := TX8) (N := 13) hx hb htg inG_X8 hown hK hP 0 rfl rfl 0 (Nat.le_of_ble_eq_true rfl) (htg _ wq_279) (fun _ h9 => h9) rfl dX8_isConsistent_34 ?_
          refine vp_callSi (W.runV (As := []) (rest := []) ⟨hx, hb, hml, hown, htg⟩ (c_coinsAround l dg ck (ad 0) S hI) (cwV 0 htg (gwV wq_1520 wq_1521 wq_1522 wq_2 wq_1523) rfl rfl rfl (by decide +kernel) ⟨Nat.le_of_ble_eq_true rfl, Nat.le_of_ble_eq_true rfl⟩) (rd_preV hK (va_P_l (va_P_r hP)) 0 4 rfl rfl) rfl rfl hl.1 rfl (lv_room (Nat.le_of_ble_eq_true rfl)) dX8_isConsistent_37 ⟨Nat.zero_le _, Nat.zero_le _⟩) (fun r37 hr37 => ?_)
          subst hr37
          refine lv_aload_n hx hb dX8_isConsistent_40 rfl (lv_at hl 0 rfl) ?_
          refine va_get (D := dg) (ci := 10) (v := .ref ((ad 0) 0)) (C := RX8) (T := TX8) (N := 13) hx hb htg inG_X8 hown hK hP 0 rfl rfl 0 (Nat.le_of_ble_eq_true rfl) (htg _ wq_279) (fun _ h9 => h9) rfl dX8_isConsistent_41 ?_
          refine va_get (D := dg) (ci := 4) (v := .int (zI (S 0 6))) (C := RX1) (T := TX1) (N := 13) hx hb htg inG_X1 hown hK hP 1 rfl rfl 9 (Nat.le_of_ble_eq_true rfl) (htg _ wq_125) (fun _ h9 => h9) rfl dX8_isConsistent_44 ?_
          refine x_icmp_ne (tgt := 64) hx hb dX8_isConsistent_47 (by decide) (by omega) (by omega) (fun c47 => ?_) (fun c47 => ?_)
          · first | (exfalso; omega) | exact absurd trivial (by assumption) | contradiction
          · refine lv_aload_n hx hb dX8_isConsistent_50 rfl (lv_at hl 0 rfl) ?_
            refine va_get (D := dg) (ci := 10) (v := .ref ((ad 0) 0)) (C := RX8) (T := TX8) (N := 13) hx hb htg inG_X8 hown hK hP 0 rfl rfl 0 (Nat.le_of_ble_eq_true rfl) (htg _ wq_279) (fun _ h9 => h9) rfl dX8_isConsistent_51 ?_
            refine vp_callSi (W.runV (As := []) (rest := []) ⟨hx, hb, hml, hown, htg⟩ (c_twoBenches l dg ck (ad 0) S hI hu9) (cwV 0 htg (gwV wq_1537 wq_1538 wq_1539 wq_2 wq_1540) rfl rfl rfl (by decide +kernel) ⟨Nat.le_of_ble_eq_true rfl, Nat.le_of_ble_eq_true rfl⟩) (rd_preV hK (va_P_l (va_P_r hP)) 0 4 rfl rfl) rfl rfl hl.1 rfl (lv_room (Nat.le_of_ble_eq_true rfl)) dX8_isConsistent_54 ⟨Nat.zero_le _, Nat.zero_le _⟩) (fun r54 hr54 => ?_)
            subst hr54
            refine x_bz_ne (tgt := 64) hx hb dX8_isConsistent_57 (by decide) (fun c57 => ?_) (fun c57 => ?_)
            · first | (exfalso; omega) | exact absurd trivial (by assumption) | contradiction
            · refine x_iconst hx hb dX8_isConsistent_60 ?_
              refine lv_goto (tgt := 65) hx hb dX8_isConsistent_61 (by decide) ?_
              have hEq : brkW ck ka ad ra Z (outc (outc (outc O (elZ S 1).1 (elZ S 1).2.1) (elZ S 6).1 (elZ S 6).2.1) (elZ S 12).1 (elZ S 12).2.1) U X S (elZ S 12).2.2 P I (nsF S) (slZ S N (S 0 1).toNat) Y Q = brkC ad Z ++ (booksC ck (ad 0) S ++ (booksC ck (ad 1) (elZ S 12).2.2 ++ (outC ((ad 7) 1) (outc (outc (outc O (elZ S 1).1 (elZ S 1).2.1) (elZ S 6).1 (elZ S 6).2.1) (elZ S 12).1 (elZ S 12).2.1) ++ (booksC ck (ad 2) P ++ (nobjC (ad 3) ++ (rowC ck 36 ((ad 3) 1) (nsF S) ++ (rowC ck 36 ((ad 3) 2) (slZ S N (S 0 1).toNat) ++ (inputC ck ka (ad 5) I ++ (sboC (ad 6) U ++ (sbvC ck ((ad 6) 1) Y ++ (histW ck (ad 4) ra X Q))))))))))) := rfl
              exact W.zret (v := _) hx hb hr (by first | rfl | rfl) (fun t9 ht9 hW9 => ⟨⟨_, (), rfl, rfl, by rw [ht9, hEq]; exact hP, by rw [hEq, hAe]; exact hD⟩, hS.F ht9⟩) hS.2.2 dX8_isConsistent_65

set_option maxHeartbeats 4000000 in
set_option maxRecDepth 100000 in
/-- BenchBroker.benchCount -/
theorem x_benchCount (l : Launch) (dg : va_G) (ck : Nat → ClassId) (ka : Nat → Nat) (ad ra : Nat → Nat → Nat) (Z O U X : Nat → Int) (S T P I : St) (V N Y : Int → Int) (Q : Nat → St) (sz : Nat)  : Met l yX8_benchCount (.code yX8_benchCount cX8_benchCount 1 (some .int) :: GW) ({ frames := 0, cells := 0, slots := 0, locals := 0 }) (va_Pc [.ref ((ad 7) 0)] (wrK dg ck ka sz (brkC ad Z ++ (booksC ck (ad 0) S ++ (booksC ck (ad 1) T ++ (outC ((ad 7) 1) O ++ (booksC ck (ad 2) P ++ (nobjC (ad 3) ++ (rowC ck 36 ((ad 3) 1) V ++ (rowC ck 36 ((ad 3) 2) N ++ (inputC ck ka (ad 5) I ++ (sboC (ad 6) U ++ (sbvC ck ((ad 6) 1) Y ++ (histW ck (ad 4) ra X Q)))))))))))))) (va_Qi (fun r (_ : Unit) => r = zI (S 0 0)) (fun _ t9 => wrQ dg sz (brkC ad Z ++ (booksC ck (ad 0) S ++ (booksC ck (ad 1) T ++ (outC ((ad 7) 1) O ++ (booksC ck (ad 2) P ++ (nobjC (ad 3) ++ (rowC ck 36 ((ad 3) 1) V ++ (rowC ck 36 ((ad 3) 2) N ++ (inputC ck ka (ad 5) I ++ (sboC (ad 6) U ++ (sbvC ck ((ad 6) 1) Y ++ (histW ck (ad 4) ra X Q)))))))))))) (brkW ck ka ad ra Z O U X S T P I V N Y Q) t9) (va_A (brkC ad Z ++ (booksC ck (ad 0) S ++ (booksC ck (ad 1) T ++ (outC ((ad 7) 1) O ++ (booksC ck (ad 2) P ++ (nobjC (ad 3) ++ (rowC ck 36 ((ad 3) 1) V ++ (rowC ck 36 ((ad 3) 2) N ++ (inputC ck ka (ad 5) I ++ (sboC (ad 6) U ++ (sbvC ck ((ad 6) 1) Y ++ (histW ck (ad 4) ra X Q)))))))))))) sz)) 0 0 (va_A (brkC ad Z ++ (booksC ck (ad 0) S ++ (booksC ck (ad 1) T ++ (outC ((ad 7) 1) O ++ (booksC ck (ad 2) P ++ (nobjC (ad 3) ++ (rowC ck 36 ((ad 3) 1) V ++ (rowC ck 36 ((ad 3) 2) N ++ (inputC ck ka (ad 5) I ++ (sboC (ad 6) U ++ (sbvC ck ((ad 6) 1) Y ++ (histW ck (ad 4) ra X Q)))))))))))) sz) := by
  refine Met.ofW (cc := cX8_benchCount) (maxL := 1) (ret := (some .int)) (by decide) rfl ?_
  intro p e s m args below meth c s₁ B hml hv
  obtain ⟨rfl, ⟨hsz, hP, hK, hD0⟩, hC⟩ := hv
  have hx := B.exec
  have hb := B.bytes
  have hr := B.returns
  have hts := atoms_spec (ws := .code yX8_benchCount cX8_benchCount 1 (some .int) :: GW) B.pre
  have htg : ∀ w ∈ GW, w.before _ s = true := fun w h => hts w (List.mem_cons_of_mem _ h)
  have hown : s.vm.findClass RX8 = some m.cls := findClass_of_methodNamed B.named
  have hlocks := B.notSynchronized
  subst hsz
  have hD := hD0.self (sz := s.heap.size)
  generalize hAe : va_A (brkC ad Z ++ (booksC ck (ad 0) S ++ (booksC ck (ad 1) T ++ (outC ((ad 7) 1) O ++ (booksC ck (ad 2) P ++ (nobjC (ad 3) ++ (rowC ck 36 ((ad 3) 1) V ++ (rowC ck 36 ((ad 3) 2) N ++ (inputC ck ka (ad 5) I ++ (sboC (ad 6) U ++ (sbvC ck ((ad 6) 1) Y ++ (histW ck (ad 4) ra X Q)))))))))))) s.heap.size = A at hD hC ⊢
  have hA : ∀ q : Nat, s.heap.size ≤ q → A q := fun q h => by rw [← hAe]; exact Or.inr h
  have hS : va_S A s.heap s.heap [] := va_S.rf
  have hP : va_P dg vwCl (brkC ad Z ++ (booksC ck (ad 0) S ++ (booksC ck (ad 1) T ++ (outC ((ad 7) 1) O ++ (booksC ck (ad 2) P ++ (nobjC (ad 3) ++ (rowC ck 36 ((ad 3) 1) V ++ (rowC ck 36 ((ad 3) 2) N ++ (inputC ck ka (ad 5) I ++ (sboC (ad 6) U ++ (sbvC ck ((ad 6) 1) Y ++ (histW ck (ad 4) ra X Q)))))))))))) s.heap := hP
  have hl := lv_entry ([.ref ((ad 7) 0)]) (n := 1) (Nat.le_of_ble_eq_true rfl)
  rw [lg_entry_eq]
  generalize (lg_sl ([.ref ((ad 7) 0)]) ++ List.replicate (1 - (lg_sl ([.ref ((ad 7) 0)])).length) Slot.unset).toArray = ls at hl ⊢
  have hl : lv_has ls 1 [(0, .ref ((ad 7) 0))] := hl
  refine lv_aload_n hx hb dX8_benchCount_0 rfl (lv_at hl 0 rfl) ?_
  refine va_get (D := dg) (ci := 10) (v := .ref ((ad 0) 0)) (C := RX8) (T := TX8) (N := 13) hx hb htg inG_X8 hown hK hP 0 rfl rfl 0 (Nat.le_of_ble_eq_true rfl) (htg _ wq_279) (fun _ h9 => h9) rfl dX8_benchCount_1 ?_
  refine va_get (D := dg) (ci := 4) (v := .ref ((ad 0) 6)) (C := RX1) (T := TX1) (N := 13) hx hb htg inG_X1 hown hK hP 1 rfl rfl 0 (Nat.le_of_ble_eq_true rfl) (htg _ wq_107) (fun _ h9 => h9) rfl dX8_benchCount_4 ?_
  refine va_get (D := dg) (ci := 9) (v := .int (zI (S 0 0))) (C := RX6) (T := TX6) (N := 10) hx hb htg inG_X6 hown hK hP 7 rfl rfl 0 (Nat.le_of_ble_eq_true rfl) (htg _ wq_56) (fun _ h9 => h9) rfl dX8_benchCount_7 ?_
  have hEq : brkW ck ka ad ra Z O U X S T P I V N Y Q = brkC ad Z ++ (booksC ck (ad 0) S ++ (booksC ck (ad 1) T ++ (outC ((ad 7) 1) O ++ (booksC ck (ad 2) P ++ (nobjC (ad 3) ++ (rowC ck 36 ((ad 3) 1) V ++ (rowC ck 36 ((ad 3) 2) N ++ (inputC ck ka (ad 5) I ++ (sboC (ad 6) U ++ (sbvC ck ((ad 6) 1) Y ++ (histW ck (ad 4) ra X Q))))))))))) := rfl
  exact W.iret (v := _) hx hb hr (fun t9 ht9 hW9 => ⟨⟨_, (), rfl, rfl, by rw [ht9, hEq]; exact hP, by rw [hEq, hAe]; exact hD⟩, hS.F ht9⟩) hS.2.2 dX8_benchCount_10

set_option maxHeartbeats 4000000 in
set_option maxRecDepth 100000 in
/-- BenchBroker.fountainCount -/
theorem x_fountainCount (l : Launch) (dg : va_G) (ck : Nat → ClassId) (ka : Nat → Nat) (ad ra : Nat → Nat → Nat) (Z O U X : Nat → Int) (S T P I : St) (V N Y : Int → Int) (Q : Nat → St) (sz : Nat)  : Met l yX8_fountainCount (.code yX8_fountainCount cX8_fountainCount 1 (some .int) :: GW) ({ frames := 0, cells := 0, slots := 0, locals := 0 }) (va_Pc [.ref ((ad 7) 0)] (wrK dg ck ka sz (brkC ad Z ++ (booksC ck (ad 0) S ++ (booksC ck (ad 1) T ++ (outC ((ad 7) 1) O ++ (booksC ck (ad 2) P ++ (nobjC (ad 3) ++ (rowC ck 36 ((ad 3) 1) V ++ (rowC ck 36 ((ad 3) 2) N ++ (inputC ck ka (ad 5) I ++ (sboC (ad 6) U ++ (sbvC ck ((ad 6) 1) Y ++ (histW ck (ad 4) ra X Q)))))))))))))) (va_Qi (fun r (_ : Unit) => r = zI (S 0 1)) (fun _ t9 => wrQ dg sz (brkC ad Z ++ (booksC ck (ad 0) S ++ (booksC ck (ad 1) T ++ (outC ((ad 7) 1) O ++ (booksC ck (ad 2) P ++ (nobjC (ad 3) ++ (rowC ck 36 ((ad 3) 1) V ++ (rowC ck 36 ((ad 3) 2) N ++ (inputC ck ka (ad 5) I ++ (sboC (ad 6) U ++ (sbvC ck ((ad 6) 1) Y ++ (histW ck (ad 4) ra X Q)))))))))))) (brkW ck ka ad ra Z O U X S T P I V N Y Q) t9) (va_A (brkC ad Z ++ (booksC ck (ad 0) S ++ (booksC ck (ad 1) T ++ (outC ((ad 7) 1) O ++ (booksC ck (ad 2) P ++ (nobjC (ad 3) ++ (rowC ck 36 ((ad 3) 1) V ++ (rowC ck 36 ((ad 3) 2) N ++ (inputC ck ka (ad 5) I ++ (sboC (ad 6) U ++ (sbvC ck ((ad 6) 1) Y ++ (histW ck (ad 4) ra X Q)))))))))))) sz)) 0 0 (va_A (brkC ad Z ++ (booksC ck (ad 0) S ++ (booksC ck (ad 1) T ++ (outC ((ad 7) 1) O ++ (booksC ck (ad 2) P ++ (nobjC (ad 3) ++ (rowC ck 36 ((ad 3) 1) V ++ (rowC ck 36 ((ad 3) 2) N ++ (inputC ck ka (ad 5) I ++ (sboC (ad 6) U ++ (sbvC ck ((ad 6) 1) Y ++ (histW ck (ad 4) ra X Q)))))))))))) sz) := by
  refine Met.ofW (cc := cX8_fountainCount) (maxL := 1) (ret := (some .int)) (by decide) rfl ?_
  intro p e s m args below meth c s₁ B hml hv
  obtain ⟨rfl, ⟨hsz, hP, hK, hD0⟩, hC⟩ := hv
  have hx := B.exec
  have hb := B.bytes
  have hr := B.returns
  have hts := atoms_spec (ws := .code yX8_fountainCount cX8_fountainCount 1 (some .int) :: GW) B.pre
  have htg : ∀ w ∈ GW, w.before _ s = true := fun w h => hts w (List.mem_cons_of_mem _ h)
  have hown : s.vm.findClass RX8 = some m.cls := findClass_of_methodNamed B.named
  have hlocks := B.notSynchronized
  subst hsz
  have hD := hD0.self (sz := s.heap.size)
  generalize hAe : va_A (brkC ad Z ++ (booksC ck (ad 0) S ++ (booksC ck (ad 1) T ++ (outC ((ad 7) 1) O ++ (booksC ck (ad 2) P ++ (nobjC (ad 3) ++ (rowC ck 36 ((ad 3) 1) V ++ (rowC ck 36 ((ad 3) 2) N ++ (inputC ck ka (ad 5) I ++ (sboC (ad 6) U ++ (sbvC ck ((ad 6) 1) Y ++ (histW ck (ad 4) ra X Q)))))))))))) s.heap.size = A at hD hC ⊢
  have hA : ∀ q : Nat, s.heap.size ≤ q → A q := fun q h => by rw [← hAe]; exact Or.inr h
  have hS : va_S A s.heap s.heap [] := va_S.rf
  have hP : va_P dg vwCl (brkC ad Z ++ (booksC ck (ad 0) S ++ (booksC ck (ad 1) T ++ (outC ((ad 7) 1) O ++ (booksC ck (ad 2) P ++ (nobjC (ad 3) ++ (rowC ck 36 ((ad 3) 1) V ++ (rowC ck 36 ((ad 3) 2) N ++ (inputC ck ka (ad 5) I ++ (sboC (ad 6) U ++ (sbvC ck ((ad 6) 1) Y ++ (histW ck (ad 4) ra X Q)))))))))))) s.heap := hP
  have hl := lv_entry ([.ref ((ad 7) 0)]) (n := 1) (Nat.le_of_ble_eq_true rfl)
  rw [lg_entry_eq]
  generalize (lg_sl ([.ref ((ad 7) 0)]) ++ List.replicate (1 - (lg_sl ([.ref ((ad 7) 0)])).length) Slot.unset).toArray = ls at hl ⊢
  have hl : lv_has ls 1 [(0, .ref ((ad 7) 0))] := hl
  refine lv_aload_n hx hb dX8_fountainCount_0 rfl (lv_at hl 0 rfl) ?_
  refine va_get (D := dg) (ci := 10) (v := .ref ((ad 0) 0)) (C := RX8) (T := TX8) (N := 13) hx hb htg inG_X8 hown hK hP 0 rfl rfl 0 (Nat.le_of_ble_eq_true rfl) (htg _ wq_279) (fun _ h9 => h9) rfl dX8_fountainCount_1 ?_
  refine va_get (D := dg) (ci := 4) (v := .ref ((ad 0) 6)) (C := RX1) (T := TX1) (N := 13) hx hb htg inG_X1 hown hK hP 1 rfl rfl 0 (Nat.le_of_ble_eq_true rfl) (htg _ wq_107) (fun _ h9 => h9) rfl dX8_fountainCount_4 ?_
  refine va_get (D := dg) (ci := 9) (v := .int (zI (S 0 1))) (C := RX6) (T := TX6) (N := 10) hx hb htg inG_X6 hown hK hP 7 rfl rfl 4 (Nat.le_of_ble_eq_true rfl) (htg _ wq_67) (fun _ h9 => h9) rfl dX8_fountainCount_7 ?_
  have hEq : brkW ck ka ad ra Z O U X S T P I V N Y Q = brkC ad Z ++ (booksC ck (ad 0) S ++ (booksC ck (ad 1) T ++ (outC ((ad 7) 1) O ++ (booksC ck (ad 2) P ++ (nobjC (ad 3) ++ (rowC ck 36 ((ad 3) 1) V ++ (rowC ck 36 ((ad 3) 2) N ++ (inputC ck ka (ad 5) I ++ (sboC (ad 6) U ++ (sbvC ck ((ad 6) 1) Y ++ (histW ck (ad 4) ra X Q))))))))))) := rfl
  exact W.iret (v := _) hx hb hr (fun t9 ht9 hW9 => ⟨⟨_, (), rfl, rfl, by rw [ht9, hEq]; exact hP, by rw [hEq, hAe]; exact hD⟩, hS.F ht9⟩) hS.2.2 dX8_fountainCount_10

set_option maxHeartbeats 4000000 in
set_option maxRecDepth 100000 in
/-- BenchBroker.noiseLimit -/
theorem x_noiseLimit (l : Launch) (dg : va_G) (ck : Nat → ClassId) (ka : Nat → Nat) (ad ra : Nat → Nat → Nat) (Z O U X : Nat → Int) (S T P I : St) (V N Y : Int → Int) (Q : Nat → St) (sz : Nat)  : Met l yX8_noiseLimit (.code yX8_noiseLimit cX8_noiseLimit 1 (some .int) :: GW) ({ frames := 0, cells := 0, slots := 0, locals := 0 }) (va_Pc [.ref ((ad 7) 0)] (wrK dg ck ka sz (brkC ad Z ++ (booksC ck (ad 0) S ++ (booksC ck (ad 1) T ++ (outC ((ad 7) 1) O ++ (booksC ck (ad 2) P ++ (nobjC (ad 3) ++ (rowC ck 36 ((ad 3) 1) V ++ (rowC ck 36 ((ad 3) 2) N ++ (inputC ck ka (ad 5) I ++ (sboC (ad 6) U ++ (sbvC ck ((ad 6) 1) Y ++ (histW ck (ad 4) ra X Q)))))))))))))) (va_Qi (fun r (_ : Unit) => r = zI (S 0 3)) (fun _ t9 => wrQ dg sz (brkC ad Z ++ (booksC ck (ad 0) S ++ (booksC ck (ad 1) T ++ (outC ((ad 7) 1) O ++ (booksC ck (ad 2) P ++ (nobjC (ad 3) ++ (rowC ck 36 ((ad 3) 1) V ++ (rowC ck 36 ((ad 3) 2) N ++ (inputC ck ka (ad 5) I ++ (sboC (ad 6) U ++ (sbvC ck ((ad 6) 1) Y ++ (histW ck (ad 4) ra X Q)))))))))))) (brkW ck ka ad ra Z O U X S T P I V N Y Q) t9) (va_A (brkC ad Z ++ (booksC ck (ad 0) S ++ (booksC ck (ad 1) T ++ (outC ((ad 7) 1) O ++ (booksC ck (ad 2) P ++ (nobjC (ad 3) ++ (rowC ck 36 ((ad 3) 1) V ++ (rowC ck 36 ((ad 3) 2) N ++ (inputC ck ka (ad 5) I ++ (sboC (ad 6) U ++ (sbvC ck ((ad 6) 1) Y ++ (histW ck (ad 4) ra X Q)))))))))))) sz)) 0 0 (va_A (brkC ad Z ++ (booksC ck (ad 0) S ++ (booksC ck (ad 1) T ++ (outC ((ad 7) 1) O ++ (booksC ck (ad 2) P ++ (nobjC (ad 3) ++ (rowC ck 36 ((ad 3) 1) V ++ (rowC ck 36 ((ad 3) 2) N ++ (inputC ck ka (ad 5) I ++ (sboC (ad 6) U ++ (sbvC ck ((ad 6) 1) Y ++ (histW ck (ad 4) ra X Q)))))))))))) sz) := by
  refine Met.ofW (cc := cX8_noiseLimit) (maxL := 1) (ret := (some .int)) (by decide) rfl ?_
  intro p e s m args below meth c s₁ B hml hv
  obtain ⟨rfl, ⟨hsz, hP, hK, hD0⟩, hC⟩ := hv
  have hx := B.exec
  have hb := B.bytes
  have hr := B.returns
  have hts := atoms_spec (ws := .code yX8_noiseLimit cX8_noiseLimit 1 (some .int) :: GW) B.pre
  have htg : ∀ w ∈ GW, w.before _ s = true := fun w h => hts w (List.mem_cons_of_mem _ h)
  have hown : s.vm.findClass RX8 = some m.cls := findClass_of_methodNamed B.named
  have hlocks := B.notSynchronized
  subst hsz
  have hD := hD0.self (sz := s.heap.size)
  generalize hAe : va_A (brkC ad Z ++ (booksC ck (ad 0) S ++ (booksC ck (ad 1) T ++ (outC ((ad 7) 1) O ++ (booksC ck (ad 2) P ++ (nobjC (ad 3) ++ (rowC ck 36 ((ad 3) 1) V ++ (rowC ck 36 ((ad 3) 2) N ++ (inputC ck ka (ad 5) I ++ (sboC (ad 6) U ++ (sbvC ck ((ad 6) 1) Y ++ (histW ck (ad 4) ra X Q)))))))))))) s.heap.size = A at hD hC ⊢
  have hA : ∀ q : Nat, s.heap.size ≤ q → A q := fun q h => by rw [← hAe]; exact Or.inr h
  have hS : va_S A s.heap s.heap [] := va_S.rf
  have hP : va_P dg vwCl (brkC ad Z ++ (booksC ck (ad 0) S ++ (booksC ck (ad 1) T ++ (outC ((ad 7) 1) O ++ (booksC ck (ad 2) P ++ (nobjC (ad 3) ++ (rowC ck 36 ((ad 3) 1) V ++ (rowC ck 36 ((ad 3) 2) N ++ (inputC ck ka (ad 5) I ++ (sboC (ad 6) U ++ (sbvC ck ((ad 6) 1) Y ++ (histW ck (ad 4) ra X Q)))))))))))) s.heap := hP
  have hl := lv_entry ([.ref ((ad 7) 0)]) (n := 1) (Nat.le_of_ble_eq_true rfl)
  rw [lg_entry_eq]
  generalize (lg_sl ([.ref ((ad 7) 0)]) ++ List.replicate (1 - (lg_sl ([.ref ((ad 7) 0)])).length) Slot.unset).toArray = ls at hl ⊢
  have hl : lv_has ls 1 [(0, .ref ((ad 7) 0))] := hl
  refine lv_aload_n hx hb dX8_noiseLimit_0 rfl (lv_at hl 0 rfl) ?_
  refine va_get (D := dg) (ci := 10) (v := .ref ((ad 0) 0)) (C := RX8) (T := TX8) (N := 13) hx hb htg inG_X8 hown hK hP 0 rfl rfl 0 (Nat.le_of_ble_eq_true rfl) (htg _ wq_279) (fun _ h9 => h9) rfl dX8_noiseLimit_1 ?_
  refine va_get (D := dg) (ci := 4) (v := .ref ((ad 0) 6)) (C := RX1) (T := TX1) (N := 13) hx hb htg inG_X1 hown hK hP 1 rfl rfl 0 (Nat.le_of_ble_eq_true rfl) (htg _ wq_107) (fun _ h9 => h9) rfl dX8_noiseLimit_4 ?_
  refine va_get (D := dg) (ci := 9) (v := .int (zI (S 0 3))) (C := RX6) (T := TX6) (N := 10) hx hb htg inG_X6 hown hK hP 7 rfl rfl 9 (Nat.le_of_ble_eq_true rfl) (htg _ wq_79) (fun _ h9 => h9) rfl dX8_noiseLimit_7 ?_
  have hEq : brkW ck ka ad ra Z O U X S T P I V N Y Q = brkC ad Z ++ (booksC ck (ad 0) S ++ (booksC ck (ad 1) T ++ (outC ((ad 7) 1) O ++ (booksC ck (ad 2) P ++ (nobjC (ad 3) ++ (rowC ck 36 ((ad 3) 1) V ++ (rowC ck 36 ((ad 3) 2) N ++ (inputC ck ka (ad 5) I ++ (sboC (ad 6) U ++ (sbvC ck ((ad 6) 1) Y ++ (histW ck (ad 4) ra X Q))))))))))) := rfl
  exact W.iret (v := _) hx hb hr (fun t9 ht9 hW9 => ⟨⟨_, (), rfl, rfl, by rw [ht9, hEq]; exact hP, by rw [hEq, hAe]; exact hD⟩, hS.F ht9⟩) hS.2.2 dX8_noiseLimit_10

set_option maxHeartbeats 4000000 in
set_option maxRecDepth 100000 in
/-- BenchBroker.tenantCount -/
theorem x_tenantCount (l : Launch) (dg : va_G) (ck : Nat → ClassId) (ka : Nat → Nat) (ad ra : Nat → Nat → Nat) (Z O U X : Nat → Int) (S T P I : St) (V N Y : Int → Int) (Q : Nat → St) (sz : Nat)  : Met l yX8_tenantCount (.code yX8_tenantCount cX8_tenantCount 1 (some .int) :: GW) ({ frames := 0, cells := 0, slots := 0, locals := 0 }) (va_Pc [.ref ((ad 7) 0)] (wrK dg ck ka sz (brkC ad Z ++ (booksC ck (ad 0) S ++ (booksC ck (ad 1) T ++ (outC ((ad 7) 1) O ++ (booksC ck (ad 2) P ++ (nobjC (ad 3) ++ (rowC ck 36 ((ad 3) 1) V ++ (rowC ck 36 ((ad 3) 2) N ++ (inputC ck ka (ad 5) I ++ (sboC (ad 6) U ++ (sbvC ck ((ad 6) 1) Y ++ (histW ck (ad 4) ra X Q)))))))))))))) (va_Qi (fun r (_ : Unit) => r = zI (S 0 2)) (fun _ t9 => wrQ dg sz (brkC ad Z ++ (booksC ck (ad 0) S ++ (booksC ck (ad 1) T ++ (outC ((ad 7) 1) O ++ (booksC ck (ad 2) P ++ (nobjC (ad 3) ++ (rowC ck 36 ((ad 3) 1) V ++ (rowC ck 36 ((ad 3) 2) N ++ (inputC ck ka (ad 5) I ++ (sboC (ad 6) U ++ (sbvC ck ((ad 6) 1) Y ++ (histW ck (ad 4) ra X Q)))))))))))) (brkW ck ka ad ra Z O U X S T P I V N Y Q) t9) (va_A (brkC ad Z ++ (booksC ck (ad 0) S ++ (booksC ck (ad 1) T ++ (outC ((ad 7) 1) O ++ (booksC ck (ad 2) P ++ (nobjC (ad 3) ++ (rowC ck 36 ((ad 3) 1) V ++ (rowC ck 36 ((ad 3) 2) N ++ (inputC ck ka (ad 5) I ++ (sboC (ad 6) U ++ (sbvC ck ((ad 6) 1) Y ++ (histW ck (ad 4) ra X Q)))))))))))) sz)) 0 0 (va_A (brkC ad Z ++ (booksC ck (ad 0) S ++ (booksC ck (ad 1) T ++ (outC ((ad 7) 1) O ++ (booksC ck (ad 2) P ++ (nobjC (ad 3) ++ (rowC ck 36 ((ad 3) 1) V ++ (rowC ck 36 ((ad 3) 2) N ++ (inputC ck ka (ad 5) I ++ (sboC (ad 6) U ++ (sbvC ck ((ad 6) 1) Y ++ (histW ck (ad 4) ra X Q)))))))))))) sz) := by
  refine Met.ofW (cc := cX8_tenantCount) (maxL := 1) (ret := (some .int)) (by decide) rfl ?_
  intro p e s m args below meth c s₁ B hml hv
  obtain ⟨rfl, ⟨hsz, hP, hK, hD0⟩, hC⟩ := hv
  have hx := B.exec
  have hb := B.bytes
  have hr := B.returns
  have hts := atoms_spec (ws := .code yX8_tenantCount cX8_tenantCount 1 (some .int) :: GW) B.pre
  have htg : ∀ w ∈ GW, w.before _ s = true := fun w h => hts w (List.mem_cons_of_mem _ h)
  have hown : s.vm.findClass RX8 = some m.cls := findClass_of_methodNamed B.named
  have hlocks := B.notSynchronized
  subst hsz
  have hD := hD0.self (sz := s.heap.size)
  generalize hAe : va_A (brkC ad Z ++ (booksC ck (ad 0) S ++ (booksC ck (ad 1) T ++ (outC ((ad 7) 1) O ++ (booksC ck (ad 2) P ++ (nobjC (ad 3) ++ (rowC ck 36 ((ad 3) 1) V ++ (rowC ck 36 ((ad 3) 2) N ++ (inputC ck ka (ad 5) I ++ (sboC (ad 6) U ++ (sbvC ck ((ad 6) 1) Y ++ (histW ck (ad 4) ra X Q)))))))))))) s.heap.size = A at hD hC ⊢
  have hA : ∀ q : Nat, s.heap.size ≤ q → A q := fun q h => by rw [← hAe]; exact Or.inr h
  have hS : va_S A s.heap s.heap [] := va_S.rf
  have hP : va_P dg vwCl (brkC ad Z ++ (booksC ck (ad 0) S ++ (booksC ck (ad 1) T ++ (outC ((ad 7) 1) O ++ (booksC ck (ad 2) P ++ (nobjC (ad 3) ++ (rowC ck 36 ((ad 3) 1) V ++ (rowC ck 36 ((ad 3) 2) N ++ (inputC ck ka (ad 5) I ++ (sboC (ad 6) U ++ (sbvC ck ((ad 6) 1) Y ++ (histW ck (ad 4) ra X Q)))))))))))) s.heap := hP
  have hl := lv_entry ([.ref ((ad 7) 0)]) (n := 1) (Nat.le_of_ble_eq_true rfl)
  rw [lg_entry_eq]
  generalize (lg_sl ([.ref ((ad 7) 0)]) ++ List.replicate (1 - (lg_sl ([.ref ((ad 7) 0)])).length) Slot.unset).toArray = ls at hl ⊢
  have hl : lv_has ls 1 [(0, .ref ((ad 7) 0))] := hl
  refine lv_aload_n hx hb dX8_tenantCount_0 rfl (lv_at hl 0 rfl) ?_
  refine va_get (D := dg) (ci := 10) (v := .ref ((ad 0) 0)) (C := RX8) (T := TX8) (N := 13) hx hb htg inG_X8 hown hK hP 0 rfl rfl 0 (Nat.le_of_ble_eq_true rfl) (htg _ wq_279) (fun _ h9 => h9) rfl dX8_tenantCount_1 ?_
  refine va_get (D := dg) (ci := 4) (v := .int (zI (S 0 2))) (C := RX1) (T := TX1) (N := 13) hx hb htg inG_X1 hown hK hP 1 rfl rfl 1 (Nat.le_of_ble_eq_true rfl) (htg _ wq_109) (fun _ h9 => h9) rfl dX8_tenantCount_4 ?_
  have hEq : brkW ck ka ad ra Z O U X S T P I V N Y Q = brkC ad Z ++ (booksC ck (ad 0) S ++ (booksC ck (ad 1) T ++ (outC ((ad 7) 1) O ++ (booksC ck (ad 2) P ++ (nobjC (ad 3) ++ (rowC ck 36 ((ad 3) 1) V ++ (rowC ck 36 ((ad 3) 2) N ++ (inputC ck ka (ad 5) I ++ (sboC (ad 6) U ++ (sbvC ck ((ad 6) 1) Y ++ (histW ck (ad 4) ra X Q))))))))))) := rfl
  exact W.iret (v := _) hx hb hr (fun t9 ht9 hW9 => ⟨⟨_, (), rfl, rfl, by rw [ht9, hEq]; exact hP, by rw [hEq, hAe]; exact hD⟩, hS.F ht9⟩) hS.2.2 dX8_tenantCount_7

set_option maxHeartbeats 4000000 in
set_option maxRecDepth 100000 in
/-- BenchBroker.month -/
theorem x_month (l : Launch) (dg : va_G) (ck : Nat → ClassId) (ka : Nat → Nat) (ad ra : Nat → Nat → Nat) (Z O U X : Nat → Int) (S T P I : St) (V N Y : Int → Int) (Q : Nat → St) (sz : Nat)  : Met l yX8_month (.code yX8_month cX8_month 1 (some .int) :: GW) ({ frames := 0, cells := 0, slots := 0, locals := 0 }) (va_Pc [.ref ((ad 7) 0)] (wrK dg ck ka sz (brkC ad Z ++ (booksC ck (ad 0) S ++ (booksC ck (ad 1) T ++ (outC ((ad 7) 1) O ++ (booksC ck (ad 2) P ++ (nobjC (ad 3) ++ (rowC ck 36 ((ad 3) 1) V ++ (rowC ck 36 ((ad 3) 2) N ++ (inputC ck ka (ad 5) I ++ (sboC (ad 6) U ++ (sbvC ck ((ad 6) 1) Y ++ (histW ck (ad 4) ra X Q)))))))))))))) (va_Qi (fun r (_ : Unit) => r = zI (S 0 4)) (fun _ t9 => wrQ dg sz (brkC ad Z ++ (booksC ck (ad 0) S ++ (booksC ck (ad 1) T ++ (outC ((ad 7) 1) O ++ (booksC ck (ad 2) P ++ (nobjC (ad 3) ++ (rowC ck 36 ((ad 3) 1) V ++ (rowC ck 36 ((ad 3) 2) N ++ (inputC ck ka (ad 5) I ++ (sboC (ad 6) U ++ (sbvC ck ((ad 6) 1) Y ++ (histW ck (ad 4) ra X Q)))))))))))) (brkW ck ka ad ra Z O U X S T P I V N Y Q) t9) (va_A (brkC ad Z ++ (booksC ck (ad 0) S ++ (booksC ck (ad 1) T ++ (outC ((ad 7) 1) O ++ (booksC ck (ad 2) P ++ (nobjC (ad 3) ++ (rowC ck 36 ((ad 3) 1) V ++ (rowC ck 36 ((ad 3) 2) N ++ (inputC ck ka (ad 5) I ++ (sboC (ad 6) U ++ (sbvC ck ((ad 6) 1) Y ++ (histW ck (ad 4) ra X Q)))))))))))) sz)) 0 0 (va_A (brkC ad Z ++ (booksC ck (ad 0) S ++ (booksC ck (ad 1) T ++ (outC ((ad 7) 1) O ++ (booksC ck (ad 2) P ++ (nobjC (ad 3) ++ (rowC ck 36 ((ad 3) 1) V ++ (rowC ck 36 ((ad 3) 2) N ++ (inputC ck ka (ad 5) I ++ (sboC (ad 6) U ++ (sbvC ck ((ad 6) 1) Y ++ (histW ck (ad 4) ra X Q)))))))))))) sz) := by
  refine Met.ofW (cc := cX8_month) (maxL := 1) (ret := (some .int)) (by decide) rfl ?_
  intro p e s m args below meth c s₁ B hml hv
  obtain ⟨rfl, ⟨hsz, hP, hK, hD0⟩, hC⟩ := hv
  have hx := B.exec
  have hb := B.bytes
  have hr := B.returns
  have hts := atoms_spec (ws := .code yX8_month cX8_month 1 (some .int) :: GW) B.pre
  have htg : ∀ w ∈ GW, w.before _ s = true := fun w h => hts w (List.mem_cons_of_mem _ h)
  have hown : s.vm.findClass RX8 = some m.cls := findClass_of_methodNamed B.named
  have hlocks := B.notSynchronized
  subst hsz
  have hD := hD0.self (sz := s.heap.size)
  generalize hAe : va_A (brkC ad Z ++ (booksC ck (ad 0) S ++ (booksC ck (ad 1) T ++ (outC ((ad 7) 1) O ++ (booksC ck (ad 2) P ++ (nobjC (ad 3) ++ (rowC ck 36 ((ad 3) 1) V ++ (rowC ck 36 ((ad 3) 2) N ++ (inputC ck ka (ad 5) I ++ (sboC (ad 6) U ++ (sbvC ck ((ad 6) 1) Y ++ (histW ck (ad 4) ra X Q)))))))))))) s.heap.size = A at hD hC ⊢
  have hA : ∀ q : Nat, s.heap.size ≤ q → A q := fun q h => by rw [← hAe]; exact Or.inr h
  have hS : va_S A s.heap s.heap [] := va_S.rf
  have hP : va_P dg vwCl (brkC ad Z ++ (booksC ck (ad 0) S ++ (booksC ck (ad 1) T ++ (outC ((ad 7) 1) O ++ (booksC ck (ad 2) P ++ (nobjC (ad 3) ++ (rowC ck 36 ((ad 3) 1) V ++ (rowC ck 36 ((ad 3) 2) N ++ (inputC ck ka (ad 5) I ++ (sboC (ad 6) U ++ (sbvC ck ((ad 6) 1) Y ++ (histW ck (ad 4) ra X Q)))))))))))) s.heap := hP
  have hl := lv_entry ([.ref ((ad 7) 0)]) (n := 1) (Nat.le_of_ble_eq_true rfl)
  rw [lg_entry_eq]
  generalize (lg_sl ([.ref ((ad 7) 0)]) ++ List.replicate (1 - (lg_sl ([.ref ((ad 7) 0)])).length) Slot.unset).toArray = ls at hl ⊢
  have hl : lv_has ls 1 [(0, .ref ((ad 7) 0))] := hl
  refine lv_aload_n hx hb dX8_month_0 rfl (lv_at hl 0 rfl) ?_
  refine va_get (D := dg) (ci := 10) (v := .ref ((ad 0) 0)) (C := RX8) (T := TX8) (N := 13) hx hb htg inG_X8 hown hK hP 0 rfl rfl 0 (Nat.le_of_ble_eq_true rfl) (htg _ wq_279) (fun _ h9 => h9) rfl dX8_month_1 ?_
  refine va_get (D := dg) (ci := 4) (v := .int (zI (S 0 4))) (C := RX1) (T := TX1) (N := 13) hx hb htg inG_X1 hown hK hP 1 rfl rfl 7 (Nat.le_of_ble_eq_true rfl) (htg _ wq_121) (fun _ h9 => h9) rfl dX8_month_4 ?_
  have hEq : brkW ck ka ad ra Z O U X S T P I V N Y Q = brkC ad Z ++ (booksC ck (ad 0) S ++ (booksC ck (ad 1) T ++ (outC ((ad 7) 1) O ++ (booksC ck (ad 2) P ++ (nobjC (ad 3) ++ (rowC ck 36 ((ad 3) 1) V ++ (rowC ck 36 ((ad 3) 2) N ++ (inputC ck ka (ad 5) I ++ (sboC (ad 6) U ++ (sbvC ck ((ad 6) 1) Y ++ (histW ck (ad 4) ra X Q))))))))))) := rfl
  exact W.iret (v := _) hx hb hr (fun t9 ht9 hW9 => ⟨⟨_, (), rfl, rfl, by rw [ht9, hEq]; exact hP, by rw [hEq, hAe]; exact hD⟩, hS.F ht9⟩) hS.2.2 dX8_month_7

set_option maxHeartbeats 4000000 in
set_option maxRecDepth 100000 in
/-- BenchBroker.brokerCoins -/
theorem x_brokerCoins (l : Launch) (dg : va_G) (ck : Nat → ClassId) (ka : Nat → Nat) (ad ra : Nat → Nat → Nat) (Z O U X : Nat → Int) (S T P I : St) (V N Y : Int → Int) (Q : Nat → St) (sz : Nat)  : Met l yX8_brokerCoins (.code yX8_brokerCoins cX8_brokerCoins 1 (some .int) :: GW) ({ frames := 0, cells := 0, slots := 0, locals := 0 }) (va_Pc [.ref ((ad 7) 0)] (wrK dg ck ka sz (brkC ad Z ++ (booksC ck (ad 0) S ++ (booksC ck (ad 1) T ++ (outC ((ad 7) 1) O ++ (booksC ck (ad 2) P ++ (nobjC (ad 3) ++ (rowC ck 36 ((ad 3) 1) V ++ (rowC ck 36 ((ad 3) 2) N ++ (inputC ck ka (ad 5) I ++ (sboC (ad 6) U ++ (sbvC ck ((ad 6) 1) Y ++ (histW ck (ad 4) ra X Q)))))))))))))) (va_Qi (fun r (_ : Unit) => r = zI (S 0 5)) (fun _ t9 => wrQ dg sz (brkC ad Z ++ (booksC ck (ad 0) S ++ (booksC ck (ad 1) T ++ (outC ((ad 7) 1) O ++ (booksC ck (ad 2) P ++ (nobjC (ad 3) ++ (rowC ck 36 ((ad 3) 1) V ++ (rowC ck 36 ((ad 3) 2) N ++ (inputC ck ka (ad 5) I ++ (sboC (ad 6) U ++ (sbvC ck ((ad 6) 1) Y ++ (histW ck (ad 4) ra X Q)))))))))))) (brkW ck ka ad ra Z O U X S T P I V N Y Q) t9) (va_A (brkC ad Z ++ (booksC ck (ad 0) S ++ (booksC ck (ad 1) T ++ (outC ((ad 7) 1) O ++ (booksC ck (ad 2) P ++ (nobjC (ad 3) ++ (rowC ck 36 ((ad 3) 1) V ++ (rowC ck 36 ((ad 3) 2) N ++ (inputC ck ka (ad 5) I ++ (sboC (ad 6) U ++ (sbvC ck ((ad 6) 1) Y ++ (histW ck (ad 4) ra X Q)))))))))))) sz)) 0 0 (va_A (brkC ad Z ++ (booksC ck (ad 0) S ++ (booksC ck (ad 1) T ++ (outC ((ad 7) 1) O ++ (booksC ck (ad 2) P ++ (nobjC (ad 3) ++ (rowC ck 36 ((ad 3) 1) V ++ (rowC ck 36 ((ad 3) 2) N ++ (inputC ck ka (ad 5) I ++ (sboC (ad 6) U ++ (sbvC ck ((ad 6) 1) Y ++ (histW ck (ad 4) ra X Q)))))))))))) sz) := by
  refine Met.ofW (cc := cX8_brokerCoins) (maxL := 1) (ret := (some .int)) (by decide) rfl ?_
  intro p e s m args below meth c s₁ B hml hv
  obtain ⟨rfl, ⟨hsz, hP, hK, hD0⟩, hC⟩ := hv
  have hx := B.exec
  have hb := B.bytes
  have hr := B.returns
  have hts := atoms_spec (ws := .code yX8_brokerCoins cX8_brokerCoins 1 (some .int) :: GW) B.pre
  have htg : ∀ w ∈ GW, w.before _ s = true := fun w h => hts w (List.mem_cons_of_mem _ h)
  have hown : s.vm.findClass RX8 = some m.cls := findClass_of_methodNamed B.named
  have hlocks := B.notSynchronized
  subst hsz
  have hD := hD0.self (sz := s.heap.size)
  generalize hAe : va_A (brkC ad Z ++ (booksC ck (ad 0) S ++ (booksC ck (ad 1) T ++ (outC ((ad 7) 1) O ++ (booksC ck (ad 2) P ++ (nobjC (ad 3) ++ (rowC ck 36 ((ad 3) 1) V ++ (rowC ck 36 ((ad 3) 2) N ++ (inputC ck ka (ad 5) I ++ (sboC (ad 6) U ++ (sbvC ck ((ad 6) 1) Y ++ (histW ck (ad 4) ra X Q)))))))))))) s.heap.size = A at hD hC ⊢
  have hA : ∀ q : Nat, s.heap.size ≤ q → A q := fun q h => by rw [← hAe]; exact Or.inr h
  have hS : va_S A s.heap s.heap [] := va_S.rf
  have hP : va_P dg vwCl (brkC ad Z ++ (booksC ck (ad 0) S ++ (booksC ck (ad 1) T ++ (outC ((ad 7) 1) O ++ (booksC ck (ad 2) P ++ (nobjC (ad 3) ++ (rowC ck 36 ((ad 3) 1) V ++ (rowC ck 36 ((ad 3) 2) N ++ (inputC ck ka (ad 5) I ++ (sboC (ad 6) U ++ (sbvC ck ((ad 6) 1) Y ++ (histW ck (ad 4) ra X Q)))))))))))) s.heap := hP
  have hl := lv_entry ([.ref ((ad 7) 0)]) (n := 1) (Nat.le_of_ble_eq_true rfl)
  rw [lg_entry_eq]
  generalize (lg_sl ([.ref ((ad 7) 0)]) ++ List.replicate (1 - (lg_sl ([.ref ((ad 7) 0)])).length) Slot.unset).toArray = ls at hl ⊢
  have hl : lv_has ls 1 [(0, .ref ((ad 7) 0))] := hl
  refine lv_aload_n hx hb dX8_brokerCoins_0 rfl (lv_at hl 0 rfl) ?_
  refine va_get (D := dg) (ci := 10) (v := .ref ((ad 0) 0)) (C := RX8) (T := TX8) (N := 13) hx hb htg inG_X8 hown hK hP 0 rfl rfl 0 (Nat.le_of_ble_eq_true rfl) (htg _ wq_279) (fun _ h9 => h9) rfl dX8_brokerCoins_1 ?_
  refine va_get (D := dg) (ci := 4) (v := .int (zI (S 0 5))) (C := RX1) (T := TX1) (N := 13) hx hb htg inG_X1 hown hK hP 1 rfl rfl 8 (Nat.le_of_ble_eq_true rfl) (htg _ wq_123) (fun _ h9 => h9) rfl dX8_brokerCoins_4 ?_
  have hEq : brkW ck ka ad ra Z O U X S T P I V N Y Q = brkC ad Z ++ (booksC ck (ad 0) S ++ (booksC ck (ad 1) T ++ (outC ((ad 7) 1) O ++ (booksC ck (ad 2) P ++ (nobjC (ad 3) ++ (rowC ck 36 ((ad 3) 1) V ++ (rowC ck 36 ((ad 3) 2) N ++ (inputC ck ka (ad 5) I ++ (sboC (ad 6) U ++ (sbvC ck ((ad 6) 1) Y ++ (histW ck (ad 4) ra X Q))))))))))) := rfl
  exact W.iret (v := _) hx hb hr (fun t9 ht9 hW9 => ⟨⟨_, (), rfl, rfl, by rw [ht9, hEq]; exact hP, by rw [hEq, hAe]; exact hD⟩, hS.F ht9⟩) hS.2.2 dX8_brokerCoins_7

set_option maxHeartbeats 4000000 in
set_option maxRecDepth 100000 in
/-- BenchBroker.allCoinsGiven -/
theorem x_allCoinsGiven (l : Launch) (dg : va_G) (ck : Nat → ClassId) (ka : Nat → Nat) (ad ra : Nat → Nat → Nat) (Z O U X : Nat → Int) (S T P I : St) (V N Y : Int → Int) (Q : Nat → St) (sz : Nat)  : Met l yX8_allCoinsGiven (.code yX8_allCoinsGiven cX8_allCoinsGiven 1 (some .int) :: GW) ({ frames := 0, cells := 0, slots := 0, locals := 0 }) (va_Pc [.ref ((ad 7) 0)] (wrK dg ck ka sz (brkC ad Z ++ (booksC ck (ad 0) S ++ (booksC ck (ad 1) T ++ (outC ((ad 7) 1) O ++ (booksC ck (ad 2) P ++ (nobjC (ad 3) ++ (rowC ck 36 ((ad 3) 1) V ++ (rowC ck 36 ((ad 3) 2) N ++ (inputC ck ka (ad 5) I ++ (sboC (ad 6) U ++ (sbvC ck ((ad 6) 1) Y ++ (histW ck (ad 4) ra X Q)))))))))))))) (va_Qi (fun r (_ : Unit) => r = zI (S 0 6)) (fun _ t9 => wrQ dg sz (brkC ad Z ++ (booksC ck (ad 0) S ++ (booksC ck (ad 1) T ++ (outC ((ad 7) 1) O ++ (booksC ck (ad 2) P ++ (nobjC (ad 3) ++ (rowC ck 36 ((ad 3) 1) V ++ (rowC ck 36 ((ad 3) 2) N ++ (inputC ck ka (ad 5) I ++ (sboC (ad 6) U ++ (sbvC ck ((ad 6) 1) Y ++ (histW ck (ad 4) ra X Q)))))))))))) (brkW ck ka ad ra Z O U X S T P I V N Y Q) t9) (va_A (brkC ad Z ++ (booksC ck (ad 0) S ++ (booksC ck (ad 1) T ++ (outC ((ad 7) 1) O ++ (booksC ck (ad 2) P ++ (nobjC (ad 3) ++ (rowC ck 36 ((ad 3) 1) V ++ (rowC ck 36 ((ad 3) 2) N ++ (inputC ck ka (ad 5) I ++ (sboC (ad 6) U ++ (sbvC ck ((ad 6) 1) Y ++ (histW ck (ad 4) ra X Q)))))))))))) sz)) 0 0 (va_A (brkC ad Z ++ (booksC ck (ad 0) S ++ (booksC ck (ad 1) T ++ (outC ((ad 7) 1) O ++ (booksC ck (ad 2) P ++ (nobjC (ad 3) ++ (rowC ck 36 ((ad 3) 1) V ++ (rowC ck 36 ((ad 3) 2) N ++ (inputC ck ka (ad 5) I ++ (sboC (ad 6) U ++ (sbvC ck ((ad 6) 1) Y ++ (histW ck (ad 4) ra X Q)))))))))))) sz) := by
  refine Met.ofW (cc := cX8_allCoinsGiven) (maxL := 1) (ret := (some .int)) (by decide) rfl ?_
  intro p e s m args below meth c s₁ B hml hv
  obtain ⟨rfl, ⟨hsz, hP, hK, hD0⟩, hC⟩ := hv
  have hx := B.exec
  have hb := B.bytes
  have hr := B.returns
  have hts := atoms_spec (ws := .code yX8_allCoinsGiven cX8_allCoinsGiven 1 (some .int) :: GW) B.pre
  have htg : ∀ w ∈ GW, w.before _ s = true := fun w h => hts w (List.mem_cons_of_mem _ h)
  have hown : s.vm.findClass RX8 = some m.cls := findClass_of_methodNamed B.named
  have hlocks := B.notSynchronized
  subst hsz
  have hD := hD0.self (sz := s.heap.size)
  generalize hAe : va_A (brkC ad Z ++ (booksC ck (ad 0) S ++ (booksC ck (ad 1) T ++ (outC ((ad 7) 1) O ++ (booksC ck (ad 2) P ++ (nobjC (ad 3) ++ (rowC ck 36 ((ad 3) 1) V ++ (rowC ck 36 ((ad 3) 2) N ++ (inputC ck ka (ad 5) I ++ (sboC (ad 6) U ++ (sbvC ck ((ad 6) 1) Y ++ (histW ck (ad 4) ra X Q)))))))))))) s.heap.size = A at hD hC ⊢
  have hA : ∀ q : Nat, s.heap.size ≤ q → A q := fun q h => by rw [← hAe]; exact Or.inr h
  have hS : va_S A s.heap s.heap [] := va_S.rf
  have hP : va_P dg vwCl (brkC ad Z ++ (booksC ck (ad 0) S ++ (booksC ck (ad 1) T ++ (outC ((ad 7) 1) O ++ (booksC ck (ad 2) P ++ (nobjC (ad 3) ++ (rowC ck 36 ((ad 3) 1) V ++ (rowC ck 36 ((ad 3) 2) N ++ (inputC ck ka (ad 5) I ++ (sboC (ad 6) U ++ (sbvC ck ((ad 6) 1) Y ++ (histW ck (ad 4) ra X Q)))))))))))) s.heap := hP
  have hl := lv_entry ([.ref ((ad 7) 0)]) (n := 1) (Nat.le_of_ble_eq_true rfl)
  rw [lg_entry_eq]
  generalize (lg_sl ([.ref ((ad 7) 0)]) ++ List.replicate (1 - (lg_sl ([.ref ((ad 7) 0)])).length) Slot.unset).toArray = ls at hl ⊢
  have hl : lv_has ls 1 [(0, .ref ((ad 7) 0))] := hl
  refine lv_aload_n hx hb dX8_allCoinsGiven_0 rfl (lv_at hl 0 rfl) ?_
  refine va_get (D := dg) (ci := 10) (v := .ref ((ad 0) 0)) (C := RX8) (T := TX8) (N := 13) hx hb htg inG_X8 hown hK hP 0 rfl rfl 0 (Nat.le_of_ble_eq_true rfl) (htg _ wq_279) (fun _ h9 => h9) rfl dX8_allCoinsGiven_1 ?_
  refine va_get (D := dg) (ci := 4) (v := .int (zI (S 0 6))) (C := RX1) (T := TX1) (N := 13) hx hb htg inG_X1 hown hK hP 1 rfl rfl 9 (Nat.le_of_ble_eq_true rfl) (htg _ wq_125) (fun _ h9 => h9) rfl dX8_allCoinsGiven_4 ?_
  have hEq : brkW ck ka ad ra Z O U X S T P I V N Y Q = brkC ad Z ++ (booksC ck (ad 0) S ++ (booksC ck (ad 1) T ++ (outC ((ad 7) 1) O ++ (booksC ck (ad 2) P ++ (nobjC (ad 3) ++ (rowC ck 36 ((ad 3) 1) V ++ (rowC ck 36 ((ad 3) 2) N ++ (inputC ck ka (ad 5) I ++ (sboC (ad 6) U ++ (sbvC ck ((ad 6) 1) Y ++ (histW ck (ad 4) ra X Q))))))))))) := rfl
  exact W.iret (v := _) hx hb hr (fun t9 ht9 hW9 => ⟨⟨_, (), rfl, rfl, by rw [ht9, hEq]; exact hP, by rw [hEq, hAe]; exact hD⟩, hS.F ht9⟩) hS.2.2 dX8_allCoinsGiven_7

set_option maxHeartbeats 4000000 in
set_option maxRecDepth 100000 in
/-- BenchBroker.defaultedLeases -/
theorem x_defaultedLeases (l : Launch) (dg : va_G) (ck : Nat → ClassId) (ka : Nat → Nat) (ad ra : Nat → Nat → Nat) (Z O U X : Nat → Int) (S T P I : St) (V N Y : Int → Int) (Q : Nat → St) (sz : Nat)  : Met l yX8_defaultedLeases (.code yX8_defaultedLeases cX8_defaultedLeases 1 (some .int) :: GW) ({ frames := 0, cells := 0, slots := 0, locals := 0 }) (va_Pc [.ref ((ad 7) 0)] (wrK dg ck ka sz (brkC ad Z ++ (booksC ck (ad 0) S ++ (booksC ck (ad 1) T ++ (outC ((ad 7) 1) O ++ (booksC ck (ad 2) P ++ (nobjC (ad 3) ++ (rowC ck 36 ((ad 3) 1) V ++ (rowC ck 36 ((ad 3) 2) N ++ (inputC ck ka (ad 5) I ++ (sboC (ad 6) U ++ (sbvC ck ((ad 6) 1) Y ++ (histW ck (ad 4) ra X Q)))))))))))))) (va_Qi (fun r (_ : Unit) => r = zI (S 0 7)) (fun _ t9 => wrQ dg sz (brkC ad Z ++ (booksC ck (ad 0) S ++ (booksC ck (ad 1) T ++ (outC ((ad 7) 1) O ++ (booksC ck (ad 2) P ++ (nobjC (ad 3) ++ (rowC ck 36 ((ad 3) 1) V ++ (rowC ck 36 ((ad 3) 2) N ++ (inputC ck ka (ad 5) I ++ (sboC (ad 6) U ++ (sbvC ck ((ad 6) 1) Y ++ (histW ck (ad 4) ra X Q)))))))))))) (brkW ck ka ad ra Z O U X S T P I V N Y Q) t9) (va_A (brkC ad Z ++ (booksC ck (ad 0) S ++ (booksC ck (ad 1) T ++ (outC ((ad 7) 1) O ++ (booksC ck (ad 2) P ++ (nobjC (ad 3) ++ (rowC ck 36 ((ad 3) 1) V ++ (rowC ck 36 ((ad 3) 2) N ++ (inputC ck ka (ad 5) I ++ (sboC (ad 6) U ++ (sbvC ck ((ad 6) 1) Y ++ (histW ck (ad 4) ra X Q)))))))))))) sz)) 0 0 (va_A (brkC ad Z ++ (booksC ck (ad 0) S ++ (booksC ck (ad 1) T ++ (outC ((ad 7) 1) O ++ (booksC ck (ad 2) P ++ (nobjC (ad 3) ++ (rowC ck 36 ((ad 3) 1) V ++ (rowC ck 36 ((ad 3) 2) N ++ (inputC ck ka (ad 5) I ++ (sboC (ad 6) U ++ (sbvC ck ((ad 6) 1) Y ++ (histW ck (ad 4) ra X Q)))))))))))) sz) := by
  refine Met.ofW (cc := cX8_defaultedLeases) (maxL := 1) (ret := (some .int)) (by decide) rfl ?_
  intro p e s m args below meth c s₁ B hml hv
  obtain ⟨rfl, ⟨hsz, hP, hK, hD0⟩, hC⟩ := hv
  have hx := B.exec
  have hb := B.bytes
  have hr := B.returns
  have hts := atoms_spec (ws := .code yX8_defaultedLeases cX8_defaultedLeases 1 (some .int) :: GW) B.pre
  have htg : ∀ w ∈ GW, w.before _ s = true := fun w h => hts w (List.mem_cons_of_mem _ h)
  have hown : s.vm.findClass RX8 = some m.cls := findClass_of_methodNamed B.named
  have hlocks := B.notSynchronized
  subst hsz
  have hD := hD0.self (sz := s.heap.size)
  generalize hAe : va_A (brkC ad Z ++ (booksC ck (ad 0) S ++ (booksC ck (ad 1) T ++ (outC ((ad 7) 1) O ++ (booksC ck (ad 2) P ++ (nobjC (ad 3) ++ (rowC ck 36 ((ad 3) 1) V ++ (rowC ck 36 ((ad 3) 2) N ++ (inputC ck ka (ad 5) I ++ (sboC (ad 6) U ++ (sbvC ck ((ad 6) 1) Y ++ (histW ck (ad 4) ra X Q)))))))))))) s.heap.size = A at hD hC ⊢
  have hA : ∀ q : Nat, s.heap.size ≤ q → A q := fun q h => by rw [← hAe]; exact Or.inr h
  have hS : va_S A s.heap s.heap [] := va_S.rf
  have hP : va_P dg vwCl (brkC ad Z ++ (booksC ck (ad 0) S ++ (booksC ck (ad 1) T ++ (outC ((ad 7) 1) O ++ (booksC ck (ad 2) P ++ (nobjC (ad 3) ++ (rowC ck 36 ((ad 3) 1) V ++ (rowC ck 36 ((ad 3) 2) N ++ (inputC ck ka (ad 5) I ++ (sboC (ad 6) U ++ (sbvC ck ((ad 6) 1) Y ++ (histW ck (ad 4) ra X Q)))))))))))) s.heap := hP
  have hl := lv_entry ([.ref ((ad 7) 0)]) (n := 1) (Nat.le_of_ble_eq_true rfl)
  rw [lg_entry_eq]
  generalize (lg_sl ([.ref ((ad 7) 0)]) ++ List.replicate (1 - (lg_sl ([.ref ((ad 7) 0)])).length) Slot.unset).toArray = ls at hl ⊢
  have hl : lv_has ls 1 [(0, .ref ((ad 7) 0))] := hl
  refine lv_aload_n hx hb dX8_defaultedLeases_0 rfl (lv_at hl 0 rfl) ?_
  refine va_get (D := dg) (ci := 10) (v := .ref ((ad 0) 0)) (C := RX8) (T := TX8) (N := 13) hx hb htg inG_X8 hown hK hP 0 rfl rfl 0 (Nat.le_of_ble_eq_true rfl) (htg _ wq_279) (fun _ h9 => h9) rfl dX8_defaultedLeases_1 ?_
  refine va_get (D := dg) (ci := 4) (v := .int (zI (S 0 7))) (C := RX1) (T := TX1) (N := 13) hx hb htg inG_X1 hown hK hP 1 rfl rfl 10 (Nat.le_of_ble_eq_true rfl) (htg _ wq_127) (fun _ h9 => h9) rfl dX8_defaultedLeases_4 ?_
  have hEq : brkW ck ka ad ra Z O U X S T P I V N Y Q = brkC ad Z ++ (booksC ck (ad 0) S ++ (booksC ck (ad 1) T ++ (outC ((ad 7) 1) O ++ (booksC ck (ad 2) P ++ (nobjC (ad 3) ++ (rowC ck 36 ((ad 3) 1) V ++ (rowC ck 36 ((ad 3) 2) N ++ (inputC ck ka (ad 5) I ++ (sboC (ad 6) U ++ (sbvC ck ((ad 6) 1) Y ++ (histW ck (ad 4) ra X Q))))))))))) := rfl
  exact W.iret (v := _) hx hb hr (fun t9 ht9 hW9 => ⟨⟨_, (), rfl, rfl, by rw [ht9, hEq]; exact hP, by rw [hEq, hAe]; exact hD⟩, hS.F ht9⟩) hS.2.2 dX8_defaultedLeases_7

set_option maxHeartbeats 4000000 in
set_option maxRecDepth 100000 in
/-- BenchBroker.terminatedLeases -/
theorem x_terminatedLeases (l : Launch) (dg : va_G) (ck : Nat → ClassId) (ka : Nat → Nat) (ad ra : Nat → Nat → Nat) (Z O U X : Nat → Int) (S T P I : St) (V N Y : Int → Int) (Q : Nat → St) (sz : Nat)  : Met l yX8_terminatedLeases (.code yX8_terminatedLeases cX8_terminatedLeases 1 (some .int) :: GW) ({ frames := 0, cells := 0, slots := 0, locals := 0 }) (va_Pc [.ref ((ad 7) 0)] (wrK dg ck ka sz (brkC ad Z ++ (booksC ck (ad 0) S ++ (booksC ck (ad 1) T ++ (outC ((ad 7) 1) O ++ (booksC ck (ad 2) P ++ (nobjC (ad 3) ++ (rowC ck 36 ((ad 3) 1) V ++ (rowC ck 36 ((ad 3) 2) N ++ (inputC ck ka (ad 5) I ++ (sboC (ad 6) U ++ (sbvC ck ((ad 6) 1) Y ++ (histW ck (ad 4) ra X Q)))))))))))))) (va_Qi (fun r (_ : Unit) => r = zI (S 0 8)) (fun _ t9 => wrQ dg sz (brkC ad Z ++ (booksC ck (ad 0) S ++ (booksC ck (ad 1) T ++ (outC ((ad 7) 1) O ++ (booksC ck (ad 2) P ++ (nobjC (ad 3) ++ (rowC ck 36 ((ad 3) 1) V ++ (rowC ck 36 ((ad 3) 2) N ++ (inputC ck ka (ad 5) I ++ (sboC (ad 6) U ++ (sbvC ck ((ad 6) 1) Y ++ (histW ck (ad 4) ra X Q)))))))))))) (brkW ck ka ad ra Z O U X S T P I V N Y Q) t9) (va_A (brkC ad Z ++ (booksC ck (ad 0) S ++ (booksC ck (ad 1) T ++ (outC ((ad 7) 1) O ++ (booksC ck (ad 2) P ++ (nobjC (ad 3) ++ (rowC ck 36 ((ad 3) 1) V ++ (rowC ck 36 ((ad 3) 2) N ++ (inputC ck ka (ad 5) I ++ (sboC (ad 6) U ++ (sbvC ck ((ad 6) 1) Y ++ (histW ck (ad 4) ra X Q)))))))))))) sz)) 0 0 (va_A (brkC ad Z ++ (booksC ck (ad 0) S ++ (booksC ck (ad 1) T ++ (outC ((ad 7) 1) O ++ (booksC ck (ad 2) P ++ (nobjC (ad 3) ++ (rowC ck 36 ((ad 3) 1) V ++ (rowC ck 36 ((ad 3) 2) N ++ (inputC ck ka (ad 5) I ++ (sboC (ad 6) U ++ (sbvC ck ((ad 6) 1) Y ++ (histW ck (ad 4) ra X Q)))))))))))) sz) := by
  refine Met.ofW (cc := cX8_terminatedLeases) (maxL := 1) (ret := (some .int)) (by decide) rfl ?_
  intro p e s m args below meth c s₁ B hml hv
  obtain ⟨rfl, ⟨hsz, hP, hK, hD0⟩, hC⟩ := hv
  have hx := B.exec
  have hb := B.bytes
  have hr := B.returns
  have hts := atoms_spec (ws := .code yX8_terminatedLeases cX8_terminatedLeases 1 (some .int) :: GW) B.pre
  have htg : ∀ w ∈ GW, w.before _ s = true := fun w h => hts w (List.mem_cons_of_mem _ h)
  have hown : s.vm.findClass RX8 = some m.cls := findClass_of_methodNamed B.named
  have hlocks := B.notSynchronized
  subst hsz
  have hD := hD0.self (sz := s.heap.size)
  generalize hAe : va_A (brkC ad Z ++ (booksC ck (ad 0) S ++ (booksC ck (ad 1) T ++ (outC ((ad 7) 1) O ++ (booksC ck (ad 2) P ++ (nobjC (ad 3) ++ (rowC ck 36 ((ad 3) 1) V ++ (rowC ck 36 ((ad 3) 2) N ++ (inputC ck ka (ad 5) I ++ (sboC (ad 6) U ++ (sbvC ck ((ad 6) 1) Y ++ (histW ck (ad 4) ra X Q)))))))))))) s.heap.size = A at hD hC ⊢
  have hA : ∀ q : Nat, s.heap.size ≤ q → A q := fun q h => by rw [← hAe]; exact Or.inr h
  have hS : va_S A s.heap s.heap [] := va_S.rf
  have hP : va_P dg vwCl (brkC ad Z ++ (booksC ck (ad 0) S ++ (booksC ck (ad 1) T ++ (outC ((ad 7) 1) O ++ (booksC ck (ad 2) P ++ (nobjC (ad 3) ++ (rowC ck 36 ((ad 3) 1) V ++ (rowC ck 36 ((ad 3) 2) N ++ (inputC ck ka (ad 5) I ++ (sboC (ad 6) U ++ (sbvC ck ((ad 6) 1) Y ++ (histW ck (ad 4) ra X Q)))))))))))) s.heap := hP
  have hl := lv_entry ([.ref ((ad 7) 0)]) (n := 1) (Nat.le_of_ble_eq_true rfl)
  rw [lg_entry_eq]
  generalize (lg_sl ([.ref ((ad 7) 0)]) ++ List.replicate (1 - (lg_sl ([.ref ((ad 7) 0)])).length) Slot.unset).toArray = ls at hl ⊢
  have hl : lv_has ls 1 [(0, .ref ((ad 7) 0))] := hl
  refine lv_aload_n hx hb dX8_terminatedLeases_0 rfl (lv_at hl 0 rfl) ?_
  refine va_get (D := dg) (ci := 10) (v := .ref ((ad 0) 0)) (C := RX8) (T := TX8) (N := 13) hx hb htg inG_X8 hown hK hP 0 rfl rfl 0 (Nat.le_of_ble_eq_true rfl) (htg _ wq_279) (fun _ h9 => h9) rfl dX8_terminatedLeases_1 ?_
  refine va_get (D := dg) (ci := 4) (v := .int (zI (S 0 8))) (C := RX1) (T := TX1) (N := 13) hx hb htg inG_X1 hown hK hP 1 rfl rfl 11 (Nat.le_of_ble_eq_true rfl) (htg _ wq_129) (fun _ h9 => h9) rfl dX8_terminatedLeases_4 ?_
  have hEq : brkW ck ka ad ra Z O U X S T P I V N Y Q = brkC ad Z ++ (booksC ck (ad 0) S ++ (booksC ck (ad 1) T ++ (outC ((ad 7) 1) O ++ (booksC ck (ad 2) P ++ (nobjC (ad 3) ++ (rowC ck 36 ((ad 3) 1) V ++ (rowC ck 36 ((ad 3) 2) N ++ (inputC ck ka (ad 5) I ++ (sboC (ad 6) U ++ (sbvC ck ((ad 6) 1) Y ++ (histW ck (ad 4) ra X Q))))))))))) := rfl
  exact W.iret (v := _) hx hb hr (fun t9 ht9 hW9 => ⟨⟨_, (), rfl, rfl, by rw [ht9, hEq]; exact hP, by rw [hEq, hAe]; exact hD⟩, hS.F ht9⟩) hS.2.2 dX8_terminatedLeases_7

set_option maxHeartbeats 4000000 in
set_option maxRecDepth 100000 in
/-- BenchBroker.completedLeases -/
theorem x_completedLeases (l : Launch) (dg : va_G) (ck : Nat → ClassId) (ka : Nat → Nat) (ad ra : Nat → Nat → Nat) (Z O U X : Nat → Int) (S T P I : St) (V N Y : Int → Int) (Q : Nat → St) (sz : Nat)  : Met l yX8_completedLeases (.code yX8_completedLeases cX8_completedLeases 1 (some .int) :: GW) ({ frames := 0, cells := 0, slots := 0, locals := 0 }) (va_Pc [.ref ((ad 7) 0)] (wrK dg ck ka sz (brkC ad Z ++ (booksC ck (ad 0) S ++ (booksC ck (ad 1) T ++ (outC ((ad 7) 1) O ++ (booksC ck (ad 2) P ++ (nobjC (ad 3) ++ (rowC ck 36 ((ad 3) 1) V ++ (rowC ck 36 ((ad 3) 2) N ++ (inputC ck ka (ad 5) I ++ (sboC (ad 6) U ++ (sbvC ck ((ad 6) 1) Y ++ (histW ck (ad 4) ra X Q)))))))))))))) (va_Qi (fun r (_ : Unit) => r = zI (S 0 9)) (fun _ t9 => wrQ dg sz (brkC ad Z ++ (booksC ck (ad 0) S ++ (booksC ck (ad 1) T ++ (outC ((ad 7) 1) O ++ (booksC ck (ad 2) P ++ (nobjC (ad 3) ++ (rowC ck 36 ((ad 3) 1) V ++ (rowC ck 36 ((ad 3) 2) N ++ (inputC ck ka (ad 5) I ++ (sboC (ad 6) U ++ (sbvC ck ((ad 6) 1) Y ++ (histW ck (ad 4) ra X Q)))))))))))) (brkW ck ka ad ra Z O U X S T P I V N Y Q) t9) (va_A (brkC ad Z ++ (booksC ck (ad 0) S ++ (booksC ck (ad 1) T ++ (outC ((ad 7) 1) O ++ (booksC ck (ad 2) P ++ (nobjC (ad 3) ++ (rowC ck 36 ((ad 3) 1) V ++ (rowC ck 36 ((ad 3) 2) N ++ (inputC ck ka (ad 5) I ++ (sboC (ad 6) U ++ (sbvC ck ((ad 6) 1) Y ++ (histW ck (ad 4) ra X Q)))))))))))) sz)) 0 0 (va_A (brkC ad Z ++ (booksC ck (ad 0) S ++ (booksC ck (ad 1) T ++ (outC ((ad 7) 1) O ++ (booksC ck (ad 2) P ++ (nobjC (ad 3) ++ (rowC ck 36 ((ad 3) 1) V ++ (rowC ck 36 ((ad 3) 2) N ++ (inputC ck ka (ad 5) I ++ (sboC (ad 6) U ++ (sbvC ck ((ad 6) 1) Y ++ (histW ck (ad 4) ra X Q)))))))))))) sz) := by
  refine Met.ofW (cc := cX8_completedLeases) (maxL := 1) (ret := (some .int)) (by decide) rfl ?_
  intro p e s m args below meth c s₁ B hml hv
  obtain ⟨rfl, ⟨hsz, hP, hK, hD0⟩, hC⟩ := hv
  have hx := B.exec
  have hb := B.bytes
  have hr := B.returns
  have hts := atoms_spec (ws := .code yX8_completedLeases cX8_completedLeases 1 (some .int) :: GW) B.pre
  have htg : ∀ w ∈ GW, w.before _ s = true := fun w h => hts w (List.mem_cons_of_mem _ h)
  have hown : s.vm.findClass RX8 = some m.cls := findClass_of_methodNamed B.named
  have hlocks := B.notSynchronized
  subst hsz
  have hD := hD0.self (sz := s.heap.size)
  generalize hAe : va_A (brkC ad Z ++ (booksC ck (ad 0) S ++ (booksC ck (ad 1) T ++ (outC ((ad 7) 1) O ++ (booksC ck (ad 2) P ++ (nobjC (ad 3) ++ (rowC ck 36 ((ad 3) 1) V ++ (rowC ck 36 ((ad 3) 2) N ++ (inputC ck ka (ad 5) I ++ (sboC (ad 6) U ++ (sbvC ck ((ad 6) 1) Y ++ (histW ck (ad 4) ra X Q)))))))))))) s.heap.size = A at hD hC ⊢
  have hA : ∀ q : Nat, s.heap.size ≤ q → A q := fun q h => by rw [← hAe]; exact Or.inr h
  have hS : va_S A s.heap s.heap [] := va_S.rf
  have hP : va_P dg vwCl (brkC ad Z ++ (booksC ck (ad 0) S ++ (booksC ck (ad 1) T ++ (outC ((ad 7) 1) O ++ (booksC ck (ad 2) P ++ (nobjC (ad 3) ++ (rowC ck 36 ((ad 3) 1) V ++ (rowC ck 36 ((ad 3) 2) N ++ (inputC ck ka (ad 5) I ++ (sboC (ad 6) U ++ (sbvC ck ((ad 6) 1) Y ++ (histW ck (ad 4) ra X Q)))))))))))) s.heap := hP
  have hl := lv_entry ([.ref ((ad 7) 0)]) (n := 1) (Nat.le_of_ble_eq_true rfl)
  rw [lg_entry_eq]
  generalize (lg_sl ([.ref ((ad 7) 0)]) ++ List.replicate (1 - (lg_sl ([.ref ((ad 7) 0)])).length) Slot.unset).toArray = ls at hl ⊢
  have hl : lv_has ls 1 [(0, .ref ((ad 7) 0))] := hl
  refine lv_aload_n hx hb dX8_completedLeases_0 rfl (lv_at hl 0 rfl) ?_
  refine va_get (D := dg) (ci := 10) (v := .ref ((ad 0) 0)) (C := RX8) (T := TX8) (N := 13) hx hb htg inG_X8 hown hK hP 0 rfl rfl 0 (Nat.le_of_ble_eq_true rfl) (htg _ wq_279) (fun _ h9 => h9) rfl dX8_completedLeases_1 ?_
  refine va_get (D := dg) (ci := 4) (v := .int (zI (S 0 9))) (C := RX1) (T := TX1) (N := 13) hx hb htg inG_X1 hown hK hP 1 rfl rfl 12 (Nat.le_of_ble_eq_true rfl) (htg _ wq_131) (fun _ h9 => h9) rfl dX8_completedLeases_4 ?_
  have hEq : brkW ck ka ad ra Z O U X S T P I V N Y Q = brkC ad Z ++ (booksC ck (ad 0) S ++ (booksC ck (ad 1) T ++ (outC ((ad 7) 1) O ++ (booksC ck (ad 2) P ++ (nobjC (ad 3) ++ (rowC ck 36 ((ad 3) 1) V ++ (rowC ck 36 ((ad 3) 2) N ++ (inputC ck ka (ad 5) I ++ (sboC (ad 6) U ++ (sbvC ck ((ad 6) 1) Y ++ (histW ck (ad 4) ra X Q))))))))))) := rfl
  exact W.iret (v := _) hx hb hr (fun t9 ht9 hW9 => ⟨⟨_, (), rfl, rfl, by rw [ht9, hEq]; exact hP, by rw [hEq, hAe]; exact hD⟩, hS.F ht9⟩) hS.2.2 dX8_completedLeases_7

set_option maxHeartbeats 4000000 in
set_option maxRecDepth 100000 in
/-- BenchBroker.depositTotal -/
theorem x_depositTotal (l : Launch) (dg : va_G) (ck : Nat → ClassId) (ka : Nat → Nat) (ad ra : Nat → Nat → Nat) (Z O U X : Nat → Int) (S T P I : St) (V N Y : Int → Int) (Q : Nat → St) (sz : Nat) (hI : Bd S) : Met l yX8_depositTotal (.code yX8_depositTotal cX8_depositTotal 1 (some .int) :: GW) ({ frames := 1, cells := 0, slots := 0, locals := 22 }) (va_Pc [.ref ((ad 7) 0)] (wrK dg ck ka sz (brkC ad Z ++ (booksC ck (ad 0) S ++ (booksC ck (ad 1) T ++ (outC ((ad 7) 1) O ++ (booksC ck (ad 2) P ++ (nobjC (ad 3) ++ (rowC ck 36 ((ad 3) 1) V ++ (rowC ck 36 ((ad 3) 2) N ++ (inputC ck ka (ad 5) I ++ (sboC (ad 6) U ++ (sbvC ck ((ad 6) 1) Y ++ (histW ck (ad 4) ra X Q)))))))))))))) (va_Qi (fun r (_ : Unit) => r = zI (deps S)) (fun _ t9 => wrQ dg sz (brkC ad Z ++ (booksC ck (ad 0) S ++ (booksC ck (ad 1) T ++ (outC ((ad 7) 1) O ++ (booksC ck (ad 2) P ++ (nobjC (ad 3) ++ (rowC ck 36 ((ad 3) 1) V ++ (rowC ck 36 ((ad 3) 2) N ++ (inputC ck ka (ad 5) I ++ (sboC (ad 6) U ++ (sbvC ck ((ad 6) 1) Y ++ (histW ck (ad 4) ra X Q)))))))))))) (brkW ck ka ad ra Z O U X S T P I V N Y Q) t9) (va_A (brkC ad Z ++ (booksC ck (ad 0) S ++ (booksC ck (ad 1) T ++ (outC ((ad 7) 1) O ++ (booksC ck (ad 2) P ++ (nobjC (ad 3) ++ (rowC ck 36 ((ad 3) 1) V ++ (rowC ck 36 ((ad 3) 2) N ++ (inputC ck ka (ad 5) I ++ (sboC (ad 6) U ++ (sbvC ck ((ad 6) 1) Y ++ (histW ck (ad 4) ra X Q)))))))))))) sz)) 0 0 (va_A (brkC ad Z ++ (booksC ck (ad 0) S ++ (booksC ck (ad 1) T ++ (outC ((ad 7) 1) O ++ (booksC ck (ad 2) P ++ (nobjC (ad 3) ++ (rowC ck 36 ((ad 3) 1) V ++ (rowC ck 36 ((ad 3) 2) N ++ (inputC ck ka (ad 5) I ++ (sboC (ad 6) U ++ (sbvC ck ((ad 6) 1) Y ++ (histW ck (ad 4) ra X Q)))))))))))) sz) := by
  refine Met.ofW (cc := cX8_depositTotal) (maxL := 1) (ret := (some .int)) (by decide) rfl ?_
  intro p e s m args below meth c s₁ B hml hv
  obtain ⟨rfl, ⟨hsz, hP, hK, hD0⟩, hC⟩ := hv
  have hx := B.exec
  have hb := B.bytes
  have hr := B.returns
  have hts := atoms_spec (ws := .code yX8_depositTotal cX8_depositTotal 1 (some .int) :: GW) B.pre
  have htg : ∀ w ∈ GW, w.before _ s = true := fun w h => hts w (List.mem_cons_of_mem _ h)
  have hown : s.vm.findClass RX8 = some m.cls := findClass_of_methodNamed B.named
  have hlocks := B.notSynchronized
  subst hsz
  have hD := hD0.self (sz := s.heap.size)
  generalize hAe : va_A (brkC ad Z ++ (booksC ck (ad 0) S ++ (booksC ck (ad 1) T ++ (outC ((ad 7) 1) O ++ (booksC ck (ad 2) P ++ (nobjC (ad 3) ++ (rowC ck 36 ((ad 3) 1) V ++ (rowC ck 36 ((ad 3) 2) N ++ (inputC ck ka (ad 5) I ++ (sboC (ad 6) U ++ (sbvC ck ((ad 6) 1) Y ++ (histW ck (ad 4) ra X Q)))))))))))) s.heap.size = A at hD hC ⊢
  have hA : ∀ q : Nat, s.heap.size ≤ q → A q := fun q h => by rw [← hAe]; exact Or.inr h
  have hS : va_S A s.heap s.heap [] := va_S.rf
  have hP : va_P dg vwCl (brkC ad Z ++ (booksC ck (ad 0) S ++ (booksC ck (ad 1) T ++ (outC ((ad 7) 1) O ++ (booksC ck (ad 2) P ++ (nobjC (ad 3) ++ (rowC ck 36 ((ad 3) 1) V ++ (rowC ck 36 ((ad 3) 2) N ++ (inputC ck ka (ad 5) I ++ (sboC (ad 6) U ++ (sbvC ck ((ad 6) 1) Y ++ (histW ck (ad 4) ra X Q)))))))))))) s.heap := hP
  have hl := lv_entry ([.ref ((ad 7) 0)]) (n := 1) (Nat.le_of_ble_eq_true rfl)
  rw [lg_entry_eq]
  generalize (lg_sl ([.ref ((ad 7) 0)]) ++ List.replicate (1 - (lg_sl ([.ref ((ad 7) 0)])).length) Slot.unset).toArray = ls at hl ⊢
  have hl : lv_has ls 1 [(0, .ref ((ad 7) 0))] := hl
  refine lv_aload_n hx hb dX8_depositTotal_0 rfl (lv_at hl 0 rfl) ?_
  refine va_get (D := dg) (ci := 10) (v := .ref ((ad 0) 0)) (C := RX8) (T := TX8) (N := 13) hx hb htg inG_X8 hown hK hP 0 rfl rfl 0 (Nat.le_of_ble_eq_true rfl) (htg _ wq_279) (fun _ h9 => h9) rfl dX8_depositTotal_1 ?_
  refine vp_callSi (W.runV (As := []) (rest := []) ⟨hx, hb, hml, hown, htg⟩ (c_deposits l dg ck (ad 0) S hI) (cwV 0 htg (gwV wq_1512 wq_1513 wq_1514 wq_2 wq_1515) rfl rfl rfl (by decide +kernel) ⟨Nat.le_of_ble_eq_true rfl, Nat.le_of_ble_eq_true rfl⟩) (rd_preV hK (va_P_l (va_P_r hP)) 0 4 rfl rfl) rfl rfl hl.1 rfl (lv_room (Nat.le_of_ble_eq_true rfl)) dX8_depositTotal_4 ⟨Nat.zero_le _, Nat.zero_le _⟩) (fun r4 hr4 => ?_)
  subst hr4
  have hEq : brkW ck ka ad ra Z O U X S T P I V N Y Q = brkC ad Z ++ (booksC ck (ad 0) S ++ (booksC ck (ad 1) T ++ (outC ((ad 7) 1) O ++ (booksC ck (ad 2) P ++ (nobjC (ad 3) ++ (rowC ck 36 ((ad 3) 1) V ++ (rowC ck 36 ((ad 3) 2) N ++ (inputC ck ka (ad 5) I ++ (sboC (ad 6) U ++ (sbvC ck ((ad 6) 1) Y ++ (histW ck (ad 4) ra X Q))))))))))) := rfl
  exact W.iret (v := _) hx hb hr (fun t9 ht9 hW9 => ⟨⟨_, (), rfl, rfl, by rw [ht9, hEq]; exact hP, by rw [hEq, hAe]; exact hD⟩, hS.F ht9⟩) hS.2.2 dX8_depositTotal_7

set_option maxHeartbeats 4000000 in
set_option maxRecDepth 100000 in
/-- BenchBroker.allCoins -/
theorem x_allCoins (l : Launch) (dg : va_G) (ck : Nat → ClassId) (ka : Nat → Nat) (ad ra : Nat → Nat → Nat) (Z O U X : Nat → Int) (S T P I : St) (V N Y : Int → Int) (Q : Nat → St) (sz : Nat) (hI : Bd S) : Met l yX8_allCoins (.code yX8_allCoins cX8_allCoins 1 (some .int) :: GW) ({ frames := 2, cells := 0, slots := 0, locals := 44 }) (va_Pc [.ref ((ad 7) 0)] (wrK dg ck ka sz (brkC ad Z ++ (booksC ck (ad 0) S ++ (booksC ck (ad 1) T ++ (outC ((ad 7) 1) O ++ (booksC ck (ad 2) P ++ (nobjC (ad 3) ++ (rowC ck 36 ((ad 3) 1) V ++ (rowC ck 36 ((ad 3) 2) N ++ (inputC ck ka (ad 5) I ++ (sboC (ad 6) U ++ (sbvC ck ((ad 6) 1) Y ++ (histW ck (ad 4) ra X Q)))))))))))))) (va_Qi (fun r (_ : Unit) => r = zI (coinsA S)) (fun _ t9 => wrQ dg sz (brkC ad Z ++ (booksC ck (ad 0) S ++ (booksC ck (ad 1) T ++ (outC ((ad 7) 1) O ++ (booksC ck (ad 2) P ++ (nobjC (ad 3) ++ (rowC ck 36 ((ad 3) 1) V ++ (rowC ck 36 ((ad 3) 2) N ++ (inputC ck ka (ad 5) I ++ (sboC (ad 6) U ++ (sbvC ck ((ad 6) 1) Y ++ (histW ck (ad 4) ra X Q)))))))))))) (brkW ck ka ad ra Z O U X S T P I V N Y Q) t9) (va_A (brkC ad Z ++ (booksC ck (ad 0) S ++ (booksC ck (ad 1) T ++ (outC ((ad 7) 1) O ++ (booksC ck (ad 2) P ++ (nobjC (ad 3) ++ (rowC ck 36 ((ad 3) 1) V ++ (rowC ck 36 ((ad 3) 2) N ++ (inputC ck ka (ad 5) I ++ (sboC (ad 6) U ++ (sbvC ck ((ad 6) 1) Y ++ (histW ck (ad 4) ra X Q)))))))))))) sz)) 0 0 (va_A (brkC ad Z ++ (booksC ck (ad 0) S ++ (booksC ck (ad 1) T ++ (outC ((ad 7) 1) O ++ (booksC ck (ad 2) P ++ (nobjC (ad 3) ++ (rowC ck 36 ((ad 3) 1) V ++ (rowC ck 36 ((ad 3) 2) N ++ (inputC ck ka (ad 5) I ++ (sboC (ad 6) U ++ (sbvC ck ((ad 6) 1) Y ++ (histW ck (ad 4) ra X Q)))))))))))) sz) := by
  refine Met.ofW (cc := cX8_allCoins) (maxL := 1) (ret := (some .int)) (by decide) rfl ?_
  intro p e s m args below meth c s₁ B hml hv
  obtain ⟨rfl, ⟨hsz, hP, hK, hD0⟩, hC⟩ := hv
  have hx := B.exec
  have hb := B.bytes
  have hr := B.returns
  have hts := atoms_spec (ws := .code yX8_allCoins cX8_allCoins 1 (some .int) :: GW) B.pre
  have htg : ∀ w ∈ GW, w.before _ s = true := fun w h => hts w (List.mem_cons_of_mem _ h)
  have hown : s.vm.findClass RX8 = some m.cls := findClass_of_methodNamed B.named
  have hlocks := B.notSynchronized
  subst hsz
  have hD := hD0.self (sz := s.heap.size)
  generalize hAe : va_A (brkC ad Z ++ (booksC ck (ad 0) S ++ (booksC ck (ad 1) T ++ (outC ((ad 7) 1) O ++ (booksC ck (ad 2) P ++ (nobjC (ad 3) ++ (rowC ck 36 ((ad 3) 1) V ++ (rowC ck 36 ((ad 3) 2) N ++ (inputC ck ka (ad 5) I ++ (sboC (ad 6) U ++ (sbvC ck ((ad 6) 1) Y ++ (histW ck (ad 4) ra X Q)))))))))))) s.heap.size = A at hD hC ⊢
  have hA : ∀ q : Nat, s.heap.size ≤ q → A q := fun q h => by rw [← hAe]; exact Or.inr h
  have hS : va_S A s.heap s.heap [] := va_S.rf
  have hP : va_P dg vwCl (brkC ad Z ++ (booksC ck (ad 0) S ++ (booksC ck (ad 1) T ++ (outC ((ad 7) 1) O ++ (booksC ck (ad 2) P ++ (nobjC (ad 3) ++ (rowC ck 36 ((ad 3) 1) V ++ (rowC ck 36 ((ad 3) 2) N ++ (inputC ck ka (ad 5) I ++ (sboC (ad 6) U ++ (sbvC ck ((ad 6) 1) Y ++ (histW ck (ad 4) ra X Q)))))))))))) s.heap := hP
  have hl := lv_entry ([.ref ((ad 7) 0)]) (n := 1) (Nat.le_of_ble_eq_true rfl)
  rw [lg_entry_eq]
  generalize (lg_sl ([.ref ((ad 7) 0)]) ++ List.replicate (1 - (lg_sl ([.ref ((ad 7) 0)])).length) Slot.unset).toArray = ls at hl ⊢
  have hl : lv_has ls 1 [(0, .ref ((ad 7) 0))] := hl
  refine lv_aload_n hx hb dX8_allCoins_0 rfl (lv_at hl 0 rfl) ?_
  refine va_get (D := dg) (ci := 10) (v := .ref ((ad 0) 0)) (C := RX8) (T := TX8) (N := 13) hx hb htg inG_X8 hown hK hP 0 rfl rfl 0 (Nat.le_of_ble_eq_true rfl) (htg _ wq_279) (fun _ h9 => h9) rfl dX8_allCoins_1 ?_
  refine vp_callSi (W.runV (As := []) (rest := []) ⟨hx, hb, hml, hown, htg⟩ (c_coinsAround l dg ck (ad 0) S hI) (cwV 0 htg (gwV wq_1520 wq_1521 wq_1522 wq_2 wq_1523) rfl rfl rfl (by decide +kernel) ⟨Nat.le_of_ble_eq_true rfl, Nat.le_of_ble_eq_true rfl⟩) (rd_preV hK (va_P_l (va_P_r hP)) 0 4 rfl rfl) rfl rfl hl.1 rfl (lv_room (Nat.le_of_ble_eq_true rfl)) dX8_allCoins_4 ⟨Nat.zero_le _, Nat.zero_le _⟩) (fun r4 hr4 => ?_)
  subst hr4
  have hEq : brkW ck ka ad ra Z O U X S T P I V N Y Q = brkC ad Z ++ (booksC ck (ad 0) S ++ (booksC ck (ad 1) T ++ (outC ((ad 7) 1) O ++ (booksC ck (ad 2) P ++ (nobjC (ad 3) ++ (rowC ck 36 ((ad 3) 1) V ++ (rowC ck 36 ((ad 3) 2) N ++ (inputC ck ka (ad 5) I ++ (sboC (ad 6) U ++ (sbvC ck ((ad 6) 1) Y ++ (histW ck (ad 4) ra X Q))))))))))) := rfl
  exact W.iret (v := _) hx hb hr (fun t9 ht9 hW9 => ⟨⟨_, (), rfl, rfl, by rw [ht9, hEq]; exact hP, by rw [hEq, hAe]; exact hD⟩, hS.F ht9⟩) hS.2.2 dX8_allCoins_7

set_option maxHeartbeats 4000000 in
set_option maxRecDepth 100000 in
/-- BenchBroker.quietCount -/
theorem x_quietCount (l : Launch) (dg : va_G) (ck : Nat → ClassId) (ka : Nat → Nat) (ad ra : Nat → Nat → Nat) (Z O U X : Nat → Int) (S T P I : St) (V N Y : Int → Int) (Q : Nat → St) (sz : Nat) (hI : Bd S) : Met l yX8_quietCount (.code yX8_quietCount cX8_quietCount 3 (some .int) :: GW) ({ frames := 3, cells := 0, slots := 0, locals := 68 }) (va_Pc [.ref ((ad 7) 0)] (wrK dg ck ka sz (brkC ad Z ++ (booksC ck (ad 0) S ++ (booksC ck (ad 1) T ++ (outC ((ad 7) 1) O ++ (booksC ck (ad 2) P ++ (nobjC (ad 3) ++ (rowC ck 36 ((ad 3) 1) V ++ (rowC ck 36 ((ad 3) 2) N ++ (inputC ck ka (ad 5) I ++ (sboC (ad 6) U ++ (sbvC ck ((ad 6) 1) Y ++ (histW ck (ad 4) ra X Q)))))))))))))) (va_Qi (fun r (_ : Unit) => r = zI (sumZ (fun o => bI (quietB S o)) (S 0 0).toNat)) (fun _ t9 => wrQ dg sz (brkC ad Z ++ (booksC ck (ad 0) S ++ (booksC ck (ad 1) T ++ (outC ((ad 7) 1) O ++ (booksC ck (ad 2) P ++ (nobjC (ad 3) ++ (rowC ck 36 ((ad 3) 1) V ++ (rowC ck 36 ((ad 3) 2) N ++ (inputC ck ka (ad 5) I ++ (sboC (ad 6) U ++ (sbvC ck ((ad 6) 1) Y ++ (histW ck (ad 4) ra X Q)))))))))))) (brkW ck ka ad ra Z O U X S T P I V N Y Q) t9) (va_A (brkC ad Z ++ (booksC ck (ad 0) S ++ (booksC ck (ad 1) T ++ (outC ((ad 7) 1) O ++ (booksC ck (ad 2) P ++ (nobjC (ad 3) ++ (rowC ck 36 ((ad 3) 1) V ++ (rowC ck 36 ((ad 3) 2) N ++ (inputC ck ka (ad 5) I ++ (sboC (ad 6) U ++ (sbvC ck ((ad 6) 1) Y ++ (histW ck (ad 4) ra X Q)))))))))))) sz)) 0 0 (va_A (brkC ad Z ++ (booksC ck (ad 0) S ++ (booksC ck (ad 1) T ++ (outC ((ad 7) 1) O ++ (booksC ck (ad 2) P ++ (nobjC (ad 3) ++ (rowC ck 36 ((ad 3) 1) V ++ (rowC ck 36 ((ad 3) 2) N ++ (inputC ck ka (ad 5) I ++ (sboC (ad 6) U ++ (sbvC ck ((ad 6) 1) Y ++ (histW ck (ad 4) ra X Q)))))))))))) sz) := by
  refine Met.ofW (cc := cX8_quietCount) (maxL := 3) (ret := (some .int)) (by decide) rfl ?_
  intro p e s m args below meth c s₁ B hml hv
  obtain ⟨rfl, ⟨hsz, hP, hK, hD0⟩, hC⟩ := hv
  have hx := B.exec
  have hb := B.bytes
  have hr := B.returns
  have hts := atoms_spec (ws := .code yX8_quietCount cX8_quietCount 3 (some .int) :: GW) B.pre
  have htg : ∀ w ∈ GW, w.before _ s = true := fun w h => hts w (List.mem_cons_of_mem _ h)
  have hown : s.vm.findClass RX8 = some m.cls := findClass_of_methodNamed B.named
  have hlocks := B.notSynchronized
  subst hsz
  have hD := hD0.self (sz := s.heap.size)
  generalize hAe : va_A (brkC ad Z ++ (booksC ck (ad 0) S ++ (booksC ck (ad 1) T ++ (outC ((ad 7) 1) O ++ (booksC ck (ad 2) P ++ (nobjC (ad 3) ++ (rowC ck 36 ((ad 3) 1) V ++ (rowC ck 36 ((ad 3) 2) N ++ (inputC ck ka (ad 5) I ++ (sboC (ad 6) U ++ (sbvC ck ((ad 6) 1) Y ++ (histW ck (ad 4) ra X Q)))))))))))) s.heap.size = A at hD hC ⊢
  have hA : ∀ q : Nat, s.heap.size ≤ q → A q := fun q h => by rw [← hAe]; exact Or.inr h
  have hS : va_S A s.heap s.heap [] := va_S.rf
  have hP : va_P dg vwCl (brkC ad Z ++ (booksC ck (ad 0) S ++ (booksC ck (ad 1) T ++ (outC ((ad 7) 1) O ++ (booksC ck (ad 2) P ++ (nobjC (ad 3) ++ (rowC ck 36 ((ad 3) 1) V ++ (rowC ck 36 ((ad 3) 2) N ++ (inputC ck ka (ad 5) I ++ (sboC (ad 6) U ++ (sbvC ck ((ad 6) 1) Y ++ (histW ck (ad 4) ra X Q)))))))))))) s.heap := hP
  have hl := lv_entry ([.ref ((ad 7) 0)]) (n := 3) (Nat.le_of_ble_eq_true rfl)
  rw [lg_entry_eq]
  generalize (lg_sl ([.ref ((ad 7) 0)]) ++ List.replicate (3 - (lg_sl ([.ref ((ad 7) 0)])).length) Slot.unset).toArray = ls at hl ⊢
  have hl : lv_has ls 3 [(0, .ref ((ad 7) 0))] := hl
  obtain ⟨b00, b01, b02, b03, b1, b2, b3, b4, b5, b6, b7, b8, b9, b10, b11, b12⟩ := id hI
  refine x_iconst hx hb dX8_quietCount_0 ?_
  refine lv_istore_n (lv' := [(1, .int (zI 0)), (0, .ref ((ad 7) 0))]) hx hb dX8_quietCount_1 rfl hl (by decide) rfl (fun ls hl => ?_)
  refine x_iconst hx hb dX8_quietCount_2 ?_
  refine lv_istore_n (lv' := [(2, .int (zI 0)), (1, .int (zI 0)), (0, .ref ((ad 7) 0))]) hx hb dX8_quietCount_3 rfl hl (by decide) rfl (fun ls hl => ?_)
  refine x_loopW (ι := Int × Int) (fun v => (0 ≤ v.2 ∧ v.2 ≤ S 0 0) ∧ v.1 = sumZ (fun o => bI (quietB S o)) v.2.toNat) (fun v => (S 0 0 - v.2).toNat) (fun v => [(0, .ref ((ad 7) 0)), (1, .int (zI v.1)), (2, .int (zI v.2))]) (fun v => brkC ad Z ++ (booksC ck (ad 0) S ++ (booksC ck (ad 1) T ++ (outC ((ad 7) 1) O ++ (booksC ck (ad 2) P ++ (nobjC (ad 3) ++ (rowC ck 36 ((ad 3) 1) V ++ (rowC ck 36 ((ad 3) 2) N ++ (inputC ck ka (ad 5) I ++ (sboC (ad 6) U ++ (sbvC ck ((ad 6) 1) Y ++ (histW ck (ad 4) ra X Q)))))))))))) (0, 0) (show (0 ≤ (0 : Int) ∧ (0 : Int) ≤ S 0 0) ∧ (0 : Int) = sumZ (fun o => bI (quietB S o)) (0 : Int).toNat from ⟨by omega, rfl⟩) (lv_sub hl [2, 1, 0] rfl) hP hD hS ?_
  intro v hv ih_4 ls H locs hl hP hD hS
  obtain ⟨u, i⟩ := v
  have hl : lv_has ls 3 [(0, .ref ((ad 7) 0)), (1, .int (zI u)), (2, .int (zI i))] := hl
  have hv : (0 ≤ i ∧ i ≤ S 0 0) ∧ u = sumZ (fun o => bI (quietB S o)) i.toNat := hv
  have hP : va_P dg vwCl (brkC ad Z ++ (booksC ck (ad 0) S ++ (booksC ck (ad 1) T ++ (outC ((ad 7) 1) O ++ (booksC ck (ad 2) P ++ (nobjC (ad 3) ++ (rowC ck 36 ((ad 3) 1) V ++ (rowC ck 36 ((ad 3) 2) N ++ (inputC ck ka (ad 5) I ++ (sboC (ad 6) U ++ (sbvC ck ((ad 6) 1) Y ++ (histW ck (ad 4) ra X Q)))))))))))) H := hP
  have hD : va_D A (brkC ad Z ++ (booksC ck (ad 0) S ++ (booksC ck (ad 1) T ++ (outC ((ad 7) 1) O ++ (booksC ck (ad 2) P ++ (nobjC (ad 3) ++ (rowC ck 36 ((ad 3) 1) V ++ (rowC ck 36 ((ad 3) 2) N ++ (inputC ck ka (ad 5) I ++ (sboC (ad 6) U ++ (sbvC ck ((ad 6) 1) Y ++ (histW ck (ad 4) ra X Q)))))))))))) := hD
  obtain ⟨hi, hu⟩ := hv
  refine lv_iload_n hx hb dX8_quietCount_4 rfl (lv_at hl 2 rfl) ?_
  refine lv_aload_n hx hb dX8_quietCount_5 rfl (lv_at hl 0 rfl) ?_
  refine va_get (D := dg) (ci := 10) (v := .ref ((ad 0) 0)) (C := RX8) (T := TX8) (N := 13) hx hb htg inG_X8 hown hK hP 0 rfl rfl 0 (Nat.le_of_ble_eq_true rfl) (htg _ wq_279) (fun _ h9 => h9) rfl dX8_quietCount_6 ?_
  refine va_get (D := dg) (ci := 4) (v := .ref ((ad 0) 6)) (C := RX1) (T := TX1) (N := 13) hx hb htg inG_X1 hown hK hP 1 rfl rfl 0 (Nat.le_of_ble_eq_true rfl) (htg _ wq_107) (fun _ h9 => h9) rfl dX8_quietCount_9 ?_
  refine va_get (D := dg) (ci := 9) (v := .int (zI (S 0 0))) (C := RX6) (T := TX6) (N := 10) hx hb htg inG_X6 hown hK hP 7 rfl rfl 0 (Nat.le_of_ble_eq_true rfl) (htg _ wq_56) (fun _ h9 => h9) rfl dX8_quietCount_12 ?_
  refine x_icmp_ge (tgt := 41) hx hb dX8_quietCount_15 (by decide) (by omega) (by omega) (fun c15 => ?_) (fun c15 => ?_)
  · refine lv_iload_n hx hb dX8_quietCount_41 rfl (lv_at hl 1 rfl) ?_
    have hEq : brkW ck ka ad ra Z O U X S T P I V N Y Q = brkC ad Z ++ (booksC ck (ad 0) S ++ (booksC ck (ad 1) T ++ (outC ((ad 7) 1) O ++ (booksC ck (ad 2) P ++ (nobjC (ad 3) ++ (rowC ck 36 ((ad 3) 1) V ++ (rowC ck 36 ((ad 3) 2) N ++ (inputC ck ka (ad 5) I ++ (sboC (ad 6) U ++ (sbvC ck ((ad 6) 1) Y ++ (histW ck (ad 4) ra X Q))))))))))) := rfl
    exact W.iret (v := _) hx hb hr (fun t9 ht9 hW9 => ⟨⟨_, (), rfl, (by rw [hu, show i = S 0 0 by omega]), by rw [ht9, hEq]; exact hP, by rw [hEq, hAe]; exact hD⟩, hS.F ht9⟩) hS.2.2 dX8_quietCount_42
  · refine lv_aload_n hx hb dX8_quietCount_18 rfl (lv_at hl 0 rfl) ?_
    refine va_get (D := dg) (ci := 10) (v := .ref ((ad 0) 0)) (C := RX8) (T := TX8) (N := 13) hx hb htg inG_X8 hown hK hP 0 rfl rfl 0 (Nat.le_of_ble_eq_true rfl) (htg _ wq_279) (fun _ h9 => h9) rfl dX8_quietCount_19 ?_
    refine va_get (D := dg) (ci := 4) (v := .ref ((ad 0) 6)) (C := RX1) (T := TX1) (N := 13) hx hb htg inG_X1 hown hK hP 1 rfl rfl 0 (Nat.le_of_ble_eq_true rfl) (htg _ wq_107) (fun _ h9 => h9) rfl dX8_quietCount_22 ?_
    refine lv_iload_n hx hb dX8_quietCount_25 rfl (lv_at hl 2 rfl) ?_
    refine vp_callSi (W.runV (As := [.int (zI i)]) (rest := []) ⟨hx, hb, hml, hown, htg⟩ (c_quiet l dg ck (pa (ad 0)) S i hI (by omega)) (cwV 1 htg (gwV wq_562 wq_521 wq_522 wq_3 wq_523) rfl rfl rfl (by decide +kernel) ⟨Nat.le_of_ble_eq_true rfl, Nat.le_of_ble_eq_true rfl⟩) (rd_preV hK (va_P_r (w1 := bookC ck (ad 0) S) (w2 := parkC ck (pa (ad 0)) S) (va_P_l (va_P_r hP))) 0 9 rfl rfl) rfl rfl hl.1 rfl (lv_room (Nat.le_of_ble_eq_true rfl)) dX8_quietCount_26 ⟨Nat.zero_le _, Nat.zero_le _⟩) (fun r26 hr26 => ?_)
    subst hr26
    refine x_bz_eq (tgt := 35) hx hb dX8_quietCount_29 (by decide) (fun c29 => ?_) (fun c29 => ?_)
    · obtain ⟨v35, e_v35⟩ : ∃ y : Int, y = i + 1 := ⟨_, rfl⟩
      refine lv_iinc (v := zI v35) (lv' := [(2, .int (zI v35)), (0, .ref ((ad 7) 0)), (1, .int (zI u))]) hx hb dX8_quietCount_35 hl (k := 2) rfl (by rw [e_v35]; exact zI_add _ _) (by decide) rfl (fun ls hl => ?_)
      refine lv_goto (tgt := 4) hx hb dX8_quietCount_38 (by decide) ?_
      exact ih_4 (u, v35) (show (0 ≤ v35 ∧ v35 ≤ S 0 0) ∧ u = sumZ (fun o => bI (quietB S o)) v35.toNat from ⟨by omega, (by rw [e_v35, sumZ_s hi.1, ← hu]; first | (rw [bI_t c29]; exact e_v32) | (rw [bI_f c29]; exact (Int.add_zero u).symm))⟩) (show (S 0 0 - v35).toNat < (S 0 0 - i).toNat from by omega) ls H locs (lv_sub hl [1, 2, 0] rfl) hP hD hS
    · obtain ⟨v32, e_v32⟩ : ∃ y : Int, y = u + 1 := ⟨_, rfl⟩
      refine lv_iinc (v := zI v32) (lv' := [(1, .int (zI v32)), (0, .ref ((ad 7) 0)), (2, .int (zI i))]) hx hb dX8_quietCount_32 hl (k := 1) rfl (by rw [e_v32]; exact zI_add _ _) (by decide) rfl (fun ls hl => ?_)
      obtain ⟨v35, e_v35⟩ : ∃ y : Int, y = i + 1 := ⟨_, rfl⟩
      refine lv_iinc (v := zI v35) (lv' := [(2, .int (zI v35)), (1, .int (zI v32)), (0, .ref ((ad 7) 0))]) hx hb dX8_quietCount_35 hl (k := 2) rfl (by rw [e_v35]; exact zI_add _ _) (by decide) rfl (fun ls hl => ?_)
      refine lv_goto (tgt := 4) hx hb dX8_quietCount_38 (by decide) ?_
      exact ih_4 (v32, v35) (show (0 ≤ v35 ∧ v35 ≤ S 0 0) ∧ v32 = sumZ (fun o => bI (quietB S o)) v35.toNat from ⟨by omega, (by rw [e_v35, sumZ_s hi.1, ← hu]; first | (rw [bI_t c29]; exact e_v32) | (rw [bI_f c29]; exact (Int.add_zero u).symm))⟩) (show (S 0 0 - v35).toNat < (S 0 0 - i).toNat from by omega) ls H locs (lv_sub hl [2, 1, 0] rfl) hP hD hS
