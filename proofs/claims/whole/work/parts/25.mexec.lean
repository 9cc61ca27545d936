/-! the reference: its commands done -/
theorem srtZ_c {k : Int} (h : 0 ≤ k ∧ k ≤ 9) : (k = 0 ∧ srtZ k = 98) ∨ (k = 1 ∧ srtZ k = 102) ∨ (k = 2 ∧ srtZ k = 116) ∨ (k = 3 ∧ srtZ k = 103) ∨ (k = 4 ∧ srtZ k = 108) ∨ (k = 5 ∧ srtZ k = 101) ∨ (k = 6 ∧ srtZ k = 114) ∨ (k = 7 ∧ srtZ k = 115) ∨ (k = 8 ∧ srtZ k = 105) ∨ (k = 9 ∧ srtZ k = 112) := by
  rcases (show k = 0 ∨ k = 1 ∨ k = 2 ∨ k = 3 ∨ k = 4 ∨ k = 5 ∨ k = 6 ∨ k = 7 ∨ k = 8 ∨ k = 9 by omega) with rfl | rfl | rfl | rfl | rfl | rfl | rfl | rfl | rfl | rfl <;> decide

set_option maxHeartbeats 4000000 in
set_option maxRecDepth 100000 in
/-- BenchBrokerModel.does -/
theorem m_does (l : Launch) (dg : va_G) (ck : Nat → ClassId) (mo : Nat → Nat) (S : St) (F1 F2 F3 F4 : Int → Int) (M : St) (x : Int) (k : Int) (sz : Nat) {Mx : Int} (hV : Inv Mx S) (hx0 : 0 ≤ x ∧ x ≤ 59) (hv0 : M 6 (4 * x) = srtZ k ∧ 0 ≤ k ∧ k ≤ 9) (hv1 : 0 ≤ M 6 ((4 * x) + 1) ∧ M 6 ((4 * x) + 1) ≤ 99) (hv2 : 2 ≤ arZ k → 0 ≤ M 6 ((4 * x) + 2) ∧ M 6 ((4 * x) + 2) ≤ 99) (hv3 : 3 ≤ arZ k → 0 ≤ M 6 ((4 * x) + 3) ∧ M 6 ((4 * x) + 3) ≤ 99) : Met l yX9_does (.code yX9_does cX9_does 5 (some .int) :: GW) ({ frames := 6, cells := 0, slots := 0, locals := 138 }) (va_Pc [.ref (mo 0), .int (zI x)] (wrP dg ck sz (modelC ck mo (encZ S) F1 F2 F3 F4 M))) (va_Qi (fun r (_ : Unit) => r = zI (dsZ k (actZ S k (M 6 ((4 * x) + 1)) (M 6 ((4 * x) + 2)) (M 6 ((4 * x) + 3))).1)) (fun _ t9 => wrQ dg sz (modelC ck mo (encZ S) F1 F2 F3 F4 M) (modelC ck mo (encZ (actZ S k (M 6 ((4 * x) + 1)) (M 6 ((4 * x) + 2)) (M 6 ((4 * x) + 3))).2.2) F1 F2 F3 F4 (mAns M (actZ S k (M 6 ((4 * x) + 1)) (M 6 ((4 * x) + 2)) (M 6 ((4 * x) + 3))).1 (actZ S k (M 6 ((4 * x) + 1)) (M 6 ((4 * x) + 2)) (M 6 ((4 * x) + 3))).2.1)) t9) (va_A (modelC ck mo (encZ S) F1 F2 F3 F4 M) sz)) 0 0 (va_A (modelC ck mo (encZ S) F1 F2 F3 F4 M) sz) := by
  refine Met.ofW (cc := cX9_does) (maxL := 5) (ret := (some .int)) (by decide) rfl ?_
  intro p e s m args below meth c s₁ B hml hv
  obtain ⟨rfl, hsz, hP, hK, hD0⟩ := hv
  have hx := B.exec
  have hb := B.bytes
  have hr := B.returns
  have hts := atoms_spec (ws := .code yX9_does cX9_does 5 (some .int) :: GW) B.pre
  have htg : ∀ w ∈ GW, w.before _ s = true := fun w h => hts w (List.mem_cons_of_mem _ h)
  have hown : s.vm.findClass RX9 = some m.cls := findClass_of_methodNamed B.named
  have hlocks := B.notSynchronized
  subst hsz
  have hD := hD0.self (sz := s.heap.size)
  generalize hAe : va_A (modelC ck mo (encZ S) F1 F2 F3 F4 M) s.heap.size = A at hD ⊢
  have hA : ∀ q : Nat, s.heap.size ≤ q → A q := fun q h => by rw [← hAe]; exact Or.inr h
  have hS : va_S A s.heap s.heap [] := va_S.rf
  have hP : va_P dg vwCl (modelC ck mo (encZ S) F1 F2 F3 F4 M) s.heap := hP
  have hl := lv_entry ([.ref (mo 0), .int (zI x)]) (n := 5) (Nat.le_of_ble_eq_true rfl)
  rw [lg_entry_eq]
  generalize (lg_sl ([.ref (mo 0), .int (zI x)]) ++ List.replicate (5 - (lg_sl ([.ref (mo 0), .int (zI x)])).length) Slot.unset).toArray = ls at hl ⊢
  have hl : lv_has ls 5 [(0, .ref (mo 0)), (1, .int (zI x))] := hl
  have hsc := srtZ_c hv0.2
  refine lv_aload_n hx hb dX9_does_0 rfl (lv_at hl 0 rfl) ?_
  refine va_get (D := dg) (ci := 11) (v := .ref (mo 7)) (C := RX9) (T := TX9) (N := 23) hx hb htg inG_X9 hown hK hP 0 rfl rfl 9 (Nat.le_of_ble_eq_true rfl) (htg _ wq_1566) (fun _ h9 => h9) rfl dX9_does_1 ?_
  refine x_iconst hx hb dX9_does_4 ?_
  refine lv_iload_n hx hb dX9_does_5 rfl (lv_at hl 1 rfl) ?_
  refine x_imul hx hb dX9_does_6 ?_
  refine x_iconst hx hb dX9_does_7 ?_
  refine x_iadd hx hb dX9_does_8 ?_
  refine x_iald hx hb hK hP 7 0 (M 6) rfl rfl (fun _ => rfl) (P := fun y => True) (fun _ => trivial) (by decide) (by omega) dX9_does_9 (fun g9 => ?_)
  refine lv_istore_n (lv' := [(2, .int (zI (M 6 ((4 * x) + 1)))), (0, .ref (mo 0)), (1, .int (zI x))]) hx hb dX9_does_10 rfl hl (by decide) rfl (fun ls hl => ?_)
  refine lv_aload_n hx hb dX9_does_11 rfl (lv_at hl 1 rfl) ?_
  refine va_get (D := dg) (ci := 11) (v := .ref (mo 7)) (C := RX9) (T := TX9) (N := 23) hx hb htg inG_X9 hown hK hP 0 rfl rfl 9 (Nat.le_of_ble_eq_true rfl) (htg _ wq_1566) (fun _ h9 => h9) rfl dX9_does_12 ?_
  refine x_iconst hx hb dX9_does_15 ?_
  refine lv_iload_n hx hb dX9_does_16 rfl (lv_at hl 2 rfl) ?_
  refine x_imul hx hb dX9_does_17 ?_
  refine x_iconst hx hb dX9_does_18 ?_
  refine x_iadd hx hb dX9_does_19 ?_
  refine x_iald hx hb hK hP 7 0 (M 6) rfl rfl (fun _ => rfl) (P := fun y => True) (fun _ => trivial) (by decide) (by omega) dX9_does_20 (fun g20 => ?_)
  refine lv_istore_n (lv' := [(3, .int (zI (M 6 ((4 * x) + 2)))), (2, .int (zI (M 6 ((4 * x) + 1)))), (0, .ref (mo 0)), (1, .int (zI x))]) hx hb dX9_does_21 rfl hl (by decide) rfl (fun ls hl => ?_)
  refine lv_aload_n hx hb dX9_does_22 rfl (lv_at hl 2 rfl) ?_
  refine va_get (D := dg) (ci := 11) (v := .ref (mo 7)) (C := RX9) (T := TX9) (N := 23) hx hb htg inG_X9 hown hK hP 0 rfl rfl 9 (Nat.le_of_ble_eq_true rfl) (htg _ wq_1566) (fun _ h9 => h9) rfl dX9_does_23 ?_
  refine x_iconst hx hb dX9_does_26 ?_
  refine lv_iload_n hx hb dX9_does_27 rfl (lv_at hl 3 rfl) ?_
  refine x_imul hx hb dX9_does_28 ?_
  refine x_iconst hx hb dX9_does_29 ?_
  refine x_iadd hx hb dX9_does_30 ?_
  refine x_iald hx hb hK hP 7 0 (M 6) rfl rfl (fun _ => rfl) (P := fun y => True) (fun _ => trivial) (by decide) (by omega) dX9_does_31 (fun g31 => ?_)
  refine lv_istore (lv' := [(4, .int (zI (M 6 ((4 * x) + 3)))), (3, .int (zI (M 6 ((4 * x) + 2)))), (2, .int (zI (M 6 ((4 * x) + 1)))), (0, .ref (mo 0)), (1, .int (zI x))]) hx hb dX9_does_32 hl (by decide) rfl (fun ls hl => ?_)
  refine lv_aload_n hx hb dX9_does_34 rfl (lv_at hl 3 rfl) ?_
  refine va_get (D := dg) (ci := 11) (v := .ref (mo 7)) (C := RX9) (T := TX9) (N := 23) hx hb htg inG_X9 hown hK hP 0 rfl rfl 9 (Nat.le_of_ble_eq_true rfl) (htg _ wq_1566) (fun _ h9 => h9) rfl dX9_does_35 ?_
  refine x_iconst hx hb dX9_does_38 ?_
  refine lv_iload_n hx hb dX9_does_39 rfl (lv_at hl 4 rfl) ?_
  refine x_imul hx hb dX9_does_40 ?_
  refine x_iald hx hb hK hP 7 0 (M 6) rfl rfl (fun _ => rfl) (P := fun y => True) (fun _ => trivial) (by decide) (by omega) dX9_does_41 (fun g41 => ?_)
  rcases (show (M 6 (4 * x)) = 98 ∨ (M 6 (4 * x)) = 99 ∨ (M 6 (4 * x)) = 100 ∨ (M 6 (4 * x)) = 101 ∨ (M 6 (4 * x)) = 102 ∨ (M 6 (4 * x)) = 103 ∨ (M 6 (4 * x)) = 104 ∨ (M 6 (4 * x)) = 105 ∨ (M 6 (4 * x)) = 106 ∨ (M 6 (4 * x)) = 107 ∨ (M 6 (4 * x)) = 108 ∨ (M 6 (4 * x)) = 109 ∨ (M 6 (4 * x)) = 110 ∨ (M 6 (4 * x)) = 111 ∨ (M 6 (4 * x)) = 112 ∨ (M 6 (4 * x)) = 113 ∨ (M 6 (4 * x)) = 114 ∨ (M 6 (4 * x)) = 115 ∨ (M 6 (4 * x)) = 116 ∨ ((M 6 (4 * x)) < 98 ∨ 116 < (M 6 (4 * x))) by omega) with c42 | c42 | c42 | c42 | c42 | c42 | c42 | c42 | c42 | c42 | c42 | c42 | c42 | c42 | c42 | c42 | c42 | c42 | c42 | c42
  · refine x_is c42 ?_
    refine lv_tableIn (tgt := 132) (off := 90) hx hb dX9_does_42 (by decide) (by decide) (by decide) (by decide) ?_
    have hk2 : 2 ≤ arZ k := by first | (exfalso; omega) | (rw [show k = 0 by omega]; decide)
    have hw2 := hv2 hk2
    have hk3 : 3 ≤ arZ k := by first | (exfalso; omega) | (rw [show k = 0 by omega]; decide)
    have hw3 := hv3 hk3
    refine lv_aload_n hx hb dX9_does_132 rfl (lv_at hl 3 rfl) ?_
    refine lv_iload_n hx hb dX9_does_133 rfl (lv_at hl 2 rfl) ?_
    refine lv_iload_n hx hb dX9_does_134 rfl (lv_at hl 1 rfl) ?_
    refine lv_iload hx hb dX9_does_135 (lv_at hl 0 rfl) ?_
    refine x_calli (ws' := modelC ck mo (encZ (pbZ S (M 6 ((4 * x) + 1)) (M 6 ((4 * x) + 2)) (M 6 ((4 * x) + 3))).2.2) F1 F2 F3 F4 (mAns M (pbZ S (M 6 ((4 * x) + 1)) (M 6 ((4 * x) + 2)) (M 6 ((4 * x) + 3))).1 (pbZ S (M 6 ((4 * x) + 1)) (M 6 ((4 * x) + 2)) (M 6 ((4 * x) + 3))).2.1)) [] (M := modelC ck mo (encZ S) F1 F2 F3 F4 M) (M' := modelC ck mo (encZ (pbZ S (M 6 ((4 * x) + 1)) (M 6 ((4 * x) + 2)) (M 6 ((4 * x) + 3))).2.2) F1 F2 F3 F4 (mAns M (pbZ S (M 6 ((4 * x) + 1)) (M 6 ((4 * x) + 2)) (M 6 ((4 * x) + 3))).1 (pbZ S (M 6 ((4 * x) + 1)) (M 6 ((4 * x) + 2)) (M 6 ((4 * x) + 3))).2.1)) ([]) (List.append_nil _).symm (List.append_nil _).symm hP hD hS hA (fun hPm hDm => va_runV (As := [.int (zI (M 6 ((4 * x) + 1))), .int (zI (M 6 ((4 * x) + 2))), .int (zI (M 6 ((4 * x) + 3)))]) (rest := []) ⟨hx, hb, hml, hown, htg⟩ (m_addsBench l dg ck mo S F1 F2 F3 F4 M (M 6 ((4 * x) + 1)) (M 6 ((4 * x) + 2)) (M 6 ((4 * x) + 3)) _ hV (by omega) (by omega) (by omega)) (cwV 3 htg (gwV wq_1639 wq_1641 wp_32 wq_15 wq_1642) rfl rfl rfl (by decide +kernel) ⟨Nat.le_of_ble_eq_true rfl, Nat.le_of_ble_eq_true rfl⟩) (wr_preV hK hPm hDm 0 11 rfl rfl) rfl rfl hl.1 rfl (lv_room (Nat.le_of_ble_eq_true rfl)) dX9_does_137 ⟨Nat.zero_le _, Nat.zero_le _⟩) (fun r137 H locs hr137 hP hD hS => ?_)
    subst hr137
    have hc : (actZ S k (M 6 ((4 * x) + 1)) (M 6 ((4 * x) + 2)) (M 6 ((4 * x) + 3))) = pbZ S (M 6 ((4 * x) + 1)) (M 6 ((4 * x) + 2)) (M 6 ((4 * x) + 3)) ∧ ∀ z, dsZ k z = z := by first | (exfalso; omega) | (have hk : k = 0 := (by omega); subst hk; exact ⟨rfl, fun z => rfl⟩)
    have hEq : modelC ck mo (encZ (actZ S k (M 6 ((4 * x) + 1)) (M 6 ((4 * x) + 2)) (M 6 ((4 * x) + 3))).2.2) F1 F2 F3 F4 (mAns M (actZ S k (M 6 ((4 * x) + 1)) (M 6 ((4 * x) + 2)) (M 6 ((4 * x) + 3))).1 (actZ S k (M 6 ((4 * x) + 1)) (M 6 ((4 * x) + 2)) (M 6 ((4 * x) + 3))).2.1) = modelC ck mo (encZ (pbZ S (M 6 ((4 * x) + 1)) (M 6 ((4 * x) + 2)) (M 6 ((4 * x) + 3))).2.2) F1 F2 F3 F4 (mAns M (pbZ S (M 6 ((4 * x) + 1)) (M 6 ((4 * x) + 2)) (M 6 ((4 * x) + 3))).1 (pbZ S (M 6 ((4 * x) + 1)) (M 6 ((4 * x) + 2)) (M 6 ((4 * x) + 3))).2.1) := (by rw [hc.1])
    exact W.iret (v := _) hx hb hr (fun t9 ht9 hW9 => ⟨⟨_, (), rfl, (by rw [hc.2, hc.1]), by rw [ht9, hEq]; exact hP, by rw [hEq, hAe]; exact hD⟩, hS.F ht9⟩) hS.2.2 dX9_does_140
  · refine x_is c42 ?_
    refine lv_tableIn (tgt := 197) (off := 155) hx hb dX9_does_42 (by decide) (by decide) (by decide) (by decide) ?_
    refine lv_aload_n hx hb dX9_does_197 rfl (lv_at hl 3 rfl) ?_
    refine lv_iload_n hx hb dX9_does_198 rfl (lv_at hl 2 rfl) ?_
    refine x_calli (ws' := modelC ck mo (encZ (elZ S (M 6 ((4 * x) + 1))).2.2) F1 F2 F3 F4 (mAns M (elZ S (M 6 ((4 * x) + 1))).1 (elZ S (M 6 ((4 * x) + 1))).2.1)) [] (M := modelC ck mo (encZ S) F1 F2 F3 F4 M) (M' := modelC ck mo (encZ (elZ S (M 6 ((4 * x) + 1))).2.2) F1 F2 F3 F4 (mAns M (elZ S (M 6 ((4 * x) + 1))).1 (elZ S (M 6 ((4 * x) + 1))).2.1)) ([]) (List.append_nil _).symm (List.append_nil _).symm hP hD hS hA (fun hPm hDm => va_runV (As := [.int (zI (M 6 ((4 * x) + 1)))]) (rest := []) ⟨hx, hb, hml, hown, htg⟩ (m_passes l dg ck mo S F1 F2 F3 F4 M (M 6 ((4 * x) + 1)) _ hV (by omega)) (cwV 1 htg (gwV wq_1925 wq_1927 wp_66 wq_15 wq_1928) rfl rfl rfl (by decide +kernel) ⟨Nat.le_of_ble_eq_true rfl, Nat.le_of_ble_eq_true rfl⟩) (wr_preV hK hPm hDm 0 11 rfl rfl) rfl rfl hl.1 rfl (lv_room (Nat.le_of_ble_eq_true rfl)) dX9_does_199 ⟨Nat.zero_le _, Nat.zero_le _⟩) (fun r199 H locs hr199 hP hD hS => ?_)
    subst hr199
    have hc : (actZ S k (M 6 ((4 * x) + 1)) (M 6 ((4 * x) + 2)) (M 6 ((4 * x) + 3))) = elZ S (M 6 ((4 * x) + 1)) ∧ ∀ z, dsZ k z = mcd z := by first | (exfalso; omega) | (have hk : k = 9 := (by omega); subst hk; exact ⟨rfl, fun z => rfl⟩)
    have hEq : modelC ck mo (encZ (actZ S k (M 6 ((4 * x) + 1)) (M 6 ((4 * x) + 2)) (M 6 ((4 * x) + 3))).2.2) F1 F2 F3 F4 (mAns M (actZ S k (M 6 ((4 * x) + 1)) (M 6 ((4 * x) + 2)) (M 6 ((4 * x) + 3))).1 (actZ S k (M 6 ((4 * x) + 1)) (M 6 ((4 * x) + 2)) (M 6 ((4 * x) + 3))).2.1) = modelC ck mo (encZ (elZ S (M 6 ((4 * x) + 1))).2.2) F1 F2 F3 F4 (mAns M (elZ S (M 6 ((4 * x) + 1))).1 (elZ S (M 6 ((4 * x) + 1))).2.1) := (by rw [hc.1])
    exact W.iret (v := _) hx hb hr (fun t9 ht9 hW9 => ⟨⟨_, (), rfl, (by rw [hc.2, hc.1]), by rw [ht9, hEq]; exact hP, by rw [hEq, hAe]; exact hD⟩, hS.F ht9⟩) hS.2.2 dX9_does_202
  · refine x_is c42 ?_
    refine lv_tableIn (tgt := 197) (off := 155) hx hb dX9_does_42 (by decide) (by decide) (by decide) (by decide) ?_
    refine lv_aload_n hx hb dX9_does_197 rfl (lv_at hl 3 rfl) ?_
    refine lv_iload_n hx hb dX9_does_198 rfl (lv_at hl 2 rfl) ?_
    refine x_calli (ws' := modelC ck mo (encZ (elZ S (M 6 ((4 * x) + 1))).2.2) F1 F2 F3 F4 (mAns M (elZ S (M 6 ((4 * x) + 1))).1 (elZ S (M 6 ((4 * x) + 1))).2.1)) [] (M := modelC ck mo (encZ S) F1 F2 F3 F4 M) (M' := modelC ck mo (encZ (elZ S (M 6 ((4 * x) + 1))).2.2) F1 F2 F3 F4 (mAns M (elZ S (M 6 ((4 * x) + 1))).1 (elZ S (M 6 ((4 * x) + 1))).2.1)) ([]) (List.append_nil _).symm (List.append_nil _).symm hP hD hS hA (fun hPm hDm => va_runV (As := [.int (zI (M 6 ((4 * x) + 1)))]) (rest := []) ⟨hx, hb, hml, hown, htg⟩ (m_passes l dg ck mo S F1 F2 F3 F4 M (M 6 ((4 * x) + 1)) _ hV (by omega)) (cwV 1 htg (gwV wq_1925 wq_1927 wp_66 wq_15 wq_1928) rfl rfl rfl (by decide +kernel) ⟨Nat.le_of_ble_eq_true rfl, Nat.le_of_ble_eq_true rfl⟩) (wr_preV hK hPm hDm 0 11 rfl rfl) rfl rfl hl.1 rfl (lv_room (Nat.le_of_ble_eq_true rfl)) dX9_does_199 ⟨Nat.zero_le _, Nat.zero_le _⟩) (fun r199 H locs hr199 hP hD hS => ?_)
    subst hr199
    have hc : (actZ S k (M 6 ((4 * x) + 1)) (M 6 ((4 * x) + 2)) (M 6 ((4 * x) + 3))) = elZ S (M 6 ((4 * x) + 1)) ∧ ∀ z, dsZ k z = mcd z := by first | (exfalso; omega) | (have hk : k = 9 := (by omega); subst hk; exact ⟨rfl, fun z => rfl⟩)
    have hEq : modelC ck mo (encZ (actZ S k (M 6 ((4 * x) + 1)) (M 6 ((4 * x) + 2)) (M 6 ((4 * x) + 3))).2.2) F1 F2 F3 F4 (mAns M (actZ S k (M 6 ((4 * x) + 1)) (M 6 ((4 * x) + 2)) (M 6 ((4 * x) + 3))).1 (actZ S k (M 6 ((4 * x) + 1)) (M 6 ((4 * x) + 2)) (M 6 ((4 * x) + 3))).2.1) = modelC ck mo (encZ (elZ S (M 6 ((4 * x) + 1))).2.2) F1 F2 F3 F4 (mAns M (elZ S (M 6 ((4 * x) + 1))).1 (elZ S (M 6 ((4 * x) + 1))).2.1) := (by rw [hc.1])
    exact W.iret (v := _) hx hb hr (fun t9 ht9 hW9 => ⟨⟨_, (), rfl, (by rw [hc.2, hc.1]), by rw [ht9, hEq]; exact hP, by rw [hEq, hAe]; exact hD⟩, hS.F ht9⟩) hS.2.2 dX9_does_202
  · refine x_is c42 ?_
    refine lv_tableIn (tgt := 178) (off := 136) hx hb dX9_does_42 (by decide) (by decide) (by decide) (by decide) ?_
    refine lv_aload_n hx hb dX9_does_178 rfl (lv_at hl 3 rfl) ?_
    refine lv_iload_n hx hb dX9_does_179 rfl (lv_at hl 2 rfl) ?_
    refine x_calli (ws' := modelC ck mo (encZ (enZ S (M 6 ((4 * x) + 1))).2.2) F1 F2 F3 F4 (mAns M (enZ S (M 6 ((4 * x) + 1))).1 (enZ S (M 6 ((4 * x) + 1))).2.1)) [] (M := modelC ck mo (encZ S) F1 F2 F3 F4 M) (M' := modelC ck mo (encZ (enZ S (M 6 ((4 * x) + 1))).2.2) F1 F2 F3 F4 (mAns M (enZ S (M 6 ((4 * x) + 1))).1 (enZ S (M 6 ((4 * x) + 1))).2.1)) ([]) (List.append_nil _).symm (List.append_nil _).symm hP hD hS hA (fun hPm hDm => va_runV (As := [.int (zI (M 6 ((4 * x) + 1)))]) (rest := []) ⟨hx, hb, hml, hown, htg⟩ (m_endsLease l dg ck mo S F1 F2 F3 F4 M (M 6 ((4 * x) + 1)) _ hV (by omega)) (cwV 1 htg (gwV wq_1881 wq_1883 wp_62 wq_15 wq_1884) rfl rfl rfl (by decide +kernel) ⟨Nat.le_of_ble_eq_true rfl, Nat.le_of_ble_eq_true rfl⟩) (wr_preV hK hPm hDm 0 11 rfl rfl) rfl rfl hl.1 rfl (lv_room (Nat.le_of_ble_eq_true rfl)) dX9_does_180 ⟨Nat.zero_le _, Nat.zero_le _⟩) (fun r180 H locs hr180 hP hD hS => ?_)
    subst hr180
    have hc : (actZ S k (M 6 ((4 * x) + 1)) (M 6 ((4 * x) + 2)) (M 6 ((4 * x) + 3))) = enZ S (M 6 ((4 * x) + 1)) ∧ ∀ z, dsZ k z = z := by first | (exfalso; omega) | (have hk : k = 5 := (by omega); subst hk; exact ⟨rfl, fun z => rfl⟩)
    have hEq : modelC ck mo (encZ (actZ S k (M 6 ((4 * x) + 1)) (M 6 ((4 * x) + 2)) (M 6 ((4 * x) + 3))).2.2) F1 F2 F3 F4 (mAns M (actZ S k (M 6 ((4 * x) + 1)) (M 6 ((4 * x) + 2)) (M 6 ((4 * x) + 3))).1 (actZ S k (M 6 ((4 * x) + 1)) (M 6 ((4 * x) + 2)) (M 6 ((4 * x) + 3))).2.1) = modelC ck mo (encZ (enZ S (M 6 ((4 * x) + 1))).2.2) F1 F2 F3 F4 (mAns M (enZ S (M 6 ((4 * x) + 1))).1 (enZ S (M 6 ((4 * x) + 1))).2.1) := (by rw [hc.1])
    exact W.iret (v := _) hx hb hr (fun t9 ht9 hW9 => ⟨⟨_, (), rfl, (by rw [hc.2, hc.1]), by rw [ht9, hEq]; exact hP, by rw [hEq, hAe]; exact hD⟩, hS.F ht9⟩) hS.2.2 dX9_does_183
  · refine x_is c42 ?_
    refine lv_tableIn (tgt := 141) (off := 99) hx hb dX9_does_42 (by decide) (by decide) (by decide) (by decide) ?_
    have hk2 : 2 ≤ arZ k := by first | (exfalso; omega) | (rw [show k = 1 by omega]; decide)
    have hw2 := hv2 hk2
    have hk3 : 3 ≤ arZ k := by first | (exfalso; omega) | (rw [show k = 1 by omega]; decide)
    have hw3 := hv3 hk3
    refine lv_aload_n hx hb dX9_does_141 rfl (lv_at hl 3 rfl) ?_
    refine lv_iload_n hx hb dX9_does_142 rfl (lv_at hl 2 rfl) ?_
    refine lv_iload_n hx hb dX9_does_143 rfl (lv_at hl 1 rfl) ?_
    refine lv_iload hx hb dX9_does_144 (lv_at hl 0 rfl) ?_
    refine x_calli (ws' := modelC ck mo (encZ (pfZ S (M 6 ((4 * x) + 1)) (M 6 ((4 * x) + 2)) (M 6 ((4 * x) + 3))).2.2) F1 F2 F3 F4 (mAns M (pfZ S (M 6 ((4 * x) + 1)) (M 6 ((4 * x) + 2)) (M 6 ((4 * x) + 3))).1 (pfZ S (M 6 ((4 * x) + 1)) (M 6 ((4 * x) + 2)) (M 6 ((4 * x) + 3))).2.1)) [] (M := modelC ck mo (encZ S) F1 F2 F3 F4 M) (M' := modelC ck mo (encZ (pfZ S (M 6 ((4 * x) + 1)) (M 6 ((4 * x) + 2)) (M 6 ((4 * x) + 3))).2.2) F1 F2 F3 F4 (mAns M (pfZ S (M 6 ((4 * x) + 1)) (M 6 ((4 * x) + 2)) (M 6 ((4 * x) + 3))).1 (pfZ S (M 6 ((4 * x) + 1)) (M 6 ((4 * x) + 2)) (M 6 ((4 * x) + 3))).2.1)) ([]) (List.append_nil _).symm (List.append_nil _).symm hP hD hS hA (fun hPm hDm => va_runV (As := [.int (zI (M 6 ((4 * x) + 1))), .int (zI (M 6 ((4 * x) + 2))), .int (zI (M 6 ((4 * x) + 3)))]) (rest := []) ⟨hx, hb, hml, hown, htg⟩ (m_addsFountain l dg ck mo S F1 F2 F3 F4 M (M 6 ((4 * x) + 1)) (M 6 ((4 * x) + 2)) (M 6 ((4 * x) + 3)) _ hV (by omega) (by omega) (by omega)) (cwV 3 htg (gwV wq_1697 wq_1699 wp_43 wq_15 wq_1700) rfl rfl rfl (by decide +kernel) ⟨Nat.le_of_ble_eq_true rfl, Nat.le_of_ble_eq_true rfl⟩) (wr_preV hK hPm hDm 0 11 rfl rfl) rfl rfl hl.1 rfl (lv_room (Nat.le_of_ble_eq_true rfl)) dX9_does_146 ⟨Nat.zero_le _, Nat.zero_le _⟩) (fun r146 H locs hr146 hP hD hS => ?_)
    subst hr146
    have hc : (actZ S k (M 6 ((4 * x) + 1)) (M 6 ((4 * x) + 2)) (M 6 ((4 * x) + 3))) = pfZ S (M 6 ((4 * x) + 1)) (M 6 ((4 * x) + 2)) (M 6 ((4 * x) + 3)) ∧ ∀ z, dsZ k z = z := by first | (exfalso; omega) | (have hk : k = 1 := (by omega); subst hk; exact ⟨rfl, fun z => rfl⟩)
    have hEq : modelC ck mo (encZ (actZ S k (M 6 ((4 * x) + 1)) (M 6 ((4 * x) + 2)) (M 6 ((4 * x) + 3))).2.2) F1 F2 F3 F4 (mAns M (actZ S k (M 6 ((4 * x) + 1)) (M 6 ((4 * x) + 2)) (M 6 ((4 * x) + 3))).1 (actZ S k (M 6 ((4 * x) + 1)) (M 6 ((4 * x) + 2)) (M 6 ((4 * x) + 3))).2.1) = modelC ck mo (encZ (pfZ S (M 6 ((4 * x) + 1)) (M 6 ((4 * x) + 2)) (M 6 ((4 * x) + 3))).2.2) F1 F2 F3 F4 (mAns M (pfZ S (M 6 ((4 * x) + 1)) (M 6 ((4 * x) + 2)) (M 6 ((4 * x) + 3))).1 (pfZ S (M 6 ((4 * x) + 1)) (M 6 ((4 * x) + 2)) (M 6 ((4 * x) + 3))).2.1) := (by rw [hc.1])
    exact W.iret (v := _) hx hb hr (fun t9 ht9 hW9 => ⟨⟨_, (), rfl, (by rw [hc.2, hc.1]), by rw [ht9, hEq]; exact hP, by rw [hEq, hAe]; exact hD⟩, hS.F ht9⟩) hS.2.2 dX9_does_149
  · refine x_is c42 ?_
    refine lv_tableIn (tgt := 156) (off := 114) hx hb dX9_does_42 (by decide) (by decide) (by decide) (by decide) ?_
    have hk2 : 2 ≤ arZ k := by first | (exfalso; omega) | (rw [show k = 3 by omega]; decide)
    have hw2 := hv2 hk2
    refine lv_aload_n hx hb dX9_does_156 rfl (lv_at hl 3 rfl) ?_
    refine lv_iload_n hx hb dX9_does_157 rfl (lv_at hl 2 rfl) ?_
    refine lv_iload_n hx hb dX9_does_158 rfl (lv_at hl 1 rfl) ?_
    refine x_calli (ws' := modelC ck mo (encZ (giZ S (M 6 ((4 * x) + 1)) (M 6 ((4 * x) + 2))).2.2) F1 F2 F3 F4 (mAns M (giZ S (M 6 ((4 * x) + 1)) (M 6 ((4 * x) + 2))).1 (giZ S (M 6 ((4 * x) + 1)) (M 6 ((4 * x) + 2))).2.1)) [] (M := modelC ck mo (encZ S) F1 F2 F3 F4 M) (M' := modelC ck mo (encZ (giZ S (M 6 ((4 * x) + 1)) (M 6 ((4 * x) + 2))).2.2) F1 F2 F3 F4 (mAns M (giZ S (M 6 ((4 * x) + 1)) (M 6 ((4 * x) + 2))).1 (giZ S (M 6 ((4 * x) + 1)) (M 6 ((4 * x) + 2))).2.1)) ([]) (List.append_nil _).symm (List.append_nil _).symm hP hD hS hA (fun hPm hDm => va_runV (As := [.int (zI (M 6 ((4 * x) + 1))), .int (zI (M 6 ((4 * x) + 2)))]) (rest := []) ⟨hx, hb, hml, hown, htg⟩ (m_gives l dg ck mo S F1 F2 F3 F4 M (M 6 ((4 * x) + 1)) (M 6 ((4 * x) + 2)) _ hV (by omega) (by omega)) (cwV 2 htg (gwV wq_1817 wq_1819 wp_54 wq_15 wq_1820) rfl rfl rfl (by decide +kernel) ⟨Nat.le_of_ble_eq_true rfl, Nat.le_of_ble_eq_true rfl⟩) (wr_preV hK hPm hDm 0 11 rfl rfl) rfl rfl hl.1 rfl (lv_room (Nat.le_of_ble_eq_true rfl)) dX9_does_159 ⟨Nat.zero_le _, Nat.zero_le _⟩) (fun r159 H locs hr159 hP hD hS => ?_)
    subst hr159
    have hc : (actZ S k (M 6 ((4 * x) + 1)) (M 6 ((4 * x) + 2)) (M 6 ((4 * x) + 3))) = giZ S (M 6 ((4 * x) + 1)) (M 6 ((4 * x) + 2)) ∧ ∀ z, dsZ k z = z := by first | (exfalso; omega) | (have hk : k = 3 := (by omega); subst hk; exact ⟨rfl, fun z => rfl⟩)
    have hEq : modelC ck mo (encZ (actZ S k (M 6 ((4 * x) + 1)) (M 6 ((4 * x) + 2)) (M 6 ((4 * x) + 3))).2.2) F1 F2 F3 F4 (mAns M (actZ S k (M 6 ((4 * x) + 1)) (M 6 ((4 * x) + 2)) (M 6 ((4 * x) + 3))).1 (actZ S k (M 6 ((4 * x) + 1)) (M 6 ((4 * x) + 2)) (M 6 ((4 * x) + 3))).2.1) = modelC ck mo (encZ (giZ S (M 6 ((4 * x) + 1)) (M 6 ((4 * x) + 2))).2.2) F1 F2 F3 F4 (mAns M (giZ S (M 6 ((4 * x) + 1)) (M 6 ((4 * x) + 2))).1 (giZ S (M 6 ((4 * x) + 1)) (M 6 ((4 * x) + 2))).2.1) := (by rw [hc.1])
    exact W.iret (v := _) hx hb hr (fun t9 ht9 hW9 => ⟨⟨_, (), rfl, (by rw [hc.2, hc.1]), by rw [ht9, hEq]; exact hP, by rw [hEq, hAe]; exact hD⟩, hS.F ht9⟩) hS.2.2 dX9_does_162
  · refine x_is c42 ?_
    refine lv_tableIn (tgt := 197) (off := 155) hx hb dX9_does_42 (by decide) (by decide) (by decide) (by decide) ?_
    refine lv_aload_n hx hb dX9_does_197 rfl (lv_at hl 3 rfl) ?_
    refine lv_iload_n hx hb dX9_does_198 rfl (lv_at hl 2 rfl) ?_
    refine x_calli (ws' := modelC ck mo (encZ (elZ S (M 6 ((4 * x) + 1))).2.2) F1 F2 F3 F4 (mAns M (elZ S (M 6 ((4 * x) + 1))).1 (elZ S (M 6 ((4 * x) + 1))).2.1)) [] (M := modelC ck mo (encZ S) F1 F2 F3 F4 M) (M' := modelC ck mo (encZ (elZ S (M 6 ((4 * x) + 1))).2.2) F1 F2 F3 F4 (mAns M (elZ S (M 6 ((4 * x) + 1))).1 (elZ S (M 6 ((4 * x) + 1))).2.1)) ([]) (List.append_nil _).symm (List.append_nil _).symm hP hD hS hA (fun hPm hDm => va_runV (As := [.int (zI (M 6 ((4 * x) + 1)))]) (rest := []) ⟨hx, hb, hml, hown, htg⟩ (m_passes l dg ck mo S F1 F2 F3 F4 M (M 6 ((4 * x) + 1)) _ hV (by omega)) (cwV 1 htg (gwV wq_1925 wq_1927 wp_66 wq_15 wq_1928) rfl rfl rfl (by decide +kernel) ⟨Nat.le_of_ble_eq_true rfl, Nat.le_of_ble_eq_true rfl⟩) (wr_preV hK hPm hDm 0 11 rfl rfl) rfl rfl hl.1 rfl (lv_room (Nat.le_of_ble_eq_true rfl)) dX9_does_199 ⟨Nat.zero_le _, Nat.zero_le _⟩) (fun r199 H locs hr199 hP hD hS => ?_)
    subst hr199
    have hc : (actZ S k (M 6 ((4 * x) + 1)) (M 6 ((4 * x) + 2)) (M 6 ((4 * x) + 3))) = elZ S (M 6 ((4 * x) + 1)) ∧ ∀ z, dsZ k z = mcd z := by first | (exfalso; omega) | (have hk : k = 9 := (by omega); subst hk; exact ⟨rfl, fun z => rfl⟩)
    have hEq : modelC ck mo (encZ (actZ S k (M 6 ((4 * x) + 1)) (M 6 ((4 * x) + 2)) (M 6 ((4 * x) + 3))).2.2) F1 F2 F3 F4 (mAns M (actZ S k (M 6 ((4 * x) + 1)) (M 6 ((4 * x) + 2)) (M 6 ((4 * x) + 3))).1 (actZ S k (M 6 ((4 * x) + 1)) (M 6 ((4 * x) + 2)) (M 6 ((4 * x) + 3))).2.1) = modelC ck mo (encZ (elZ S (M 6 ((4 * x) + 1))).2.2) F1 F2 F3 F4 (mAns M (elZ S (M 6 ((4 * x) + 1))).1 (elZ S (M 6 ((4 * x) + 1))).2.1) := (by rw [hc.1])
    exact W.iret (v := _) hx hb hr (fun t9 ht9 hW9 => ⟨⟨_, (), rfl, (by rw [hc.2, hc.1]), by rw [ht9, hEq]; exact hP, by rw [hEq, hAe]; exact hD⟩, hS.F ht9⟩) hS.2.2 dX9_does_202
  · refine x_is c42 ?_
    refine lv_tableIn (tgt := 163) (off := 121) hx hb dX9_does_42 (by decide) (by decide) (by decide) (by decide) ?_
    refine lv_aload_n hx hb dX9_does_163 rfl (lv_at hl 3 rfl) ?_
    refine lv_iload_n hx hb dX9_does_164 rfl (lv_at hl 2 rfl) ?_
    refine x_calli (ws' := modelC ck mo (encZ (cmZ S (M 6 ((4 * x) + 1))).2.2) F1 F2 F3 F4 (mAns M (cmZ S (M 6 ((4 * x) + 1))).1 (cmZ S (M 6 ((4 * x) + 1))).2.1)) [] (M := modelC ck mo (encZ S) F1 F2 F3 F4 M) (M' := modelC ck mo (encZ (cmZ S (M 6 ((4 * x) + 1))).2.2) F1 F2 F3 F4 (mAns M (cmZ S (M 6 ((4 * x) + 1))).1 (cmZ S (M 6 ((4 * x) + 1))).2.1)) ([]) (List.append_nil _).symm (List.append_nil _).symm hP hD hS hA (fun hPm hDm => va_runV (As := [.int (zI (M 6 ((4 * x) + 1)))]) (rest := []) ⟨hx, hb, hml, hown, htg⟩ (m_limits l dg ck mo S F1 F2 F3 F4 M (M 6 ((4 * x) + 1)) _ hV (by omega)) (cwV 1 htg (gwV wq_1725 wq_1727 wp_47 wq_15 wq_1728) rfl rfl rfl (by decide +kernel) ⟨Nat.le_of_ble_eq_true rfl, Nat.le_of_ble_eq_true rfl⟩) (wr_preV hK hPm hDm 0 11 rfl rfl) rfl rfl hl.1 rfl (lv_room (Nat.le_of_ble_eq_true rfl)) dX9_does_165 ⟨Nat.zero_le _, Nat.zero_le _⟩) (fun r165 H locs hr165 hP hD hS => ?_)
    subst hr165
    have hc : (actZ S k (M 6 ((4 * x) + 1)) (M 6 ((4 * x) + 2)) (M 6 ((4 * x) + 3))) = cmZ S (M 6 ((4 * x) + 1)) ∧ ∀ z, dsZ k z = mcd z := by first | (exfalso; omega) | (have hk : k = 8 := (by omega); subst hk; exact ⟨rfl, fun z => rfl⟩)
    have hEq : modelC ck mo (encZ (actZ S k (M 6 ((4 * x) + 1)) (M 6 ((4 * x) + 2)) (M 6 ((4 * x) + 3))).2.2) F1 F2 F3 F4 (mAns M (actZ S k (M 6 ((4 * x) + 1)) (M 6 ((4 * x) + 2)) (M 6 ((4 * x) + 3))).1 (actZ S k (M 6 ((4 * x) + 1)) (M 6 ((4 * x) + 2)) (M 6 ((4 * x) + 3))).2.1) = modelC ck mo (encZ (cmZ S (M 6 ((4 * x) + 1))).2.2) F1 F2 F3 F4 (mAns M (cmZ S (M 6 ((4 * x) + 1))).1 (cmZ S (M 6 ((4 * x) + 1))).2.1) := (by rw [hc.1])
    exact W.iret (v := _) hx hb hr (fun t9 ht9 hW9 => ⟨⟨_, (), rfl, (by rw [hc.2, hc.1]), by rw [ht9, hEq]; exact hP, by rw [hEq, hAe]; exact hD⟩, hS.F ht9⟩) hS.2.2 dX9_does_168
  · refine x_is c42 ?_
    refine lv_tableIn (tgt := 197) (off := 155) hx hb dX9_does_42 (by decide) (by decide) (by decide) (by decide) ?_
    refine lv_aload_n hx hb dX9_does_197 rfl (lv_at hl 3 rfl) ?_
    refine lv_iload_n hx hb dX9_does_198 rfl (lv_at hl 2 rfl) ?_
    refine x_calli (ws' := modelC ck mo (encZ (elZ S (M 6 ((4 * x) + 1))).2.2) F1 F2 F3 F4 (mAns M (elZ S (M 6 ((4 * x) + 1))).1 (elZ S (M 6 ((4 * x) + 1))).2.1)) [] (M := modelC ck mo (encZ S) F1 F2 F3 F4 M) (M' := modelC ck mo (encZ (elZ S (M 6 ((4 * x) + 1))).2.2) F1 F2 F3 F4 (mAns M (elZ S (M 6 ((4 * x) + 1))).1 (elZ S (M 6 ((4 * x) + 1))).2.1)) ([]) (List.append_nil _).symm (List.append_nil _).symm hP hD hS hA (fun hPm hDm => va_runV (As := [.int (zI (M 6 ((4 * x) + 1)))]) (rest := []) ⟨hx, hb, hml, hown, htg⟩ (m_passes l dg ck mo S F1 F2 F3 F4 M (M 6 ((4 * x) + 1)) _ hV (by omega)) (cwV 1 htg (gwV wq_1925 wq_1927 wp_66 wq_15 wq_1928) rfl rfl rfl (by decide +kernel) ⟨Nat.le_of_ble_eq_true rfl, Nat.le_of_ble_eq_true rfl⟩) (wr_preV hK hPm hDm 0 11 rfl rfl) rfl rfl hl.1 rfl (lv_room (Nat.le_of_ble_eq_true rfl)) dX9_does_199 ⟨Nat.zero_le _, Nat.zero_le _⟩) (fun r199 H locs hr199 hP hD hS => ?_)
    subst hr199
    have hc : (actZ S k (M 6 ((4 * x) + 1)) (M 6 ((4 * x) + 2)) (M 6 ((4 * x) + 3))) = elZ S (M 6 ((4 * x) + 1)) ∧ ∀ z, dsZ k z = mcd z := by first | (exfalso; omega) | (have hk : k = 9 := (by omega); subst hk; exact ⟨rfl, fun z => rfl⟩)
    have hEq : modelC ck mo (encZ (actZ S k (M 6 ((4 * x) + 1)) (M 6 ((4 * x) + 2)) (M 6 ((4 * x) + 3))).2.2) F1 F2 F3 F4 (mAns M (actZ S k (M 6 ((4 * x) + 1)) (M 6 ((4 * x) + 2)) (M 6 ((4 * x) + 3))).1 (actZ S k (M 6 ((4 * x) + 1)) (M 6 ((4 * x) + 2)) (M 6 ((4 * x) + 3))).2.1) = modelC ck mo (encZ (elZ S (M 6 ((4 * x) + 1))).2.2) F1 F2 F3 F4 (mAns M (elZ S (M 6 ((4 * x) + 1))).1 (elZ S (M 6 ((4 * x) + 1))).2.1) := (by rw [hc.1])
    exact W.iret (v := _) hx hb hr (fun t9 ht9 hW9 => ⟨⟨_, (), rfl, (by rw [hc.2, hc.1]), by rw [ht9, hEq]; exact hP, by rw [hEq, hAe]; exact hD⟩, hS.F ht9⟩) hS.2.2 dX9_does_202
  · refine x_is c42 ?_
    refine lv_tableIn (tgt := 197) (off := 155) hx hb dX9_does_42 (by decide) (by decide) (by decide) (by decide) ?_
    refine lv_aload_n hx hb dX9_does_197 rfl (lv_at hl 3 rfl) ?_
    refine lv_iload_n hx hb dX9_does_198 rfl (lv_at hl 2 rfl) ?_
    refine x_calli (ws' := modelC ck mo (encZ (elZ S (M 6 ((4 * x) + 1))).2.2) F1 F2 F3 F4 (mAns M (elZ S (M 6 ((4 * x) + 1))).1 (elZ S (M 6 ((4 * x) + 1))).2.1)) [] (M := modelC ck mo (encZ S) F1 F2 F3 F4 M) (M' := modelC ck mo (encZ (elZ S (M 6 ((4 * x) + 1))).2.2) F1 F2 F3 F4 (mAns M (elZ S (M 6 ((4 * x) + 1))).1 (elZ S (M 6 ((4 * x) + 1))).2.1)) ([]) (List.append_nil _).symm (List.append_nil _).symm hP hD hS hA (fun hPm hDm => va_runV (As := [.int (zI (M 6 ((4 * x) + 1)))]) (rest := []) ⟨hx, hb, hml, hown, htg⟩ (m_passes l dg ck mo S F1 F2 F3 F4 M (M 6 ((4 * x) + 1)) _ hV (by omega)) (cwV 1 htg (gwV wq_1925 wq_1927 wp_66 wq_15 wq_1928) rfl rfl rfl (by decide +kernel) ⟨Nat.le_of_ble_eq_true rfl, Nat.le_of_ble_eq_true rfl⟩) (wr_preV hK hPm hDm 0 11 rfl rfl) rfl rfl hl.1 rfl (lv_room (Nat.le_of_ble_eq_true rfl)) dX9_does_199 ⟨Nat.zero_le _, Nat.zero_le _⟩) (fun r199 H locs hr199 hP hD hS => ?_)
    subst hr199
    have hc : (actZ S k (M 6 ((4 * x) + 1)) (M 6 ((4 * x) + 2)) (M 6 ((4 * x) + 3))) = elZ S (M 6 ((4 * x) + 1)) ∧ ∀ z, dsZ k z = mcd z := by first | (exfalso; omega) | (have hk : k = 9 := (by omega); subst hk; exact ⟨rfl, fun z => rfl⟩)
    have hEq : modelC ck mo (encZ (actZ S k (M 6 ((4 * x) + 1)) (M 6 ((4 * x) + 2)) (M 6 ((4 * x) + 3))).2.2) F1 F2 F3 F4 (mAns M (actZ S k (M 6 ((4 * x) + 1)) (M 6 ((4 * x) + 2)) (M 6 ((4 * x) + 3))).1 (actZ S k (M 6 ((4 * x) + 1)) (M 6 ((4 * x) + 2)) (M 6 ((4 * x) + 3))).2.1) = modelC ck mo (encZ (elZ S (M 6 ((4 * x) + 1))).2.2) F1 F2 F3 F4 (mAns M (elZ S (M 6 ((4 * x) + 1))).1 (elZ S (M 6 ((4 * x) + 1))).2.1) := (by rw [hc.1])
    exact W.iret (v := _) hx hb hr (fun t9 ht9 hW9 => ⟨⟨_, (), rfl, (by rw [hc.2, hc.1]), by rw [ht9, hEq]; exact hP, by rw [hEq, hAe]; exact hD⟩, hS.F ht9⟩) hS.2.2 dX9_does_202
  · refine x_is c42 ?_
    refine lv_tableIn (tgt := 169) (off := 127) hx hb dX9_does_42 (by decide) (by decide) (by decide) (by decide) ?_
    have hk2 : 2 ≤ arZ k := by first | (exfalso; omega) | (rw [show k = 4 by omega]; decide)
    have hw2 := hv2 hk2
    have hk3 : 3 ≤ arZ k := by first | (exfalso; omega) | (rw [show k = 4 by omega]; decide)
    have hw3 := hv3 hk3
    refine lv_aload_n hx hb dX9_does_169 rfl (lv_at hl 3 rfl) ?_
    refine lv_iload_n hx hb dX9_does_170 rfl (lv_at hl 2 rfl) ?_
    refine lv_iload_n hx hb dX9_does_171 rfl (lv_at hl 1 rfl) ?_
    refine lv_iload hx hb dX9_does_172 (lv_at hl 0 rfl) ?_
    refine x_calli (ws' := modelC ck mo (encZ (leZ S (M 6 ((4 * x) + 1)) (M 6 ((4 * x) + 2)) (M 6 ((4 * x) + 3))).2.2) F1 F2 F3 F4 (mAns M (leZ S (M 6 ((4 * x) + 1)) (M 6 ((4 * x) + 2)) (M 6 ((4 * x) + 3))).1 (leZ S (M 6 ((4 * x) + 1)) (M 6 ((4 * x) + 2)) (M 6 ((4 * x) + 3))).2.1)) [] (M := modelC ck mo (encZ S) F1 F2 F3 F4 M) (M' := modelC ck mo (encZ (leZ S (M 6 ((4 * x) + 1)) (M 6 ((4 * x) + 2)) (M 6 ((4 * x) + 3))).2.2) F1 F2 F3 F4 (mAns M (leZ S (M 6 ((4 * x) + 1)) (M 6 ((4 * x) + 2)) (M 6 ((4 * x) + 3))).1 (leZ S (M 6 ((4 * x) + 1)) (M 6 ((4 * x) + 2)) (M 6 ((4 * x) + 3))).2.1)) ([]) (List.append_nil _).symm (List.append_nil _).symm hP hD hS hA (fun hPm hDm => va_runV (As := [.int (zI (M 6 ((4 * x) + 1))), .int (zI (M 6 ((4 * x) + 2))), .int (zI (M 6 ((4 * x) + 3)))]) (rest := []) ⟨hx, hb, hml, hown, htg⟩ (m_leases l dg ck mo S F1 F2 F3 F4 M (M 6 ((4 * x) + 1)) (M 6 ((4 * x) + 2)) (M 6 ((4 * x) + 3)) _ hV (by omega) (by omega) (by omega)) (cwV 3 htg (gwV wq_1873 wq_1875 wp_61 wq_15 wq_1876) rfl rfl rfl (by decide +kernel) ⟨Nat.le_of_ble_eq_true rfl, Nat.le_of_ble_eq_true rfl⟩) (wr_preV hK hPm hDm 0 11 rfl rfl) rfl rfl hl.1 rfl (lv_room (Nat.le_of_ble_eq_true rfl)) dX9_does_174 ⟨Nat.zero_le _, Nat.zero_le _⟩) (fun r174 H locs hr174 hP hD hS => ?_)
    subst hr174
    have hc : (actZ S k (M 6 ((4 * x) + 1)) (M 6 ((4 * x) + 2)) (M 6 ((4 * x) + 3))) = leZ S (M 6 ((4 * x) + 1)) (M 6 ((4 * x) + 2)) (M 6 ((4 * x) + 3)) ∧ ∀ z, dsZ k z = z := by first | (exfalso; omega) | (have hk : k = 4 := (by omega); subst hk; exact ⟨rfl, fun z => rfl⟩)
    have hEq : modelC ck mo (encZ (actZ S k (M 6 ((4 * x) + 1)) (M 6 ((4 * x) + 2)) (M 6 ((4 * x) + 3))).2.2) F1 F2 F3 F4 (mAns M (actZ S k (M 6 ((4 * x) + 1)) (M 6 ((4 * x) + 2)) (M 6 ((4 * x) + 3))).1 (actZ S k (M 6 ((4 * x) + 1)) (M 6 ((4 * x) + 2)) (M 6 ((4 * x) + 3))).2.1) = modelC ck mo (encZ (leZ S (M 6 ((4 * x) + 1)) (M 6 ((4 * x) + 2)) (M 6 ((4 * x) + 3))).2.2) F1 F2 F3 F4 (mAns M (leZ S (M 6 ((4 * x) + 1)) (M 6 ((4 * x) + 2)) (M 6 ((4 * x) + 3))).1 (leZ S (M 6 ((4 * x) + 1)) (M 6 ((4 * x) + 2)) (M 6 ((4 * x) + 3))).2.1) := (by rw [hc.1])
    exact W.iret (v := _) hx hb hr (fun t9 ht9 hW9 => ⟨⟨_, (), rfl, (by rw [hc.2, hc.1]), by rw [ht9, hEq]; exact hP, by rw [hEq, hAe]; exact hD⟩, hS.F ht9⟩) hS.2.2 dX9_does_177
  · refine x_is c42 ?_
    refine lv_tableIn (tgt := 197) (off := 155) hx hb dX9_does_42 (by decide) (by decide) (by decide) (by decide) ?_
    refine lv_aload_n hx hb dX9_does_197 rfl (lv_at hl 3 rfl) ?_
    refine lv_iload_n hx hb dX9_does_198 rfl (lv_at hl 2 rfl) ?_
    refine x_calli (ws' := modelC ck mo (encZ (elZ S (M 6 ((4 * x) + 1))).2.2) F1 F2 F3 F4 (mAns M (elZ S (M 6 ((4 * x) + 1))).1 (elZ S (M 6 ((4 * x) + 1))).2.1)) [] (M := modelC ck mo (encZ S) F1 F2 F3 F4 M) (M' := modelC ck mo (encZ (elZ S (M 6 ((4 * x) + 1))).2.2) F1 F2 F3 F4 (mAns M (elZ S (M 6 ((4 * x) + 1))).1 (elZ S (M 6 ((4 * x) + 1))).2.1)) ([]) (List.append_nil _).symm (List.append_nil _).symm hP hD hS hA (fun hPm hDm => va_runV (As := [.int (zI (M 6 ((4 * x) + 1)))]) (rest := []) ⟨hx, hb, hml, hown, htg⟩ (m_passes l dg ck mo S F1 F2 F3 F4 M (M 6 ((4 * x) + 1)) _ hV (by omega)) (cwV 1 htg (gwV wq_1925 wq_1927 wp_66 wq_15 wq_1928) rfl rfl rfl (by decide +kernel) ⟨Nat.le_of_ble_eq_true rfl, Nat.le_of_ble_eq_true rfl⟩) (wr_preV hK hPm hDm 0 11 rfl rfl) rfl rfl hl.1 rfl (lv_room (Nat.le_of_ble_eq_true rfl)) dX9_does_199 ⟨Nat.zero_le _, Nat.zero_le _⟩) (fun r199 H locs hr199 hP hD hS => ?_)
    subst hr199
    have hc : (actZ S k (M 6 ((4 * x) + 1)) (M 6 ((4 * x) + 2)) (M 6 ((4 * x) + 3))) = elZ S (M 6 ((4 * x) + 1)) ∧ ∀ z, dsZ k z = mcd z := by first | (exfalso; omega) | (have hk : k = 9 := (by omega); subst hk; exact ⟨rfl, fun z => rfl⟩)
    have hEq : modelC ck mo (encZ (actZ S k (M 6 ((4 * x) + 1)) (M 6 ((4 * x) + 2)) (M 6 ((4 * x) + 3))).2.2) F1 F2 F3 F4 (mAns M (actZ S k (M 6 ((4 * x) + 1)) (M 6 ((4 * x) + 2)) (M 6 ((4 * x) + 3))).1 (actZ S k (M 6 ((4 * x) + 1)) (M 6 ((4 * x) + 2)) (M 6 ((4 * x) + 3))).2.1) = modelC ck mo (encZ (elZ S (M 6 ((4 * x) + 1))).2.2) F1 F2 F3 F4 (mAns M (elZ S (M 6 ((4 * x) + 1))).1 (elZ S (M 6 ((4 * x) + 1))).2.1) := (by rw [hc.1])
    exact W.iret (v := _) hx hb hr (fun t9 ht9 hW9 => ⟨⟨_, (), rfl, (by rw [hc.2, hc.1]), by rw [ht9, hEq]; exact hP, by rw [hEq, hAe]; exact hD⟩, hS.F ht9⟩) hS.2.2 dX9_does_202
  · refine x_is c42 ?_
    refine lv_tableIn (tgt := 197) (off := 155) hx hb dX9_does_42 (by decide) (by decide) (by decide) (by decide) ?_
    refine lv_aload_n hx hb dX9_does_197 rfl (lv_at hl 3 rfl) ?_
    refine lv_iload_n hx hb dX9_does_198 rfl (lv_at hl 2 rfl) ?_
    refine x_calli (ws' := modelC ck mo (encZ (elZ S (M 6 ((4 * x) + 1))).2.2) F1 F2 F3 F4 (mAns M (elZ S (M 6 ((4 * x) + 1))).1 (elZ S (M 6 ((4 * x) + 1))).2.1)) [] (M := modelC ck mo (encZ S) F1 F2 F3 F4 M) (M' := modelC ck mo (encZ (elZ S (M 6 ((4 * x) + 1))).2.2) F1 F2 F3 F4 (mAns M (elZ S (M 6 ((4 * x) + 1))).1 (elZ S (M 6 ((4 * x) + 1))).2.1)) ([]) (List.append_nil _).symm (List.append_nil _).symm hP hD hS hA (fun hPm hDm => va_runV (As := [.int (zI (M 6 ((4 * x) + 1)))]) (rest := []) ⟨hx, hb, hml, hown, htg⟩ (m_passes l dg ck mo S F1 F2 F3 F4 M (M 6 ((4 * x) + 1)) _ hV (by omega)) (cwV 1 htg (gwV wq_1925 wq_1927 wp_66 wq_15 wq_1928) rfl rfl rfl (by decide +kernel) ⟨Nat.le_of_ble_eq_true rfl, Nat.le_of_ble_eq_true rfl⟩) (wr_preV hK hPm hDm 0 11 rfl rfl) rfl rfl hl.1 rfl (lv_room (Nat.le_of_ble_eq_true rfl)) dX9_does_199 ⟨Nat.zero_le _, Nat.zero_le _⟩) (fun r199 H locs hr199 hP hD hS => ?_)
    subst hr199
    have hc : (actZ S k (M 6 ((4 * x) + 1)) (M 6 ((4 * x) + 2)) (M 6 ((4 * x) + 3))) = elZ S (M 6 ((4 * x) + 1)) ∧ ∀ z, dsZ k z = mcd z := by first | (exfalso; omega) | (have hk : k = 9 := (by omega); subst hk; exact ⟨rfl, fun z => rfl⟩)
    have hEq : modelC ck mo (encZ (actZ S k (M 6 ((4 * x) + 1)) (M 6 ((4 * x) + 2)) (M 6 ((4 * x) + 3))).2.2) F1 F2 F3 F4 (mAns M (actZ S k (M 6 ((4 * x) + 1)) (M 6 ((4 * x) + 2)) (M 6 ((4 * x) + 3))).1 (actZ S k (M 6 ((4 * x) + 1)) (M 6 ((4 * x) + 2)) (M 6 ((4 * x) + 3))).2.1) = modelC ck mo (encZ (elZ S (M 6 ((4 * x) + 1))).2.2) F1 F2 F3 F4 (mAns M (elZ S (M 6 ((4 * x) + 1))).1 (elZ S (M 6 ((4 * x) + 1))).2.1) := (by rw [hc.1])
    exact W.iret (v := _) hx hb hr (fun t9 ht9 hW9 => ⟨⟨_, (), rfl, (by rw [hc.2, hc.1]), by rw [ht9, hEq]; exact hP, by rw [hEq, hAe]; exact hD⟩, hS.F ht9⟩) hS.2.2 dX9_does_202
  · refine x_is c42 ?_
    refine lv_tableIn (tgt := 197) (off := 155) hx hb dX9_does_42 (by decide) (by decide) (by decide) (by decide) ?_
    refine lv_aload_n hx hb dX9_does_197 rfl (lv_at hl 3 rfl) ?_
    refine lv_iload_n hx hb dX9_does_198 rfl (lv_at hl 2 rfl) ?_
    refine x_calli (ws' := modelC ck mo (encZ (elZ S (M 6 ((4 * x) + 1))).2.2) F1 F2 F3 F4 (mAns M (elZ S (M 6 ((4 * x) + 1))).1 (elZ S (M 6 ((4 * x) + 1))).2.1)) [] (M := modelC ck mo (encZ S) F1 F2 F3 F4 M) (M' := modelC ck mo (encZ (elZ S (M 6 ((4 * x) + 1))).2.2) F1 F2 F3 F4 (mAns M (elZ S (M 6 ((4 * x) + 1))).1 (elZ S (M 6 ((4 * x) + 1))).2.1)) ([]) (List.append_nil _).symm (List.append_nil _).symm hP hD hS hA (fun hPm hDm => va_runV (As := [.int (zI (M 6 ((4 * x) + 1)))]) (rest := []) ⟨hx, hb, hml, hown, htg⟩ (m_passes l dg ck mo S F1 F2 F3 F4 M (M 6 ((4 * x) + 1)) _ hV (by omega)) (cwV 1 htg (gwV wq_1925 wq_1927 wp_66 wq_15 wq_1928) rfl rfl rfl (by decide +kernel) ⟨Nat.le_of_ble_eq_true rfl, Nat.le_of_ble_eq_true rfl⟩) (wr_preV hK hPm hDm 0 11 rfl rfl) rfl rfl hl.1 rfl (lv_room (Nat.le_of_ble_eq_true rfl)) dX9_does_199 ⟨Nat.zero_le _, Nat.zero_le _⟩) (fun r199 H locs hr199 hP hD hS => ?_)
    subst hr199
    have hc : (actZ S k (M 6 ((4 * x) + 1)) (M 6 ((4 * x) + 2)) (M 6 ((4 * x) + 3))) = elZ S (M 6 ((4 * x) + 1)) ∧ ∀ z, dsZ k z = mcd z := by first | (exfalso; omega) | (have hk : k = 9 := (by omega); subst hk; exact ⟨rfl, fun z => rfl⟩)
    have hEq : modelC ck mo (encZ (actZ S k (M 6 ((4 * x) + 1)) (M 6 ((4 * x) + 2)) (M 6 ((4 * x) + 3))).2.2) F1 F2 F3 F4 (mAns M (actZ S k (M 6 ((4 * x) + 1)) (M 6 ((4 * x) + 2)) (M 6 ((4 * x) + 3))).1 (actZ S k (M 6 ((4 * x) + 1)) (M 6 ((4 * x) + 2)) (M 6 ((4 * x) + 3))).2.1) = modelC ck mo (encZ (elZ S (M 6 ((4 * x) + 1))).2.2) F1 F2 F3 F4 (mAns M (elZ S (M 6 ((4 * x) + 1))).1 (elZ S (M 6 ((4 * x) + 1))).2.1) := (by rw [hc.1])
    exact W.iret (v := _) hx hb hr (fun t9 ht9 hW9 => ⟨⟨_, (), rfl, (by rw [hc.2, hc.1]), by rw [ht9, hEq]; exact hP, by rw [hEq, hAe]; exact hD⟩, hS.F ht9⟩) hS.2.2 dX9_does_202
  · refine x_is c42 ?_
    refine lv_tableIn (tgt := 197) (off := 155) hx hb dX9_does_42 (by decide) (by decide) (by decide) (by decide) ?_
    refine lv_aload_n hx hb dX9_does_197 rfl (lv_at hl 3 rfl) ?_
    refine lv_iload_n hx hb dX9_does_198 rfl (lv_at hl 2 rfl) ?_
    refine x_calli (ws' := modelC ck mo (encZ (elZ S (M 6 ((4 * x) + 1))).2.2) F1 F2 F3 F4 (mAns M (elZ S (M 6 ((4 * x) + 1))).1 (elZ S (M 6 ((4 * x) + 1))).2.1)) [] (M := modelC ck mo (encZ S) F1 F2 F3 F4 M) (M' := modelC ck mo (encZ (elZ S (M 6 ((4 * x) + 1))).2.2) F1 F2 F3 F4 (mAns M (elZ S (M 6 ((4 * x) + 1))).1 (elZ S (M 6 ((4 * x) + 1))).2.1)) ([]) (List.append_nil _).symm (List.append_nil _).symm hP hD hS hA (fun hPm hDm => va_runV (As := [.int (zI (M 6 ((4 * x) + 1)))]) (rest := []) ⟨hx, hb, hml, hown, htg⟩ (m_passes l dg ck mo S F1 F2 F3 F4 M (M 6 ((4 * x) + 1)) _ hV (by omega)) (cwV 1 htg (gwV wq_1925 wq_1927 wp_66 wq_15 wq_1928) rfl rfl rfl (by decide +kernel) ⟨Nat.le_of_ble_eq_true rfl, Nat.le_of_ble_eq_true rfl⟩) (wr_preV hK hPm hDm 0 11 rfl rfl) rfl rfl hl.1 rfl (lv_room (Nat.le_of_ble_eq_true rfl)) dX9_does_199 ⟨Nat.zero_le _, Nat.zero_le _⟩) (fun r199 H locs hr199 hP hD hS => ?_)
    subst hr199
    have hc : (actZ S k (M 6 ((4 * x) + 1)) (M 6 ((4 * x) + 2)) (M 6 ((4 * x) + 3))) = elZ S (M 6 ((4 * x) + 1)) ∧ ∀ z, dsZ k z = mcd z := by first | (exfalso; omega) | (have hk : k = 9 := (by omega); subst hk; exact ⟨rfl, fun z => rfl⟩)
    have hEq : modelC ck mo (encZ (actZ S k (M 6 ((4 * x) + 1)) (M 6 ((4 * x) + 2)) (M 6 ((4 * x) + 3))).2.2) F1 F2 F3 F4 (mAns M (actZ S k (M 6 ((4 * x) + 1)) (M 6 ((4 * x) + 2)) (M 6 ((4 * x) + 3))).1 (actZ S k (M 6 ((4 * x) + 1)) (M 6 ((4 * x) + 2)) (M 6 ((4 * x) + 3))).2.1) = modelC ck mo (encZ (elZ S (M 6 ((4 * x) + 1))).2.2) F1 F2 F3 F4 (mAns M (elZ S (M 6 ((4 * x) + 1))).1 (elZ S (M 6 ((4 * x) + 1))).2.1) := (by rw [hc.1])
    exact W.iret (v := _) hx hb hr (fun t9 ht9 hW9 => ⟨⟨_, (), rfl, (by rw [hc.2, hc.1]), by rw [ht9, hEq]; exact hP, by rw [hEq, hAe]; exact hD⟩, hS.F ht9⟩) hS.2.2 dX9_does_202
  · refine x_is c42 ?_
    refine lv_tableIn (tgt := 197) (off := 155) hx hb dX9_does_42 (by decide) (by decide) (by decide) (by decide) ?_
    refine lv_aload_n hx hb dX9_does_197 rfl (lv_at hl 3 rfl) ?_
    refine lv_iload_n hx hb dX9_does_198 rfl (lv_at hl 2 rfl) ?_
    refine x_calli (ws' := modelC ck mo (encZ (elZ S (M 6 ((4 * x) + 1))).2.2) F1 F2 F3 F4 (mAns M (elZ S (M 6 ((4 * x) + 1))).1 (elZ S (M 6 ((4 * x) + 1))).2.1)) [] (M := modelC ck mo (encZ S) F1 F2 F3 F4 M) (M' := modelC ck mo (encZ (elZ S (M 6 ((4 * x) + 1))).2.2) F1 F2 F3 F4 (mAns M (elZ S (M 6 ((4 * x) + 1))).1 (elZ S (M 6 ((4 * x) + 1))).2.1)) ([]) (List.append_nil _).symm (List.append_nil _).symm hP hD hS hA (fun hPm hDm => va_runV (As := [.int (zI (M 6 ((4 * x) + 1)))]) (rest := []) ⟨hx, hb, hml, hown, htg⟩ (m_passes l dg ck mo S F1 F2 F3 F4 M (M 6 ((4 * x) + 1)) _ hV (by omega)) (cwV 1 htg (gwV wq_1925 wq_1927 wp_66 wq_15 wq_1928) rfl rfl rfl (by decide +kernel) ⟨Nat.le_of_ble_eq_true rfl, Nat.le_of_ble_eq_true rfl⟩) (wr_preV hK hPm hDm 0 11 rfl rfl) rfl rfl hl.1 rfl (lv_room (Nat.le_of_ble_eq_true rfl)) dX9_does_199 ⟨Nat.zero_le _, Nat.zero_le _⟩) (fun r199 H locs hr199 hP hD hS => ?_)
    subst hr199
    have hc : (actZ S k (M 6 ((4 * x) + 1)) (M 6 ((4 * x) + 2)) (M 6 ((4 * x) + 3))) = elZ S (M 6 ((4 * x) + 1)) ∧ ∀ z, dsZ k z = mcd z := by first | (exfalso; omega) | (have hk : k = 9 := (by omega); subst hk; exact ⟨rfl, fun z => rfl⟩)
    have hEq : modelC ck mo (encZ (actZ S k (M 6 ((4 * x) + 1)) (M 6 ((4 * x) + 2)) (M 6 ((4 * x) + 3))).2.2) F1 F2 F3 F4 (mAns M (actZ S k (M 6 ((4 * x) + 1)) (M 6 ((4 * x) + 2)) (M 6 ((4 * x) + 3))).1 (actZ S k (M 6 ((4 * x) + 1)) (M 6 ((4 * x) + 2)) (M 6 ((4 * x) + 3))).2.1) = modelC ck mo (encZ (elZ S (M 6 ((4 * x) + 1))).2.2) F1 F2 F3 F4 (mAns M (elZ S (M 6 ((4 * x) + 1))).1 (elZ S (M 6 ((4 * x) + 1))).2.1) := (by rw [hc.1])
    exact W.iret (v := _) hx hb hr (fun t9 ht9 hW9 => ⟨⟨_, (), rfl, (by rw [hc.2, hc.1]), by rw [ht9, hEq]; exact hP, by rw [hEq, hAe]; exact hD⟩, hS.F ht9⟩) hS.2.2 dX9_does_202
  · refine x_is c42 ?_
    refine lv_tableIn (tgt := 184) (off := 142) hx hb dX9_does_42 (by decide) (by decide) (by decide) (by decide) ?_
    have hk2 : 2 ≤ arZ k := by first | (exfalso; omega) | (rw [show k = 6 by omega]; decide)
    have hw2 := hv2 hk2
    refine lv_aload_n hx hb dX9_does_184 rfl (lv_at hl 3 rfl) ?_
    refine lv_iload_n hx hb dX9_does_185 rfl (lv_at hl 2 rfl) ?_
    refine lv_iload_n hx hb dX9_does_186 rfl (lv_at hl 1 rfl) ?_
    refine x_calli (ws' := modelC ck mo (encZ (reZ S (M 6 ((4 * x) + 1)) (M 6 ((4 * x) + 2))).2.2) F1 F2 F3 F4 (mAns M (reZ S (M 6 ((4 * x) + 1)) (M 6 ((4 * x) + 2))).1 (reZ S (M 6 ((4 * x) + 1)) (M 6 ((4 * x) + 2))).2.1)) [] (M := modelC ck mo (encZ S) F1 F2 F3 F4 M) (M' := modelC ck mo (encZ (reZ S (M 6 ((4 * x) + 1)) (M 6 ((4 * x) + 2))).2.2) F1 F2 F3 F4 (mAns M (reZ S (M 6 ((4 * x) + 1)) (M 6 ((4 * x) + 2))).1 (reZ S (M 6 ((4 * x) + 1)) (M 6 ((4 * x) + 2))).2.1)) ([]) (List.append_nil _).symm (List.append_nil _).symm hP hD hS hA (fun hPm hDm => va_runV (As := [.int (zI (M 6 ((4 * x) + 1))), .int (zI (M 6 ((4 * x) + 2)))]) (rest := []) ⟨hx, hb, hml, hown, htg⟩ (m_renews l dg ck mo S F1 F2 F3 F4 M (M 6 ((4 * x) + 1)) (M 6 ((4 * x) + 2)) _ hV (by omega) (by omega)) (cwV 2 htg (gwV wq_1893 wq_1895 wp_64 wq_15 wq_1896) rfl rfl rfl (by decide +kernel) ⟨Nat.le_of_ble_eq_true rfl, Nat.le_of_ble_eq_true rfl⟩) (wr_preV hK hPm hDm 0 11 rfl rfl) rfl rfl hl.1 rfl (lv_room (Nat.le_of_ble_eq_true rfl)) dX9_does_187 ⟨Nat.zero_le _, Nat.zero_le _⟩) (fun r187 H locs hr187 hP hD hS => ?_)
    subst hr187
    have hc : (actZ S k (M 6 ((4 * x) + 1)) (M 6 ((4 * x) + 2)) (M 6 ((4 * x) + 3))) = reZ S (M 6 ((4 * x) + 1)) (M 6 ((4 * x) + 2)) ∧ ∀ z, dsZ k z = z := by first | (exfalso; omega) | (have hk : k = 6 := (by omega); subst hk; exact ⟨rfl, fun z => rfl⟩)
    have hEq : modelC ck mo (encZ (actZ S k (M 6 ((4 * x) + 1)) (M 6 ((4 * x) + 2)) (M 6 ((4 * x) + 3))).2.2) F1 F2 F3 F4 (mAns M (actZ S k (M 6 ((4 * x) + 1)) (M 6 ((4 * x) + 2)) (M 6 ((4 * x) + 3))).1 (actZ S k (M 6 ((4 * x) + 1)) (M 6 ((4 * x) + 2)) (M 6 ((4 * x) + 3))).2.1) = modelC ck mo (encZ (reZ S (M 6 ((4 * x) + 1)) (M 6 ((4 * x) + 2))).2.2) F1 F2 F3 F4 (mAns M (reZ S (M 6 ((4 * x) + 1)) (M 6 ((4 * x) + 2))).1 (reZ S (M 6 ((4 * x) + 1)) (M 6 ((4 * x) + 2))).2.1) := (by rw [hc.1])
    exact W.iret (v := _) hx hb hr (fun t9 ht9 hW9 => ⟨⟨_, (), rfl, (by rw [hc.2, hc.1]), by rw [ht9, hEq]; exact hP, by rw [hEq, hAe]; exact hD⟩, hS.F ht9⟩) hS.2.2 dX9_does_190
  · refine x_is c42 ?_
    refine lv_tableIn (tgt := 191) (off := 149) hx hb dX9_does_42 (by decide) (by decide) (by decide) (by decide) ?_
    refine lv_aload_n hx hb dX9_does_191 rfl (lv_at hl 3 rfl) ?_
    refine lv_iload_n hx hb dX9_does_192 rfl (lv_at hl 2 rfl) ?_
    refine x_calli (ws' := modelC ck mo (encZ (tgZ S (M 6 ((4 * x) + 1))).2.2) F1 F2 F3 F4 (mAns M (tgZ S (M 6 ((4 * x) + 1))).1 (tgZ S (M 6 ((4 * x) + 1))).2.1)) [] (M := modelC ck mo (encZ S) F1 F2 F3 F4 M) (M' := modelC ck mo (encZ (tgZ S (M 6 ((4 * x) + 1))).2.2) F1 F2 F3 F4 (mAns M (tgZ S (M 6 ((4 * x) + 1))).1 (tgZ S (M 6 ((4 * x) + 1))).2.1)) ([]) (List.append_nil _).symm (List.append_nil _).symm hP hD hS hA (fun hPm hDm => va_runV (As := [.int (zI (M 6 ((4 * x) + 1)))]) (rest := []) ⟨hx, hb, hml, hown, htg⟩ (m_switches l dg ck mo S F1 F2 F3 F4 M (M 6 ((4 * x) + 1)) _ hV (by omega)) (cwV 1 htg (gwV wq_1717 wq_1719 wp_46 wq_15 wq_1720) rfl rfl rfl (by decide +kernel) ⟨Nat.le_of_ble_eq_true rfl, Nat.le_of_ble_eq_true rfl⟩) (wr_preV hK hPm hDm 0 11 rfl rfl) rfl rfl hl.1 rfl (lv_room (Nat.le_of_ble_eq_true rfl)) dX9_does_193 ⟨Nat.zero_le _, Nat.zero_le _⟩) (fun r193 H locs hr193 hP hD hS => ?_)
    subst hr193
    have hc : (actZ S k (M 6 ((4 * x) + 1)) (M 6 ((4 * x) + 2)) (M 6 ((4 * x) + 3))) = tgZ S (M 6 ((4 * x) + 1)) ∧ ∀ z, dsZ k z = z := by first | (exfalso; omega) | (have hk : k = 7 := (by omega); subst hk; exact ⟨rfl, fun z => rfl⟩)
    have hEq : modelC ck mo (encZ (actZ S k (M 6 ((4 * x) + 1)) (M 6 ((4 * x) + 2)) (M 6 ((4 * x) + 3))).2.2) F1 F2 F3 F4 (mAns M (actZ S k (M 6 ((4 * x) + 1)) (M 6 ((4 * x) + 2)) (M 6 ((4 * x) + 3))).1 (actZ S k (M 6 ((4 * x) + 1)) (M 6 ((4 * x) + 2)) (M 6 ((4 * x) + 3))).2.1) = modelC ck mo (encZ (tgZ S (M 6 ((4 * x) + 1))).2.2) F1 F2 F3 F4 (mAns M (tgZ S (M 6 ((4 * x) + 1))).1 (tgZ S (M 6 ((4 * x) + 1))).2.1) := (by rw [hc.1])
    exact W.iret (v := _) hx hb hr (fun t9 ht9 hW9 => ⟨⟨_, (), rfl, (by rw [hc.2, hc.1]), by rw [ht9, hEq]; exact hP, by rw [hEq, hAe]; exact hD⟩, hS.F ht9⟩) hS.2.2 dX9_does_196
  · refine x_is c42 ?_
    refine lv_tableIn (tgt := 150) (off := 108) hx hb dX9_does_42 (by decide) (by decide) (by decide) (by decide) ?_
    refine lv_aload_n hx hb dX9_does_150 rfl (lv_at hl 3 rfl) ?_
    refine lv_iload_n hx hb dX9_does_151 rfl (lv_at hl 2 rfl) ?_
    refine x_calli (ws' := modelC ck mo (encZ (teZ S (M 6 ((4 * x) + 1))).2.2) F1 F2 F3 F4 (mAns M (teZ S (M 6 ((4 * x) + 1))).1 (teZ S (M 6 ((4 * x) + 1))).2.1)) [] (M := modelC ck mo (encZ S) F1 F2 F3 F4 M) (M' := modelC ck mo (encZ (teZ S (M 6 ((4 * x) + 1))).2.2) F1 F2 F3 F4 (mAns M (teZ S (M 6 ((4 * x) + 1))).1 (teZ S (M 6 ((4 * x) + 1))).2.1)) ([]) (List.append_nil _).symm (List.append_nil _).symm hP hD hS hA (fun hPm hDm => va_runV (As := [.int (zI (M 6 ((4 * x) + 1)))]) (rest := []) ⟨hx, hb, hml, hown, htg⟩ (m_addsTenant l dg ck mo S F1 F2 F3 F4 M (M 6 ((4 * x) + 1)) _ hV (by omega)) (cwV 1 htg (gwV wq_1809 wq_1811 wp_53 wq_15 wq_1812) rfl rfl rfl (by decide +kernel) ⟨Nat.le_of_ble_eq_true rfl, Nat.le_of_ble_eq_true rfl⟩) (wr_preV hK hPm hDm 0 11 rfl rfl) rfl rfl hl.1 rfl (lv_room (Nat.le_of_ble_eq_true rfl)) dX9_does_152 ⟨Nat.zero_le _, Nat.zero_le _⟩) (fun r152 H locs hr152 hP hD hS => ?_)
    subst hr152
    have hc : (actZ S k (M 6 ((4 * x) + 1)) (M 6 ((4 * x) + 2)) (M 6 ((4 * x) + 3))) = teZ S (M 6 ((4 * x) + 1)) ∧ ∀ z, dsZ k z = mcd z := by first | (exfalso; omega) | (have hk : k = 2 := (by omega); subst hk; exact ⟨rfl, fun z => rfl⟩)
    have hEq : modelC ck mo (encZ (actZ S k (M 6 ((4 * x) + 1)) (M 6 ((4 * x) + 2)) (M 6 ((4 * x) + 3))).2.2) F1 F2 F3 F4 (mAns M (actZ S k (M 6 ((4 * x) + 1)) (M 6 ((4 * x) + 2)) (M 6 ((4 * x) + 3))).1 (actZ S k (M 6 ((4 * x) + 1)) (M 6 ((4 * x) + 2)) (M 6 ((4 * x) + 3))).2.1) = modelC ck mo (encZ (teZ S (M 6 ((4 * x) + 1))).2.2) F1 F2 F3 F4 (mAns M (teZ S (M 6 ((4 * x) + 1))).1 (teZ S (M 6 ((4 * x) + 1))).2.1) := (by rw [hc.1])
    exact W.iret (v := _) hx hb hr (fun t9 ht9 hW9 => ⟨⟨_, (), rfl, (by rw [hc.2, hc.1]), by rw [ht9, hEq]; exact hP, by rw [hEq, hAe]; exact hD⟩, hS.F ht9⟩) hS.2.2 dX9_does_155
  · refine lv_tableOut (tgt := 197) hx hb dX9_does_42 (by rw [zI_toInt (by omega)]; exact c42) (by decide) ?_
    refine lv_aload_n hx hb dX9_does_197 rfl (lv_at hl 3 rfl) ?_
    refine lv_iload_n hx hb dX9_does_198 rfl (lv_at hl 2 rfl) ?_
    refine x_calli (ws' := modelC ck mo (encZ (elZ S (M 6 ((4 * x) + 1))).2.2) F1 F2 F3 F4 (mAns M (elZ S (M 6 ((4 * x) + 1))).1 (elZ S (M 6 ((4 * x) + 1))).2.1)) [] (M := modelC ck mo (encZ S) F1 F2 F3 F4 M) (M' := modelC ck mo (encZ (elZ S (M 6 ((4 * x) + 1))).2.2) F1 F2 F3 F4 (mAns M (elZ S (M 6 ((4 * x) + 1))).1 (elZ S (M 6 ((4 * x) + 1))).2.1)) ([]) (List.append_nil _).symm (List.append_nil _).symm hP hD hS hA (fun hPm hDm => va_runV (As := [.int (zI (M 6 ((4 * x) + 1)))]) (rest := []) ⟨hx, hb, hml, hown, htg⟩ (m_passes l dg ck mo S F1 F2 F3 F4 M (M 6 ((4 * x) + 1)) _ hV (by omega)) (cwV 1 htg (gwV wq_1925 wq_1927 wp_66 wq_15 wq_1928) rfl rfl rfl (by decide +kernel) ⟨Nat.le_of_ble_eq_true rfl, Nat.le_of_ble_eq_true rfl⟩) (wr_preV hK hPm hDm 0 11 rfl rfl) rfl rfl hl.1 rfl (lv_room (Nat.le_of_ble_eq_true rfl)) dX9_does_199 ⟨Nat.zero_le _, Nat.zero_le _⟩) (fun r199 H locs hr199 hP hD hS => ?_)
    subst hr199
    have hc : (actZ S k (M 6 ((4 * x) + 1)) (M 6 ((4 * x) + 2)) (M 6 ((4 * x) + 3))) = elZ S (M 6 ((4 * x) + 1)) ∧ ∀ z, dsZ k z = mcd z := by first | (exfalso; omega) | (have hk : k = 9 := (by omega); subst hk; exact ⟨rfl, fun z => rfl⟩)
    have hEq : modelC ck mo (encZ (actZ S k (M 6 ((4 * x) + 1)) (M 6 ((4 * x) + 2)) (M 6 ((4 * x) + 3))).2.2) F1 F2 F3 F4 (mAns M (actZ S k (M 6 ((4 * x) + 1)) (M 6 ((4 * x) + 2)) (M 6 ((4 * x) + 3))).1 (actZ S k (M 6 ((4 * x) + 1)) (M 6 ((4 * x) + 2)) (M 6 ((4 * x) + 3))).2.1) = modelC ck mo (encZ (elZ S (M 6 ((4 * x) + 1))).2.2) F1 F2 F3 F4 (mAns M (elZ S (M 6 ((4 * x) + 1))).1 (elZ S (M 6 ((4 * x) + 1))).2.1) := (by rw [hc.1])
    exact W.iret (v := _) hx hb hr (fun t9 ht9 hW9 => ⟨⟨_, (), rfl, (by rw [hc.2, hc.1]), by rw [ht9, hEq]; exact hP, by rw [hEq, hAe]; exact hD⟩, hS.F ht9⟩) hS.2.2 dX9_does_202
