/-! the reference: its questions -/
theorem endR_a (M : St) (c x : Int) : endR (mAns M c x) c = if c = 0 then x else 0 := by
  unfold endR mAns
  by_cases h : c = 0
  · rw [if_pos h, if_pos h, if_pos h]
    exact upS_s
  · rw [if_neg h, if_neg h]
theorem tgR_r {S : St} (hI : Bd S) (M : St) (f : Int) : -2147483648 ≤ endR (mAns M (tgZ S f).1 (tgZ S f).2.1) (tgZ S f).1 ∧ endR (mAns M (tgZ S f).1 (tgZ S f).2.1) (tgZ S f).1 < 2147483648 := by
  rw [endR_a]
  obtain ⟨-, -, -, -, -, -, -, -, -, -, -, -, -, h10, -⟩ := hI
  have h := h10 f
  unfold tgZ
  split
  · split <;> omega
  · split
    · show -2147483648 ≤ 1 - S 10 f ∧ 1 - S 10 f < 2147483648
      omega
    · omega

set_option maxHeartbeats 4000000 in
set_option maxRecDepth 100000 in
/-- BenchBrokerModel.switchFountain -/
theorem m_switchFountain (l : Launch) (dg : va_G) (ck : Nat → ClassId) (mo : Nat → Nat) (S : St) (F1 F2 F3 F4 : Int → Int) (M : St) (f : Int) (sz : Nat) {Mx : Int} (hV : Inv Mx S) (rg_f : -2147483648 ≤ f ∧ f < 2147483648) (hkp : 0 ≤ M 8 1 ∧ M 8 1 ≤ 8) : Met l yX9_switchFountain (.code yX9_switchFountain cX9_switchFountain 2 (some .boolean) :: GW) ({ frames := 3, cells := 0, slots := 0, locals := 64 }) (va_Pc [.ref (mo 0), .int (zI f)] (wrP dg ck sz (modelC ck mo (encZ S) F1 F2 F3 F4 M))) (va_Qi (fun r (_ : Unit) => r = zI (bI ((endR (mAns (upS M 8 0 0) (tgZ S f).1 (tgZ S f).2.1) (tgZ S f).1) = 1))) (fun _ t9 => wrQ dg sz (modelC ck mo (encZ S) F1 F2 F3 F4 M) (modelC ck mo (encZ (tgZ S f).2.2) (encZ S) F2 (endF F3 (encZ S) (mAns (upS M 8 0 0) (tgZ S f).1 (tgZ S f).2.1) (tgZ S f).1) F4 (endM (mAns (upS M 8 0 0) (tgZ S f).1 (tgZ S f).2.1) (tgZ S f).1 1)) t9) (va_A (modelC ck mo (encZ S) F1 F2 F3 F4 M) sz)) 0 0 (va_A (modelC ck mo (encZ S) F1 F2 F3 F4 M) sz) := by
  refine Met.ofW (cc := cX9_switchFountain) (maxL := 2) (ret := (some .boolean)) (by decide) rfl ?_
  intro p e s m args below meth c s₁ B hml hv
  obtain ⟨rfl, hsz, hP, hK, hD0⟩ := hv
  have hx := B.exec
  have hb := B.bytes
  have hr := B.returns
  have hts := atoms_spec (ws := .code yX9_switchFountain cX9_switchFountain 2 (some .boolean) :: GW) B.pre
  have htg : ∀ w ∈ GW, w.before _ s = true := fun w h => hts w (List.mem_cons_of_mem _ h)
  have hown : s.vm.findClass RX9 = some m.cls := findClass_of_methodNamed B.named
  have hlocks := B.notSynchronized
  subst hsz
  have hD := hD0.self (sz := s.heap.size)
  generalize hAe : va_A (modelC ck mo (encZ S) F1 F2 F3 F4 M) s.heap.size = A at hD ⊢
  have hA : ∀ q : Nat, s.heap.size ≤ q → A q := fun q h => by rw [← hAe]; exact Or.inr h
  have hS : va_S A s.heap s.heap [] := va_S.rf
  have hP : va_P dg vwCl (modelC ck mo (encZ S) F1 F2 F3 F4 M) s.heap := hP
  have hl := lv_entry ([.ref (mo 0), .int (zI f)]) (n := 2) (Nat.le_of_ble_eq_true rfl)
  rw [lg_entry_eq]
  generalize (lg_sl ([.ref (mo 0), .int (zI f)]) ++ List.replicate (2 - (lg_sl ([.ref (mo 0), .int (zI f)])).length) Slot.unset).toArray = ls at hl ⊢
  have hl : lv_has ls 2 [(0, .ref (mo 0)), (1, .int (zI f))] := hl
  have hrR := tgR_r hV.bd (upS M 8 0 0) f
  refine lv_aload_n hx hb dX9_switchFountain_0 rfl (lv_at hl 0 rfl) ?_
  refine x_callv (ws' := modelC ck mo (encZ S) (encZ S) F2 F3 F4 (upS M 8 0 0)) [] (M := modelC ck mo (encZ S) F1 F2 F3 F4 M) (M' := modelC ck mo (encZ S) (encZ S) F2 F3 F4 (upS M 8 0 0)) ([]) (List.append_nil _).symm (List.append_nil _).symm hP hD hS hA (fun hPm hDm => va_runV (As := []) (rest := []) ⟨hx, hb, hml, hown, htg⟩ (m_remembers l dg ck mo S F1 F2 F3 F4 M _ ) (cwV 0 htg (gwV wq_1635 wq_1637 wp_31 wq_15 wq_1638) rfl rfl rfl (by decide +kernel) ⟨Nat.le_of_ble_eq_true rfl, Nat.le_of_ble_eq_true rfl⟩) (wr_preV hK hPm hDm 0 11 rfl rfl) rfl rfl hl.1 rfl (lv_room (Nat.le_of_ble_eq_true rfl)) dX9_switchFountain_1 ⟨Nat.zero_le _, Nat.zero_le _⟩) (fun H locs hP hD hS => ?_)
  refine lv_aload_n hx hb dX9_switchFountain_4 rfl (lv_at hl 0 rfl) ?_
  refine lv_aload_n hx hb dX9_switchFountain_5 rfl (lv_at hl 0 rfl) ?_
  refine lv_iload_n hx hb dX9_switchFountain_6 rfl (lv_at hl 1 rfl) ?_
  refine x_calli (ws' := modelC ck mo (encZ (tgZ S f).2.2) (encZ S) F2 F3 F4 (mAns (upS M 8 0 0) (tgZ S f).1 (tgZ S f).2.1)) [] (M := modelC ck mo (encZ S) (encZ S) F2 F3 F4 (upS M 8 0 0)) (M' := modelC ck mo (encZ (tgZ S f).2.2) (encZ S) F2 F3 F4 (mAns (upS M 8 0 0) (tgZ S f).1 (tgZ S f).2.1)) ([]) (List.append_nil _).symm (List.append_nil _).symm hP hD hS hA (fun hPm hDm => va_runV (As := [.int (zI f)]) (rest := [.ref (mo 0)]) ⟨hx, hb, hml, hown, htg⟩ (m_switches l dg ck mo S (encZ S) F2 F3 F4 (upS M 8 0 0) f _ hV (by omega)) (cwV 1 htg (gwV wq_1717 wq_1719 wp_46 wq_15 wq_1720) rfl rfl rfl (by decide +kernel) ⟨Nat.le_of_ble_eq_true rfl, Nat.le_of_ble_eq_true rfl⟩) (wr_preV hK hPm hDm 0 11 rfl rfl) rfl rfl hl.1 rfl (lv_room (Nat.le_of_ble_eq_true rfl)) dX9_switchFountain_7 ⟨Nat.zero_le _, Nat.zero_le _⟩) (fun r7 H locs hr7 hP hD hS => ?_)
  subst hr7
  refine x_iconst hx hb dX9_switchFountain_10 ?_
  refine x_calli (ws' := modelC ck mo (encZ (tgZ S f).2.2) (encZ S) F2 (endF F3 (encZ S) (mAns (upS M 8 0 0) (tgZ S f).1 (tgZ S f).2.1) (tgZ S f).1) F4 (endM (mAns (upS M 8 0 0) (tgZ S f).1 (tgZ S f).2.1) (tgZ S f).1 1)) [] (M := modelC ck mo (encZ (tgZ S f).2.2) (encZ S) F2 F3 F4 (mAns (upS M 8 0 0) (tgZ S f).1 (tgZ S f).2.1)) (M' := modelC ck mo (encZ (tgZ S f).2.2) (encZ S) F2 (endF F3 (encZ S) (mAns (upS M 8 0 0) (tgZ S f).1 (tgZ S f).2.1) (tgZ S f).1) F4 (endM (mAns (upS M 8 0 0) (tgZ S f).1 (tgZ S f).2.1) (tgZ S f).1 1)) ([]) (List.append_nil _).symm (List.append_nil _).symm hP hD hS hA (fun hPm hDm => va_runV (As := [.int (zI (tgZ S f).1), .int (zI 1)]) (rest := []) ⟨hx, hb, hml, hown, htg⟩ (m_ends l dg ck mo (tgZ S f).2.2 (encZ S) F2 F3 F4 (mAns (upS M 8 0 0) (tgZ S f).1 (tgZ S f).2.1) (tgZ S f).1 1 _ (by have h := tgZ_r S f; omega) (by omega) (by rw [mAns_81]; exact hkp)) (cwV 2 htg (gwV wq_1669 wq_1671 wp_38 wq_15 wq_1672) rfl rfl rfl (by decide +kernel) ⟨Nat.le_of_ble_eq_true rfl, Nat.le_of_ble_eq_true rfl⟩) (wr_preV hK hPm hDm 0 11 rfl rfl) rfl rfl hl.1 rfl (lv_room (Nat.le_of_ble_eq_true rfl)) dX9_switchFountain_11 ⟨Nat.zero_le _, Nat.zero_le _⟩) (fun r11 H locs hr11 hP hD hS => ?_)
  subst hr11
  refine x_iconst hx hb dX9_switchFountain_14 ?_
  refine x_icmp_ne (tgt := 22) hx hb dX9_switchFountain_15 (by decide) (by omega) (by omega) (fun c15 => ?_) (fun c15 => ?_)
  · refine x_iconst hx hb dX9_switchFountain_22 ?_
    have hEq : modelC ck mo (encZ (tgZ S f).2.2) (encZ S) F2 (endF F3 (encZ S) (mAns (upS M 8 0 0) (tgZ S f).1 (tgZ S f).2.1) (tgZ S f).1) F4 (endM (mAns (upS M 8 0 0) (tgZ S f).1 (tgZ S f).2.1) (tgZ S f).1 1) = modelC ck mo (encZ (tgZ S f).2.2) (encZ S) F2 (endF F3 (encZ S) (mAns (upS M 8 0 0) (tgZ S f).1 (tgZ S f).2.1) (tgZ S f).1) F4 (endM (mAns (upS M 8 0 0) (tgZ S f).1 (tgZ S f).2.1) (tgZ S f).1 1) := rfl
    exact W.zret (v := _) hx hb hr (by first | rfl | rfl) (fun t9 ht9 hW9 => ⟨⟨_, (), rfl, (congrArg zI (by first | exact (bI_t (by omega)).symm | exact (bI_f (by omega)).symm)), by rw [ht9, hEq]; exact hP, by rw [hEq, hAe]; exact hD⟩, hS.F ht9⟩) hS.2.2 dX9_switchFountain_23
  · refine x_iconst hx hb dX9_switchFountain_18 ?_
    refine lv_goto (tgt := 23) hx hb dX9_switchFountain_19 (by decide) ?_
    have hEq : modelC ck mo (encZ (tgZ S f).2.2) (encZ S) F2 (endF F3 (encZ S) (mAns (upS M 8 0 0) (tgZ S f).1 (tgZ S f).2.1) (tgZ S f).1) F4 (endM (mAns (upS M 8 0 0) (tgZ S f).1 (tgZ S f).2.1) (tgZ S f).1 1) = modelC ck mo (encZ (tgZ S f).2.2) (encZ S) F2 (endF F3 (encZ S) (mAns (upS M 8 0 0) (tgZ S f).1 (tgZ S f).2.1) (tgZ S f).1) F4 (endM (mAns (upS M 8 0 0) (tgZ S f).1 (tgZ S f).2.1) (tgZ S f).1 1) := rfl
    exact W.zret (v := _) hx hb hr (by first | rfl | rfl) (fun t9 ht9 hW9 => ⟨⟨_, (), rfl, (congrArg zI (by first | exact (bI_t (by omega)).symm | exact (bI_f (by omega)).symm)), by rw [ht9, hEq]; exact hP, by rw [hEq, hAe]; exact hD⟩, hS.F ht9⟩) hS.2.2 dX9_switchFountain_23

set_option maxHeartbeats 4000000 in
set_option maxRecDepth 100000 in
/-- BenchBrokerModel.benchCount -/
theorem m_benchCount (l : Launch) (dg : va_G) (ck : Nat → ClassId) (mo : Nat → Nat) (S : St) (F1 F2 F3 F4 : Int → Int) (M : St) (sz : Nat) (hI : Bd S)  : Met l yX9_benchCount (.code yX9_benchCount cX9_benchCount 1 (some .int) :: GW) ({ frames := 0, cells := 0, slots := 0, locals := 0 }) (va_Pc [.ref (mo 0)] (wrP dg ck sz (modelC ck mo (encZ S) F1 F2 F3 F4 M))) (va_Qi (fun r (_ : Unit) => r = zI (S 0 0)) (fun _ t9 => wrQ dg sz (modelC ck mo (encZ S) F1 F2 F3 F4 M) (modelC ck mo (encZ S) F1 F2 F3 F4 (upS M 8 0 0)) t9) (va_A (modelC ck mo (encZ S) F1 F2 F3 F4 M) sz)) 0 0 (va_A (modelC ck mo (encZ S) F1 F2 F3 F4 M) sz) := by
  refine Met.ofW (cc := cX9_benchCount) (maxL := 1) (ret := (some .int)) (by decide) rfl ?_
  intro p e s m args below meth c s₁ B hml hv
  obtain ⟨rfl, hsz, hP, hK, hD0⟩ := hv
  have hx := B.exec
  have hb := B.bytes
  have hr := B.returns
  have hts := atoms_spec (ws := .code yX9_benchCount cX9_benchCount 1 (some .int) :: GW) B.pre
  have htg : ∀ w ∈ GW, w.before _ s = true := fun w h => hts w (List.mem_cons_of_mem _ h)
  have hown : s.vm.findClass RX9 = some m.cls := findClass_of_methodNamed B.named
  have hlocks := B.notSynchronized
  subst hsz
  have hD := hD0.self (sz := s.heap.size)
  generalize hAe : va_A (modelC ck mo (encZ S) F1 F2 F3 F4 M) s.heap.size = A at hD ⊢
  have hA : ∀ q : Nat, s.heap.size ≤ q → A q := fun q h => by rw [← hAe]; exact Or.inr h
  have hS : va_S A s.heap s.heap [] := va_S.rf
  have hP : va_P dg vwCl (modelC ck mo (encZ S) F1 F2 F3 F4 M) s.heap := hP
  have hl := lv_entry ([.ref (mo 0)]) (n := 1) (Nat.le_of_ble_eq_true rfl)
  rw [lg_entry_eq]
  generalize (lg_sl ([.ref (mo 0)]) ++ List.replicate (1 - (lg_sl ([.ref (mo 0)])).length) Slot.unset).toArray = ls at hl ⊢
  have hl : lv_has ls 1 [(0, .ref (mo 0))] := hl
  obtain ⟨b00, b01, b02, b03, b1, b2, b3, b4, b5, b6, b7, b8, b9, b10, b11, b12⟩ := id hI
  refine lv_aload_n hx hb dX9_benchCount_0 rfl (lv_at hl 0 rfl) ?_
  refine x_iconst hx hb dX9_benchCount_1 ?_
  refine va_put (D := dg) (ci := 11) (v := .int (zI 0)) (ty := .int) (C := RX9) (T := TX9) (N := 23) hx hb htg inG_X9 tyX9 tyX9_ok nmX9 hown hK hP hD hS 0 rfl rfl 0 (Nat.le_of_ble_eq_true rfl) (htg _ wq_1557) (fun _ h9 => h9) rfl (by decide +kernel) rfl rfl (Nat.le_of_ble_eq_true rfl) dX9_benchCount_2 (fun H locs hP hD hS => ?_)
  have hP : va_P dg vwCl (modelC ck mo (encZ S) F1 F2 F3 F4 (upS M 8 0 0)) H := hP
  have hD : va_D A (modelC ck mo (encZ S) F1 F2 F3 F4 (upS M 8 0 0)) := hD
  refine lv_aload_n hx hb dX9_benchCount_5 rfl (lv_at hl 0 rfl) ?_
  refine va_get (D := dg) (ci := 11) (v := .ref (mo 1)) (C := RX9) (T := TX9) (N := 23) hx hb htg inG_X9 hown hK hP 0 rfl rfl 1 (Nat.le_of_ble_eq_true rfl) (htg _ wq_1558) (fun _ h9 => h9) rfl dX9_benchCount_6 ?_
  refine x_iconst hx hb dX9_benchCount_9 ?_
  refine x_iald hx hb hK hP 1 0 (encZ S) rfl rfl (fun _ => rfl) (P := fun _ => True) (fun _ => trivial) (by decide) (by omega) dX9_benchCount_10 (fun _ => ?_)
  refine x_is (show (encZ S) 0 = (S 0 0) from (encV (k := 0) (i := 0) (Or.inl ⟨rfl, by decide, by decide, rfl⟩)).trans (rfl)) ?_
  have hEq : modelC ck mo (encZ S) F1 F2 F3 F4 (upS M 8 0 0) = modelC ck mo (encZ S) F1 F2 F3 F4 (upS M 8 0 0) := rfl
  exact W.iret (v := _) hx hb hr (fun t9 ht9 hW9 => ⟨⟨_, (), rfl, rfl, by rw [ht9, hEq]; exact hP, by rw [hEq, hAe]; exact hD⟩, hS.F ht9⟩) hS.2.2 dX9_benchCount_11

set_option maxHeartbeats 4000000 in
set_option maxRecDepth 100000 in
/-- BenchBrokerModel.fountainCount -/
theorem m_fountainCount (l : Launch) (dg : va_G) (ck : Nat → ClassId) (mo : Nat → Nat) (S : St) (F1 F2 F3 F4 : Int → Int) (M : St) (sz : Nat) (hI : Bd S)  : Met l yX9_fountainCount (.code yX9_fountainCount cX9_fountainCount 1 (some .int) :: GW) ({ frames := 0, cells := 0, slots := 0, locals := 0 }) (va_Pc [.ref (mo 0)] (wrP dg ck sz (modelC ck mo (encZ S) F1 F2 F3 F4 M))) (va_Qi (fun r (_ : Unit) => r = zI (S 0 1)) (fun _ t9 => wrQ dg sz (modelC ck mo (encZ S) F1 F2 F3 F4 M) (modelC ck mo (encZ S) F1 F2 F3 F4 (upS M 8 0 0)) t9) (va_A (modelC ck mo (encZ S) F1 F2 F3 F4 M) sz)) 0 0 (va_A (modelC ck mo (encZ S) F1 F2 F3 F4 M) sz) := by
  refine Met.ofW (cc := cX9_fountainCount) (maxL := 1) (ret := (some .int)) (by decide) rfl ?_
  intro p e s m args below meth c s₁ B hml hv
  obtain ⟨rfl, hsz, hP, hK, hD0⟩ := hv
  have hx := B.exec
  have hb := B.bytes
  have hr := B.returns
  have hts := atoms_spec (ws := .code yX9_fountainCount cX9_fountainCount 1 (some .int) :: GW) B.pre
  have htg : ∀ w ∈ GW, w.before _ s = true := fun w h => hts w (List.mem_cons_of_mem _ h)
  have hown : s.vm.findClass RX9 = some m.cls := findClass_of_methodNamed B.named
  have hlocks := B.notSynchronized
  subst hsz
  have hD := hD0.self (sz := s.heap.size)
  generalize hAe : va_A (modelC ck mo (encZ S) F1 F2 F3 F4 M) s.heap.size = A at hD ⊢
  have hA : ∀ q : Nat, s.heap.size ≤ q → A q := fun q h => by rw [← hAe]; exact Or.inr h
  have hS : va_S A s.heap s.heap [] := va_S.rf
  have hP : va_P dg vwCl (modelC ck mo (encZ S) F1 F2 F3 F4 M) s.heap := hP
  have hl := lv_entry ([.ref (mo 0)]) (n := 1) (Nat.le_of_ble_eq_true rfl)
  rw [lg_entry_eq]
  generalize (lg_sl ([.ref (mo 0)]) ++ List.replicate (1 - (lg_sl ([.ref (mo 0)])).length) Slot.unset).toArray = ls at hl ⊢
  have hl : lv_has ls 1 [(0, .ref (mo 0))] := hl
  obtain ⟨b00, b01, b02, b03, b1, b2, b3, b4, b5, b6, b7, b8, b9, b10, b11, b12⟩ := id hI
  refine lv_aload_n hx hb dX9_fountainCount_0 rfl (lv_at hl 0 rfl) ?_
  refine x_iconst hx hb dX9_fountainCount_1 ?_
  refine va_put (D := dg) (ci := 11) (v := .int (zI 0)) (ty := .int) (C := RX9) (T := TX9) (N := 23) hx hb htg inG_X9 tyX9 tyX9_ok nmX9 hown hK hP hD hS 0 rfl rfl 0 (Nat.le_of_ble_eq_true rfl) (htg _ wq_1557) (fun _ h9 => h9) rfl (by decide +kernel) rfl rfl (Nat.le_of_ble_eq_true rfl) dX9_fountainCount_2 (fun H locs hP hD hS => ?_)
  have hP : va_P dg vwCl (modelC ck mo (encZ S) F1 F2 F3 F4 (upS M 8 0 0)) H := hP
  have hD : va_D A (modelC ck mo (encZ S) F1 F2 F3 F4 (upS M 8 0 0)) := hD
  refine lv_aload_n hx hb dX9_fountainCount_5 rfl (lv_at hl 0 rfl) ?_
  refine va_get (D := dg) (ci := 11) (v := .ref (mo 1)) (C := RX9) (T := TX9) (N := 23) hx hb htg inG_X9 hown hK hP 0 rfl rfl 1 (Nat.le_of_ble_eq_true rfl) (htg _ wq_1558) (fun _ h9 => h9) rfl dX9_fountainCount_6 ?_
  refine x_iconst hx hb dX9_fountainCount_9 ?_
  refine x_iald hx hb hK hP 1 0 (encZ S) rfl rfl (fun _ => rfl) (P := fun _ => True) (fun _ => trivial) (by decide) (by omega) dX9_fountainCount_10 (fun _ => ?_)
  refine x_is (show (encZ S) 1 = (S 0 1) from (encV (k := 0) (i := 1) (Or.inl ⟨rfl, by decide, by decide, rfl⟩)).trans (rfl)) ?_
  have hEq : modelC ck mo (encZ S) F1 F2 F3 F4 (upS M 8 0 0) = modelC ck mo (encZ S) F1 F2 F3 F4 (upS M 8 0 0) := rfl
  exact W.iret (v := _) hx hb hr (fun t9 ht9 hW9 => ⟨⟨_, (), rfl, rfl, by rw [ht9, hEq]; exact hP, by rw [hEq, hAe]; exact hD⟩, hS.F ht9⟩) hS.2.2 dX9_fountainCount_11

set_option maxHeartbeats 4000000 in
set_option maxRecDepth 100000 in
/-- BenchBrokerModel.tenantCount -/
theorem m_tenantCount (l : Launch) (dg : va_G) (ck : Nat → ClassId) (mo : Nat → Nat) (S : St) (F1 F2 F3 F4 : Int → Int) (M : St) (sz : Nat) (hI : Bd S)  : Met l yX9_tenantCount (.code yX9_tenantCount cX9_tenantCount 1 (some .int) :: GW) ({ frames := 0, cells := 0, slots := 0, locals := 0 }) (va_Pc [.ref (mo 0)] (wrP dg ck sz (modelC ck mo (encZ S) F1 F2 F3 F4 M))) (va_Qi (fun r (_ : Unit) => r = zI (S 0 2)) (fun _ t9 => wrQ dg sz (modelC ck mo (encZ S) F1 F2 F3 F4 M) (modelC ck mo (encZ S) F1 F2 F3 F4 (upS M 8 0 0)) t9) (va_A (modelC ck mo (encZ S) F1 F2 F3 F4 M) sz)) 0 0 (va_A (modelC ck mo (encZ S) F1 F2 F3 F4 M) sz) := by
  refine Met.ofW (cc := cX9_tenantCount) (maxL := 1) (ret := (some .int)) (by decide) rfl ?_
  intro p e s m args below meth c s₁ B hml hv
  obtain ⟨rfl, hsz, hP, hK, hD0⟩ := hv
  have hx := B.exec
  have hb := B.bytes
  have hr := B.returns
  have hts := atoms_spec (ws := .code yX9_tenantCount cX9_tenantCount 1 (some .int) :: GW) B.pre
  have htg : ∀ w ∈ GW, w.before _ s = true := fun w h => hts w (List.mem_cons_of_mem _ h)
  have hown : s.vm.findClass RX9 = some m.cls := findClass_of_methodNamed B.named
  have hlocks := B.notSynchronized
  subst hsz
  have hD := hD0.self (sz := s.heap.size)
  generalize hAe : va_A (modelC ck mo (encZ S) F1 F2 F3 F4 M) s.heap.size = A at hD ⊢
  have hA : ∀ q : Nat, s.heap.size ≤ q → A q := fun q h => by rw [← hAe]; exact Or.inr h
  have hS : va_S A s.heap s.heap [] := va_S.rf
  have hP : va_P dg vwCl (modelC ck mo (encZ S) F1 F2 F3 F4 M) s.heap := hP
  have hl := lv_entry ([.ref (mo 0)]) (n := 1) (Nat.le_of_ble_eq_true rfl)
  rw [lg_entry_eq]
  generalize (lg_sl ([.ref (mo 0)]) ++ List.replicate (1 - (lg_sl ([.ref (mo 0)])).length) Slot.unset).toArray = ls at hl ⊢
  have hl : lv_has ls 1 [(0, .ref (mo 0))] := hl
  obtain ⟨b00, b01, b02, b03, b1, b2, b3, b4, b5, b6, b7, b8, b9, b10, b11, b12⟩ := id hI
  refine lv_aload_n hx hb dX9_tenantCount_0 rfl (lv_at hl 0 rfl) ?_
  refine x_iconst hx hb dX9_tenantCount_1 ?_
  refine va_put (D := dg) (ci := 11) (v := .int (zI 0)) (ty := .int) (C := RX9) (T := TX9) (N := 23) hx hb htg inG_X9 tyX9 tyX9_ok nmX9 hown hK hP hD hS 0 rfl rfl 0 (Nat.le_of_ble_eq_true rfl) (htg _ wq_1557) (fun _ h9 => h9) rfl (by decide +kernel) rfl rfl (Nat.le_of_ble_eq_true rfl) dX9_tenantCount_2 (fun H locs hP hD hS => ?_)
  have hP : va_P dg vwCl (modelC ck mo (encZ S) F1 F2 F3 F4 (upS M 8 0 0)) H := hP
  have hD : va_D A (modelC ck mo (encZ S) F1 F2 F3 F4 (upS M 8 0 0)) := hD
  refine lv_aload_n hx hb dX9_tenantCount_5 rfl (lv_at hl 0 rfl) ?_
  refine va_get (D := dg) (ci := 11) (v := .ref (mo 1)) (C := RX9) (T := TX9) (N := 23) hx hb htg inG_X9 hown hK hP 0 rfl rfl 1 (Nat.le_of_ble_eq_true rfl) (htg _ wq_1558) (fun _ h9 => h9) rfl dX9_tenantCount_6 ?_
  refine x_iconst hx hb dX9_tenantCount_9 ?_
  refine x_iald hx hb hK hP 1 0 (encZ S) rfl rfl (fun _ => rfl) (P := fun _ => True) (fun _ => trivial) (by decide) (by omega) dX9_tenantCount_10 (fun _ => ?_)
  refine x_is (show (encZ S) 2 = (S 0 2) from (encV (k := 0) (i := 2) (Or.inl ⟨rfl, by decide, by decide, rfl⟩)).trans (rfl)) ?_
  have hEq : modelC ck mo (encZ S) F1 F2 F3 F4 (upS M 8 0 0) = modelC ck mo (encZ S) F1 F2 F3 F4 (upS M 8 0 0) := rfl
  exact W.iret (v := _) hx hb hr (fun t9 ht9 hW9 => ⟨⟨_, (), rfl, rfl, by rw [ht9, hEq]; exact hP, by rw [hEq, hAe]; exact hD⟩, hS.F ht9⟩) hS.2.2 dX9_tenantCount_11

set_option maxHeartbeats 4000000 in
set_option maxRecDepth 100000 in
/-- BenchBrokerModel.noiseLimit -/
theorem m_noiseLimit (l : Launch) (dg : va_G) (ck : Nat → ClassId) (mo : Nat → Nat) (S : St) (F1 F2 F3 F4 : Int → Int) (M : St) (sz : Nat) (hI : Bd S)  : Met l yX9_noiseLimit (.code yX9_noiseLimit cX9_noiseLimit 1 (some .int) :: GW) ({ frames := 0, cells := 0, slots := 0, locals := 0 }) (va_Pc [.ref (mo 0)] (wrP dg ck sz (modelC ck mo (encZ S) F1 F2 F3 F4 M))) (va_Qi (fun r (_ : Unit) => r = zI (S 0 3)) (fun _ t9 => wrQ dg sz (modelC ck mo (encZ S) F1 F2 F3 F4 M) (modelC ck mo (encZ S) F1 F2 F3 F4 (upS M 8 0 0)) t9) (va_A (modelC ck mo (encZ S) F1 F2 F3 F4 M) sz)) 0 0 (va_A (modelC ck mo (encZ S) F1 F2 F3 F4 M) sz) := by
  refine Met.ofW (cc := cX9_noiseLimit) (maxL := 1) (ret := (some .int)) (by decide) rfl ?_
  intro p e s m args below meth c s₁ B hml hv
  obtain ⟨rfl, hsz, hP, hK, hD0⟩ := hv
  have hx := B.exec
  have hb := B.bytes
  have hr := B.returns
  have hts := atoms_spec (ws := .code yX9_noiseLimit cX9_noiseLimit 1 (some .int) :: GW) B.pre
  have htg : ∀ w ∈ GW, w.before _ s = true := fun w h => hts w (List.mem_cons_of_mem _ h)
  have hown : s.vm.findClass RX9 = some m.cls := findClass_of_methodNamed B.named
  have hlocks := B.notSynchronized
  subst hsz
  have hD := hD0.self (sz := s.heap.size)
  generalize hAe : va_A (modelC ck mo (encZ S) F1 F2 F3 F4 M) s.heap.size = A at hD ⊢
  have hA : ∀ q : Nat, s.heap.size ≤ q → A q := fun q h => by rw [← hAe]; exact Or.inr h
  have hS : va_S A s.heap s.heap [] := va_S.rf
  have hP : va_P dg vwCl (modelC ck mo (encZ S) F1 F2 F3 F4 M) s.heap := hP
  have hl := lv_entry ([.ref (mo 0)]) (n := 1) (Nat.le_of_ble_eq_true rfl)
  rw [lg_entry_eq]
  generalize (lg_sl ([.ref (mo 0)]) ++ List.replicate (1 - (lg_sl ([.ref (mo 0)])).length) Slot.unset).toArray = ls at hl ⊢
  have hl : lv_has ls 1 [(0, .ref (mo 0))] := hl
  obtain ⟨b00, b01, b02, b03, b1, b2, b3, b4, b5, b6, b7, b8, b9, b10, b11, b12⟩ := id hI
  refine lv_aload_n hx hb dX9_noiseLimit_0 rfl (lv_at hl 0 rfl) ?_
  refine x_iconst hx hb dX9_noiseLimit_1 ?_
  refine va_put (D := dg) (ci := 11) (v := .int (zI 0)) (ty := .int) (C := RX9) (T := TX9) (N := 23) hx hb htg inG_X9 tyX9 tyX9_ok nmX9 hown hK hP hD hS 0 rfl rfl 0 (Nat.le_of_ble_eq_true rfl) (htg _ wq_1557) (fun _ h9 => h9) rfl (by decide +kernel) rfl rfl (Nat.le_of_ble_eq_true rfl) dX9_noiseLimit_2 (fun H locs hP hD hS => ?_)
  have hP : va_P dg vwCl (modelC ck mo (encZ S) F1 F2 F3 F4 (upS M 8 0 0)) H := hP
  have hD : va_D A (modelC ck mo (encZ S) F1 F2 F3 F4 (upS M 8 0 0)) := hD
  refine lv_aload_n hx hb dX9_noiseLimit_5 rfl (lv_at hl 0 rfl) ?_
  refine va_get (D := dg) (ci := 11) (v := .ref (mo 1)) (C := RX9) (T := TX9) (N := 23) hx hb htg inG_X9 hown hK hP 0 rfl rfl 1 (Nat.le_of_ble_eq_true rfl) (htg _ wq_1558) (fun _ h9 => h9) rfl dX9_noiseLimit_6 ?_
  refine x_iconst hx hb dX9_noiseLimit_9 ?_
  refine x_iald hx hb hK hP 1 0 (encZ S) rfl rfl (fun _ => rfl) (P := fun _ => True) (fun _ => trivial) (by decide) (by omega) dX9_noiseLimit_10 (fun _ => ?_)
  refine x_is (show (encZ S) 3 = (S 0 3) from (encV (k := 0) (i := 3) (Or.inl ⟨rfl, by decide, by decide, rfl⟩)).trans (rfl)) ?_
  have hEq : modelC ck mo (encZ S) F1 F2 F3 F4 (upS M 8 0 0) = modelC ck mo (encZ S) F1 F2 F3 F4 (upS M 8 0 0) := rfl
  exact W.iret (v := _) hx hb hr (fun t9 ht9 hW9 => ⟨⟨_, (), rfl, rfl, by rw [ht9, hEq]; exact hP, by rw [hEq, hAe]; exact hD⟩, hS.F ht9⟩) hS.2.2 dX9_noiseLimit_11

set_option maxHeartbeats 4000000 in
set_option maxRecDepth 100000 in
/-- BenchBrokerModel.month -/
theorem m_month (l : Launch) (dg : va_G) (ck : Nat → ClassId) (mo : Nat → Nat) (S : St) (F1 F2 F3 F4 : Int → Int) (M : St) (sz : Nat) (hI : Bd S)  : Met l yX9_month (.code yX9_month cX9_month 1 (some .int) :: GW) ({ frames := 0, cells := 0, slots := 0, locals := 0 }) (va_Pc [.ref (mo 0)] (wrP dg ck sz (modelC ck mo (encZ S) F1 F2 F3 F4 M))) (va_Qi (fun r (_ : Unit) => r = zI (S 0 4)) (fun _ t9 => wrQ dg sz (modelC ck mo (encZ S) F1 F2 F3 F4 M) (modelC ck mo (encZ S) F1 F2 F3 F4 (upS M 8 0 0)) t9) (va_A (modelC ck mo (encZ S) F1 F2 F3 F4 M) sz)) 0 0 (va_A (modelC ck mo (encZ S) F1 F2 F3 F4 M) sz) := by
  refine Met.ofW (cc := cX9_month) (maxL := 1) (ret := (some .int)) (by decide) rfl ?_
  intro p e s m args below meth c s₁ B hml hv
  obtain ⟨rfl, hsz, hP, hK, hD0⟩ := hv
  have hx := B.exec
  have hb := B.bytes
  have hr := B.returns
  have hts := atoms_spec (ws := .code yX9_month cX9_month 1 (some .int) :: GW) B.pre
  have htg : ∀ w ∈ GW, w.before _ s = true := fun w h => hts w (List.mem_cons_of_mem _ h)
  have hown : s.vm.findClass RX9 = some m.cls := findClass_of_methodNamed B.named
  have hlocks := B.notSynchronized
  subst hsz
  have hD := hD0.self (sz := s.heap.size)
  generalize hAe : va_A (modelC ck mo (encZ S) F1 F2 F3 F4 M) s.heap.size = A at hD ⊢
  have hA : ∀ q : Nat, s.heap.size ≤ q → A q := fun q h => by rw [← hAe]; exact Or.inr h
  have hS : va_S A s.heap s.heap [] := va_S.rf
  have hP : va_P dg vwCl (modelC ck mo (encZ S) F1 F2 F3 F4 M) s.heap := hP
  have hl := lv_entry ([.ref (mo 0)]) (n := 1) (Nat.le_of_ble_eq_true rfl)
  rw [lg_entry_eq]
  generalize (lg_sl ([.ref (mo 0)]) ++ List.replicate (1 - (lg_sl ([.ref (mo 0)])).length) Slot.unset).toArray = ls at hl ⊢
  have hl : lv_has ls 1 [(0, .ref (mo 0))] := hl
  obtain ⟨b00, b01, b02, b03, b1, b2, b3, b4, b5, b6, b7, b8, b9, b10, b11, b12⟩ := id hI
  refine lv_aload_n hx hb dX9_month_0 rfl (lv_at hl 0 rfl) ?_
  refine x_iconst hx hb dX9_month_1 ?_
  refine va_put (D := dg) (ci := 11) (v := .int (zI 0)) (ty := .int) (C := RX9) (T := TX9) (N := 23) hx hb htg inG_X9 tyX9 tyX9_ok nmX9 hown hK hP hD hS 0 rfl rfl 0 (Nat.le_of_ble_eq_true rfl) (htg _ wq_1557) (fun _ h9 => h9) rfl (by decide +kernel) rfl rfl (Nat.le_of_ble_eq_true rfl) dX9_month_2 (fun H locs hP hD hS => ?_)
  have hP : va_P dg vwCl (modelC ck mo (encZ S) F1 F2 F3 F4 (upS M 8 0 0)) H := hP
  have hD : va_D A (modelC ck mo (encZ S) F1 F2 F3 F4 (upS M 8 0 0)) := hD
  refine lv_aload_n hx hb dX9_month_5 rfl (lv_at hl 0 rfl) ?_
  refine va_get (D := dg) (ci := 11) (v := .ref (mo 1)) (C := RX9) (T := TX9) (N := 23) hx hb htg inG_X9 hown hK hP 0 rfl rfl 1 (Nat.le_of_ble_eq_true rfl) (htg _ wq_1558) (fun _ h9 => h9) rfl dX9_month_6 ?_
  refine x_iconst hx hb dX9_month_9 ?_
  refine x_iald hx hb hK hP 1 0 (encZ S) rfl rfl (fun _ => rfl) (P := fun _ => True) (fun _ => trivial) (by decide) (by omega) dX9_month_10 (fun _ => ?_)
  refine x_is (show (encZ S) 4 = (S 0 4) from (encV (k := 0) (i := 4) (Or.inl ⟨rfl, by decide, by decide, rfl⟩)).trans (rfl)) ?_
  have hEq : modelC ck mo (encZ S) F1 F2 F3 F4 (upS M 8 0 0) = modelC ck mo (encZ S) F1 F2 F3 F4 (upS M 8 0 0) := rfl
  exact W.iret (v := _) hx hb hr (fun t9 ht9 hW9 => ⟨⟨_, (), rfl, rfl, by rw [ht9, hEq]; exact hP, by rw [hEq, hAe]; exact hD⟩, hS.F ht9⟩) hS.2.2 dX9_month_11

set_option maxHeartbeats 4000000 in
set_option maxRecDepth 100000 in
/-- BenchBrokerModel.brokerCoins -/
theorem m_brokerCoins (l : Launch) (dg : va_G) (ck : Nat → ClassId) (mo : Nat → Nat) (S : St) (F1 F2 F3 F4 : Int → Int) (M : St) (sz : Nat) (hI : Bd S)  : Met l yX9_brokerCoins (.code yX9_brokerCoins cX9_brokerCoins 1 (some .int) :: GW) ({ frames := 0, cells := 0, slots := 0, locals := 0 }) (va_Pc [.ref (mo 0)] (wrP dg ck sz (modelC ck mo (encZ S) F1 F2 F3 F4 M))) (va_Qi (fun r (_ : Unit) => r = zI (S 0 5)) (fun _ t9 => wrQ dg sz (modelC ck mo (encZ S) F1 F2 F3 F4 M) (modelC ck mo (encZ S) F1 F2 F3 F4 (upS M 8 0 0)) t9) (va_A (modelC ck mo (encZ S) F1 F2 F3 F4 M) sz)) 0 0 (va_A (modelC ck mo (encZ S) F1 F2 F3 F4 M) sz) := by
  refine Met.ofW (cc := cX9_brokerCoins) (maxL := 1) (ret := (some .int)) (by decide) rfl ?_
  intro p e s m args below meth c s₁ B hml hv
  obtain ⟨rfl, hsz, hP, hK, hD0⟩ := hv
  have hx := B.exec
  have hb := B.bytes
  have hr := B.returns
  have hts := atoms_spec (ws := .code yX9_brokerCoins cX9_brokerCoins 1 (some .int) :: GW) B.pre
  have htg : ∀ w ∈ GW, w.before _ s = true := fun w h => hts w (List.mem_cons_of_mem _ h)
  have hown : s.vm.findClass RX9 = some m.cls := findClass_of_methodNamed B.named
  have hlocks := B.notSynchronized
  subst hsz
  have hD := hD0.self (sz := s.heap.size)
  generalize hAe : va_A (modelC ck mo (encZ S) F1 F2 F3 F4 M) s.heap.size = A at hD ⊢
  have hA : ∀ q : Nat, s.heap.size ≤ q → A q := fun q h => by rw [← hAe]; exact Or.inr h
  have hS : va_S A s.heap s.heap [] := va_S.rf
  have hP : va_P dg vwCl (modelC ck mo (encZ S) F1 F2 F3 F4 M) s.heap := hP
  have hl := lv_entry ([.ref (mo 0)]) (n := 1) (Nat.le_of_ble_eq_true rfl)
  rw [lg_entry_eq]
  generalize (lg_sl ([.ref (mo 0)]) ++ List.replicate (1 - (lg_sl ([.ref (mo 0)])).length) Slot.unset).toArray = ls at hl ⊢
  have hl : lv_has ls 1 [(0, .ref (mo 0))] := hl
  obtain ⟨b00, b01, b02, b03, b1, b2, b3, b4, b5, b6, b7, b8, b9, b10, b11, b12⟩ := id hI
  refine lv_aload_n hx hb dX9_brokerCoins_0 rfl (lv_at hl 0 rfl) ?_
  refine x_iconst hx hb dX9_brokerCoins_1 ?_
  refine va_put (D := dg) (ci := 11) (v := .int (zI 0)) (ty := .int) (C := RX9) (T := TX9) (N := 23) hx hb htg inG_X9 tyX9 tyX9_ok nmX9 hown hK hP hD hS 0 rfl rfl 0 (Nat.le_of_ble_eq_true rfl) (htg _ wq_1557) (fun _ h9 => h9) rfl (by decide +kernel) rfl rfl (Nat.le_of_ble_eq_true rfl) dX9_brokerCoins_2 (fun H locs hP hD hS => ?_)
  have hP : va_P dg vwCl (modelC ck mo (encZ S) F1 F2 F3 F4 (upS M 8 0 0)) H := hP
  have hD : va_D A (modelC ck mo (encZ S) F1 F2 F3 F4 (upS M 8 0 0)) := hD
  refine lv_aload_n hx hb dX9_brokerCoins_5 rfl (lv_at hl 0 rfl) ?_
  refine va_get (D := dg) (ci := 11) (v := .ref (mo 1)) (C := RX9) (T := TX9) (N := 23) hx hb htg inG_X9 hown hK hP 0 rfl rfl 1 (Nat.le_of_ble_eq_true rfl) (htg _ wq_1558) (fun _ h9 => h9) rfl dX9_brokerCoins_6 ?_
  refine x_iconst hx hb dX9_brokerCoins_9 ?_
  refine x_iald hx hb hK hP 1 0 (encZ S) rfl rfl (fun _ => rfl) (P := fun _ => True) (fun _ => trivial) (by decide) (by omega) dX9_brokerCoins_10 (fun _ => ?_)
  refine x_is (show (encZ S) 5 = (S 0 5) from (encV (k := 0) (i := 5) (Or.inl ⟨rfl, by decide, by decide, rfl⟩)).trans (rfl)) ?_
  have hEq : modelC ck mo (encZ S) F1 F2 F3 F4 (upS M 8 0 0) = modelC ck mo (encZ S) F1 F2 F3 F4 (upS M 8 0 0) := rfl
  exact W.iret (v := _) hx hb hr (fun t9 ht9 hW9 => ⟨⟨_, (), rfl, rfl, by rw [ht9, hEq]; exact hP, by rw [hEq, hAe]; exact hD⟩, hS.F ht9⟩) hS.2.2 dX9_brokerCoins_11

set_option maxHeartbeats 4000000 in
set_option maxRecDepth 100000 in
/-- BenchBrokerModel.allCoinsGiven -/
theorem m_allCoinsGiven (l : Launch) (dg : va_G) (ck : Nat → ClassId) (mo : Nat → Nat) (S : St) (F1 F2 F3 F4 : Int → Int) (M : St) (sz : Nat) (hI : Bd S)  : Met l yX9_allCoinsGiven (.code yX9_allCoinsGiven cX9_allCoinsGiven 1 (some .int) :: GW) ({ frames := 0, cells := 0, slots := 0, locals := 0 }) (va_Pc [.ref (mo 0)] (wrP dg ck sz (modelC ck mo (encZ S) F1 F2 F3 F4 M))) (va_Qi (fun r (_ : Unit) => r = zI (S 0 6)) (fun _ t9 => wrQ dg sz (modelC ck mo (encZ S) F1 F2 F3 F4 M) (modelC ck mo (encZ S) F1 F2 F3 F4 (upS M 8 0 0)) t9) (va_A (modelC ck mo (encZ S) F1 F2 F3 F4 M) sz)) 0 0 (va_A (modelC ck mo (encZ S) F1 F2 F3 F4 M) sz) := by
  refine Met.ofW (cc := cX9_allCoinsGiven) (maxL := 1) (ret := (some .int)) (by decide) rfl ?_
  intro p e s m args below meth c s₁ B hml hv
  obtain ⟨rfl, hsz, hP, hK, hD0⟩ := hv
  have hx := B.exec
  have hb := B.bytes
  have hr := B.returns
  have hts := atoms_spec (ws := .code yX9_allCoinsGiven cX9_allCoinsGiven 1 (some .int) :: GW) B.pre
  have htg : ∀ w ∈ GW, w.before _ s = true := fun w h => hts w (List.mem_cons_of_mem _ h)
  have hown : s.vm.findClass RX9 = some m.cls := findClass_of_methodNamed B.named
  have hlocks := B.notSynchronized
  subst hsz
  have hD := hD0.self (sz := s.heap.size)
  generalize hAe : va_A (modelC ck mo (encZ S) F1 F2 F3 F4 M) s.heap.size = A at hD ⊢
  have hA : ∀ q : Nat, s.heap.size ≤ q → A q := fun q h => by rw [← hAe]; exact Or.inr h
  have hS : va_S A s.heap s.heap [] := va_S.rf
  have hP : va_P dg vwCl (modelC ck mo (encZ S) F1 F2 F3 F4 M) s.heap := hP
  have hl := lv_entry ([.ref (mo 0)]) (n := 1) (Nat.le_of_ble_eq_true rfl)
  rw [lg_entry_eq]
  generalize (lg_sl ([.ref (mo 0)]) ++ List.replicate (1 - (lg_sl ([.ref (mo 0)])).length) Slot.unset).toArray = ls at hl ⊢
  have hl : lv_has ls 1 [(0, .ref (mo 0))] := hl
  obtain ⟨b00, b01, b02, b03, b1, b2, b3, b4, b5, b6, b7, b8, b9, b10, b11, b12⟩ := id hI
  refine lv_aload_n hx hb dX9_allCoinsGiven_0 rfl (lv_at hl 0 rfl) ?_
  refine x_iconst hx hb dX9_allCoinsGiven_1 ?_
  refine va_put (D := dg) (ci := 11) (v := .int (zI 0)) (ty := .int) (C := RX9) (T := TX9) (N := 23) hx hb htg inG_X9 tyX9 tyX9_ok nmX9 hown hK hP hD hS 0 rfl rfl 0 (Nat.le_of_ble_eq_true rfl) (htg _ wq_1557) (fun _ h9 => h9) rfl (by decide +kernel) rfl rfl (Nat.le_of_ble_eq_true rfl) dX9_allCoinsGiven_2 (fun H locs hP hD hS => ?_)
  have hP : va_P dg vwCl (modelC ck mo (encZ S) F1 F2 F3 F4 (upS M 8 0 0)) H := hP
  have hD : va_D A (modelC ck mo (encZ S) F1 F2 F3 F4 (upS M 8 0 0)) := hD
  refine lv_aload_n hx hb dX9_allCoinsGiven_5 rfl (lv_at hl 0 rfl) ?_
  refine va_get (D := dg) (ci := 11) (v := .ref (mo 1)) (C := RX9) (T := TX9) (N := 23) hx hb htg inG_X9 hown hK hP 0 rfl rfl 1 (Nat.le_of_ble_eq_true rfl) (htg _ wq_1558) (fun _ h9 => h9) rfl dX9_allCoinsGiven_6 ?_
  refine x_bipush hx hb dX9_allCoinsGiven_9 (by decide) ?_
  refine x_iald hx hb hK hP 1 0 (encZ S) rfl rfl (fun _ => rfl) (P := fun _ => True) (fun _ => trivial) (by decide) (by omega) dX9_allCoinsGiven_11 (fun _ => ?_)
  refine x_is (show (encZ S) 6 = (S 0 6) from (encV (k := 0) (i := 6) (Or.inl ⟨rfl, by decide, by decide, rfl⟩)).trans (rfl)) ?_
  have hEq : modelC ck mo (encZ S) F1 F2 F3 F4 (upS M 8 0 0) = modelC ck mo (encZ S) F1 F2 F3 F4 (upS M 8 0 0) := rfl
  exact W.iret (v := _) hx hb hr (fun t9 ht9 hW9 => ⟨⟨_, (), rfl, rfl, by rw [ht9, hEq]; exact hP, by rw [hEq, hAe]; exact hD⟩, hS.F ht9⟩) hS.2.2 dX9_allCoinsGiven_12

set_option maxHeartbeats 4000000 in
set_option maxRecDepth 100000 in
/-- BenchBrokerModel.defaultedLeases -/
theorem m_defaultedLeases (l : Launch) (dg : va_G) (ck : Nat → ClassId) (mo : Nat → Nat) (S : St) (F1 F2 F3 F4 : Int → Int) (M : St) (sz : Nat) (hI : Bd S)  : Met l yX9_defaultedLeases (.code yX9_defaultedLeases cX9_defaultedLeases 1 (some .int) :: GW) ({ frames := 0, cells := 0, slots := 0, locals := 0 }) (va_Pc [.ref (mo 0)] (wrP dg ck sz (modelC ck mo (encZ S) F1 F2 F3 F4 M))) (va_Qi (fun r (_ : Unit) => r = zI (S 0 7)) (fun _ t9 => wrQ dg sz (modelC ck mo (encZ S) F1 F2 F3 F4 M) (modelC ck mo (encZ S) F1 F2 F3 F4 (upS M 8 0 0)) t9) (va_A (modelC ck mo (encZ S) F1 F2 F3 F4 M) sz)) 0 0 (va_A (modelC ck mo (encZ S) F1 F2 F3 F4 M) sz) := by
  refine Met.ofW (cc := cX9_defaultedLeases) (maxL := 1) (ret := (some .int)) (by decide) rfl ?_
  intro p e s m args below meth c s₁ B hml hv
  obtain ⟨rfl, hsz, hP, hK, hD0⟩ := hv
  have hx := B.exec
  have hb := B.bytes
  have hr := B.returns
  have hts := atoms_spec (ws := .code yX9_defaultedLeases cX9_defaultedLeases 1 (some .int) :: GW) B.pre
  have htg : ∀ w ∈ GW, w.before _ s = true := fun w h => hts w (List.mem_cons_of_mem _ h)
  have hown : s.vm.findClass RX9 = some m.cls := findClass_of_methodNamed B.named
  have hlocks := B.notSynchronized
  subst hsz
  have hD := hD0.self (sz := s.heap.size)
  generalize hAe : va_A (modelC ck mo (encZ S) F1 F2 F3 F4 M) s.heap.size = A at hD ⊢
  have hA : ∀ q : Nat, s.heap.size ≤ q → A q := fun q h => by rw [← hAe]; exact Or.inr h
  have hS : va_S A s.heap s.heap [] := va_S.rf
  have hP : va_P dg vwCl (modelC ck mo (encZ S) F1 F2 F3 F4 M) s.heap := hP
  have hl := lv_entry ([.ref (mo 0)]) (n := 1) (Nat.le_of_ble_eq_true rfl)
  rw [lg_entry_eq]
  generalize (lg_sl ([.ref (mo 0)]) ++ List.replicate (1 - (lg_sl ([.ref (mo 0)])).length) Slot.unset).toArray = ls at hl ⊢
  have hl : lv_has ls 1 [(0, .ref (mo 0))] := hl
  obtain ⟨b00, b01, b02, b03, b1, b2, b3, b4, b5, b6, b7, b8, b9, b10, b11, b12⟩ := id hI
  refine lv_aload_n hx hb dX9_defaultedLeases_0 rfl (lv_at hl 0 rfl) ?_
  refine x_iconst hx hb dX9_defaultedLeases_1 ?_
  refine va_put (D := dg) (ci := 11) (v := .int (zI 0)) (ty := .int) (C := RX9) (T := TX9) (N := 23) hx hb htg inG_X9 tyX9 tyX9_ok nmX9 hown hK hP hD hS 0 rfl rfl 0 (Nat.le_of_ble_eq_true rfl) (htg _ wq_1557) (fun _ h9 => h9) rfl (by decide +kernel) rfl rfl (Nat.le_of_ble_eq_true rfl) dX9_defaultedLeases_2 (fun H locs hP hD hS => ?_)
  have hP : va_P dg vwCl (modelC ck mo (encZ S) F1 F2 F3 F4 (upS M 8 0 0)) H := hP
  have hD : va_D A (modelC ck mo (encZ S) F1 F2 F3 F4 (upS M 8 0 0)) := hD
  refine lv_aload_n hx hb dX9_defaultedLeases_5 rfl (lv_at hl 0 rfl) ?_
  refine va_get (D := dg) (ci := 11) (v := .ref (mo 1)) (C := RX9) (T := TX9) (N := 23) hx hb htg inG_X9 hown hK hP 0 rfl rfl 1 (Nat.le_of_ble_eq_true rfl) (htg _ wq_1558) (fun _ h9 => h9) rfl dX9_defaultedLeases_6 ?_
  refine x_bipush hx hb dX9_defaultedLeases_9 (by decide) ?_
  refine x_iald hx hb hK hP 1 0 (encZ S) rfl rfl (fun _ => rfl) (P := fun _ => True) (fun _ => trivial) (by decide) (by omega) dX9_defaultedLeases_11 (fun _ => ?_)
  refine x_is (show (encZ S) 7 = (S 0 7) from (encV (k := 0) (i := 7) (Or.inl ⟨rfl, by decide, by decide, rfl⟩)).trans (rfl)) ?_
  have hEq : modelC ck mo (encZ S) F1 F2 F3 F4 (upS M 8 0 0) = modelC ck mo (encZ S) F1 F2 F3 F4 (upS M 8 0 0) := rfl
  exact W.iret (v := _) hx hb hr (fun t9 ht9 hW9 => ⟨⟨_, (), rfl, rfl, by rw [ht9, hEq]; exact hP, by rw [hEq, hAe]; exact hD⟩, hS.F ht9⟩) hS.2.2 dX9_defaultedLeases_12

set_option maxHeartbeats 4000000 in
set_option maxRecDepth 100000 in
/-- BenchBrokerModel.terminatedLeases -/
theorem m_terminatedLeases (l : Launch) (dg : va_G) (ck : Nat → ClassId) (mo : Nat → Nat) (S : St) (F1 F2 F3 F4 : Int → Int) (M : St) (sz : Nat) (hI : Bd S)  : Met l yX9_terminatedLeases (.code yX9_terminatedLeases cX9_terminatedLeases 1 (some .int) :: GW) ({ frames := 0, cells := 0, slots := 0, locals := 0 }) (va_Pc [.ref (mo 0)] (wrP dg ck sz (modelC ck mo (encZ S) F1 F2 F3 F4 M))) (va_Qi (fun r (_ : Unit) => r = zI (S 0 8)) (fun _ t9 => wrQ dg sz (modelC ck mo (encZ S) F1 F2 F3 F4 M) (modelC ck mo (encZ S) F1 F2 F3 F4 (upS M 8 0 0)) t9) (va_A (modelC ck mo (encZ S) F1 F2 F3 F4 M) sz)) 0 0 (va_A (modelC ck mo (encZ S) F1 F2 F3 F4 M) sz) := by
  refine Met.ofW (cc := cX9_terminatedLeases) (maxL := 1) (ret := (some .int)) (by decide) rfl ?_
  intro p e s m args below meth c s₁ B hml hv
  obtain ⟨rfl, hsz, hP, hK, hD0⟩ := hv
  have hx := B.exec
  have hb := B.bytes
  have hr := B.returns
  have hts := atoms_spec (ws := .code yX9_terminatedLeases cX9_terminatedLeases 1 (some .int) :: GW) B.pre
  have htg : ∀ w ∈ GW, w.before _ s = true := fun w h => hts w (List.mem_cons_of_mem _ h)
  have hown : s.vm.findClass RX9 = some m.cls := findClass_of_methodNamed B.named
  have hlocks := B.notSynchronized
  subst hsz
  have hD := hD0.self (sz := s.heap.size)
  generalize hAe : va_A (modelC ck mo (encZ S) F1 F2 F3 F4 M) s.heap.size = A at hD ⊢
  have hA : ∀ q : Nat, s.heap.size ≤ q → A q := fun q h => by rw [← hAe]; exact Or.inr h
  have hS : va_S A s.heap s.heap [] := va_S.rf
  have hP : va_P dg vwCl (modelC ck mo (encZ S) F1 F2 F3 F4 M) s.heap := hP
  have hl := lv_entry ([.ref (mo 0)]) (n := 1) (Nat.le_of_ble_eq_true rfl)
  rw [lg_entry_eq]
  generalize (lg_sl ([.ref (mo 0)]) ++ List.replicate (1 - (lg_sl ([.ref (mo 0)])).length) Slot.unset).toArray = ls at hl ⊢
  have hl : lv_has ls 1 [(0, .ref (mo 0))] := hl
  obtain ⟨b00, b01, b02, b03, b1, b2, b3, b4, b5, b6, b7, b8, b9, b10, b11, b12⟩ := id hI
  refine lv_aload_n hx hb dX9_terminatedLeases_0 rfl (lv_at hl 0 rfl) ?_
  refine x_iconst hx hb dX9_terminatedLeases_1 ?_
  refine va_put (D := dg) (ci := 11) (v := .int (zI 0)) (ty := .int) (C := RX9) (T := TX9) (N := 23) hx hb htg inG_X9 tyX9 tyX9_ok nmX9 hown hK hP hD hS 0 rfl rfl 0 (Nat.le_of_ble_eq_true rfl) (htg _ wq_1557) (fun _ h9 => h9) rfl (by decide +kernel) rfl rfl (Nat.le_of_ble_eq_true rfl) dX9_terminatedLeases_2 (fun H locs hP hD hS => ?_)
  have hP : va_P dg vwCl (modelC ck mo (encZ S) F1 F2 F3 F4 (upS M 8 0 0)) H := hP
  have hD : va_D A (modelC ck mo (encZ S) F1 F2 F3 F4 (upS M 8 0 0)) := hD
  refine lv_aload_n hx hb dX9_terminatedLeases_5 rfl (lv_at hl 0 rfl) ?_
  refine va_get (D := dg) (ci := 11) (v := .ref (mo 1)) (C := RX9) (T := TX9) (N := 23) hx hb htg inG_X9 hown hK hP 0 rfl rfl 1 (Nat.le_of_ble_eq_true rfl) (htg _ wq_1558) (fun _ h9 => h9) rfl dX9_terminatedLeases_6 ?_
  refine x_bipush hx hb dX9_terminatedLeases_9 (by decide) ?_
  refine x_iald hx hb hK hP 1 0 (encZ S) rfl rfl (fun _ => rfl) (P := fun _ => True) (fun _ => trivial) (by decide) (by omega) dX9_terminatedLeases_11 (fun _ => ?_)
  refine x_is (show (encZ S) 8 = (S 0 8) from (encV (k := 0) (i := 8) (Or.inl ⟨rfl, by decide, by decide, rfl⟩)).trans (rfl)) ?_
  have hEq : modelC ck mo (encZ S) F1 F2 F3 F4 (upS M 8 0 0) = modelC ck mo (encZ S) F1 F2 F3 F4 (upS M 8 0 0) := rfl
  exact W.iret (v := _) hx hb hr (fun t9 ht9 hW9 => ⟨⟨_, (), rfl, rfl, by rw [ht9, hEq]; exact hP, by rw [hEq, hAe]; exact hD⟩, hS.F ht9⟩) hS.2.2 dX9_terminatedLeases_12

set_option maxHeartbeats 4000000 in
set_option maxRecDepth 100000 in
/-- BenchBrokerModel.completedLeases -/
theorem m_completedLeases (l : Launch) (dg : va_G) (ck : Nat → ClassId) (mo : Nat → Nat) (S : St) (F1 F2 F3 F4 : Int → Int) (M : St) (sz : Nat) (hI : Bd S)  : Met l yX9_completedLeases (.code yX9_completedLeases cX9_completedLeases 1 (some .int) :: GW) ({ frames := 0, cells := 0, slots := 0, locals := 0 }) (va_Pc [.ref (mo 0)] (wrP dg ck sz (modelC ck mo (encZ S) F1 F2 F3 F4 M))) (va_Qi (fun r (_ : Unit) => r = zI (S 0 9)) (fun _ t9 => wrQ dg sz (modelC ck mo (encZ S) F1 F2 F3 F4 M) (modelC ck mo (encZ S) F1 F2 F3 F4 (upS M 8 0 0)) t9) (va_A (modelC ck mo (encZ S) F1 F2 F3 F4 M) sz)) 0 0 (va_A (modelC ck mo (encZ S) F1 F2 F3 F4 M) sz) := by
  refine Met.ofW (cc := cX9_completedLeases) (maxL := 1) (ret := (some .int)) (by decide) rfl ?_
  intro p e s m args below meth c s₁ B hml hv
  obtain ⟨rfl, hsz, hP, hK, hD0⟩ := hv
  have hx := B.exec
  have hb := B.bytes
  have hr := B.returns
  have hts := atoms_spec (ws := .code yX9_completedLeases cX9_completedLeases 1 (some .int) :: GW) B.pre
  have htg : ∀ w ∈ GW, w.before _ s = true := fun w h => hts w (List.mem_cons_of_mem _ h)
  have hown : s.vm.findClass RX9 = some m.cls := findClass_of_methodNamed B.named
  have hlocks := B.notSynchronized
  subst hsz
  have hD := hD0.self (sz := s.heap.size)
  generalize hAe : va_A (modelC ck mo (encZ S) F1 F2 F3 F4 M) s.heap.size = A at hD ⊢
  have hA : ∀ q : Nat, s.heap.size ≤ q → A q := fun q h => by rw [← hAe]; exact Or.inr h
  have hS : va_S A s.heap s.heap [] := va_S.rf
  have hP : va_P dg vwCl (modelC ck mo (encZ S) F1 F2 F3 F4 M) s.heap := hP
  have hl := lv_entry ([.ref (mo 0)]) (n := 1) (Nat.le_of_ble_eq_true rfl)
  rw [lg_entry_eq]
  generalize (lg_sl ([.ref (mo 0)]) ++ List.replicate (1 - (lg_sl ([.ref (mo 0)])).length) Slot.unset).toArray = ls at hl ⊢
  have hl : lv_has ls 1 [(0, .ref (mo 0))] := hl
  obtain ⟨b00, b01, b02, b03, b1, b2, b3, b4, b5, b6, b7, b8, b9, b10, b11, b12⟩ := id hI
  refine lv_aload_n hx hb dX9_completedLeases_0 rfl (lv_at hl 0 rfl) ?_
  refine x_iconst hx hb dX9_completedLeases_1 ?_
  refine va_put (D := dg) (ci := 11) (v := .int (zI 0)) (ty := .int) (C := RX9) (T := TX9) (N := 23) hx hb htg inG_X9 tyX9 tyX9_ok nmX9 hown hK hP hD hS 0 rfl rfl 0 (Nat.le_of_ble_eq_true rfl) (htg _ wq_1557) (fun _ h9 => h9) rfl (by decide +kernel) rfl rfl (Nat.le_of_ble_eq_true rfl) dX9_completedLeases_2 (fun H locs hP hD hS => ?_)
  have hP : va_P dg vwCl (modelC ck mo (encZ S) F1 F2 F3 F4 (upS M 8 0 0)) H := hP
  have hD : va_D A (modelC ck mo (encZ S) F1 F2 F3 F4 (upS M 8 0 0)) := hD
  refine lv_aload_n hx hb dX9_completedLeases_5 rfl (lv_at hl 0 rfl) ?_
  refine va_get (D := dg) (ci := 11) (v := .ref (mo 1)) (C := RX9) (T := TX9) (N := 23) hx hb htg inG_X9 hown hK hP 0 rfl rfl 1 (Nat.le_of_ble_eq_true rfl) (htg _ wq_1558) (fun _ h9 => h9) rfl dX9_completedLeases_6 ?_
  refine x_bipush hx hb dX9_completedLeases_9 (by decide) ?_
  refine x_iald hx hb hK hP 1 0 (encZ S) rfl rfl (fun _ => rfl) (P := fun _ => True) (fun _ => trivial) (by decide) (by omega) dX9_completedLeases_11 (fun _ => ?_)
  refine x_is (show (encZ S) 9 = (S 0 9) from (encV (k := 0) (i := 9) (Or.inl ⟨rfl, by decide, by decide, rfl⟩)).trans (rfl)) ?_
  have hEq : modelC ck mo (encZ S) F1 F2 F3 F4 (upS M 8 0 0) = modelC ck mo (encZ S) F1 F2 F3 F4 (upS M 8 0 0) := rfl
  exact W.iret (v := _) hx hb hr (fun t9 ht9 hW9 => ⟨⟨_, (), rfl, rfl, by rw [ht9, hEq]; exact hP, by rw [hEq, hAe]; exact hD⟩, hS.F ht9⟩) hS.2.2 dX9_completedLeases_12

set_option maxHeartbeats 4000000 in
set_option maxRecDepth 100000 in
/-- BenchBrokerModel.askedBench -/
theorem m_askedBench (l : Launch) (dg : va_G) (ck : Nat → ClassId) (mo : Nat → Nat) (S : St) (F1 F2 F3 F4 : Int → Int) (M : St) (b w : Int) (sz : Nat) (hI : Bd S) (rg_b : -2147483648 ≤ b ∧ b < 2147483648) (rg_w : -2147483648 ≤ w ∧ w < 2147483648) (hw0 : 0 ≤ w ∧ w < 6) : Met l yX9_askedBench (.code yX9_askedBench cX9_askedBench 3 (some .int) :: GW) ({ frames := 2, cells := 0, slots := 0, locals := 43 }) (va_Pc [.ref (mo 0), .int (zI b), .int (zI w)] (wrP dg ck sz (modelC ck mo (encZ S) F1 F2 F3 F4 M))) (va_Qi (fun r (_ : Unit) => r = zI (itZ (isBench S b) (S (1 + w.toNat) b))) (fun _ t9 => wrQ dg sz (modelC ck mo (encZ S) F1 F2 F3 F4 M) (modelC ck mo (encZ S) F1 F2 F3 F4 (upS M 8 0 (1 - bI (isBench S b)))) t9) (va_A (modelC ck mo (encZ S) F1 F2 F3 F4 M) sz)) 0 0 (va_A (modelC ck mo (encZ S) F1 F2 F3 F4 M) sz) := by
  refine Met.ofW (cc := cX9_askedBench) (maxL := 3) (ret := (some .int)) (by decide) rfl ?_
  intro p e s m args below meth c s₁ B hml hv
  obtain ⟨rfl, hsz, hP, hK, hD0⟩ := hv
  have hx := B.exec
  have hb := B.bytes
  have hr := B.returns
  have hts := atoms_spec (ws := .code yX9_askedBench cX9_askedBench 3 (some .int) :: GW) B.pre
  have htg : ∀ w ∈ GW, w.before _ s = true := fun w h => hts w (List.mem_cons_of_mem _ h)
  have hown : s.vm.findClass RX9 = some m.cls := findClass_of_methodNamed B.named
  have hlocks := B.notSynchronized
  subst hsz
  have hD := hD0.self (sz := s.heap.size)
  generalize hAe : va_A (modelC ck mo (encZ S) F1 F2 F3 F4 M) s.heap.size = A at hD ⊢
  have hA : ∀ q : Nat, s.heap.size ≤ q → A q := fun q h => by rw [← hAe]; exact Or.inr h
  have hS : va_S A s.heap s.heap [] := va_S.rf
  have hP : va_P dg vwCl (modelC ck mo (encZ S) F1 F2 F3 F4 M) s.heap := hP
  have hl := lv_entry ([.ref (mo 0), .int (zI b), .int (zI w)]) (n := 3) (Nat.le_of_ble_eq_true rfl)
  rw [lg_entry_eq]
  generalize (lg_sl ([.ref (mo 0), .int (zI b), .int (zI w)]) ++ List.replicate (3 - (lg_sl ([.ref (mo 0), .int (zI b), .int (zI w)])).length) Slot.unset).toArray = ls at hl ⊢
  have hl : lv_has ls 3 [(0, .ref (mo 0)), (1, .int (zI b)), (2, .int (zI w))] := hl
  obtain ⟨b00, b01, b02, b03, b1, b2, b3, b4, b5, b6, b7, b8, b9, b10, b11, b12⟩ := id hI
  refine lv_aload_n hx hb dX9_askedBench_0 rfl (lv_at hl 0 rfl) ?_
  refine lv_aload_n hx hb dX9_askedBench_1 rfl (lv_at hl 0 rfl) ?_
  refine lv_iload_n hx hb dX9_askedBench_2 rfl (lv_at hl 1 rfl) ?_
  refine vp_callSi (W.runV (As := [.int (zI b)]) (rest := [.ref (mo 0)]) ⟨hx, hb, hml, hown, htg⟩ (m_isBench l dg ck mo S F1 F2 F3 F4 M b hI (by omega)) (cwV 1 htg (gwV wq_1689 wq_1691 wp_42 wq_15 wq_1692) rfl rfl rfl (by decide +kernel) ⟨Nat.le_of_ble_eq_true rfl, Nat.le_of_ble_eq_true rfl⟩) (rd_preV hK hP 0 11 rfl rfl) rfl rfl hl.1 rfl (lv_room (Nat.le_of_ble_eq_true rfl)) dX9_askedBench_3 ⟨Nat.zero_le _, Nat.zero_le _⟩) (fun r3 hr3 => ?_)
  subst hr3
  refine x_bz_eq (tgt := 13) hx hb dX9_askedBench_6 (by decide) (fun c6 => ?_) (fun c6 => ?_)
  · refine x_iconst hx hb dX9_askedBench_13 ?_
    refine va_put (D := dg) (ci := 11) (v := .int (zI 1)) (ty := .int) (C := RX9) (T := TX9) (N := 23) hx hb htg inG_X9 tyX9 tyX9_ok nmX9 hown hK hP hD hS 0 rfl rfl 0 (Nat.le_of_ble_eq_true rfl) (htg _ wq_1557) (fun _ h9 => h9) rfl (by decide +kernel) rfl rfl (Nat.le_of_ble_eq_true rfl) dX9_askedBench_14 (fun H locs hP hD hS => ?_)
    have hP : va_P dg vwCl (modelC ck mo (encZ S) F1 F2 F3 F4 (upS M 8 0 1)) H := hP
    have hD : va_D A (modelC ck mo (encZ S) F1 F2 F3 F4 (upS M 8 0 1)) := hD
    refine lv_aload_n hx hb dX9_askedBench_17 rfl (lv_at hl 0 rfl) ?_
    refine va_get (D := dg) (ci := 11) (v := .int (zI 1)) (C := RX9) (T := TX9) (N := 23) hx hb htg inG_X9 hown hK hP 0 rfl rfl 0 (Nat.le_of_ble_eq_true rfl) (htg _ wq_1557) (fun _ h9 => h9) rfl dX9_askedBench_18 ?_
    refine x_if_le (tgt := 28) hx hb dX9_askedBench_21 (by decide) (by omega) (fun c21 => absurd c21 (by decide)) (fun c21 => ?_)
    refine x_iconst hx hb dX9_askedBench_24 ?_
    refine lv_goto (tgt := 34) hx hb dX9_askedBench_25 (by decide) ?_
    have hEq : modelC ck mo (encZ S) F1 F2 F3 F4 (upS M 8 0 (1 - bI (isBench S b))) = modelC ck mo (encZ S) F1 F2 F3 F4 (upS M 8 0 1) := (by first | (rw [bI_t (show isBench S b by omega)] <;> rfl) | (rw [bI_f (show ¬ (isBench S b) by omega)] <;> rfl))
    exact W.iret (v := _) hx hb hr (fun t9 ht9 hW9 => ⟨⟨_, (), rfl, (by first | (rw [itZ_t (show isBench S b by omega)] <;> rfl) | (rw [itZ_f (show ¬ (isBench S b) by omega)] <;> rfl)), by rw [ht9, hEq]; exact hP, by rw [hEq, hAe]; exact hD⟩, hS.F ht9⟩) hS.2.2 dX9_askedBench_34
  · refine x_iconst hx hb dX9_askedBench_9 ?_
    refine lv_goto (tgt := 14) hx hb dX9_askedBench_10 (by decide) ?_
    refine va_put (D := dg) (ci := 11) (v := .int (zI 0)) (ty := .int) (C := RX9) (T := TX9) (N := 23) hx hb htg inG_X9 tyX9 tyX9_ok nmX9 hown hK hP hD hS 0 rfl rfl 0 (Nat.le_of_ble_eq_true rfl) (htg _ wq_1557) (fun _ h9 => h9) rfl (by decide +kernel) rfl rfl (Nat.le_of_ble_eq_true rfl) dX9_askedBench_14 (fun H locs hP hD hS => ?_)
    have hP : va_P dg vwCl (modelC ck mo (encZ S) F1 F2 F3 F4 (upS M 8 0 0)) H := hP
    have hD : va_D A (modelC ck mo (encZ S) F1 F2 F3 F4 (upS M 8 0 0)) := hD
    refine lv_aload_n hx hb dX9_askedBench_17 rfl (lv_at hl 0 rfl) ?_
    refine va_get (D := dg) (ci := 11) (v := .int (zI 0)) (C := RX9) (T := TX9) (N := 23) hx hb htg inG_X9 hown hK hP 0 rfl rfl 0 (Nat.le_of_ble_eq_true rfl) (htg _ wq_1557) (fun _ h9 => h9) rfl dX9_askedBench_18 ?_
    refine x_if_le (tgt := 28) hx hb dX9_askedBench_21 (by decide) (by omega) (fun c21 => ?_) (fun c21 => absurd c21 (by decide))
    refine lv_aload_n hx hb dX9_askedBench_28 rfl (lv_at hl 0 rfl) ?_
    refine lv_iload_n hx hb dX9_askedBench_29 rfl (lv_at hl 1 rfl) ?_
    refine lv_iload_n hx hb dX9_askedBench_30 rfl (lv_at hl 2 rfl) ?_
    refine vp_callSi (W.runV (As := [.int (zI b), .int (zI w)]) (rest := []) ⟨hx, hb, hml, hown, htg⟩ (m_bench l dg ck mo S F1 F2 F3 F4 (upS M 8 0 0) b w (by omega) (by omega)) (cwV 2 htg (gwV wq_1657 wq_1659 wp_35 wq_15 wq_1660) rfl rfl rfl (by decide +kernel) ⟨Nat.le_of_ble_eq_true rfl, Nat.le_of_ble_eq_true rfl⟩) (rd_preV hK hP 0 11 rfl rfl) rfl rfl hl.1 rfl (lv_room (Nat.le_of_ble_eq_true rfl)) dX9_askedBench_31 ⟨Nat.zero_le _, Nat.zero_le _⟩) (fun r31 hr31 => ?_)
    subst hr31
    have hEq : modelC ck mo (encZ S) F1 F2 F3 F4 (upS M 8 0 (1 - bI (isBench S b))) = modelC ck mo (encZ S) F1 F2 F3 F4 (upS M 8 0 0) := (by first | (rw [bI_t (show isBench S b by omega)] <;> rfl) | (rw [bI_f (show ¬ (isBench S b) by omega)] <;> rfl))
    exact W.iret (v := _) hx hb hr (fun t9 ht9 hW9 => ⟨⟨_, (), rfl, (by first | (rw [itZ_t (show isBench S b by omega)] <;> rfl) | (rw [itZ_f (show ¬ (isBench S b) by omega)] <;> rfl)), by rw [ht9, hEq]; exact hP, by rw [hEq, hAe]; exact hD⟩, hS.F ht9⟩) hS.2.2 dX9_askedBench_34

set_option maxHeartbeats 4000000 in
set_option maxRecDepth 100000 in
/-- BenchBrokerModel.askedTenant -/
theorem m_askedTenant (l : Launch) (dg : va_G) (ck : Nat → ClassId) (mo : Nat → Nat) (S : St) (F1 F2 F3 F4 : Int → Int) (M : St) (t w : Int) (sz : Nat) (hI : Bd S) (rg_t : -2147483648 ≤ t ∧ t < 2147483648) (rg_w : -2147483648 ≤ w ∧ w < 2147483648) (hw0 : 0 ≤ w ∧ w < 2) : Met l yX9_askedTenant (.code yX9_askedTenant cX9_askedTenant 3 (some .int) :: GW) ({ frames := 2, cells := 0, slots := 0, locals := 43 }) (va_Pc [.ref (mo 0), .int (zI t), .int (zI w)] (wrP dg ck sz (modelC ck mo (encZ S) F1 F2 F3 F4 M))) (va_Qi (fun r (_ : Unit) => r = zI (itZ (isTen S t) (S (11 + w.toNat) t))) (fun _ t9 => wrQ dg sz (modelC ck mo (encZ S) F1 F2 F3 F4 M) (modelC ck mo (encZ S) F1 F2 F3 F4 (upS M 8 0 (1 - bI (isTen S t)))) t9) (va_A (modelC ck mo (encZ S) F1 F2 F3 F4 M) sz)) 0 0 (va_A (modelC ck mo (encZ S) F1 F2 F3 F4 M) sz) := by
  refine Met.ofW (cc := cX9_askedTenant) (maxL := 3) (ret := (some .int)) (by decide) rfl ?_
  intro p e s m args below meth c s₁ B hml hv
  obtain ⟨rfl, hsz, hP, hK, hD0⟩ := hv
  have hx := B.exec
  have hb := B.bytes
  have hr := B.returns
  have hts := atoms_spec (ws := .code yX9_askedTenant cX9_askedTenant 3 (some .int) :: GW) B.pre
  have htg : ∀ w ∈ GW, w.before _ s = true := fun w h => hts w (List.mem_cons_of_mem _ h)
  have hown : s.vm.findClass RX9 = some m.cls := findClass_of_methodNamed B.named
  have hlocks := B.notSynchronized
  subst hsz
  have hD := hD0.self (sz := s.heap.size)
  generalize hAe : va_A (modelC ck mo (encZ S) F1 F2 F3 F4 M) s.heap.size = A at hD ⊢
  have hA : ∀ q : Nat, s.heap.size ≤ q → A q := fun q h => by rw [← hAe]; exact Or.inr h
  have hS : va_S A s.heap s.heap [] := va_S.rf
  have hP : va_P dg vwCl (modelC ck mo (encZ S) F1 F2 F3 F4 M) s.heap := hP
  have hl := lv_entry ([.ref (mo 0), .int (zI t), .int (zI w)]) (n := 3) (Nat.le_of_ble_eq_true rfl)
  rw [lg_entry_eq]
  generalize (lg_sl ([.ref (mo 0), .int (zI t), .int (zI w)]) ++ List.replicate (3 - (lg_sl ([.ref (mo 0), .int (zI t), .int (zI w)])).length) Slot.unset).toArray = ls at hl ⊢
  have hl : lv_has ls 3 [(0, .ref (mo 0)), (1, .int (zI t)), (2, .int (zI w))] := hl
  obtain ⟨b00, b01, b02, b03, b1, b2, b3, b4, b5, b6, b7, b8, b9, b10, b11, b12⟩ := id hI
  refine lv_aload_n hx hb dX9_askedTenant_0 rfl (lv_at hl 0 rfl) ?_
  refine lv_aload_n hx hb dX9_askedTenant_1 rfl (lv_at hl 0 rfl) ?_
  refine lv_iload_n hx hb dX9_askedTenant_2 rfl (lv_at hl 1 rfl) ?_
  refine vp_callSi (W.runV (As := [.int (zI t)]) (rest := [.ref (mo 0)]) ⟨hx, hb, hml, hown, htg⟩ (m_isTenant l dg ck mo S F1 F2 F3 F4 M t hI (by omega)) (cwV 1 htg (gwV wq_1821 wq_1823 wp_55 wq_15 wq_1824) rfl rfl rfl (by decide +kernel) ⟨Nat.le_of_ble_eq_true rfl, Nat.le_of_ble_eq_true rfl⟩) (rd_preV hK hP 0 11 rfl rfl) rfl rfl hl.1 rfl (lv_room (Nat.le_of_ble_eq_true rfl)) dX9_askedTenant_3 ⟨Nat.zero_le _, Nat.zero_le _⟩) (fun r3 hr3 => ?_)
  subst hr3
  refine x_bz_eq (tgt := 13) hx hb dX9_askedTenant_6 (by decide) (fun c6 => ?_) (fun c6 => ?_)
  · refine x_iconst hx hb dX9_askedTenant_13 ?_
    refine va_put (D := dg) (ci := 11) (v := .int (zI 1)) (ty := .int) (C := RX9) (T := TX9) (N := 23) hx hb htg inG_X9 tyX9 tyX9_ok nmX9 hown hK hP hD hS 0 rfl rfl 0 (Nat.le_of_ble_eq_true rfl) (htg _ wq_1557) (fun _ h9 => h9) rfl (by decide +kernel) rfl rfl (Nat.le_of_ble_eq_true rfl) dX9_askedTenant_14 (fun H locs hP hD hS => ?_)
    have hP : va_P dg vwCl (modelC ck mo (encZ S) F1 F2 F3 F4 (upS M 8 0 1)) H := hP
    have hD : va_D A (modelC ck mo (encZ S) F1 F2 F3 F4 (upS M 8 0 1)) := hD
    refine lv_aload_n hx hb dX9_askedTenant_17 rfl (lv_at hl 0 rfl) ?_
    refine va_get (D := dg) (ci := 11) (v := .int (zI 1)) (C := RX9) (T := TX9) (N := 23) hx hb htg inG_X9 hown hK hP 0 rfl rfl 0 (Nat.le_of_ble_eq_true rfl) (htg _ wq_1557) (fun _ h9 => h9) rfl dX9_askedTenant_18 ?_
    refine x_if_le (tgt := 28) hx hb dX9_askedTenant_21 (by decide) (by omega) (fun c21 => absurd c21 (by decide)) (fun c21 => ?_)
    refine x_iconst hx hb dX9_askedTenant_24 ?_
    refine lv_goto (tgt := 34) hx hb dX9_askedTenant_25 (by decide) ?_
    have hEq : modelC ck mo (encZ S) F1 F2 F3 F4 (upS M 8 0 (1 - bI (isTen S t))) = modelC ck mo (encZ S) F1 F2 F3 F4 (upS M 8 0 1) := (by first | (rw [bI_t (show isTen S t by omega)] <;> rfl) | (rw [bI_f (show ¬ (isTen S t) by omega)] <;> rfl))
    exact W.iret (v := _) hx hb hr (fun t9 ht9 hW9 => ⟨⟨_, (), rfl, (by first | (rw [itZ_t (show isTen S t by omega)] <;> rfl) | (rw [itZ_f (show ¬ (isTen S t) by omega)] <;> rfl)), by rw [ht9, hEq]; exact hP, by rw [hEq, hAe]; exact hD⟩, hS.F ht9⟩) hS.2.2 dX9_askedTenant_34
  · refine x_iconst hx hb dX9_askedTenant_9 ?_
    refine lv_goto (tgt := 14) hx hb dX9_askedTenant_10 (by decide) ?_
    refine va_put (D := dg) (ci := 11) (v := .int (zI 0)) (ty := .int) (C := RX9) (T := TX9) (N := 23) hx hb htg inG_X9 tyX9 tyX9_ok nmX9 hown hK hP hD hS 0 rfl rfl 0 (Nat.le_of_ble_eq_true rfl) (htg _ wq_1557) (fun _ h9 => h9) rfl (by decide +kernel) rfl rfl (Nat.le_of_ble_eq_true rfl) dX9_askedTenant_14 (fun H locs hP hD hS => ?_)
    have hP : va_P dg vwCl (modelC ck mo (encZ S) F1 F2 F3 F4 (upS M 8 0 0)) H := hP
    have hD : va_D A (modelC ck mo (encZ S) F1 F2 F3 F4 (upS M 8 0 0)) := hD
    refine lv_aload_n hx hb dX9_askedTenant_17 rfl (lv_at hl 0 rfl) ?_
    refine va_get (D := dg) (ci := 11) (v := .int (zI 0)) (C := RX9) (T := TX9) (N := 23) hx hb htg inG_X9 hown hK hP 0 rfl rfl 0 (Nat.le_of_ble_eq_true rfl) (htg _ wq_1557) (fun _ h9 => h9) rfl dX9_askedTenant_18 ?_
    refine x_if_le (tgt := 28) hx hb dX9_askedTenant_21 (by decide) (by omega) (fun c21 => ?_) (fun c21 => absurd c21 (by decide))
    refine lv_aload_n hx hb dX9_askedTenant_28 rfl (lv_at hl 0 rfl) ?_
    refine lv_iload_n hx hb dX9_askedTenant_29 rfl (lv_at hl 1 rfl) ?_
    refine lv_iload_n hx hb dX9_askedTenant_30 rfl (lv_at hl 2 rfl) ?_
    refine vp_callSi (W.runV (As := [.int (zI t), .int (zI w)]) (rest := []) ⟨hx, hb, hml, hown, htg⟩ (m_tenant l dg ck mo S F1 F2 F3 F4 (upS M 8 0 0) t w (by omega) (by omega)) (cwV 2 htg (gwV wq_1825 wq_1827 wp_56 wq_15 wq_1828) rfl rfl rfl (by decide +kernel) ⟨Nat.le_of_ble_eq_true rfl, Nat.le_of_ble_eq_true rfl⟩) (rd_preV hK hP 0 11 rfl rfl) rfl rfl hl.1 rfl (lv_room (Nat.le_of_ble_eq_true rfl)) dX9_askedTenant_31 ⟨Nat.zero_le _, Nat.zero_le _⟩) (fun r31 hr31 => ?_)
    subst hr31
    have hEq : modelC ck mo (encZ S) F1 F2 F3 F4 (upS M 8 0 (1 - bI (isTen S t))) = modelC ck mo (encZ S) F1 F2 F3 F4 (upS M 8 0 0) := (by first | (rw [bI_t (show isTen S t by omega)] <;> rfl) | (rw [bI_f (show ¬ (isTen S t) by omega)] <;> rfl))
    exact W.iret (v := _) hx hb hr (fun t9 ht9 hW9 => ⟨⟨_, (), rfl, (by first | (rw [itZ_t (show isTen S t by omega)] <;> rfl) | (rw [itZ_f (show ¬ (isTen S t) by omega)] <;> rfl)), by rw [ht9, hEq]; exact hP, by rw [hEq, hAe]; exact hD⟩, hS.F ht9⟩) hS.2.2 dX9_askedTenant_34

set_option maxHeartbeats 4000000 in
set_option maxRecDepth 100000 in
/-- BenchBrokerModel.rowOf -/
theorem m_rowOf (l : Launch) (dg : va_G) (ck : Nat → ClassId) (mo : Nat → Nat) (S : St) (F1 F2 F3 F4 : Int → Int) (M : St) (b : Int) (sz : Nat) (hI : Bd S) (rg_b : -2147483648 ≤ b ∧ b < 2147483648) : Met l yX9_rowOf (.code yX9_rowOf cX9_rowOf 2 (some .int) :: GW) ({ frames := 3, cells := 0, slots := 0, locals := 65 }) (va_Pc [.ref (mo 0), .int (zI b)] (wrP dg ck sz (modelC ck mo (encZ S) F1 F2 F3 F4 M))) (va_Qi (fun r (_ : Unit) => r = zI (itZ (isBench S b) (S 1 b))) (fun _ t9 => wrQ dg sz (modelC ck mo (encZ S) F1 F2 F3 F4 M) (modelC ck mo (encZ S) F1 F2 F3 F4 (upS M 8 0 (1 - bI (isBench S b)))) t9) (va_A (modelC ck mo (encZ S) F1 F2 F3 F4 M) sz)) 0 0 (va_A (modelC ck mo (encZ S) F1 F2 F3 F4 M) sz) := by
  refine Met.ofW (cc := cX9_rowOf) (maxL := 2) (ret := (some .int)) (by decide) rfl ?_
  intro p e s m args below meth c s₁ B hml hv
  obtain ⟨rfl, hsz, hP, hK, hD0⟩ := hv
  have hx := B.exec
  have hb := B.bytes
  have hr := B.returns
  have hts := atoms_spec (ws := .code yX9_rowOf cX9_rowOf 2 (some .int) :: GW) B.pre
  have htg : ∀ w ∈ GW, w.before _ s = true := fun w h => hts w (List.mem_cons_of_mem _ h)
  have hown : s.vm.findClass RX9 = some m.cls := findClass_of_methodNamed B.named
  have hlocks := B.notSynchronized
  subst hsz
  have hD := hD0.self (sz := s.heap.size)
  generalize hAe : va_A (modelC ck mo (encZ S) F1 F2 F3 F4 M) s.heap.size = A at hD ⊢
  have hA : ∀ q : Nat, s.heap.size ≤ q → A q := fun q h => by rw [← hAe]; exact Or.inr h
  have hS : va_S A s.heap s.heap [] := va_S.rf
  have hP : va_P dg vwCl (modelC ck mo (encZ S) F1 F2 F3 F4 M) s.heap := hP
  have hl := lv_entry ([.ref (mo 0), .int (zI b)]) (n := 2) (Nat.le_of_ble_eq_true rfl)
  rw [lg_entry_eq]
  generalize (lg_sl ([.ref (mo 0), .int (zI b)]) ++ List.replicate (2 - (lg_sl ([.ref (mo 0), .int (zI b)])).length) Slot.unset).toArray = ls at hl ⊢
  have hl : lv_has ls 2 [(0, .ref (mo 0)), (1, .int (zI b))] := hl
  obtain ⟨b00, b01, b02, b03, b1, b2, b3, b4, b5, b6, b7, b8, b9, b10, b11, b12⟩ := id hI
  refine lv_aload_n hx hb dX9_rowOf_0 rfl (lv_at hl 0 rfl) ?_
  refine lv_iload_n hx hb dX9_rowOf_1 rfl (lv_at hl 1 rfl) ?_
  refine x_iconst hx hb dX9_rowOf_2 ?_
  refine x_calli (ws' := modelC ck mo (encZ S) F1 F2 F3 F4 (upS M 8 0 (1 - bI (isBench S b)))) [] (M := modelC ck mo (encZ S) F1 F2 F3 F4 M) (M' := modelC ck mo (encZ S) F1 F2 F3 F4 (upS M 8 0 (1 - bI (isBench S b)))) ([]) (List.append_nil _).symm (List.append_nil _).symm hP hD hS hA (fun hPm hDm => va_runV (As := [.int (zI b), .int (zI 0)]) (rest := []) ⟨hx, hb, hml, hown, htg⟩ (m_askedBench l dg ck mo S F1 F2 F3 F4 M b 0 _ hI (by omega) (by omega) (by omega)) (cwV 2 htg (gwV wq_1737 wq_1739 wp_48 wq_15 wq_1740) rfl rfl rfl (by decide +kernel) ⟨Nat.le_of_ble_eq_true rfl, Nat.le_of_ble_eq_true rfl⟩) (wr_preV hK hPm hDm 0 11 rfl rfl) rfl rfl hl.1 rfl (lv_room (Nat.le_of_ble_eq_true rfl)) dX9_rowOf_3 ⟨Nat.zero_le _, Nat.zero_le _⟩) (fun r3 H locs hr3 hP hD hS => ?_)
  subst hr3
  have hEq : modelC ck mo (encZ S) F1 F2 F3 F4 (upS M 8 0 (1 - bI (isBench S b))) = modelC ck mo (encZ S) F1 F2 F3 F4 (upS M 8 0 (1 - bI (isBench S b))) := rfl
  exact W.iret (v := _) hx hb hr (fun t9 ht9 hW9 => ⟨⟨_, (), rfl, rfl, by rw [ht9, hEq]; exact hP, by rw [hEq, hAe]; exact hD⟩, hS.F ht9⟩) hS.2.2 dX9_rowOf_6

set_option maxHeartbeats 4000000 in
set_option maxRecDepth 100000 in
/-- BenchBrokerModel.columnOf -/
theorem m_columnOf (l : Launch) (dg : va_G) (ck : Nat → ClassId) (mo : Nat → Nat) (S : St) (F1 F2 F3 F4 : Int → Int) (M : St) (b : Int) (sz : Nat) (hI : Bd S) (rg_b : -2147483648 ≤ b ∧ b < 2147483648) : Met l yX9_columnOf (.code yX9_columnOf cX9_columnOf 2 (some .int) :: GW) ({ frames := 3, cells := 0, slots := 0, locals := 65 }) (va_Pc [.ref (mo 0), .int (zI b)] (wrP dg ck sz (modelC ck mo (encZ S) F1 F2 F3 F4 M))) (va_Qi (fun r (_ : Unit) => r = zI (itZ (isBench S b) (S 2 b))) (fun _ t9 => wrQ dg sz (modelC ck mo (encZ S) F1 F2 F3 F4 M) (modelC ck mo (encZ S) F1 F2 F3 F4 (upS M 8 0 (1 - bI (isBench S b)))) t9) (va_A (modelC ck mo (encZ S) F1 F2 F3 F4 M) sz)) 0 0 (va_A (modelC ck mo (encZ S) F1 F2 F3 F4 M) sz) := by
  refine Met.ofW (cc := cX9_columnOf) (maxL := 2) (ret := (some .int)) (by decide) rfl ?_
  intro p e s m args below meth c s₁ B hml hv
  obtain ⟨rfl, hsz, hP, hK, hD0⟩ := hv
  have hx := B.exec
  have hb := B.bytes
  have hr := B.returns
  have hts := atoms_spec (ws := .code yX9_columnOf cX9_columnOf 2 (some .int) :: GW) B.pre
  have htg : ∀ w ∈ GW, w.before _ s = true := fun w h => hts w (List.mem_cons_of_mem _ h)
  have hown : s.vm.findClass RX9 = some m.cls := findClass_of_methodNamed B.named
  have hlocks := B.notSynchronized
  subst hsz
  have hD := hD0.self (sz := s.heap.size)
  generalize hAe : va_A (modelC ck mo (encZ S) F1 F2 F3 F4 M) s.heap.size = A at hD ⊢
  have hA : ∀ q : Nat, s.heap.size ≤ q → A q := fun q h => by rw [← hAe]; exact Or.inr h
  have hS : va_S A s.heap s.heap [] := va_S.rf
  have hP : va_P dg vwCl (modelC ck mo (encZ S) F1 F2 F3 F4 M) s.heap := hP
  have hl := lv_entry ([.ref (mo 0), .int (zI b)]) (n := 2) (Nat.le_of_ble_eq_true rfl)
  rw [lg_entry_eq]
  generalize (lg_sl ([.ref (mo 0), .int (zI b)]) ++ List.replicate (2 - (lg_sl ([.ref (mo 0), .int (zI b)])).length) Slot.unset).toArray = ls at hl ⊢
  have hl : lv_has ls 2 [(0, .ref (mo 0)), (1, .int (zI b))] := hl
  obtain ⟨b00, b01, b02, b03, b1, b2, b3, b4, b5, b6, b7, b8, b9, b10, b11, b12⟩ := id hI
  refine lv_aload_n hx hb dX9_columnOf_0 rfl (lv_at hl 0 rfl) ?_
  refine lv_iload_n hx hb dX9_columnOf_1 rfl (lv_at hl 1 rfl) ?_
  refine x_iconst hx hb dX9_columnOf_2 ?_
  refine x_calli (ws' := modelC ck mo (encZ S) F1 F2 F3 F4 (upS M 8 0 (1 - bI (isBench S b)))) [] (M := modelC ck mo (encZ S) F1 F2 F3 F4 M) (M' := modelC ck mo (encZ S) F1 F2 F3 F4 (upS M 8 0 (1 - bI (isBench S b)))) ([]) (List.append_nil _).symm (List.append_nil _).symm hP hD hS hA (fun hPm hDm => va_runV (As := [.int (zI b), .int (zI 1)]) (rest := []) ⟨hx, hb, hml, hown, htg⟩ (m_askedBench l dg ck mo S F1 F2 F3 F4 M b 1 _ hI (by omega) (by omega) (by omega)) (cwV 2 htg (gwV wq_1737 wq_1739 wp_48 wq_15 wq_1740) rfl rfl rfl (by decide +kernel) ⟨Nat.le_of_ble_eq_true rfl, Nat.le_of_ble_eq_true rfl⟩) (wr_preV hK hPm hDm 0 11 rfl rfl) rfl rfl hl.1 rfl (lv_room (Nat.le_of_ble_eq_true rfl)) dX9_columnOf_3 ⟨Nat.zero_le _, Nat.zero_le _⟩) (fun r3 H locs hr3 hP hD hS => ?_)
  subst hr3
  have hEq : modelC ck mo (encZ S) F1 F2 F3 F4 (upS M 8 0 (1 - bI (isBench S b))) = modelC ck mo (encZ S) F1 F2 F3 F4 (upS M 8 0 (1 - bI (isBench S b))) := rfl
  exact W.iret (v := _) hx hb hr (fun t9 ht9 hW9 => ⟨⟨_, (), rfl, rfl, by rw [ht9, hEq]; exact hP, by rw [hEq, hAe]; exact hD⟩, hS.F ht9⟩) hS.2.2 dX9_columnOf_6

set_option maxHeartbeats 4000000 in
set_option maxRecDepth 100000 in
/-- BenchBrokerModel.baseRent -/
theorem m_baseRent (l : Launch) (dg : va_G) (ck : Nat → ClassId) (mo : Nat → Nat) (S : St) (F1 F2 F3 F4 : Int → Int) (M : St) (b : Int) (sz : Nat) (hI : Bd S) (rg_b : -2147483648 ≤ b ∧ b < 2147483648) : Met l yX9_baseRent (.code yX9_baseRent cX9_baseRent 2 (some .int) :: GW) ({ frames := 3, cells := 0, slots := 0, locals := 65 }) (va_Pc [.ref (mo 0), .int (zI b)] (wrP dg ck sz (modelC ck mo (encZ S) F1 F2 F3 F4 M))) (va_Qi (fun r (_ : Unit) => r = zI (itZ (isBench S b) (S 3 b))) (fun _ t9 => wrQ dg sz (modelC ck mo (encZ S) F1 F2 F3 F4 M) (modelC ck mo (encZ S) F1 F2 F3 F4 (upS M 8 0 (1 - bI (isBench S b)))) t9) (va_A (modelC ck mo (encZ S) F1 F2 F3 F4 M) sz)) 0 0 (va_A (modelC ck mo (encZ S) F1 F2 F3 F4 M) sz) := by
  refine Met.ofW (cc := cX9_baseRent) (maxL := 2) (ret := (some .int)) (by decide) rfl ?_
  intro p e s m args below meth c s₁ B hml hv
  obtain ⟨rfl, hsz, hP, hK, hD0⟩ := hv
  have hx := B.exec
  have hb := B.bytes
  have hr := B.returns
  have hts := atoms_spec (ws := .code yX9_baseRent cX9_baseRent 2 (some .int) :: GW) B.pre
  have htg : ∀ w ∈ GW, w.before _ s = true := fun w h => hts w (List.mem_cons_of_mem _ h)
  have hown : s.vm.findClass RX9 = some m.cls := findClass_of_methodNamed B.named
  have hlocks := B.notSynchronized
  subst hsz
  have hD := hD0.self (sz := s.heap.size)
  generalize hAe : va_A (modelC ck mo (encZ S) F1 F2 F3 F4 M) s.heap.size = A at hD ⊢
  have hA : ∀ q : Nat, s.heap.size ≤ q → A q := fun q h => by rw [← hAe]; exact Or.inr h
  have hS : va_S A s.heap s.heap [] := va_S.rf
  have hP : va_P dg vwCl (modelC ck mo (encZ S) F1 F2 F3 F4 M) s.heap := hP
  have hl := lv_entry ([.ref (mo 0), .int (zI b)]) (n := 2) (Nat.le_of_ble_eq_true rfl)
  rw [lg_entry_eq]
  generalize (lg_sl ([.ref (mo 0), .int (zI b)]) ++ List.replicate (2 - (lg_sl ([.ref (mo 0), .int (zI b)])).length) Slot.unset).toArray = ls at hl ⊢
  have hl : lv_has ls 2 [(0, .ref (mo 0)), (1, .int (zI b))] := hl
  obtain ⟨b00, b01, b02, b03, b1, b2, b3, b4, b5, b6, b7, b8, b9, b10, b11, b12⟩ := id hI
  refine lv_aload_n hx hb dX9_baseRent_0 rfl (lv_at hl 0 rfl) ?_
  refine lv_iload_n hx hb dX9_baseRent_1 rfl (lv_at hl 1 rfl) ?_
  refine x_iconst hx hb dX9_baseRent_2 ?_
  refine x_calli (ws' := modelC ck mo (encZ S) F1 F2 F3 F4 (upS M 8 0 (1 - bI (isBench S b)))) [] (M := modelC ck mo (encZ S) F1 F2 F3 F4 M) (M' := modelC ck mo (encZ S) F1 F2 F3 F4 (upS M 8 0 (1 - bI (isBench S b)))) ([]) (List.append_nil _).symm (List.append_nil _).symm hP hD hS hA (fun hPm hDm => va_runV (As := [.int (zI b), .int (zI 2)]) (rest := []) ⟨hx, hb, hml, hown, htg⟩ (m_askedBench l dg ck mo S F1 F2 F3 F4 M b 2 _ hI (by omega) (by omega) (by omega)) (cwV 2 htg (gwV wq_1737 wq_1739 wp_48 wq_15 wq_1740) rfl rfl rfl (by decide +kernel) ⟨Nat.le_of_ble_eq_true rfl, Nat.le_of_ble_eq_true rfl⟩) (wr_preV hK hPm hDm 0 11 rfl rfl) rfl rfl hl.1 rfl (lv_room (Nat.le_of_ble_eq_true rfl)) dX9_baseRent_3 ⟨Nat.zero_le _, Nat.zero_le _⟩) (fun r3 H locs hr3 hP hD hS => ?_)
  subst hr3
  have hEq : modelC ck mo (encZ S) F1 F2 F3 F4 (upS M 8 0 (1 - bI (isBench S b))) = modelC ck mo (encZ S) F1 F2 F3 F4 (upS M 8 0 (1 - bI (isBench S b))) := rfl
  exact W.iret (v := _) hx hb hr (fun t9 ht9 hW9 => ⟨⟨_, (), rfl, rfl, by rw [ht9, hEq]; exact hP, by rw [hEq, hAe]; exact hD⟩, hS.F ht9⟩) hS.2.2 dX9_baseRent_6

set_option maxHeartbeats 4000000 in
set_option maxRecDepth 100000 in
/-- BenchBrokerModel.coinsOf -/
theorem m_coinsOf (l : Launch) (dg : va_G) (ck : Nat → ClassId) (mo : Nat → Nat) (S : St) (F1 F2 F3 F4 : Int → Int) (M : St) (t : Int) (sz : Nat) (hI : Bd S) (rg_t : -2147483648 ≤ t ∧ t < 2147483648) : Met l yX9_coinsOf (.code yX9_coinsOf cX9_coinsOf 2 (some .int) :: GW) ({ frames := 3, cells := 0, slots := 0, locals := 65 }) (va_Pc [.ref (mo 0), .int (zI t)] (wrP dg ck sz (modelC ck mo (encZ S) F1 F2 F3 F4 M))) (va_Qi (fun r (_ : Unit) => r = zI (itZ (isTen S t) (S 11 t))) (fun _ t9 => wrQ dg sz (modelC ck mo (encZ S) F1 F2 F3 F4 M) (modelC ck mo (encZ S) F1 F2 F3 F4 (upS M 8 0 (1 - bI (isTen S t)))) t9) (va_A (modelC ck mo (encZ S) F1 F2 F3 F4 M) sz)) 0 0 (va_A (modelC ck mo (encZ S) F1 F2 F3 F4 M) sz) := by
  refine Met.ofW (cc := cX9_coinsOf) (maxL := 2) (ret := (some .int)) (by decide) rfl ?_
  intro p e s m args below meth c s₁ B hml hv
  obtain ⟨rfl, hsz, hP, hK, hD0⟩ := hv
  have hx := B.exec
  have hb := B.bytes
  have hr := B.returns
  have hts := atoms_spec (ws := .code yX9_coinsOf cX9_coinsOf 2 (some .int) :: GW) B.pre
  have htg : ∀ w ∈ GW, w.before _ s = true := fun w h => hts w (List.mem_cons_of_mem _ h)
  have hown : s.vm.findClass RX9 = some m.cls := findClass_of_methodNamed B.named
  have hlocks := B.notSynchronized
  subst hsz
  have hD := hD0.self (sz := s.heap.size)
  generalize hAe : va_A (modelC ck mo (encZ S) F1 F2 F3 F4 M) s.heap.size = A at hD ⊢
  have hA : ∀ q : Nat, s.heap.size ≤ q → A q := fun q h => by rw [← hAe]; exact Or.inr h
  have hS : va_S A s.heap s.heap [] := va_S.rf
  have hP : va_P dg vwCl (modelC ck mo (encZ S) F1 F2 F3 F4 M) s.heap := hP
  have hl := lv_entry ([.ref (mo 0), .int (zI t)]) (n := 2) (Nat.le_of_ble_eq_true rfl)
  rw [lg_entry_eq]
  generalize (lg_sl ([.ref (mo 0), .int (zI t)]) ++ List.replicate (2 - (lg_sl ([.ref (mo 0), .int (zI t)])).length) Slot.unset).toArray = ls at hl ⊢
  have hl : lv_has ls 2 [(0, .ref (mo 0)), (1, .int (zI t))] := hl
  obtain ⟨b00, b01, b02, b03, b1, b2, b3, b4, b5, b6, b7, b8, b9, b10, b11, b12⟩ := id hI
  refine lv_aload_n hx hb dX9_coinsOf_0 rfl (lv_at hl 0 rfl) ?_
  refine lv_iload_n hx hb dX9_coinsOf_1 rfl (lv_at hl 1 rfl) ?_
  refine x_iconst hx hb dX9_coinsOf_2 ?_
  refine x_calli (ws' := modelC ck mo (encZ S) F1 F2 F3 F4 (upS M 8 0 (1 - bI (isTen S t)))) [] (M := modelC ck mo (encZ S) F1 F2 F3 F4 M) (M' := modelC ck mo (encZ S) F1 F2 F3 F4 (upS M 8 0 (1 - bI (isTen S t)))) ([]) (List.append_nil _).symm (List.append_nil _).symm hP hD hS hA (fun hPm hDm => va_runV (As := [.int (zI t), .int (zI 0)]) (rest := []) ⟨hx, hb, hml, hown, htg⟩ (m_askedTenant l dg ck mo S F1 F2 F3 F4 M t 0 _ hI (by omega) (by omega) (by omega)) (cwV 2 htg (gwV wq_1837 wq_1839 wp_57 wq_15 wq_1840) rfl rfl rfl (by decide +kernel) ⟨Nat.le_of_ble_eq_true rfl, Nat.le_of_ble_eq_true rfl⟩) (wr_preV hK hPm hDm 0 11 rfl rfl) rfl rfl hl.1 rfl (lv_room (Nat.le_of_ble_eq_true rfl)) dX9_coinsOf_3 ⟨Nat.zero_le _, Nat.zero_le _⟩) (fun r3 H locs hr3 hP hD hS => ?_)
  subst hr3
  have hEq : modelC ck mo (encZ S) F1 F2 F3 F4 (upS M 8 0 (1 - bI (isTen S t))) = modelC ck mo (encZ S) F1 F2 F3 F4 (upS M 8 0 (1 - bI (isTen S t))) := rfl
  exact W.iret (v := _) hx hb hr (fun t9 ht9 hW9 => ⟨⟨_, (), rfl, rfl, by rw [ht9, hEq]; exact hP, by rw [hEq, hAe]; exact hD⟩, hS.F ht9⟩) hS.2.2 dX9_coinsOf_6

set_option maxHeartbeats 4000000 in
set_option maxRecDepth 100000 in
/-- BenchBrokerModel.defaultsOf -/
theorem m_defaultsOf (l : Launch) (dg : va_G) (ck : Nat → ClassId) (mo : Nat → Nat) (S : St) (F1 F2 F3 F4 : Int → Int) (M : St) (t : Int) (sz : Nat) (hI : Bd S) (rg_t : -2147483648 ≤ t ∧ t < 2147483648) : Met l yX9_defaultsOf (.code yX9_defaultsOf cX9_defaultsOf 2 (some .int) :: GW) ({ frames := 3, cells := 0, slots := 0, locals := 65 }) (va_Pc [.ref (mo 0), .int (zI t)] (wrP dg ck sz (modelC ck mo (encZ S) F1 F2 F3 F4 M))) (va_Qi (fun r (_ : Unit) => r = zI (itZ (isTen S t) (S 12 t))) (fun _ t9 => wrQ dg sz (modelC ck mo (encZ S) F1 F2 F3 F4 M) (modelC ck mo (encZ S) F1 F2 F3 F4 (upS M 8 0 (1 - bI (isTen S t)))) t9) (va_A (modelC ck mo (encZ S) F1 F2 F3 F4 M) sz)) 0 0 (va_A (modelC ck mo (encZ S) F1 F2 F3 F4 M) sz) := by
  refine Met.ofW (cc := cX9_defaultsOf) (maxL := 2) (ret := (some .int)) (by decide) rfl ?_
  intro p e s m args below meth c s₁ B hml hv
  obtain ⟨rfl, hsz, hP, hK, hD0⟩ := hv
  have hx := B.exec
  have hb := B.bytes
  have hr := B.returns
  have hts := atoms_spec (ws := .code yX9_defaultsOf cX9_defaultsOf 2 (some .int) :: GW) B.pre
  have htg : ∀ w ∈ GW, w.before _ s = true := fun w h => hts w (List.mem_cons_of_mem _ h)
  have hown : s.vm.findClass RX9 = some m.cls := findClass_of_methodNamed B.named
  have hlocks := B.notSynchronized
  subst hsz
  have hD := hD0.self (sz := s.heap.size)
  generalize hAe : va_A (modelC ck mo (encZ S) F1 F2 F3 F4 M) s.heap.size = A at hD ⊢
  have hA : ∀ q : Nat, s.heap.size ≤ q → A q := fun q h => by rw [← hAe]; exact Or.inr h
  have hS : va_S A s.heap s.heap [] := va_S.rf
  have hP : va_P dg vwCl (modelC ck mo (encZ S) F1 F2 F3 F4 M) s.heap := hP
  have hl := lv_entry ([.ref (mo 0), .int (zI t)]) (n := 2) (Nat.le_of_ble_eq_true rfl)
  rw [lg_entry_eq]
  generalize (lg_sl ([.ref (mo 0), .int (zI t)]) ++ List.replicate (2 - (lg_sl ([.ref (mo 0), .int (zI t)])).length) Slot.unset).toArray = ls at hl ⊢
  have hl : lv_has ls 2 [(0, .ref (mo 0)), (1, .int (zI t))] := hl
  obtain ⟨b00, b01, b02, b03, b1, b2, b3, b4, b5, b6, b7, b8, b9, b10, b11, b12⟩ := id hI
  refine lv_aload_n hx hb dX9_defaultsOf_0 rfl (lv_at hl 0 rfl) ?_
  refine lv_iload_n hx hb dX9_defaultsOf_1 rfl (lv_at hl 1 rfl) ?_
  refine x_iconst hx hb dX9_defaultsOf_2 ?_
  refine x_calli (ws' := modelC ck mo (encZ S) F1 F2 F3 F4 (upS M 8 0 (1 - bI (isTen S t)))) [] (M := modelC ck mo (encZ S) F1 F2 F3 F4 M) (M' := modelC ck mo (encZ S) F1 F2 F3 F4 (upS M 8 0 (1 - bI (isTen S t)))) ([]) (List.append_nil _).symm (List.append_nil _).symm hP hD hS hA (fun hPm hDm => va_runV (As := [.int (zI t), .int (zI 1)]) (rest := []) ⟨hx, hb, hml, hown, htg⟩ (m_askedTenant l dg ck mo S F1 F2 F3 F4 M t 1 _ hI (by omega) (by omega) (by omega)) (cwV 2 htg (gwV wq_1837 wq_1839 wp_57 wq_15 wq_1840) rfl rfl rfl (by decide +kernel) ⟨Nat.le_of_ble_eq_true rfl, Nat.le_of_ble_eq_true rfl⟩) (wr_preV hK hPm hDm 0 11 rfl rfl) rfl rfl hl.1 rfl (lv_room (Nat.le_of_ble_eq_true rfl)) dX9_defaultsOf_3 ⟨Nat.zero_le _, Nat.zero_le _⟩) (fun r3 H locs hr3 hP hD hS => ?_)
  subst hr3
  have hEq : modelC ck mo (encZ S) F1 F2 F3 F4 (upS M 8 0 (1 - bI (isTen S t))) = modelC ck mo (encZ S) F1 F2 F3 F4 (upS M 8 0 (1 - bI (isTen S t))) := rfl
  exact W.iret (v := _) hx hb hr (fun t9 ht9 hW9 => ⟨⟨_, (), rfl, rfl, by rw [ht9, hEq]; exact hP, by rw [hEq, hAe]; exact hD⟩, hS.F ht9⟩) hS.2.2 dX9_defaultsOf_6

set_option maxHeartbeats 4000000 in
set_option maxRecDepth 100000 in
/-- BenchBrokerModel.rentOf -/
theorem m_rentOf (l : Launch) (dg : va_G) (ck : Nat → ClassId) (mo : Nat → Nat) (S : St) (F1 F2 F3 F4 : Int → Int) (M : St) (b : Int) (sz : Nat) (hI : Bd S) (rg_b : -2147483648 ≤ b ∧ b < 2147483648) : Met l yX9_rentOf (.code yX9_rentOf cX9_rentOf 2 (some .int) :: GW) ({ frames := 4, cells := 0, slots := 0, locals := 91 }) (va_Pc [.ref (mo 0), .int (zI b)] (wrP dg ck sz (modelC ck mo (encZ S) F1 F2 F3 F4 M))) (va_Qi (fun r (_ : Unit) => r = zI (itZ (isBench S b) (rent S b))) (fun _ t9 => wrQ dg sz (modelC ck mo (encZ S) F1 F2 F3 F4 M) (modelC ck mo (encZ S) F1 F2 F3 F4 (upS M 8 0 (1 - bI (isBench S b)))) t9) (va_A (modelC ck mo (encZ S) F1 F2 F3 F4 M) sz)) 0 0 (va_A (modelC ck mo (encZ S) F1 F2 F3 F4 M) sz) := by
  refine Met.ofW (cc := cX9_rentOf) (maxL := 2) (ret := (some .int)) (by decide) rfl ?_
  intro p e s m args below meth c s₁ B hml hv
  obtain ⟨rfl, hsz, hP, hK, hD0⟩ := hv
  have hx := B.exec
  have hb := B.bytes
  have hr := B.returns
  have hts := atoms_spec (ws := .code yX9_rentOf cX9_rentOf 2 (some .int) :: GW) B.pre
  have htg : ∀ w ∈ GW, w.before _ s = true := fun w h => hts w (List.mem_cons_of_mem _ h)
  have hown : s.vm.findClass RX9 = some m.cls := findClass_of_methodNamed B.named
  have hlocks := B.notSynchronized
  subst hsz
  have hD := hD0.self (sz := s.heap.size)
  generalize hAe : va_A (modelC ck mo (encZ S) F1 F2 F3 F4 M) s.heap.size = A at hD ⊢
  have hA : ∀ q : Nat, s.heap.size ≤ q → A q := fun q h => by rw [← hAe]; exact Or.inr h
  have hS : va_S A s.heap s.heap [] := va_S.rf
  have hP : va_P dg vwCl (modelC ck mo (encZ S) F1 F2 F3 F4 M) s.heap := hP
  have hl := lv_entry ([.ref (mo 0), .int (zI b)]) (n := 2) (Nat.le_of_ble_eq_true rfl)
  rw [lg_entry_eq]
  generalize (lg_sl ([.ref (mo 0), .int (zI b)]) ++ List.replicate (2 - (lg_sl ([.ref (mo 0), .int (zI b)])).length) Slot.unset).toArray = ls at hl ⊢
  have hl : lv_has ls 2 [(0, .ref (mo 0)), (1, .int (zI b))] := hl
  obtain ⟨b00, b01, b02, b03, b1, b2, b3, b4, b5, b6, b7, b8, b9, b10, b11, b12⟩ := id hI
  refine lv_aload_n hx hb dX9_rentOf_0 rfl (lv_at hl 0 rfl) ?_
  refine lv_aload_n hx hb dX9_rentOf_1 rfl (lv_at hl 0 rfl) ?_
  refine lv_iload_n hx hb dX9_rentOf_2 rfl (lv_at hl 1 rfl) ?_
  refine vp_callSi (W.runV (As := [.int (zI b)]) (rest := [.ref (mo 0)]) ⟨hx, hb, hml, hown, htg⟩ (m_isBench l dg ck mo S F1 F2 F3 F4 M b hI (by omega)) (cwV 1 htg (gwV wq_1689 wq_1691 wp_42 wq_15 wq_1692) rfl rfl rfl (by decide +kernel) ⟨Nat.le_of_ble_eq_true rfl, Nat.le_of_ble_eq_true rfl⟩) (rd_preV hK hP 0 11 rfl rfl) rfl rfl hl.1 rfl (lv_room (Nat.le_of_ble_eq_true rfl)) dX9_rentOf_3 ⟨Nat.zero_le _, Nat.zero_le _⟩) (fun r3 hr3 => ?_)
  subst hr3
  refine x_bz_eq (tgt := 13) hx hb dX9_rentOf_6 (by decide) (fun c6 => ?_) (fun c6 => ?_)
  · refine x_iconst hx hb dX9_rentOf_13 ?_
    refine va_put (D := dg) (ci := 11) (v := .int (zI 1)) (ty := .int) (C := RX9) (T := TX9) (N := 23) hx hb htg inG_X9 tyX9 tyX9_ok nmX9 hown hK hP hD hS 0 rfl rfl 0 (Nat.le_of_ble_eq_true rfl) (htg _ wq_1557) (fun _ h9 => h9) rfl (by decide +kernel) rfl rfl (Nat.le_of_ble_eq_true rfl) dX9_rentOf_14 (fun H locs hP hD hS => ?_)
    have hP : va_P dg vwCl (modelC ck mo (encZ S) F1 F2 F3 F4 (upS M 8 0 1)) H := hP
    have hD : va_D A (modelC ck mo (encZ S) F1 F2 F3 F4 (upS M 8 0 1)) := hD
    refine lv_aload_n hx hb dX9_rentOf_17 rfl (lv_at hl 0 rfl) ?_
    refine va_get (D := dg) (ci := 11) (v := .int (zI 1)) (C := RX9) (T := TX9) (N := 23) hx hb htg inG_X9 hown hK hP 0 rfl rfl 0 (Nat.le_of_ble_eq_true rfl) (htg _ wq_1557) (fun _ h9 => h9) rfl dX9_rentOf_18 ?_
    refine x_if_le (tgt := 28) hx hb dX9_rentOf_21 (by decide) (by omega) (fun c21 => absurd c21 (by decide)) (fun c21 => ?_)
    refine x_iconst hx hb dX9_rentOf_24 ?_
    refine lv_goto (tgt := 33) hx hb dX9_rentOf_25 (by decide) ?_
    have hEq : modelC ck mo (encZ S) F1 F2 F3 F4 (upS M 8 0 (1 - bI (isBench S b))) = modelC ck mo (encZ S) F1 F2 F3 F4 (upS M 8 0 1) := (by first | (rw [bI_t (show isBench S b by omega)] <;> rfl) | (rw [bI_f (show ¬ (isBench S b) by omega)] <;> rfl))
    exact W.iret (v := _) hx hb hr (fun t9 ht9 hW9 => ⟨⟨_, (), rfl, (by first | (rw [itZ_t (show isBench S b by omega)] <;> rfl) | (rw [itZ_f (show ¬ (isBench S b) by omega)] <;> rfl)), by rw [ht9, hEq]; exact hP, by rw [hEq, hAe]; exact hD⟩, hS.F ht9⟩) hS.2.2 dX9_rentOf_33
  · refine x_iconst hx hb dX9_rentOf_9 ?_
    refine lv_goto (tgt := 14) hx hb dX9_rentOf_10 (by decide) ?_
    refine va_put (D := dg) (ci := 11) (v := .int (zI 0)) (ty := .int) (C := RX9) (T := TX9) (N := 23) hx hb htg inG_X9 tyX9 tyX9_ok nmX9 hown hK hP hD hS 0 rfl rfl 0 (Nat.le_of_ble_eq_true rfl) (htg _ wq_1557) (fun _ h9 => h9) rfl (by decide +kernel) rfl rfl (Nat.le_of_ble_eq_true rfl) dX9_rentOf_14 (fun H locs hP hD hS => ?_)
    have hP : va_P dg vwCl (modelC ck mo (encZ S) F1 F2 F3 F4 (upS M 8 0 0)) H := hP
    have hD : va_D A (modelC ck mo (encZ S) F1 F2 F3 F4 (upS M 8 0 0)) := hD
    refine lv_aload_n hx hb dX9_rentOf_17 rfl (lv_at hl 0 rfl) ?_
    refine va_get (D := dg) (ci := 11) (v := .int (zI 0)) (C := RX9) (T := TX9) (N := 23) hx hb htg inG_X9 hown hK hP 0 rfl rfl 0 (Nat.le_of_ble_eq_true rfl) (htg _ wq_1557) (fun _ h9 => h9) rfl dX9_rentOf_18 ?_
    refine x_if_le (tgt := 28) hx hb dX9_rentOf_21 (by decide) (by omega) (fun c21 => ?_) (fun c21 => absurd c21 (by decide))
    refine lv_aload_n hx hb dX9_rentOf_28 rfl (lv_at hl 0 rfl) ?_
    refine lv_iload_n hx hb dX9_rentOf_29 rfl (lv_at hl 1 rfl) ?_
    refine vp_callSi (W.runV (As := [.int (zI b)]) (rest := []) ⟨hx, hb, hml, hown, htg⟩ (m_rent l dg ck mo S F1 F2 F3 F4 (upS M 8 0 0) b hI (by omega)) (cwV 1 htg (gwV wq_1753 wq_1755 wp_49 wq_15 wq_1756) rfl rfl rfl (by decide +kernel) ⟨Nat.le_of_ble_eq_true rfl, Nat.le_of_ble_eq_true rfl⟩) (rd_preV hK hP 0 11 rfl rfl) rfl rfl hl.1 rfl (lv_room (Nat.le_of_ble_eq_true rfl)) dX9_rentOf_30 ⟨Nat.zero_le _, Nat.zero_le _⟩) (fun r30 hr30 => ?_)
    subst hr30
    have hEq : modelC ck mo (encZ S) F1 F2 F3 F4 (upS M 8 0 (1 - bI (isBench S b))) = modelC ck mo (encZ S) F1 F2 F3 F4 (upS M 8 0 0) := (by first | (rw [bI_t (show isBench S b by omega)] <;> rfl) | (rw [bI_f (show ¬ (isBench S b) by omega)] <;> rfl))
    exact W.iret (v := _) hx hb hr (fun t9 ht9 hW9 => ⟨⟨_, (), rfl, (by first | (rw [itZ_t (show isBench S b by omega)] <;> rfl) | (rw [itZ_f (show ¬ (isBench S b) by omega)] <;> rfl)), by rw [ht9, hEq]; exact hP, by rw [hEq, hAe]; exact hD⟩, hS.F ht9⟩) hS.2.2 dX9_rentOf_33

set_option maxHeartbeats 4000000 in
set_option maxRecDepth 100000 in
/-- BenchBrokerModel.loudnessOf -/
theorem m_loudnessOf (l : Launch) (dg : va_G) (ck : Nat → ClassId) (mo : Nat → Nat) (S : St) (F1 F2 F3 F4 : Int → Int) (M : St) (f : Int) (sz : Nat) (hI : Bd S) (rg_f : -2147483648 ≤ f ∧ f < 2147483648) : Met l yX9_loudnessOf (.code yX9_loudnessOf cX9_loudnessOf 2 (some .int) :: GW) ({ frames := 2, cells := 0, slots := 0, locals := 43 }) (va_Pc [.ref (mo 0), .int (zI f)] (wrP dg ck sz (modelC ck mo (encZ S) F1 F2 F3 F4 M))) (va_Qi (fun r (_ : Unit) => r = zI (itZ (isFount S f) (S 9 f))) (fun _ t9 => wrQ dg sz (modelC ck mo (encZ S) F1 F2 F3 F4 M) (modelC ck mo (encZ S) F1 F2 F3 F4 (upS M 8 0 (1 - bI (isFount S f)))) t9) (va_A (modelC ck mo (encZ S) F1 F2 F3 F4 M) sz)) 0 0 (va_A (modelC ck mo (encZ S) F1 F2 F3 F4 M) sz) := by
  refine Met.ofW (cc := cX9_loudnessOf) (maxL := 2) (ret := (some .int)) (by decide) rfl ?_
  intro p e s m args below meth c s₁ B hml hv
  obtain ⟨rfl, hsz, hP, hK, hD0⟩ := hv
  have hx := B.exec
  have hb := B.bytes
  have hr := B.returns
  have hts := atoms_spec (ws := .code yX9_loudnessOf cX9_loudnessOf 2 (some .int) :: GW) B.pre
  have htg : ∀ w ∈ GW, w.before _ s = true := fun w h => hts w (List.mem_cons_of_mem _ h)
  have hown : s.vm.findClass RX9 = some m.cls := findClass_of_methodNamed B.named
  have hlocks := B.notSynchronized
  subst hsz
  have hD := hD0.self (sz := s.heap.size)
  generalize hAe : va_A (modelC ck mo (encZ S) F1 F2 F3 F4 M) s.heap.size = A at hD ⊢
  have hA : ∀ q : Nat, s.heap.size ≤ q → A q := fun q h => by rw [← hAe]; exact Or.inr h
  have hS : va_S A s.heap s.heap [] := va_S.rf
  have hP : va_P dg vwCl (modelC ck mo (encZ S) F1 F2 F3 F4 M) s.heap := hP
  have hl := lv_entry ([.ref (mo 0), .int (zI f)]) (n := 2) (Nat.le_of_ble_eq_true rfl)
  rw [lg_entry_eq]
  generalize (lg_sl ([.ref (mo 0), .int (zI f)]) ++ List.replicate (2 - (lg_sl ([.ref (mo 0), .int (zI f)])).length) Slot.unset).toArray = ls at hl ⊢
  have hl : lv_has ls 2 [(0, .ref (mo 0)), (1, .int (zI f))] := hl
  obtain ⟨b00, b01, b02, b03, b1, b2, b3, b4, b5, b6, b7, b8, b9, b10, b11, b12⟩ := id hI
  refine lv_aload_n hx hb dX9_loudnessOf_0 rfl (lv_at hl 0 rfl) ?_
  refine lv_aload_n hx hb dX9_loudnessOf_1 rfl (lv_at hl 0 rfl) ?_
  refine lv_iload_n hx hb dX9_loudnessOf_2 rfl (lv_at hl 1 rfl) ?_
  refine vp_callSi (W.runV (As := [.int (zI f)]) (rest := [.ref (mo 0)]) ⟨hx, hb, hml, hown, htg⟩ (m_isFountain l dg ck mo S F1 F2 F3 F4 M f hI (by omega)) (cwV 1 htg (gwV wq_1709 wq_1711 wp_45 wq_15 wq_1712) rfl rfl rfl (by decide +kernel) ⟨Nat.le_of_ble_eq_true rfl, Nat.le_of_ble_eq_true rfl⟩) (rd_preV hK hP 0 11 rfl rfl) rfl rfl hl.1 rfl (lv_room (Nat.le_of_ble_eq_true rfl)) dX9_loudnessOf_3 ⟨Nat.zero_le _, Nat.zero_le _⟩) (fun r3 hr3 => ?_)
  subst hr3
  refine x_bz_eq (tgt := 13) hx hb dX9_loudnessOf_6 (by decide) (fun c6 => ?_) (fun c6 => ?_)
  · refine x_iconst hx hb dX9_loudnessOf_13 ?_
    refine va_put (D := dg) (ci := 11) (v := .int (zI 1)) (ty := .int) (C := RX9) (T := TX9) (N := 23) hx hb htg inG_X9 tyX9 tyX9_ok nmX9 hown hK hP hD hS 0 rfl rfl 0 (Nat.le_of_ble_eq_true rfl) (htg _ wq_1557) (fun _ h9 => h9) rfl (by decide +kernel) rfl rfl (Nat.le_of_ble_eq_true rfl) dX9_loudnessOf_14 (fun H locs hP hD hS => ?_)
    have hP : va_P dg vwCl (modelC ck mo (encZ S) F1 F2 F3 F4 (upS M 8 0 1)) H := hP
    have hD : va_D A (modelC ck mo (encZ S) F1 F2 F3 F4 (upS M 8 0 1)) := hD
    refine lv_aload_n hx hb dX9_loudnessOf_17 rfl (lv_at hl 0 rfl) ?_
    refine va_get (D := dg) (ci := 11) (v := .int (zI 1)) (C := RX9) (T := TX9) (N := 23) hx hb htg inG_X9 hown hK hP 0 rfl rfl 0 (Nat.le_of_ble_eq_true rfl) (htg _ wq_1557) (fun _ h9 => h9) rfl dX9_loudnessOf_18 ?_
    refine x_if_le (tgt := 28) hx hb dX9_loudnessOf_21 (by decide) (by omega) (fun c21 => absurd c21 (by decide)) (fun c21 => ?_)
    refine x_iconst hx hb dX9_loudnessOf_24 ?_
    refine lv_goto (tgt := 34) hx hb dX9_loudnessOf_25 (by decide) ?_
    have hEq : modelC ck mo (encZ S) F1 F2 F3 F4 (upS M 8 0 (1 - bI (isFount S f))) = modelC ck mo (encZ S) F1 F2 F3 F4 (upS M 8 0 1) := (by first | (rw [bI_t (show isFount S f by omega)] <;> rfl) | (rw [bI_f (show ¬ (isFount S f) by omega)] <;> rfl))
    exact W.iret (v := _) hx hb hr (fun t9 ht9 hW9 => ⟨⟨_, (), rfl, (by first | (rw [itZ_t (show isFount S f by omega)] <;> rfl) | (rw [itZ_f (show ¬ (isFount S f) by omega)] <;> rfl)), by rw [ht9, hEq]; exact hP, by rw [hEq, hAe]; exact hD⟩, hS.F ht9⟩) hS.2.2 dX9_loudnessOf_34
  · refine x_iconst hx hb dX9_loudnessOf_9 ?_
    refine lv_goto (tgt := 14) hx hb dX9_loudnessOf_10 (by decide) ?_
    refine va_put (D := dg) (ci := 11) (v := .int (zI 0)) (ty := .int) (C := RX9) (T := TX9) (N := 23) hx hb htg inG_X9 tyX9 tyX9_ok nmX9 hown hK hP hD hS 0 rfl rfl 0 (Nat.le_of_ble_eq_true rfl) (htg _ wq_1557) (fun _ h9 => h9) rfl (by decide +kernel) rfl rfl (Nat.le_of_ble_eq_true rfl) dX9_loudnessOf_14 (fun H locs hP hD hS => ?_)
    have hP : va_P dg vwCl (modelC ck mo (encZ S) F1 F2 F3 F4 (upS M 8 0 0)) H := hP
    have hD : va_D A (modelC ck mo (encZ S) F1 F2 F3 F4 (upS M 8 0 0)) := hD
    refine lv_aload_n hx hb dX9_loudnessOf_17 rfl (lv_at hl 0 rfl) ?_
    refine va_get (D := dg) (ci := 11) (v := .int (zI 0)) (C := RX9) (T := TX9) (N := 23) hx hb htg inG_X9 hown hK hP 0 rfl rfl 0 (Nat.le_of_ble_eq_true rfl) (htg _ wq_1557) (fun _ h9 => h9) rfl dX9_loudnessOf_18 ?_
    refine x_if_le (tgt := 28) hx hb dX9_loudnessOf_21 (by decide) (by omega) (fun c21 => ?_) (fun c21 => absurd c21 (by decide))
    refine lv_aload_n hx hb dX9_loudnessOf_28 rfl (lv_at hl 0 rfl) ?_
    refine lv_iload_n hx hb dX9_loudnessOf_29 rfl (lv_at hl 1 rfl) ?_
    refine x_iconst hx hb dX9_loudnessOf_30 ?_
    refine vp_callSi (W.runV (As := [.int (zI f), .int (zI 2)]) (rest := []) ⟨hx, hb, hml, hown, htg⟩ (m_fountain l dg ck mo S F1 F2 F3 F4 (upS M 8 0 0) f 2 (by omega) (by decide)) (cwV 2 htg (gwV wq_1661 wq_1663 wp_36 wq_15 wq_1664) rfl rfl rfl (by decide +kernel) ⟨Nat.le_of_ble_eq_true rfl, Nat.le_of_ble_eq_true rfl⟩) (rd_preV hK hP 0 11 rfl rfl) rfl rfl hl.1 rfl (lv_room (Nat.le_of_ble_eq_true rfl)) dX9_loudnessOf_31 ⟨Nat.zero_le _, Nat.zero_le _⟩) (fun r31 hr31 => ?_)
    subst hr31
    have q31 := b9 f
    refine x_is (show (S (7 + Int.toNat 2) f) = (S 9 f) from rfl) ?_
    have hEq : modelC ck mo (encZ S) F1 F2 F3 F4 (upS M 8 0 (1 - bI (isFount S f))) = modelC ck mo (encZ S) F1 F2 F3 F4 (upS M 8 0 0) := (by first | (rw [bI_t (show isFount S f by omega)] <;> rfl) | (rw [bI_f (show ¬ (isFount S f) by omega)] <;> rfl))
    exact W.iret (v := _) hx hb hr (fun t9 ht9 hW9 => ⟨⟨_, (), rfl, (by first | (rw [itZ_t (show isFount S f by omega)] <;> rfl) | (rw [itZ_f (show ¬ (isFount S f) by omega)] <;> rfl)), by rw [ht9, hEq]; exact hP, by rw [hEq, hAe]; exact hD⟩, hS.F ht9⟩) hS.2.2 dX9_loudnessOf_34

set_option maxHeartbeats 4000000 in
set_option maxRecDepth 100000 in
/-- BenchBrokerModel.isRunning -/
theorem m_isRunning (l : Launch) (dg : va_G) (ck : Nat → ClassId) (mo : Nat → Nat) (S : St) (F1 F2 F3 F4 : Int → Int) (M : St) (f : Int) (sz : Nat) (hI : Bd S) (rg_f : -2147483648 ≤ f ∧ f < 2147483648) : Met l yX9_isRunning (.code yX9_isRunning cX9_isRunning 2 (some .boolean) :: GW) ({ frames := 2, cells := 0, slots := 0, locals := 43 }) (va_Pc [.ref (mo 0), .int (zI f)] (wrP dg ck sz (modelC ck mo (encZ S) F1 F2 F3 F4 M))) (va_Qi (fun r (_ : Unit) => r = zI (bI (isFount S f ∧ S 10 f = 1))) (fun _ t9 => wrQ dg sz (modelC ck mo (encZ S) F1 F2 F3 F4 M) (modelC ck mo (encZ S) F1 F2 F3 F4 (upS M 8 0 (1 - bI (isFount S f)))) t9) (va_A (modelC ck mo (encZ S) F1 F2 F3 F4 M) sz)) 0 0 (va_A (modelC ck mo (encZ S) F1 F2 F3 F4 M) sz) := by
  refine Met.ofW (cc := cX9_isRunning) (maxL := 2) (ret := (some .boolean)) (by decide) rfl ?_
  intro p e s m args below meth c s₁ B hml hv
  obtain ⟨rfl, hsz, hP, hK, hD0⟩ := hv
  have hx := B.exec
  have hb := B.bytes
  have hr := B.returns
  have hts := atoms_spec (ws := .code yX9_isRunning cX9_isRunning 2 (some .boolean) :: GW) B.pre
  have htg : ∀ w ∈ GW, w.before _ s = true := fun w h => hts w (List.mem_cons_of_mem _ h)
  have hown : s.vm.findClass RX9 = some m.cls := findClass_of_methodNamed B.named
  have hlocks := B.notSynchronized
  subst hsz
  have hD := hD0.self (sz := s.heap.size)
  generalize hAe : va_A (modelC ck mo (encZ S) F1 F2 F3 F4 M) s.heap.size = A at hD ⊢
  have hA : ∀ q : Nat, s.heap.size ≤ q → A q := fun q h => by rw [← hAe]; exact Or.inr h
  have hS : va_S A s.heap s.heap [] := va_S.rf
  have hP : va_P dg vwCl (modelC ck mo (encZ S) F1 F2 F3 F4 M) s.heap := hP
  have hl := lv_entry ([.ref (mo 0), .int (zI f)]) (n := 2) (Nat.le_of_ble_eq_true rfl)
  rw [lg_entry_eq]
  generalize (lg_sl ([.ref (mo 0), .int (zI f)]) ++ List.replicate (2 - (lg_sl ([.ref (mo 0), .int (zI f)])).length) Slot.unset).toArray = ls at hl ⊢
  have hl : lv_has ls 2 [(0, .ref (mo 0)), (1, .int (zI f))] := hl
  obtain ⟨b00, b01, b02, b03, b1, b2, b3, b4, b5, b6, b7, b8, b9, b10, b11, b12⟩ := id hI
  refine lv_aload_n hx hb dX9_isRunning_0 rfl (lv_at hl 0 rfl) ?_
  refine lv_aload_n hx hb dX9_isRunning_1 rfl (lv_at hl 0 rfl) ?_
  refine lv_iload_n hx hb dX9_isRunning_2 rfl (lv_at hl 1 rfl) ?_
  refine vp_callSi (W.runV (As := [.int (zI f)]) (rest := [.ref (mo 0)]) ⟨hx, hb, hml, hown, htg⟩ (m_isFountain l dg ck mo S F1 F2 F3 F4 M f hI (by omega)) (cwV 1 htg (gwV wq_1709 wq_1711 wp_45 wq_15 wq_1712) rfl rfl rfl (by decide +kernel) ⟨Nat.le_of_ble_eq_true rfl, Nat.le_of_ble_eq_true rfl⟩) (rd_preV hK hP 0 11 rfl rfl) rfl rfl hl.1 rfl (lv_room (Nat.le_of_ble_eq_true rfl)) dX9_isRunning_3 ⟨Nat.zero_le _, Nat.zero_le _⟩) (fun r3 hr3 => ?_)
  subst hr3
  refine x_bz_eq (tgt := 13) hx hb dX9_isRunning_6 (by decide) (fun c6 => ?_) (fun c6 => ?_)
  · refine x_iconst hx hb dX9_isRunning_13 ?_
    refine va_put (D := dg) (ci := 11) (v := .int (zI 1)) (ty := .int) (C := RX9) (T := TX9) (N := 23) hx hb htg inG_X9 tyX9 tyX9_ok nmX9 hown hK hP hD hS 0 rfl rfl 0 (Nat.le_of_ble_eq_true rfl) (htg _ wq_1557) (fun _ h9 => h9) rfl (by decide +kernel) rfl rfl (Nat.le_of_ble_eq_true rfl) dX9_isRunning_14 (fun H locs hP hD hS => ?_)
    have hP : va_P dg vwCl (modelC ck mo (encZ S) F1 F2 F3 F4 (upS M 8 0 1)) H := hP
    have hD : va_D A (modelC ck mo (encZ S) F1 F2 F3 F4 (upS M 8 0 1)) := hD
    refine lv_aload_n hx hb dX9_isRunning_17 rfl (lv_at hl 0 rfl) ?_
    refine va_get (D := dg) (ci := 11) (v := .int (zI 1)) (C := RX9) (T := TX9) (N := 23) hx hb htg inG_X9 hown hK hP 0 rfl rfl 0 (Nat.le_of_ble_eq_true rfl) (htg _ wq_1557) (fun _ h9 => h9) rfl dX9_isRunning_18 ?_
    refine x_if_ne (tgt := 38) hx hb dX9_isRunning_21 (by decide) (by omega) (fun c21 => ?_) (fun c21 => absurd c21 (by decide))
    refine x_iconst hx hb dX9_isRunning_38 ?_
    have hEq : modelC ck mo (encZ S) F1 F2 F3 F4 (upS M 8 0 (1 - bI (isFount S f))) = modelC ck mo (encZ S) F1 F2 F3 F4 (upS M 8 0 1) := (by first | (rw [bI_t (show isFount S f by omega)] <;> rfl) | (rw [bI_f (show ¬ (isFount S f) by omega)] <;> rfl))
    exact W.zret (v := _) hx hb hr (by first | rfl | rfl) (fun t9 ht9 hW9 => ⟨⟨_, (), rfl, (congrArg zI (by first | exact (bI_t (by omega)).symm | exact (bI_f (by omega)).symm)), by rw [ht9, hEq]; exact hP, by rw [hEq, hAe]; exact hD⟩, hS.F ht9⟩) hS.2.2 dX9_isRunning_39
  · refine x_iconst hx hb dX9_isRunning_9 ?_
    refine lv_goto (tgt := 14) hx hb dX9_isRunning_10 (by decide) ?_
    refine va_put (D := dg) (ci := 11) (v := .int (zI 0)) (ty := .int) (C := RX9) (T := TX9) (N := 23) hx hb htg inG_X9 tyX9 tyX9_ok nmX9 hown hK hP hD hS 0 rfl rfl 0 (Nat.le_of_ble_eq_true rfl) (htg _ wq_1557) (fun _ h9 => h9) rfl (by decide +kernel) rfl rfl (Nat.le_of_ble_eq_true rfl) dX9_isRunning_14 (fun H locs hP hD hS => ?_)
    have hP : va_P dg vwCl (modelC ck mo (encZ S) F1 F2 F3 F4 (upS M 8 0 0)) H := hP
    have hD : va_D A (modelC ck mo (encZ S) F1 F2 F3 F4 (upS M 8 0 0)) := hD
    refine lv_aload_n hx hb dX9_isRunning_17 rfl (lv_at hl 0 rfl) ?_
    refine va_get (D := dg) (ci := 11) (v := .int (zI 0)) (C := RX9) (T := TX9) (N := 23) hx hb htg inG_X9 hown hK hP 0 rfl rfl 0 (Nat.le_of_ble_eq_true rfl) (htg _ wq_1557) (fun _ h9 => h9) rfl dX9_isRunning_18 ?_
    refine x_if_ne (tgt := 38) hx hb dX9_isRunning_21 (by decide) (by omega) (fun c21 => absurd c21 (by decide)) (fun c21 => ?_)
    refine lv_aload_n hx hb dX9_isRunning_24 rfl (lv_at hl 0 rfl) ?_
    refine lv_iload_n hx hb dX9_isRunning_25 rfl (lv_at hl 1 rfl) ?_
    refine x_iconst hx hb dX9_isRunning_26 ?_
    refine vp_callSi (W.runV (As := [.int (zI f), .int (zI 3)]) (rest := []) ⟨hx, hb, hml, hown, htg⟩ (m_fountain l dg ck mo S F1 F2 F3 F4 (upS M 8 0 0) f 3 (by omega) (by decide)) (cwV 2 htg (gwV wq_1661 wq_1663 wp_36 wq_15 wq_1664) rfl rfl rfl (by decide +kernel) ⟨Nat.le_of_ble_eq_true rfl, Nat.le_of_ble_eq_true rfl⟩) (rd_preV hK hP 0 11 rfl rfl) rfl rfl hl.1 rfl (lv_room (Nat.le_of_ble_eq_true rfl)) dX9_isRunning_27 ⟨Nat.zero_le _, Nat.zero_le _⟩) (fun r27 hr27 => ?_)
    subst hr27
    have q27 := b10 f
    refine x_is (show (S (7 + Int.toNat 3) f) = (S 10 f) from rfl) ?_
    refine x_iconst hx hb dX9_isRunning_30 ?_
    refine x_icmp_ne (tgt := 38) hx hb dX9_isRunning_31 (by decide) (by omega) (by omega) (fun c31 => ?_) (fun c31 => ?_)
    · refine x_iconst hx hb dX9_isRunning_38 ?_
      have hEq : modelC ck mo (encZ S) F1 F2 F3 F4 (upS M 8 0 (1 - bI (isFount S f))) = modelC ck mo (encZ S) F1 F2 F3 F4 (upS M 8 0 0) := (by first | (rw [bI_t (show isFount S f by omega)] <;> rfl) | (rw [bI_f (show ¬ (isFount S f) by omega)] <;> rfl))
      exact W.zret (v := _) hx hb hr (by first | rfl | rfl) (fun t9 ht9 hW9 => ⟨⟨_, (), rfl, (congrArg zI (by first | exact (bI_t (by omega)).symm | exact (bI_f (by omega)).symm)), by rw [ht9, hEq]; exact hP, by rw [hEq, hAe]; exact hD⟩, hS.F ht9⟩) hS.2.2 dX9_isRunning_39
    · refine x_iconst hx hb dX9_isRunning_34 ?_
      refine lv_goto (tgt := 39) hx hb dX9_isRunning_35 (by decide) ?_
      have hEq : modelC ck mo (encZ S) F1 F2 F3 F4 (upS M 8 0 (1 - bI (isFount S f))) = modelC ck mo (encZ S) F1 F2 F3 F4 (upS M 8 0 0) := (by first | (rw [bI_t (show isFount S f by omega)] <;> rfl) | (rw [bI_f (show ¬ (isFount S f) by omega)] <;> rfl))
      exact W.zret (v := _) hx hb hr (by first | rfl | rfl) (fun t9 ht9 hW9 => ⟨⟨_, (), rfl, (congrArg zI (by first | exact (bI_t (by omega)).symm | exact (bI_f (by omega)).symm)), by rw [ht9, hEq]; exact hP, by rw [hEq, hAe]; exact hD⟩, hS.F ht9⟩) hS.2.2 dX9_isRunning_39

set_option maxHeartbeats 4000000 in
set_option maxRecDepth 100000 in
/-- BenchBrokerModel.noiseAt -/
theorem m_noiseAt (l : Launch) (dg : va_G) (ck : Nat → ClassId) (mo : Nat → Nat) (S : St) (F1 F2 F3 F4 : Int → Int) (M : St) (x y : Int) (sz : Nat) (hI : Bd S) (rg_x : -2147483648 ≤ x ∧ x < 2147483648) (rg_y : -2147483648 ≤ y ∧ y < 2147483648) : Met l yX9_noiseAt (.code yX9_noiseAt cX9_noiseAt 3 (some .int) :: GW) ({ frames := 2, cells := 0, slots := 0, locals := 48 }) (va_Pc [.ref (mo 0), .int (zI x), .int (zI y)] (wrP dg ck sz (modelC ck mo (encZ S) F1 F2 F3 F4 M))) (va_Qi (fun r (_ : Unit) => r = zI (itZ (isCell x y) (noise S x y))) (fun _ t9 => wrQ dg sz (modelC ck mo (encZ S) F1 F2 F3 F4 M) (modelC ck mo (encZ S) F1 F2 F3 F4 (upS M 8 0 (1 - bI (isCell x y)))) t9) (va_A (modelC ck mo (encZ S) F1 F2 F3 F4 M) sz)) 0 0 (va_A (modelC ck mo (encZ S) F1 F2 F3 F4 M) sz) := by
  refine Met.ofW (cc := cX9_noiseAt) (maxL := 3) (ret := (some .int)) (by decide) rfl ?_
  intro p e s m args below meth c s₁ B hml hv
  obtain ⟨rfl, hsz, hP, hK, hD0⟩ := hv
  have hx := B.exec
  have hb := B.bytes
  have hr := B.returns
  have hts := atoms_spec (ws := .code yX9_noiseAt cX9_noiseAt 3 (some .int) :: GW) B.pre
  have htg : ∀ w ∈ GW, w.before _ s = true := fun w h => hts w (List.mem_cons_of_mem _ h)
  have hown : s.vm.findClass RX9 = some m.cls := findClass_of_methodNamed B.named
  have hlocks := B.notSynchronized
  subst hsz
  have hD := hD0.self (sz := s.heap.size)
  generalize hAe : va_A (modelC ck mo (encZ S) F1 F2 F3 F4 M) s.heap.size = A at hD ⊢
  have hA : ∀ q : Nat, s.heap.size ≤ q → A q := fun q h => by rw [← hAe]; exact Or.inr h
  have hS : va_S A s.heap s.heap [] := va_S.rf
  have hP : va_P dg vwCl (modelC ck mo (encZ S) F1 F2 F3 F4 M) s.heap := hP
  have hl := lv_entry ([.ref (mo 0), .int (zI x), .int (zI y)]) (n := 3) (Nat.le_of_ble_eq_true rfl)
  rw [lg_entry_eq]
  generalize (lg_sl ([.ref (mo 0), .int (zI x), .int (zI y)]) ++ List.replicate (3 - (lg_sl ([.ref (mo 0), .int (zI x), .int (zI y)])).length) Slot.unset).toArray = ls at hl ⊢
  have hl : lv_has ls 3 [(0, .ref (mo 0)), (1, .int (zI x)), (2, .int (zI y))] := hl
  obtain ⟨b00, b01, b02, b03, b1, b2, b3, b4, b5, b6, b7, b8, b9, b10, b11, b12⟩ := id hI
  refine lv_aload_n hx hb dX9_noiseAt_0 rfl (lv_at hl 0 rfl) ?_
  refine lv_iload_n hx hb dX9_noiseAt_1 rfl (lv_at hl 1 rfl) ?_
  refine lv_iload_n hx hb dX9_noiseAt_2 rfl (lv_at hl 2 rfl) ?_
  refine vp_callSi (W.runS (As := [.int (zI x), .int (zI y)]) (rest := [.ref (mo 0)]) ⟨hx, hb, hml, hown, htg⟩ (m_isCell l dg ck x y (by omega) (by omega)) (cwS 2 htg (gwS wq_1643 wq_1644 wq_15 wq_1645) rfl rfl rfl (by decide +kernel) ⟨Nat.le_of_ble_eq_true rfl, Nat.le_of_ble_eq_true rfl⟩) (rd_preS hK va_P_nil) rfl rfl hl.1 rfl (lv_room (Nat.le_of_ble_eq_true rfl)) dX9_noiseAt_3 ⟨Nat.zero_le _, Nat.zero_le _⟩) (fun r3 hr3 => ?_)
  subst hr3
  refine x_bz_eq (tgt := 13) hx hb dX9_noiseAt_6 (by decide) (fun c6 => ?_) (fun c6 => ?_)
  · refine x_iconst hx hb dX9_noiseAt_13 ?_
    refine va_put (D := dg) (ci := 11) (v := .int (zI 1)) (ty := .int) (C := RX9) (T := TX9) (N := 23) hx hb htg inG_X9 tyX9 tyX9_ok nmX9 hown hK hP hD hS 0 rfl rfl 0 (Nat.le_of_ble_eq_true rfl) (htg _ wq_1557) (fun _ h9 => h9) rfl (by decide +kernel) rfl rfl (Nat.le_of_ble_eq_true rfl) dX9_noiseAt_14 (fun H locs hP hD hS => ?_)
    have hP : va_P dg vwCl (modelC ck mo (encZ S) F1 F2 F3 F4 (upS M 8 0 1)) H := hP
    have hD : va_D A (modelC ck mo (encZ S) F1 F2 F3 F4 (upS M 8 0 1)) := hD
    refine lv_aload_n hx hb dX9_noiseAt_17 rfl (lv_at hl 0 rfl) ?_
    refine va_get (D := dg) (ci := 11) (v := .int (zI 1)) (C := RX9) (T := TX9) (N := 23) hx hb htg inG_X9 hown hK hP 0 rfl rfl 0 (Nat.le_of_ble_eq_true rfl) (htg _ wq_1557) (fun _ h9 => h9) rfl dX9_noiseAt_18 ?_
    refine x_if_le (tgt := 28) hx hb dX9_noiseAt_21 (by decide) (by omega) (fun c21 => absurd c21 (by decide)) (fun c21 => ?_)
    refine x_iconst hx hb dX9_noiseAt_24 ?_
    refine lv_goto (tgt := 34) hx hb dX9_noiseAt_25 (by decide) ?_
    have hEq : modelC ck mo (encZ S) F1 F2 F3 F4 (upS M 8 0 (1 - bI (isCell x y))) = modelC ck mo (encZ S) F1 F2 F3 F4 (upS M 8 0 1) := (by first | (rw [bI_t (show isCell x y by omega)] <;> rfl) | (rw [bI_f (show ¬ (isCell x y) by omega)] <;> rfl))
    exact W.iret (v := _) hx hb hr (fun t9 ht9 hW9 => ⟨⟨_, (), rfl, (by first | (rw [itZ_t (show isCell x y by omega)] <;> rfl) | (rw [itZ_f (show ¬ (isCell x y) by omega)] <;> rfl)), by rw [ht9, hEq]; exact hP, by rw [hEq, hAe]; exact hD⟩, hS.F ht9⟩) hS.2.2 dX9_noiseAt_34
  · refine x_iconst hx hb dX9_noiseAt_9 ?_
    refine lv_goto (tgt := 14) hx hb dX9_noiseAt_10 (by decide) ?_
    refine va_put (D := dg) (ci := 11) (v := .int (zI 0)) (ty := .int) (C := RX9) (T := TX9) (N := 23) hx hb htg inG_X9 tyX9 tyX9_ok nmX9 hown hK hP hD hS 0 rfl rfl 0 (Nat.le_of_ble_eq_true rfl) (htg _ wq_1557) (fun _ h9 => h9) rfl (by decide +kernel) rfl rfl (Nat.le_of_ble_eq_true rfl) dX9_noiseAt_14 (fun H locs hP hD hS => ?_)
    have hP : va_P dg vwCl (modelC ck mo (encZ S) F1 F2 F3 F4 (upS M 8 0 0)) H := hP
    have hD : va_D A (modelC ck mo (encZ S) F1 F2 F3 F4 (upS M 8 0 0)) := hD
    refine lv_aload_n hx hb dX9_noiseAt_17 rfl (lv_at hl 0 rfl) ?_
    refine va_get (D := dg) (ci := 11) (v := .int (zI 0)) (C := RX9) (T := TX9) (N := 23) hx hb htg inG_X9 hown hK hP 0 rfl rfl 0 (Nat.le_of_ble_eq_true rfl) (htg _ wq_1557) (fun _ h9 => h9) rfl dX9_noiseAt_18 ?_
    refine x_if_le (tgt := 28) hx hb dX9_noiseAt_21 (by decide) (by omega) (fun c21 => ?_) (fun c21 => absurd c21 (by decide))
    refine lv_aload_n hx hb dX9_noiseAt_28 rfl (lv_at hl 0 rfl) ?_
    refine lv_iload_n hx hb dX9_noiseAt_29 rfl (lv_at hl 1 rfl) ?_
    refine lv_iload_n hx hb dX9_noiseAt_30 rfl (lv_at hl 2 rfl) ?_
    refine vp_callSi (W.runV (As := [.int (zI x), .int (zI y)]) (rest := []) ⟨hx, hb, hml, hown, htg⟩ (m_noise l dg ck mo S F1 F2 F3 F4 (upS M 8 0 0) x y hI (by omega) (by omega)) (cwV 2 htg (gwV wq_1761 wq_1763 wp_51 wq_15 wq_1764) rfl rfl rfl (by decide +kernel) ⟨Nat.le_of_ble_eq_true rfl, Nat.le_of_ble_eq_true rfl⟩) (rd_preV hK hP 0 11 rfl rfl) rfl rfl hl.1 rfl (lv_room (Nat.le_of_ble_eq_true rfl)) dX9_noiseAt_31 ⟨Nat.zero_le _, Nat.zero_le _⟩) (fun r31 hr31 => ?_)
    subst hr31
    have hEq : modelC ck mo (encZ S) F1 F2 F3 F4 (upS M 8 0 (1 - bI (isCell x y))) = modelC ck mo (encZ S) F1 F2 F3 F4 (upS M 8 0 0) := (by first | (rw [bI_t (show isCell x y by omega)] <;> rfl) | (rw [bI_f (show ¬ (isCell x y) by omega)] <;> rfl))
    exact W.iret (v := _) hx hb hr (fun t9 ht9 hW9 => ⟨⟨_, (), rfl, (by first | (rw [itZ_t (show isCell x y by omega)] <;> rfl) | (rw [itZ_f (show ¬ (isCell x y) by omega)] <;> rfl)), by rw [ht9, hEq]; exact hP, by rw [hEq, hAe]; exact hD⟩, hS.F ht9⟩) hS.2.2 dX9_noiseAt_34

set_option maxHeartbeats 4000000 in
set_option maxRecDepth 100000 in
/-- BenchBrokerModel.noiseBySpreading -/
theorem m_noiseBySpreading (l : Launch) (dg : va_G) (ck : Nat → ClassId) (mo : Nat → Nat) (S : St) (F1 F2 F3 F4 : Int → Int) (M : St) (x y : Int) (sz : Nat) (hI : Bd S) (rg_x : -2147483648 ≤ x ∧ x < 2147483648) (rg_y : -2147483648 ≤ y ∧ y < 2147483648) : Met l yX9_noiseBySpreading (.code yX9_noiseBySpreading cX9_noiseBySpreading 3 (some .int) :: GW) ({ frames := 3, cells := 0, slots := 0, locals := 70 }) (va_Pc [.ref (mo 0), .int (zI x), .int (zI y)] (wrP dg ck sz (modelC ck mo (encZ S) F1 F2 F3 F4 M))) (va_Qi (fun r (_ : Unit) => r = zI (itZ (isCell x y) (noise S x y))) (fun _ t9 => wrQ dg sz (modelC ck mo (encZ S) F1 F2 F3 F4 M) (modelC ck mo (encZ S) F1 F2 F3 F4 (upS M 8 0 (1 - bI (isCell x y)))) t9) (va_A (modelC ck mo (encZ S) F1 F2 F3 F4 M) sz)) 0 0 (va_A (modelC ck mo (encZ S) F1 F2 F3 F4 M) sz) := by
  refine Met.ofW (cc := cX9_noiseBySpreading) (maxL := 3) (ret := (some .int)) (by decide) rfl ?_
  intro p e s m args below meth c s₁ B hml hv
  obtain ⟨rfl, hsz, hP, hK, hD0⟩ := hv
  have hx := B.exec
  have hb := B.bytes
  have hr := B.returns
  have hts := atoms_spec (ws := .code yX9_noiseBySpreading cX9_noiseBySpreading 3 (some .int) :: GW) B.pre
  have htg : ∀ w ∈ GW, w.before _ s = true := fun w h => hts w (List.mem_cons_of_mem _ h)
  have hown : s.vm.findClass RX9 = some m.cls := findClass_of_methodNamed B.named
  have hlocks := B.notSynchronized
  subst hsz
  have hD := hD0.self (sz := s.heap.size)
  generalize hAe : va_A (modelC ck mo (encZ S) F1 F2 F3 F4 M) s.heap.size = A at hD ⊢
  have hA : ∀ q : Nat, s.heap.size ≤ q → A q := fun q h => by rw [← hAe]; exact Or.inr h
  have hS : va_S A s.heap s.heap [] := va_S.rf
  have hP : va_P dg vwCl (modelC ck mo (encZ S) F1 F2 F3 F4 M) s.heap := hP
  have hl := lv_entry ([.ref (mo 0), .int (zI x), .int (zI y)]) (n := 3) (Nat.le_of_ble_eq_true rfl)
  rw [lg_entry_eq]
  generalize (lg_sl ([.ref (mo 0), .int (zI x), .int (zI y)]) ++ List.replicate (3 - (lg_sl ([.ref (mo 0), .int (zI x), .int (zI y)])).length) Slot.unset).toArray = ls at hl ⊢
  have hl : lv_has ls 3 [(0, .ref (mo 0)), (1, .int (zI x)), (2, .int (zI y))] := hl
  obtain ⟨b00, b01, b02, b03, b1, b2, b3, b4, b5, b6, b7, b8, b9, b10, b11, b12⟩ := id hI
  refine lv_aload_n hx hb dX9_noiseBySpreading_0 rfl (lv_at hl 0 rfl) ?_
  refine lv_iload_n hx hb dX9_noiseBySpreading_1 rfl (lv_at hl 1 rfl) ?_
  refine lv_iload_n hx hb dX9_noiseBySpreading_2 rfl (lv_at hl 2 rfl) ?_
  refine x_calli (ws' := modelC ck mo (encZ S) F1 F2 F3 F4 (upS M 8 0 (1 - bI (isCell x y)))) [] (M := modelC ck mo (encZ S) F1 F2 F3 F4 M) (M' := modelC ck mo (encZ S) F1 F2 F3 F4 (upS M 8 0 (1 - bI (isCell x y)))) ([]) (List.append_nil _).symm (List.append_nil _).symm hP hD hS hA (fun hPm hDm => va_runV (As := [.int (zI x), .int (zI y)]) (rest := []) ⟨hx, hb, hml, hown, htg⟩ (m_noiseAt l dg ck mo S F1 F2 F3 F4 M x y _ hI (by omega) (by omega)) (cwV 2 htg (gwV wq_1792 wq_1785 wq_1786 wq_15 wq_1787) rfl rfl rfl (by decide +kernel) ⟨Nat.le_of_ble_eq_true rfl, Nat.le_of_ble_eq_true rfl⟩) (wr_preV hK hPm hDm 0 11 rfl rfl) rfl rfl hl.1 rfl (lv_room (Nat.le_of_ble_eq_true rfl)) dX9_noiseBySpreading_3 ⟨Nat.zero_le _, Nat.zero_le _⟩) (fun r3 H locs hr3 hP hD hS => ?_)
  subst hr3
  have hEq : modelC ck mo (encZ S) F1 F2 F3 F4 (upS M 8 0 (1 - bI (isCell x y))) = modelC ck mo (encZ S) F1 F2 F3 F4 (upS M 8 0 (1 - bI (isCell x y))) := rfl
  exact W.iret (v := _) hx hb hr (fun t9 ht9 hW9 => ⟨⟨_, (), rfl, rfl, by rw [ht9, hEq]; exact hP, by rw [hEq, hAe]; exact hD⟩, hS.F ht9⟩) hS.2.2 dX9_noiseBySpreading_6

set_option maxHeartbeats 4000000 in
set_option maxRecDepth 100000 in
/-- BenchBrokerModel.isQuiet -/
theorem m_isQuiet (l : Launch) (dg : va_G) (ck : Nat → ClassId) (mo : Nat → Nat) (S : St) (F1 F2 F3 F4 : Int → Int) (M : St) (b : Int) (sz : Nat) (hI : Bd S) (rg_b : -2147483648 ≤ b ∧ b < 2147483648) : Met l yX9_isQuiet (.code yX9_isQuiet cX9_isQuiet 2 (some .boolean) :: GW) ({ frames := 4, cells := 0, slots := 0, locals := 90 }) (va_Pc [.ref (mo 0), .int (zI b)] (wrP dg ck sz (modelC ck mo (encZ S) F1 F2 F3 F4 M))) (va_Qi (fun r (_ : Unit) => r = zI (bI (isBench S b ∧ quietB S b))) (fun _ t9 => wrQ dg sz (modelC ck mo (encZ S) F1 F2 F3 F4 M) (modelC ck mo (encZ S) F1 F2 F3 F4 (upS M 8 0 (1 - bI (isBench S b)))) t9) (va_A (modelC ck mo (encZ S) F1 F2 F3 F4 M) sz)) 0 0 (va_A (modelC ck mo (encZ S) F1 F2 F3 F4 M) sz) := by
  refine Met.ofW (cc := cX9_isQuiet) (maxL := 2) (ret := (some .boolean)) (by decide) rfl ?_
  intro p e s m args below meth c s₁ B hml hv
  obtain ⟨rfl, hsz, hP, hK, hD0⟩ := hv
  have hx := B.exec
  have hb := B.bytes
  have hr := B.returns
  have hts := atoms_spec (ws := .code yX9_isQuiet cX9_isQuiet 2 (some .boolean) :: GW) B.pre
  have htg : ∀ w ∈ GW, w.before _ s = true := fun w h => hts w (List.mem_cons_of_mem _ h)
  have hown : s.vm.findClass RX9 = some m.cls := findClass_of_methodNamed B.named
  have hlocks := B.notSynchronized
  subst hsz
  have hD := hD0.self (sz := s.heap.size)
  generalize hAe : va_A (modelC ck mo (encZ S) F1 F2 F3 F4 M) s.heap.size = A at hD ⊢
  have hA : ∀ q : Nat, s.heap.size ≤ q → A q := fun q h => by rw [← hAe]; exact Or.inr h
  have hS : va_S A s.heap s.heap [] := va_S.rf
  have hP : va_P dg vwCl (modelC ck mo (encZ S) F1 F2 F3 F4 M) s.heap := hP
  have hl := lv_entry ([.ref (mo 0), .int (zI b)]) (n := 2) (Nat.le_of_ble_eq_true rfl)
  rw [lg_entry_eq]
  generalize (lg_sl ([.ref (mo 0), .int (zI b)]) ++ List.replicate (2 - (lg_sl ([.ref (mo 0), .int (zI b)])).length) Slot.unset).toArray = ls at hl ⊢
  have hl : lv_has ls 2 [(0, .ref (mo 0)), (1, .int (zI b))] := hl
  obtain ⟨b00, b01, b02, b03, b1, b2, b3, b4, b5, b6, b7, b8, b9, b10, b11, b12⟩ := id hI
  refine lv_aload_n hx hb dX9_isQuiet_0 rfl (lv_at hl 0 rfl) ?_
  refine lv_aload_n hx hb dX9_isQuiet_1 rfl (lv_at hl 0 rfl) ?_
  refine lv_iload_n hx hb dX9_isQuiet_2 rfl (lv_at hl 1 rfl) ?_
  refine vp_callSi (W.runV (As := [.int (zI b)]) (rest := [.ref (mo 0)]) ⟨hx, hb, hml, hown, htg⟩ (m_isBench l dg ck mo S F1 F2 F3 F4 M b hI (by omega)) (cwV 1 htg (gwV wq_1689 wq_1691 wp_42 wq_15 wq_1692) rfl rfl rfl (by decide +kernel) ⟨Nat.le_of_ble_eq_true rfl, Nat.le_of_ble_eq_true rfl⟩) (rd_preV hK hP 0 11 rfl rfl) rfl rfl hl.1 rfl (lv_room (Nat.le_of_ble_eq_true rfl)) dX9_isQuiet_3 ⟨Nat.zero_le _, Nat.zero_le _⟩) (fun r3 hr3 => ?_)
  subst hr3
  refine x_bz_eq (tgt := 13) hx hb dX9_isQuiet_6 (by decide) (fun c6 => ?_) (fun c6 => ?_)
  · refine x_iconst hx hb dX9_isQuiet_13 ?_
    refine va_put (D := dg) (ci := 11) (v := .int (zI 1)) (ty := .int) (C := RX9) (T := TX9) (N := 23) hx hb htg inG_X9 tyX9 tyX9_ok nmX9 hown hK hP hD hS 0 rfl rfl 0 (Nat.le_of_ble_eq_true rfl) (htg _ wq_1557) (fun _ h9 => h9) rfl (by decide +kernel) rfl rfl (Nat.le_of_ble_eq_true rfl) dX9_isQuiet_14 (fun H locs hP hD hS => ?_)
    have hP : va_P dg vwCl (modelC ck mo (encZ S) F1 F2 F3 F4 (upS M 8 0 1)) H := hP
    have hD : va_D A (modelC ck mo (encZ S) F1 F2 F3 F4 (upS M 8 0 1)) := hD
    refine lv_aload_n hx hb dX9_isQuiet_17 rfl (lv_at hl 0 rfl) ?_
    refine va_get (D := dg) (ci := 11) (v := .int (zI 1)) (C := RX9) (T := TX9) (N := 23) hx hb htg inG_X9 hown hK hP 0 rfl rfl 0 (Nat.le_of_ble_eq_true rfl) (htg _ wq_1557) (fun _ h9 => h9) rfl dX9_isQuiet_18 ?_
    refine x_if_ne (tgt := 36) hx hb dX9_isQuiet_21 (by decide) (by omega) (fun c21 => ?_) (fun c21 => absurd c21 (by decide))
    refine x_iconst hx hb dX9_isQuiet_36 ?_
    have hEq : modelC ck mo (encZ S) F1 F2 F3 F4 (upS M 8 0 (1 - bI (isBench S b))) = modelC ck mo (encZ S) F1 F2 F3 F4 (upS M 8 0 1) := (by first | (rw [bI_t (show isBench S b by omega)] <;> rfl) | (rw [bI_f (show ¬ (isBench S b) by omega)] <;> rfl))
    exact W.zret (v := _) hx hb hr (by first | rfl | rfl) (fun t9 ht9 hW9 => ⟨⟨_, (), rfl, (congrArg zI (by first | exact (bI_t (by omega)).symm | exact (bI_f (by omega)).symm)), by rw [ht9, hEq]; exact hP, by rw [hEq, hAe]; exact hD⟩, hS.F ht9⟩) hS.2.2 dX9_isQuiet_37
  · refine x_iconst hx hb dX9_isQuiet_9 ?_
    refine lv_goto (tgt := 14) hx hb dX9_isQuiet_10 (by decide) ?_
    refine va_put (D := dg) (ci := 11) (v := .int (zI 0)) (ty := .int) (C := RX9) (T := TX9) (N := 23) hx hb htg inG_X9 tyX9 tyX9_ok nmX9 hown hK hP hD hS 0 rfl rfl 0 (Nat.le_of_ble_eq_true rfl) (htg _ wq_1557) (fun _ h9 => h9) rfl (by decide +kernel) rfl rfl (Nat.le_of_ble_eq_true rfl) dX9_isQuiet_14 (fun H locs hP hD hS => ?_)
    have hP : va_P dg vwCl (modelC ck mo (encZ S) F1 F2 F3 F4 (upS M 8 0 0)) H := hP
    have hD : va_D A (modelC ck mo (encZ S) F1 F2 F3 F4 (upS M 8 0 0)) := hD
    refine lv_aload_n hx hb dX9_isQuiet_17 rfl (lv_at hl 0 rfl) ?_
    refine va_get (D := dg) (ci := 11) (v := .int (zI 0)) (C := RX9) (T := TX9) (N := 23) hx hb htg inG_X9 hown hK hP 0 rfl rfl 0 (Nat.le_of_ble_eq_true rfl) (htg _ wq_1557) (fun _ h9 => h9) rfl dX9_isQuiet_18 ?_
    refine x_if_ne (tgt := 36) hx hb dX9_isQuiet_21 (by decide) (by omega) (fun c21 => absurd c21 (by decide)) (fun c21 => ?_)
    refine lv_aload_n hx hb dX9_isQuiet_24 rfl (lv_at hl 0 rfl) ?_
    refine lv_iload_n hx hb dX9_isQuiet_25 rfl (lv_at hl 1 rfl) ?_
    refine vp_callSi (W.runV (As := [.int (zI b)]) (rest := []) ⟨hx, hb, hml, hown, htg⟩ (m_quiet l dg ck mo S F1 F2 F3 F4 (upS M 8 0 0) b hI (by omega)) (cwV 1 htg (gwV wq_1797 wq_1799 wp_52 wq_15 wq_1800) rfl rfl rfl (by decide +kernel) ⟨Nat.le_of_ble_eq_true rfl, Nat.le_of_ble_eq_true rfl⟩) (rd_preV hK hP 0 11 rfl rfl) rfl rfl hl.1 rfl (lv_room (Nat.le_of_ble_eq_true rfl)) dX9_isQuiet_26 ⟨Nat.zero_le _, Nat.zero_le _⟩) (fun r26 hr26 => ?_)
    subst hr26
    refine x_bz_eq (tgt := 36) hx hb dX9_isQuiet_29 (by decide) (fun c29 => ?_) (fun c29 => ?_)
    · refine x_iconst hx hb dX9_isQuiet_36 ?_
      have hEq : modelC ck mo (encZ S) F1 F2 F3 F4 (upS M 8 0 (1 - bI (isBench S b))) = modelC ck mo (encZ S) F1 F2 F3 F4 (upS M 8 0 0) := (by first | (rw [bI_t (show isBench S b by omega)] <;> rfl) | (rw [bI_f (show ¬ (isBench S b) by omega)] <;> rfl))
      exact W.zret (v := _) hx hb hr (by first | rfl | rfl) (fun t9 ht9 hW9 => ⟨⟨_, (), rfl, (congrArg zI (by first | exact (bI_t (by omega)).symm | exact (bI_f (by omega)).symm)), by rw [ht9, hEq]; exact hP, by rw [hEq, hAe]; exact hD⟩, hS.F ht9⟩) hS.2.2 dX9_isQuiet_37
    · refine x_iconst hx hb dX9_isQuiet_32 ?_
      refine lv_goto (tgt := 37) hx hb dX9_isQuiet_33 (by decide) ?_
      have hEq : modelC ck mo (encZ S) F1 F2 F3 F4 (upS M 8 0 (1 - bI (isBench S b))) = modelC ck mo (encZ S) F1 F2 F3 F4 (upS M 8 0 0) := (by first | (rw [bI_t (show isBench S b by omega)] <;> rfl) | (rw [bI_f (show ¬ (isBench S b) by omega)] <;> rfl))
      exact W.zret (v := _) hx hb hr (by first | rfl | rfl) (fun t9 ht9 hW9 => ⟨⟨_, (), rfl, (congrArg zI (by first | exact (bI_t (by omega)).symm | exact (bI_f (by omega)).symm)), by rw [ht9, hEq]; exact hP, by rw [hEq, hAe]; exact hD⟩, hS.F ht9⟩) hS.2.2 dX9_isQuiet_37

set_option maxHeartbeats 4000000 in
set_option maxRecDepth 100000 in
/-- BenchBrokerModel.quietCount -/
theorem m_quietCount (l : Launch) (dg : va_G) (ck : Nat → ClassId) (mo : Nat → Nat) (S : St) (F1 F2 F3 F4 : Int → Int) (M : St) (sz : Nat) (hI : Bd S)  : Met l yX9_quietCount (.code yX9_quietCount cX9_quietCount 3 (some .int) :: GW) ({ frames := 4, cells := 0, slots := 0, locals := 90 }) (va_Pc [.ref (mo 0)] (wrP dg ck sz (modelC ck mo (encZ S) F1 F2 F3 F4 M))) (va_Qi (fun r (_ : Unit) => r = zI (sumZ (fun o => bI (quietB S o)) (S 0 0).toNat)) (fun _ t9 => wrQ dg sz (modelC ck mo (encZ S) F1 F2 F3 F4 M) (modelC ck mo (encZ S) F1 F2 F3 F4 (upS M 8 0 0)) t9) (va_A (modelC ck mo (encZ S) F1 F2 F3 F4 M) sz)) 0 0 (va_A (modelC ck mo (encZ S) F1 F2 F3 F4 M) sz) := by
  refine Met.ofW (cc := cX9_quietCount) (maxL := 3) (ret := (some .int)) (by decide) rfl ?_
  intro p e s m args below meth c s₁ B hml hv
  obtain ⟨rfl, hsz, hP, hK, hD0⟩ := hv
  have hx := B.exec
  have hb := B.bytes
  have hr := B.returns
  have hts := atoms_spec (ws := .code yX9_quietCount cX9_quietCount 3 (some .int) :: GW) B.pre
  have htg : ∀ w ∈ GW, w.before _ s = true := fun w h => hts w (List.mem_cons_of_mem _ h)
  have hown : s.vm.findClass RX9 = some m.cls := findClass_of_methodNamed B.named
  have hlocks := B.notSynchronized
  subst hsz
  have hD := hD0.self (sz := s.heap.size)
  generalize hAe : va_A (modelC ck mo (encZ S) F1 F2 F3 F4 M) s.heap.size = A at hD ⊢
  have hA : ∀ q : Nat, s.heap.size ≤ q → A q := fun q h => by rw [← hAe]; exact Or.inr h
  have hS : va_S A s.heap s.heap [] := va_S.rf
  have hP : va_P dg vwCl (modelC ck mo (encZ S) F1 F2 F3 F4 M) s.heap := hP
  have hl := lv_entry ([.ref (mo 0)]) (n := 3) (Nat.le_of_ble_eq_true rfl)
  rw [lg_entry_eq]
  generalize (lg_sl ([.ref (mo 0)]) ++ List.replicate (3 - (lg_sl ([.ref (mo 0)])).length) Slot.unset).toArray = ls at hl ⊢
  have hl : lv_has ls 3 [(0, .ref (mo 0))] := hl
  obtain ⟨b00, b01, b02, b03, b1, b2, b3, b4, b5, b6, b7, b8, b9, b10, b11, b12⟩ := id hI
  refine lv_aload_n hx hb dX9_quietCount_0 rfl (lv_at hl 0 rfl) ?_
  refine x_iconst hx hb dX9_quietCount_1 ?_
  refine va_put (D := dg) (ci := 11) (v := .int (zI 0)) (ty := .int) (C := RX9) (T := TX9) (N := 23) hx hb htg inG_X9 tyX9 tyX9_ok nmX9 hown hK hP hD hS 0 rfl rfl 0 (Nat.le_of_ble_eq_true rfl) (htg _ wq_1557) (fun _ h9 => h9) rfl (by decide +kernel) rfl rfl (Nat.le_of_ble_eq_true rfl) dX9_quietCount_2 (fun H locs hP hD hS => ?_)
  have hP : va_P dg vwCl (modelC ck mo (encZ S) F1 F2 F3 F4 (upS M 8 0 0)) H := hP
  have hD : va_D A (modelC ck mo (encZ S) F1 F2 F3 F4 (upS M 8 0 0)) := hD
  refine x_iconst hx hb dX9_quietCount_5 ?_
  refine lv_istore_n (lv' := [(1, .int (zI 0)), (0, .ref (mo 0))]) hx hb dX9_quietCount_6 rfl hl (by decide) rfl (fun ls hl => ?_)
  refine x_iconst hx hb dX9_quietCount_7 ?_
  refine lv_istore_n (lv' := [(2, .int (zI 0)), (1, .int (zI 0)), (0, .ref (mo 0))]) hx hb dX9_quietCount_8 rfl hl (by decide) rfl (fun ls hl => ?_)
  refine x_loopW (ι := Int × Int) (fun v => (0 ≤ v.2 ∧ v.2 ≤ S 0 0) ∧ v.1 = sumZ (fun o => bI (quietB S o)) v.2.toNat) (fun v => (S 0 0 - v.2).toNat) (fun v => [(0, .ref (mo 0)), (1, .int (zI v.1)), (2, .int (zI v.2))]) (fun v => modelC ck mo (encZ S) F1 F2 F3 F4 (upS M 8 0 0)) (0, 0) (show (0 ≤ (0 : Int) ∧ (0 : Int) ≤ S 0 0) ∧ (0 : Int) = sumZ (fun o => bI (quietB S o)) (0 : Int).toNat from ⟨by omega, rfl⟩) (lv_sub hl [2, 1, 0] rfl) hP hD hS ?_
  intro v hv ih_9 ls H locs hl hP hD hS
  obtain ⟨u, i⟩ := v
  have hl : lv_has ls 3 [(0, .ref (mo 0)), (1, .int (zI u)), (2, .int (zI i))] := hl
  have hv : (0 ≤ i ∧ i ≤ S 0 0) ∧ u = sumZ (fun o => bI (quietB S o)) i.toNat := hv
  have hP : va_P dg vwCl (modelC ck mo (encZ S) F1 F2 F3 F4 (upS M 8 0 0)) H := hP
  have hD : va_D A (modelC ck mo (encZ S) F1 F2 F3 F4 (upS M 8 0 0)) := hD
  obtain ⟨hi, hu⟩ := hv
  refine lv_iload_n hx hb dX9_quietCount_9 rfl (lv_at hl 2 rfl) ?_
  refine lv_aload_n hx hb dX9_quietCount_10 rfl (lv_at hl 0 rfl) ?_
  refine va_get (D := dg) (ci := 11) (v := .ref (mo 1)) (C := RX9) (T := TX9) (N := 23) hx hb htg inG_X9 hown hK hP 0 rfl rfl 1 (Nat.le_of_ble_eq_true rfl) (htg _ wq_1558) (fun _ h9 => h9) rfl dX9_quietCount_11 ?_
  refine x_iconst hx hb dX9_quietCount_14 ?_
  refine x_iald hx hb hK hP 1 0 (encZ S) rfl rfl (fun _ => rfl) (P := fun _ => True) (fun _ => trivial) (by decide) (by omega) dX9_quietCount_15 (fun _ => ?_)
  refine x_is (show (encZ S) 0 = (S 0 0) from (encV (k := 0) (i := 0) (Or.inl ⟨rfl, by decide, by decide, rfl⟩)).trans (rfl)) ?_
  refine x_icmp_ge (tgt := 41) hx hb dX9_quietCount_16 (by decide) (by omega) (by omega) (fun c16 => ?_) (fun c16 => ?_)
  · refine lv_iload_n hx hb dX9_quietCount_41 rfl (lv_at hl 1 rfl) ?_
    have hEq : modelC ck mo (encZ S) F1 F2 F3 F4 (upS M 8 0 0) = modelC ck mo (encZ S) F1 F2 F3 F4 (upS M 8 0 0) := rfl
    exact W.iret (v := _) hx hb hr (fun t9 ht9 hW9 => ⟨⟨_, (), rfl, (by rw [hu, show i = S 0 0 by omega]), by rw [ht9, hEq]; exact hP, by rw [hEq, hAe]; exact hD⟩, hS.F ht9⟩) hS.2.2 dX9_quietCount_42
  · refine lv_iload_n hx hb dX9_quietCount_19 rfl (lv_at hl 1 rfl) ?_
    refine lv_aload_n hx hb dX9_quietCount_20 rfl (lv_at hl 0 rfl) ?_
    refine lv_iload_n hx hb dX9_quietCount_21 rfl (lv_at hl 2 rfl) ?_
    refine vp_callSi (W.runV (As := [.int (zI i)]) (rest := [.int (zI u)]) ⟨hx, hb, hml, hown, htg⟩ (m_quiet l dg ck mo S F1 F2 F3 F4 (upS M 8 0 0) i hI (by omega)) (cwV 1 htg (gwV wq_1797 wq_1799 wp_52 wq_15 wq_1800) rfl rfl rfl (by decide +kernel) ⟨Nat.le_of_ble_eq_true rfl, Nat.le_of_ble_eq_true rfl⟩) (rd_preV hK hP 0 11 rfl rfl) rfl rfl hl.1 rfl (lv_room (Nat.le_of_ble_eq_true rfl)) dX9_quietCount_22 ⟨Nat.zero_le _, Nat.zero_le _⟩) (fun r22 hr22 => ?_)
    subst hr22
    refine x_bz_eq (tgt := 32) hx hb dX9_quietCount_25 (by decide) (fun c25 => ?_) (fun c25 => ?_)
    · refine x_iconst hx hb dX9_quietCount_32 ?_
      refine x_iadd hx hb dX9_quietCount_33 ?_
      refine x_top _ (fun v34 e_v34 => ?_)
      refine lv_istore_n (lv' := [(1, .int (zI v34)), (0, .ref (mo 0)), (2, .int (zI i))]) hx hb dX9_quietCount_34 rfl hl (by decide) rfl (fun ls hl => ?_)
      obtain ⟨v35, e_v35⟩ : ∃ y : Int, y = i + 1 := ⟨_, rfl⟩
      refine lv_iinc (v := zI v35) (lv' := [(2, .int (zI v35)), (1, .int (zI v34)), (0, .ref (mo 0))]) hx hb dX9_quietCount_35 hl (k := 2) rfl (by rw [e_v35]; exact zI_add _ _) (by decide) rfl (fun ls hl => ?_)
      refine lv_goto (tgt := 9) hx hb dX9_quietCount_38 (by decide) ?_
      exact ih_9 (v34, v35) (show (0 ≤ v35 ∧ v35 ≤ S 0 0) ∧ v34 = sumZ (fun o => bI (quietB S o)) v35.toNat from ⟨by omega, (by rw [e_v35, sumZ_s hi.1, ← hu]; first | (rw [bI_t c25]; exact e_v34) | (rw [bI_f c25]; exact e_v34))⟩) (show (S 0 0 - v35).toNat < (S 0 0 - i).toNat from by omega) ls H locs (lv_sub hl [2, 1, 0] rfl) hP hD hS
    · refine x_iconst hx hb dX9_quietCount_28 ?_
      refine lv_goto (tgt := 33) hx hb dX9_quietCount_29 (by decide) ?_
      refine x_iadd hx hb dX9_quietCount_33 ?_
      refine x_top _ (fun v34 e_v34 => ?_)
      refine lv_istore_n (lv' := [(1, .int (zI v34)), (0, .ref (mo 0)), (2, .int (zI i))]) hx hb dX9_quietCount_34 rfl hl (by decide) rfl (fun ls hl => ?_)
      obtain ⟨v35, e_v35⟩ : ∃ y : Int, y = i + 1 := ⟨_, rfl⟩
      refine lv_iinc (v := zI v35) (lv' := [(2, .int (zI v35)), (1, .int (zI v34)), (0, .ref (mo 0))]) hx hb dX9_quietCount_35 hl (k := 2) rfl (by rw [e_v35]; exact zI_add _ _) (by decide) rfl (fun ls hl => ?_)
      refine lv_goto (tgt := 9) hx hb dX9_quietCount_38 (by decide) ?_
      exact ih_9 (v34, v35) (show (0 ≤ v35 ∧ v35 ≤ S 0 0) ∧ v34 = sumZ (fun o => bI (quietB S o)) v35.toNat from ⟨by omega, (by rw [e_v35, sumZ_s hi.1, ← hu]; first | (rw [bI_t c25]; exact e_v34) | (rw [bI_f c25]; exact e_v34))⟩) (show (S 0 0 - v35).toNat < (S 0 0 - i).toNat from by omega) ls H locs (lv_sub hl [2, 1, 0] rfl) hP hD hS

set_option maxHeartbeats 4000000 in
set_option maxRecDepth 100000 in
/-- BenchBrokerModel.benchOf -/
theorem m_benchOf (l : Launch) (dg : va_G) (ck : Nat → ClassId) (mo : Nat → Nat) (S : St) (F1 F2 F3 F4 : Int → Int) (M : St) (t : Int) (sz : Nat) (hI : Bd S) (rg_t : -2147483648 ≤ t ∧ t < 2147483648) : Met l yX9_benchOf (.code yX9_benchOf cX9_benchOf 2 (some .int) :: GW) ({ frames := 3, cells := 0, slots := 0, locals := 65 }) (va_Pc [.ref (mo 0), .int (zI t)] (wrP dg ck sz (modelC ck mo (encZ S) F1 F2 F3 F4 M))) (va_Qi (fun r (_ : Unit) => r = zI (itZ ((isTen S t ∧ lb S t ≠ -1)) (lb S t))) (fun _ t9 => wrQ dg sz (modelC ck mo (encZ S) F1 F2 F3 F4 M) (modelC ck mo (encZ S) F1 F2 F3 F4 (upS M 8 0 (if ¬ isTen S t then 1 else if lb S t = -1 then 2 else 0))) t9) (va_A (modelC ck mo (encZ S) F1 F2 F3 F4 M) sz)) 0 0 (va_A (modelC ck mo (encZ S) F1 F2 F3 F4 M) sz) := by
  refine Met.ofW (cc := cX9_benchOf) (maxL := 2) (ret := (some .int)) (by decide) rfl ?_
  intro p e s m args below meth c s₁ B hml hv
  obtain ⟨rfl, hsz, hP, hK, hD0⟩ := hv
  have hx := B.exec
  have hb := B.bytes
  have hr := B.returns
  have hts := atoms_spec (ws := .code yX9_benchOf cX9_benchOf 2 (some .int) :: GW) B.pre
  have htg : ∀ w ∈ GW, w.before _ s = true := fun w h => hts w (List.mem_cons_of_mem _ h)
  have hown : s.vm.findClass RX9 = some m.cls := findClass_of_methodNamed B.named
  have hlocks := B.notSynchronized
  subst hsz
  have hD := hD0.self (sz := s.heap.size)
  generalize hAe : va_A (modelC ck mo (encZ S) F1 F2 F3 F4 M) s.heap.size = A at hD ⊢
  have hA : ∀ q : Nat, s.heap.size ≤ q → A q := fun q h => by rw [← hAe]; exact Or.inr h
  have hS : va_S A s.heap s.heap [] := va_S.rf
  have hP : va_P dg vwCl (modelC ck mo (encZ S) F1 F2 F3 F4 M) s.heap := hP
  have hl := lv_entry ([.ref (mo 0), .int (zI t)]) (n := 2) (Nat.le_of_ble_eq_true rfl)
  rw [lg_entry_eq]
  generalize (lg_sl ([.ref (mo 0), .int (zI t)]) ++ List.replicate (2 - (lg_sl ([.ref (mo 0), .int (zI t)])).length) Slot.unset).toArray = ls at hl ⊢
  have hl : lv_has ls 2 [(0, .ref (mo 0)), (1, .int (zI t))] := hl
  obtain ⟨b00, b01, b02, b03, b1, b2, b3, b4, b5, b6, b7, b8, b9, b10, b11, b12⟩ := id hI
  have hlb := lb_r hI t
  refine lv_aload_n hx hb dX9_benchOf_0 rfl (lv_at hl 0 rfl) ?_
  refine lv_aload_n hx hb dX9_benchOf_1 rfl (lv_at hl 0 rfl) ?_
  refine lv_iload_n hx hb dX9_benchOf_2 rfl (lv_at hl 1 rfl) ?_
  refine vp_callSi (W.runV (As := [.int (zI t)]) (rest := [.ref (mo 0)]) ⟨hx, hb, hml, hown, htg⟩ (m_isTenant l dg ck mo S F1 F2 F3 F4 M t hI (by omega)) (cwV 1 htg (gwV wq_1821 wq_1823 wp_55 wq_15 wq_1824) rfl rfl rfl (by decide +kernel) ⟨Nat.le_of_ble_eq_true rfl, Nat.le_of_ble_eq_true rfl⟩) (rd_preV hK hP 0 11 rfl rfl) rfl rfl hl.1 rfl (lv_room (Nat.le_of_ble_eq_true rfl)) dX9_benchOf_3 ⟨Nat.zero_le _, Nat.zero_le _⟩) (fun r3 hr3 => ?_)
  subst hr3
  refine x_bz_ne (tgt := 13) hx hb dX9_benchOf_6 (by decide) (fun c6 => ?_) (fun c6 => ?_)
  · refine lv_aload_n hx hb dX9_benchOf_13 rfl (lv_at hl 0 rfl) ?_
    refine lv_iload_n hx hb dX9_benchOf_14 rfl (lv_at hl 1 rfl) ?_
    refine vp_callSi (W.runV (As := [.int (zI t)]) (rest := [.ref (mo 0)]) ⟨hx, hb, hml, hown, htg⟩ (m_benchBy l dg ck mo S F1 F2 F3 F4 M t hI (by omega)) (cwV 1 htg (gwV wq_1849 wq_1851 wp_58 wq_15 wq_1852) rfl rfl rfl (by decide +kernel) ⟨Nat.le_of_ble_eq_true rfl, Nat.le_of_ble_eq_true rfl⟩) (rd_preV hK hP 0 11 rfl rfl) rfl rfl hl.1 rfl (lv_room (Nat.le_of_ble_eq_true rfl)) dX9_benchOf_15 ⟨Nat.zero_le _, Nat.zero_le _⟩) (fun r15 hr15 => ?_)
    subst hr15
    refine x_iconst hx hb dX9_benchOf_18 ?_
    refine x_icmp_ne (tgt := 26) hx hb dX9_benchOf_19 (by decide) (by omega) (by omega) (fun c19 => ?_) (fun c19 => ?_)
    · refine x_iconst hx hb dX9_benchOf_26 ?_
      refine va_put (D := dg) (ci := 11) (v := .int (zI 0)) (ty := .int) (C := RX9) (T := TX9) (N := 23) hx hb htg inG_X9 tyX9 tyX9_ok nmX9 hown hK hP hD hS 0 rfl rfl 0 (Nat.le_of_ble_eq_true rfl) (htg _ wq_1557) (fun _ h9 => h9) rfl (by decide +kernel) rfl rfl (Nat.le_of_ble_eq_true rfl) dX9_benchOf_27 (fun H locs hP hD hS => ?_)
      have hP : va_P dg vwCl (modelC ck mo (encZ S) F1 F2 F3 F4 (upS M 8 0 0)) H := hP
      have hD : va_D A (modelC ck mo (encZ S) F1 F2 F3 F4 (upS M 8 0 0)) := hD
      refine lv_aload_n hx hb dX9_benchOf_30 rfl (lv_at hl 0 rfl) ?_
      refine va_get (D := dg) (ci := 11) (v := .int (zI 0)) (C := RX9) (T := TX9) (N := 23) hx hb htg inG_X9 hown hK hP 0 rfl rfl 0 (Nat.le_of_ble_eq_true rfl) (htg _ wq_1557) (fun _ h9 => h9) rfl dX9_benchOf_31 ?_
      refine x_if_le (tgt := 41) hx hb dX9_benchOf_34 (by decide) (by omega) (fun c34 => ?_) (fun c34 => absurd c34 (by decide))
      refine lv_aload_n hx hb dX9_benchOf_41 rfl (lv_at hl 0 rfl) ?_
      refine lv_iload_n hx hb dX9_benchOf_42 rfl (lv_at hl 1 rfl) ?_
      refine vp_callSi (W.runV (As := [.int (zI t)]) (rest := []) ⟨hx, hb, hml, hown, htg⟩ (m_benchBy l dg ck mo S F1 F2 F3 F4 (upS M 8 0 0) t hI (by omega)) (cwV 1 htg (gwV wq_1849 wq_1851 wp_58 wq_15 wq_1852) rfl rfl rfl (by decide +kernel) ⟨Nat.le_of_ble_eq_true rfl, Nat.le_of_ble_eq_true rfl⟩) (rd_preV hK hP 0 11 rfl rfl) rfl rfl hl.1 rfl (lv_room (Nat.le_of_ble_eq_true rfl)) dX9_benchOf_43 ⟨Nat.zero_le _, Nat.zero_le _⟩) (fun r43 hr43 => ?_)
      subst hr43
      have hEq : modelC ck mo (encZ S) F1 F2 F3 F4 (upS M 8 0 (if ¬ isTen S t then 1 else if lb S t = -1 then 2 else 0)) = modelC ck mo (encZ S) F1 F2 F3 F4 (upS M 8 0 0) := (by repeat (first | rw [if_pos (by omega)] | rw [if_neg (by omega)]))
      exact W.iret (v := _) hx hb hr (fun t9 ht9 hW9 => ⟨⟨_, (), rfl, (by first | (rw [itZ_t (show (isTen S t ∧ lb S t ≠ -1) by omega)] <;> rfl) | (rw [itZ_f (show ¬ ((isTen S t ∧ lb S t ≠ -1)) by omega)] <;> rfl)), by rw [ht9, hEq]; exact hP, by rw [hEq, hAe]; exact hD⟩, hS.F ht9⟩) hS.2.2 dX9_benchOf_46
    · refine x_iconst hx hb dX9_benchOf_22 ?_
      refine lv_goto (tgt := 27) hx hb dX9_benchOf_23 (by decide) ?_
      refine va_put (D := dg) (ci := 11) (v := .int (zI 2)) (ty := .int) (C := RX9) (T := TX9) (N := 23) hx hb htg inG_X9 tyX9 tyX9_ok nmX9 hown hK hP hD hS 0 rfl rfl 0 (Nat.le_of_ble_eq_true rfl) (htg _ wq_1557) (fun _ h9 => h9) rfl (by decide +kernel) rfl rfl (Nat.le_of_ble_eq_true rfl) dX9_benchOf_27 (fun H locs hP hD hS => ?_)
      have hP : va_P dg vwCl (modelC ck mo (encZ S) F1 F2 F3 F4 (upS M 8 0 2)) H := hP
      have hD : va_D A (modelC ck mo (encZ S) F1 F2 F3 F4 (upS M 8 0 2)) := hD
      refine lv_aload_n hx hb dX9_benchOf_30 rfl (lv_at hl 0 rfl) ?_
      refine va_get (D := dg) (ci := 11) (v := .int (zI 2)) (C := RX9) (T := TX9) (N := 23) hx hb htg inG_X9 hown hK hP 0 rfl rfl 0 (Nat.le_of_ble_eq_true rfl) (htg _ wq_1557) (fun _ h9 => h9) rfl dX9_benchOf_31 ?_
      refine x_if_le (tgt := 41) hx hb dX9_benchOf_34 (by decide) (by omega) (fun c34 => absurd c34 (by decide)) (fun c34 => ?_)
      refine x_iconst hx hb dX9_benchOf_37 ?_
      refine lv_goto (tgt := 46) hx hb dX9_benchOf_38 (by decide) ?_
      have hEq : modelC ck mo (encZ S) F1 F2 F3 F4 (upS M 8 0 (if ¬ isTen S t then 1 else if lb S t = -1 then 2 else 0)) = modelC ck mo (encZ S) F1 F2 F3 F4 (upS M 8 0 2) := (by repeat (first | rw [if_pos (by omega)] | rw [if_neg (by omega)]))
      exact W.iret (v := _) hx hb hr (fun t9 ht9 hW9 => ⟨⟨_, (), rfl, (by first | (rw [itZ_t (show (isTen S t ∧ lb S t ≠ -1) by omega)] <;> rfl) | (rw [itZ_f (show ¬ ((isTen S t ∧ lb S t ≠ -1)) by omega)] <;> rfl)), by rw [ht9, hEq]; exact hP, by rw [hEq, hAe]; exact hD⟩, hS.F ht9⟩) hS.2.2 dX9_benchOf_46
  · refine x_iconst hx hb dX9_benchOf_9 ?_
    refine lv_goto (tgt := 27) hx hb dX9_benchOf_10 (by decide) ?_
    refine va_put (D := dg) (ci := 11) (v := .int (zI 1)) (ty := .int) (C := RX9) (T := TX9) (N := 23) hx hb htg inG_X9 tyX9 tyX9_ok nmX9 hown hK hP hD hS 0 rfl rfl 0 (Nat.le_of_ble_eq_true rfl) (htg _ wq_1557) (fun _ h9 => h9) rfl (by decide +kernel) rfl rfl (Nat.le_of_ble_eq_true rfl) dX9_benchOf_27 (fun H locs hP hD hS => ?_)
    have hP : va_P dg vwCl (modelC ck mo (encZ S) F1 F2 F3 F4 (upS M 8 0 1)) H := hP
    have hD : va_D A (modelC ck mo (encZ S) F1 F2 F3 F4 (upS M 8 0 1)) := hD
    refine lv_aload_n hx hb dX9_benchOf_30 rfl (lv_at hl 0 rfl) ?_
    refine va_get (D := dg) (ci := 11) (v := .int (zI 1)) (C := RX9) (T := TX9) (N := 23) hx hb htg inG_X9 hown hK hP 0 rfl rfl 0 (Nat.le_of_ble_eq_true rfl) (htg _ wq_1557) (fun _ h9 => h9) rfl dX9_benchOf_31 ?_
    refine x_if_le (tgt := 41) hx hb dX9_benchOf_34 (by decide) (by omega) (fun c34 => absurd c34 (by decide)) (fun c34 => ?_)
    refine x_iconst hx hb dX9_benchOf_37 ?_
    refine lv_goto (tgt := 46) hx hb dX9_benchOf_38 (by decide) ?_
    have hEq : modelC ck mo (encZ S) F1 F2 F3 F4 (upS M 8 0 (if ¬ isTen S t then 1 else if lb S t = -1 then 2 else 0)) = modelC ck mo (encZ S) F1 F2 F3 F4 (upS M 8 0 1) := (by repeat (first | rw [if_pos (by omega)] | rw [if_neg (by omega)]))
    exact W.iret (v := _) hx hb hr (fun t9 ht9 hW9 => ⟨⟨_, (), rfl, (by first | (rw [itZ_t (show (isTen S t ∧ lb S t ≠ -1) by omega)] <;> rfl) | (rw [itZ_f (show ¬ ((isTen S t ∧ lb S t ≠ -1)) by omega)] <;> rfl)), by rw [ht9, hEq]; exact hP, by rw [hEq, hAe]; exact hD⟩, hS.F ht9⟩) hS.2.2 dX9_benchOf_46

set_option maxHeartbeats 4000000 in
set_option maxRecDepth 100000 in
/-- BenchBrokerModel.isLet -/
theorem m_isLet (l : Launch) (dg : va_G) (ck : Nat → ClassId) (mo : Nat → Nat) (S : St) (F1 F2 F3 F4 : Int → Int) (M : St) (b : Int) (sz : Nat) (hI : Bd S) (rg_b : -2147483648 ≤ b ∧ b < 2147483648) : Met l yX9_isLet (.code yX9_isLet cX9_isLet 2 (some .boolean) :: GW) ({ frames := 2, cells := 0, slots := 0, locals := 43 }) (va_Pc [.ref (mo 0), .int (zI b)] (wrP dg ck sz (modelC ck mo (encZ S) F1 F2 F3 F4 M))) (va_Qi (fun r (_ : Unit) => r = zI (bI (isBench S b ∧ S 4 b ≠ 0))) (fun _ t9 => wrQ dg sz (modelC ck mo (encZ S) F1 F2 F3 F4 M) (modelC ck mo (encZ S) F1 F2 F3 F4 (upS M 8 0 (1 - bI (isBench S b)))) t9) (va_A (modelC ck mo (encZ S) F1 F2 F3 F4 M) sz)) 0 0 (va_A (modelC ck mo (encZ S) F1 F2 F3 F4 M) sz) := by
  refine Met.ofW (cc := cX9_isLet) (maxL := 2) (ret := (some .boolean)) (by decide) rfl ?_
  intro p e s m args below meth c s₁ B hml hv
  obtain ⟨rfl, hsz, hP, hK, hD0⟩ := hv
  have hx := B.exec
  have hb := B.bytes
  have hr := B.returns
  have hts := atoms_spec (ws := .code yX9_isLet cX9_isLet 2 (some .boolean) :: GW) B.pre
  have htg : ∀ w ∈ GW, w.before _ s = true := fun w h => hts w (List.mem_cons_of_mem _ h)
  have hown : s.vm.findClass RX9 = some m.cls := findClass_of_methodNamed B.named
  have hlocks := B.notSynchronized
  subst hsz
  have hD := hD0.self (sz := s.heap.size)
  generalize hAe : va_A (modelC ck mo (encZ S) F1 F2 F3 F4 M) s.heap.size = A at hD ⊢
  have hA : ∀ q : Nat, s.heap.size ≤ q → A q := fun q h => by rw [← hAe]; exact Or.inr h
  have hS : va_S A s.heap s.heap [] := va_S.rf
  have hP : va_P dg vwCl (modelC ck mo (encZ S) F1 F2 F3 F4 M) s.heap := hP
  have hl := lv_entry ([.ref (mo 0), .int (zI b)]) (n := 2) (Nat.le_of_ble_eq_true rfl)
  rw [lg_entry_eq]
  generalize (lg_sl ([.ref (mo 0), .int (zI b)]) ++ List.replicate (2 - (lg_sl ([.ref (mo 0), .int (zI b)])).length) Slot.unset).toArray = ls at hl ⊢
  have hl : lv_has ls 2 [(0, .ref (mo 0)), (1, .int (zI b))] := hl
  obtain ⟨b00, b01, b02, b03, b1, b2, b3, b4, b5, b6, b7, b8, b9, b10, b11, b12⟩ := id hI
  refine lv_aload_n hx hb dX9_isLet_0 rfl (lv_at hl 0 rfl) ?_
  refine lv_aload_n hx hb dX9_isLet_1 rfl (lv_at hl 0 rfl) ?_
  refine lv_iload_n hx hb dX9_isLet_2 rfl (lv_at hl 1 rfl) ?_
  refine vp_callSi (W.runV (As := [.int (zI b)]) (rest := [.ref (mo 0)]) ⟨hx, hb, hml, hown, htg⟩ (m_isBench l dg ck mo S F1 F2 F3 F4 M b hI (by omega)) (cwV 1 htg (gwV wq_1689 wq_1691 wp_42 wq_15 wq_1692) rfl rfl rfl (by decide +kernel) ⟨Nat.le_of_ble_eq_true rfl, Nat.le_of_ble_eq_true rfl⟩) (rd_preV hK hP 0 11 rfl rfl) rfl rfl hl.1 rfl (lv_room (Nat.le_of_ble_eq_true rfl)) dX9_isLet_3 ⟨Nat.zero_le _, Nat.zero_le _⟩) (fun r3 hr3 => ?_)
  subst hr3
  refine x_bz_eq (tgt := 13) hx hb dX9_isLet_6 (by decide) (fun c6 => ?_) (fun c6 => ?_)
  · refine x_iconst hx hb dX9_isLet_13 ?_
    refine va_put (D := dg) (ci := 11) (v := .int (zI 1)) (ty := .int) (C := RX9) (T := TX9) (N := 23) hx hb htg inG_X9 tyX9 tyX9_ok nmX9 hown hK hP hD hS 0 rfl rfl 0 (Nat.le_of_ble_eq_true rfl) (htg _ wq_1557) (fun _ h9 => h9) rfl (by decide +kernel) rfl rfl (Nat.le_of_ble_eq_true rfl) dX9_isLet_14 (fun H locs hP hD hS => ?_)
    have hP : va_P dg vwCl (modelC ck mo (encZ S) F1 F2 F3 F4 (upS M 8 0 1)) H := hP
    have hD : va_D A (modelC ck mo (encZ S) F1 F2 F3 F4 (upS M 8 0 1)) := hD
    refine lv_aload_n hx hb dX9_isLet_17 rfl (lv_at hl 0 rfl) ?_
    refine va_get (D := dg) (ci := 11) (v := .int (zI 1)) (C := RX9) (T := TX9) (N := 23) hx hb htg inG_X9 hown hK hP 0 rfl rfl 0 (Nat.le_of_ble_eq_true rfl) (htg _ wq_1557) (fun _ h9 => h9) rfl dX9_isLet_18 ?_
    refine x_if_ne (tgt := 37) hx hb dX9_isLet_21 (by decide) (by omega) (fun c21 => ?_) (fun c21 => absurd c21 (by decide))
    refine x_iconst hx hb dX9_isLet_37 ?_
    have hEq : modelC ck mo (encZ S) F1 F2 F3 F4 (upS M 8 0 (1 - bI (isBench S b))) = modelC ck mo (encZ S) F1 F2 F3 F4 (upS M 8 0 1) := (by first | (rw [bI_t (show isBench S b by omega)] <;> rfl) | (rw [bI_f (show ¬ (isBench S b) by omega)] <;> rfl))
    exact W.zret (v := _) hx hb hr (by first | rfl | rfl) (fun t9 ht9 hW9 => ⟨⟨_, (), rfl, (congrArg zI (by first | exact (bI_t (by omega)).symm | exact (bI_f (by omega)).symm)), by rw [ht9, hEq]; exact hP, by rw [hEq, hAe]; exact hD⟩, hS.F ht9⟩) hS.2.2 dX9_isLet_38
  · refine x_iconst hx hb dX9_isLet_9 ?_
    refine lv_goto (tgt := 14) hx hb dX9_isLet_10 (by decide) ?_
    refine va_put (D := dg) (ci := 11) (v := .int (zI 0)) (ty := .int) (C := RX9) (T := TX9) (N := 23) hx hb htg inG_X9 tyX9 tyX9_ok nmX9 hown hK hP hD hS 0 rfl rfl 0 (Nat.le_of_ble_eq_true rfl) (htg _ wq_1557) (fun _ h9 => h9) rfl (by decide +kernel) rfl rfl (Nat.le_of_ble_eq_true rfl) dX9_isLet_14 (fun H locs hP hD hS => ?_)
    have hP : va_P dg vwCl (modelC ck mo (encZ S) F1 F2 F3 F4 (upS M 8 0 0)) H := hP
    have hD : va_D A (modelC ck mo (encZ S) F1 F2 F3 F4 (upS M 8 0 0)) := hD
    refine lv_aload_n hx hb dX9_isLet_17 rfl (lv_at hl 0 rfl) ?_
    refine va_get (D := dg) (ci := 11) (v := .int (zI 0)) (C := RX9) (T := TX9) (N := 23) hx hb htg inG_X9 hown hK hP 0 rfl rfl 0 (Nat.le_of_ble_eq_true rfl) (htg _ wq_1557) (fun _ h9 => h9) rfl dX9_isLet_18 ?_
    refine x_if_ne (tgt := 37) hx hb dX9_isLet_21 (by decide) (by omega) (fun c21 => absurd c21 (by decide)) (fun c21 => ?_)
    refine lv_aload_n hx hb dX9_isLet_24 rfl (lv_at hl 0 rfl) ?_
    refine lv_iload_n hx hb dX9_isLet_25 rfl (lv_at hl 1 rfl) ?_
    refine vp_callSi (W.runV (As := [.int (zI b)]) (rest := []) ⟨hx, hb, hml, hown, htg⟩ (m_by l dg ck mo S F1 F2 F3 F4 (upS M 8 0 0) b (by omega)) (cwV 1 htg (gwV wq_1853 wq_1855 wp_59 wq_15 wq_1856) rfl rfl rfl (by decide +kernel) ⟨Nat.le_of_ble_eq_true rfl, Nat.le_of_ble_eq_true rfl⟩) (rd_preV hK hP 0 11 rfl rfl) rfl rfl hl.1 rfl (lv_room (Nat.le_of_ble_eq_true rfl)) dX9_isLet_26 ⟨Nat.zero_le _, Nat.zero_le _⟩) (fun r26 hr26 => ?_)
    subst hr26
    have q26 := b4 b
    refine x_is (show (S 4 b - 1) = ((S 4 b) - 1) from rfl) ?_
    refine x_iconst hx hb dX9_isLet_29 ?_
    refine x_icmp_eq (tgt := 37) hx hb dX9_isLet_30 (by decide) (by omega) (by omega) (fun c30 => ?_) (fun c30 => ?_)
    · refine x_iconst hx hb dX9_isLet_37 ?_
      have hEq : modelC ck mo (encZ S) F1 F2 F3 F4 (upS M 8 0 (1 - bI (isBench S b))) = modelC ck mo (encZ S) F1 F2 F3 F4 (upS M 8 0 0) := (by first | (rw [bI_t (show isBench S b by omega)] <;> rfl) | (rw [bI_f (show ¬ (isBench S b) by omega)] <;> rfl))
      exact W.zret (v := _) hx hb hr (by first | rfl | rfl) (fun t9 ht9 hW9 => ⟨⟨_, (), rfl, (congrArg zI (by first | exact (bI_t (by omega)).symm | exact (bI_f (by omega)).symm)), by rw [ht9, hEq]; exact hP, by rw [hEq, hAe]; exact hD⟩, hS.F ht9⟩) hS.2.2 dX9_isLet_38
    · refine x_iconst hx hb dX9_isLet_33 ?_
      refine lv_goto (tgt := 38) hx hb dX9_isLet_34 (by decide) ?_
      have hEq : modelC ck mo (encZ S) F1 F2 F3 F4 (upS M 8 0 (1 - bI (isBench S b))) = modelC ck mo (encZ S) F1 F2 F3 F4 (upS M 8 0 0) := (by first | (rw [bI_t (show isBench S b by omega)] <;> rfl) | (rw [bI_f (show ¬ (isBench S b) by omega)] <;> rfl))
      exact W.zret (v := _) hx hb hr (by first | rfl | rfl) (fun t9 ht9 hW9 => ⟨⟨_, (), rfl, (congrArg zI (by first | exact (bI_t (by omega)).symm | exact (bI_f (by omega)).symm)), by rw [ht9, hEq]; exact hP, by rw [hEq, hAe]; exact hD⟩, hS.F ht9⟩) hS.2.2 dX9_isLet_38

set_option maxHeartbeats 4000000 in
set_option maxRecDepth 100000 in
/-- BenchBrokerModel.isLeased -/
theorem m_isLeased (l : Launch) (dg : va_G) (ck : Nat → ClassId) (mo : Nat → Nat) (S : St) (F1 F2 F3 F4 : Int → Int) (M : St) (b : Int) (sz : Nat) (hI : Bd S) (rg_b : -2147483648 ≤ b ∧ b < 2147483648) : Met l yX9_isLeased (.code yX9_isLeased cX9_isLeased 2 (some .boolean) :: GW) ({ frames := 2, cells := 0, slots := 0, locals := 43 }) (va_Pc [.ref (mo 0), .int (zI b)] (wrP dg ck sz (modelC ck mo (encZ S) F1 F2 F3 F4 M))) (va_Qi (fun r (_ : Unit) => r = zI (bI (isBench S b ∧ S 4 b ≠ 0))) (fun _ t9 => wrQ dg sz (modelC ck mo (encZ S) F1 F2 F3 F4 M) (modelC ck mo (encZ S) F1 F2 F3 F4 (upS M 8 0 (if ¬ isBench S b then 1 else if S 4 b = 0 then 2 else 0))) t9) (va_A (modelC ck mo (encZ S) F1 F2 F3 F4 M) sz)) 0 0 (va_A (modelC ck mo (encZ S) F1 F2 F3 F4 M) sz) := by
  refine Met.ofW (cc := cX9_isLeased) (maxL := 2) (ret := (some .boolean)) (by decide) rfl ?_
  intro p e s m args below meth c s₁ B hml hv
  obtain ⟨rfl, hsz, hP, hK, hD0⟩ := hv
  have hx := B.exec
  have hb := B.bytes
  have hr := B.returns
  have hts := atoms_spec (ws := .code yX9_isLeased cX9_isLeased 2 (some .boolean) :: GW) B.pre
  have htg : ∀ w ∈ GW, w.before _ s = true := fun w h => hts w (List.mem_cons_of_mem _ h)
  have hown : s.vm.findClass RX9 = some m.cls := findClass_of_methodNamed B.named
  have hlocks := B.notSynchronized
  subst hsz
  have hD := hD0.self (sz := s.heap.size)
  generalize hAe : va_A (modelC ck mo (encZ S) F1 F2 F3 F4 M) s.heap.size = A at hD ⊢
  have hA : ∀ q : Nat, s.heap.size ≤ q → A q := fun q h => by rw [← hAe]; exact Or.inr h
  have hS : va_S A s.heap s.heap [] := va_S.rf
  have hP : va_P dg vwCl (modelC ck mo (encZ S) F1 F2 F3 F4 M) s.heap := hP
  have hl := lv_entry ([.ref (mo 0), .int (zI b)]) (n := 2) (Nat.le_of_ble_eq_true rfl)
  rw [lg_entry_eq]
  generalize (lg_sl ([.ref (mo 0), .int (zI b)]) ++ List.replicate (2 - (lg_sl ([.ref (mo 0), .int (zI b)])).length) Slot.unset).toArray = ls at hl ⊢
  have hl : lv_has ls 2 [(0, .ref (mo 0)), (1, .int (zI b))] := hl
  obtain ⟨b00, b01, b02, b03, b1, b2, b3, b4, b5, b6, b7, b8, b9, b10, b11, b12⟩ := id hI
  refine lv_aload_n hx hb dX9_isLeased_0 rfl (lv_at hl 0 rfl) ?_
  refine lv_aload_n hx hb dX9_isLeased_1 rfl (lv_at hl 0 rfl) ?_
  refine lv_iload_n hx hb dX9_isLeased_2 rfl (lv_at hl 1 rfl) ?_
  refine vp_callSi (W.runV (As := [.int (zI b)]) (rest := [.ref (mo 0)]) ⟨hx, hb, hml, hown, htg⟩ (m_isBench l dg ck mo S F1 F2 F3 F4 M b hI (by omega)) (cwV 1 htg (gwV wq_1689 wq_1691 wp_42 wq_15 wq_1692) rfl rfl rfl (by decide +kernel) ⟨Nat.le_of_ble_eq_true rfl, Nat.le_of_ble_eq_true rfl⟩) (rd_preV hK hP 0 11 rfl rfl) rfl rfl hl.1 rfl (lv_room (Nat.le_of_ble_eq_true rfl)) dX9_isLeased_3 ⟨Nat.zero_le _, Nat.zero_le _⟩) (fun r3 hr3 => ?_)
  subst hr3
  refine x_bz_ne (tgt := 13) hx hb dX9_isLeased_6 (by decide) (fun c6 => ?_) (fun c6 => ?_)
  · refine lv_aload_n hx hb dX9_isLeased_13 rfl (lv_at hl 0 rfl) ?_
    refine lv_iload_n hx hb dX9_isLeased_14 rfl (lv_at hl 1 rfl) ?_
    refine vp_callSi (W.runV (As := [.int (zI b)]) (rest := [.ref (mo 0)]) ⟨hx, hb, hml, hown, htg⟩ (m_by l dg ck mo S F1 F2 F3 F4 M b (by omega)) (cwV 1 htg (gwV wq_1853 wq_1855 wp_59 wq_15 wq_1856) rfl rfl rfl (by decide +kernel) ⟨Nat.le_of_ble_eq_true rfl, Nat.le_of_ble_eq_true rfl⟩) (rd_preV hK hP 0 11 rfl rfl) rfl rfl hl.1 rfl (lv_room (Nat.le_of_ble_eq_true rfl)) dX9_isLeased_15 ⟨Nat.zero_le _, Nat.zero_le _⟩) (fun r15 hr15 => ?_)
    subst hr15
    have q15 := b4 b
    refine x_is (show (S 4 b - 1) = ((S 4 b) - 1) from rfl) ?_
    refine x_iconst hx hb dX9_isLeased_18 ?_
    refine x_icmp_ne (tgt := 26) hx hb dX9_isLeased_19 (by decide) (by omega) (by omega) (fun c19 => ?_) (fun c19 => ?_)
    · refine x_iconst hx hb dX9_isLeased_26 ?_
      refine va_put (D := dg) (ci := 11) (v := .int (zI 0)) (ty := .int) (C := RX9) (T := TX9) (N := 23) hx hb htg inG_X9 tyX9 tyX9_ok nmX9 hown hK hP hD hS 0 rfl rfl 0 (Nat.le_of_ble_eq_true rfl) (htg _ wq_1557) (fun _ h9 => h9) rfl (by decide +kernel) rfl rfl (Nat.le_of_ble_eq_true rfl) dX9_isLeased_27 (fun H locs hP hD hS => ?_)
      have hP : va_P dg vwCl (modelC ck mo (encZ S) F1 F2 F3 F4 (upS M 8 0 0)) H := hP
      have hD : va_D A (modelC ck mo (encZ S) F1 F2 F3 F4 (upS M 8 0 0)) := hD
      refine lv_aload_n hx hb dX9_isLeased_30 rfl (lv_at hl 0 rfl) ?_
      refine va_get (D := dg) (ci := 11) (v := .int (zI 0)) (C := RX9) (T := TX9) (N := 23) hx hb htg inG_X9 hown hK hP 0 rfl rfl 0 (Nat.le_of_ble_eq_true rfl) (htg _ wq_1557) (fun _ h9 => h9) rfl dX9_isLeased_31 ?_
      refine x_if_ne (tgt := 41) hx hb dX9_isLeased_34 (by decide) (by omega) (fun c34 => absurd c34 (by decide)) (fun c34 => ?_)
      refine x_iconst hx hb dX9_isLeased_37 ?_
      refine lv_goto (tgt := 42) hx hb dX9_isLeased_38 (by decide) ?_
      have hEq : modelC ck mo (encZ S) F1 F2 F3 F4 (upS M 8 0 (if ¬ isBench S b then 1 else if S 4 b = 0 then 2 else 0)) = modelC ck mo (encZ S) F1 F2 F3 F4 (upS M 8 0 0) := (by repeat (first | rw [if_pos (by omega)] | rw [if_neg (by omega)]))
      exact W.zret (v := _) hx hb hr (by first | rfl | rfl) (fun t9 ht9 hW9 => ⟨⟨_, (), rfl, (congrArg zI (by first | exact (bI_t (by omega)).symm | exact (bI_f (by omega)).symm)), by rw [ht9, hEq]; exact hP, by rw [hEq, hAe]; exact hD⟩, hS.F ht9⟩) hS.2.2 dX9_isLeased_42
    · refine x_iconst hx hb dX9_isLeased_22 ?_
      refine lv_goto (tgt := 27) hx hb dX9_isLeased_23 (by decide) ?_
      refine va_put (D := dg) (ci := 11) (v := .int (zI 2)) (ty := .int) (C := RX9) (T := TX9) (N := 23) hx hb htg inG_X9 tyX9 tyX9_ok nmX9 hown hK hP hD hS 0 rfl rfl 0 (Nat.le_of_ble_eq_true rfl) (htg _ wq_1557) (fun _ h9 => h9) rfl (by decide +kernel) rfl rfl (Nat.le_of_ble_eq_true rfl) dX9_isLeased_27 (fun H locs hP hD hS => ?_)
      have hP : va_P dg vwCl (modelC ck mo (encZ S) F1 F2 F3 F4 (upS M 8 0 2)) H := hP
      have hD : va_D A (modelC ck mo (encZ S) F1 F2 F3 F4 (upS M 8 0 2)) := hD
      refine lv_aload_n hx hb dX9_isLeased_30 rfl (lv_at hl 0 rfl) ?_
      refine va_get (D := dg) (ci := 11) (v := .int (zI 2)) (C := RX9) (T := TX9) (N := 23) hx hb htg inG_X9 hown hK hP 0 rfl rfl 0 (Nat.le_of_ble_eq_true rfl) (htg _ wq_1557) (fun _ h9 => h9) rfl dX9_isLeased_31 ?_
      refine x_if_ne (tgt := 41) hx hb dX9_isLeased_34 (by decide) (by omega) (fun c34 => ?_) (fun c34 => absurd c34 (by decide))
      refine x_iconst hx hb dX9_isLeased_41 ?_
      have hEq : modelC ck mo (encZ S) F1 F2 F3 F4 (upS M 8 0 (if ¬ isBench S b then 1 else if S 4 b = 0 then 2 else 0)) = modelC ck mo (encZ S) F1 F2 F3 F4 (upS M 8 0 2) := (by repeat (first | rw [if_pos (by omega)] | rw [if_neg (by omega)]))
      exact W.zret (v := _) hx hb hr (by first | rfl | rfl) (fun t9 ht9 hW9 => ⟨⟨_, (), rfl, (congrArg zI (by first | exact (bI_t (by omega)).symm | exact (bI_f (by omega)).symm)), by rw [ht9, hEq]; exact hP, by rw [hEq, hAe]; exact hD⟩, hS.F ht9⟩) hS.2.2 dX9_isLeased_42
  · refine x_iconst hx hb dX9_isLeased_9 ?_
    refine lv_goto (tgt := 27) hx hb dX9_isLeased_10 (by decide) ?_
    refine va_put (D := dg) (ci := 11) (v := .int (zI 1)) (ty := .int) (C := RX9) (T := TX9) (N := 23) hx hb htg inG_X9 tyX9 tyX9_ok nmX9 hown hK hP hD hS 0 rfl rfl 0 (Nat.le_of_ble_eq_true rfl) (htg _ wq_1557) (fun _ h9 => h9) rfl (by decide +kernel) rfl rfl (Nat.le_of_ble_eq_true rfl) dX9_isLeased_27 (fun H locs hP hD hS => ?_)
    have hP : va_P dg vwCl (modelC ck mo (encZ S) F1 F2 F3 F4 (upS M 8 0 1)) H := hP
    have hD : va_D A (modelC ck mo (encZ S) F1 F2 F3 F4 (upS M 8 0 1)) := hD
    refine lv_aload_n hx hb dX9_isLeased_30 rfl (lv_at hl 0 rfl) ?_
    refine va_get (D := dg) (ci := 11) (v := .int (zI 1)) (C := RX9) (T := TX9) (N := 23) hx hb htg inG_X9 hown hK hP 0 rfl rfl 0 (Nat.le_of_ble_eq_true rfl) (htg _ wq_1557) (fun _ h9 => h9) rfl dX9_isLeased_31 ?_
    refine x_if_ne (tgt := 41) hx hb dX9_isLeased_34 (by decide) (by omega) (fun c34 => ?_) (fun c34 => absurd c34 (by decide))
    refine x_iconst hx hb dX9_isLeased_41 ?_
    have hEq : modelC ck mo (encZ S) F1 F2 F3 F4 (upS M 8 0 (if ¬ isBench S b then 1 else if S 4 b = 0 then 2 else 0)) = modelC ck mo (encZ S) F1 F2 F3 F4 (upS M 8 0 1) := (by repeat (first | rw [if_pos (by omega)] | rw [if_neg (by omega)]))
    exact W.zret (v := _) hx hb hr (by first | rfl | rfl) (fun t9 ht9 hW9 => ⟨⟨_, (), rfl, (congrArg zI (by first | exact (bI_t (by omega)).symm | exact (bI_f (by omega)).symm)), by rw [ht9, hEq]; exact hP, by rw [hEq, hAe]; exact hD⟩, hS.F ht9⟩) hS.2.2 dX9_isLeased_42

set_option maxHeartbeats 4000000 in
set_option maxRecDepth 100000 in
/-- BenchBrokerModel.tenantOf -/
theorem m_tenantOf (l : Launch) (dg : va_G) (ck : Nat → ClassId) (mo : Nat → Nat) (S : St) (F1 F2 F3 F4 : Int → Int) (M : St) (b : Int) (sz : Nat) (hI : Bd S) (rg_b : -2147483648 ≤ b ∧ b < 2147483648) : Met l yX9_tenantOf (.code yX9_tenantOf cX9_tenantOf 2 (some .int) :: GW) ({ frames := 3, cells := 0, slots := 0, locals := 64 }) (va_Pc [.ref (mo 0), .int (zI b)] (wrP dg ck sz (modelC ck mo (encZ S) F1 F2 F3 F4 M))) (va_Qi (fun r (_ : Unit) => r = zI (itZ ((isBench S b ∧ S 4 b ≠ 0)) (S 4 b - 1))) (fun _ t9 => wrQ dg sz (modelC ck mo (encZ S) F1 F2 F3 F4 M) (modelC ck mo (encZ S) F1 F2 F3 F4 (upS M 8 0 (if ¬ isBench S b then 1 else if S 4 b = 0 then 2 else 0))) t9) (va_A (modelC ck mo (encZ S) F1 F2 F3 F4 M) sz)) 0 0 (va_A (modelC ck mo (encZ S) F1 F2 F3 F4 M) sz) := by
  refine Met.ofW (cc := cX9_tenantOf) (maxL := 2) (ret := (some .int)) (by decide) rfl ?_
  intro p e s m args below meth c s₁ B hml hv
  obtain ⟨rfl, hsz, hP, hK, hD0⟩ := hv
  have hx := B.exec
  have hb := B.bytes
  have hr := B.returns
  have hts := atoms_spec (ws := .code yX9_tenantOf cX9_tenantOf 2 (some .int) :: GW) B.pre
  have htg : ∀ w ∈ GW, w.before _ s = true := fun w h => hts w (List.mem_cons_of_mem _ h)
  have hown : s.vm.findClass RX9 = some m.cls := findClass_of_methodNamed B.named
  have hlocks := B.notSynchronized
  subst hsz
  have hD := hD0.self (sz := s.heap.size)
  generalize hAe : va_A (modelC ck mo (encZ S) F1 F2 F3 F4 M) s.heap.size = A at hD ⊢
  have hA : ∀ q : Nat, s.heap.size ≤ q → A q := fun q h => by rw [← hAe]; exact Or.inr h
  have hS : va_S A s.heap s.heap [] := va_S.rf
  have hP : va_P dg vwCl (modelC ck mo (encZ S) F1 F2 F3 F4 M) s.heap := hP
  have hl := lv_entry ([.ref (mo 0), .int (zI b)]) (n := 2) (Nat.le_of_ble_eq_true rfl)
  rw [lg_entry_eq]
  generalize (lg_sl ([.ref (mo 0), .int (zI b)]) ++ List.replicate (2 - (lg_sl ([.ref (mo 0), .int (zI b)])).length) Slot.unset).toArray = ls at hl ⊢
  have hl : lv_has ls 2 [(0, .ref (mo 0)), (1, .int (zI b))] := hl
  obtain ⟨b00, b01, b02, b03, b1, b2, b3, b4, b5, b6, b7, b8, b9, b10, b11, b12⟩ := id hI
  refine lv_aload_n hx hb dX9_tenantOf_0 rfl (lv_at hl 0 rfl) ?_
  refine lv_iload_n hx hb dX9_tenantOf_1 rfl (lv_at hl 1 rfl) ?_
  refine x_calli (ws' := modelC ck mo (encZ S) F1 F2 F3 F4 (upS M 8 0 (if ¬ isBench S b then 1 else if S 4 b = 0 then 2 else 0))) [] (M := modelC ck mo (encZ S) F1 F2 F3 F4 M) (M' := modelC ck mo (encZ S) F1 F2 F3 F4 (upS M 8 0 (if ¬ isBench S b then 1 else if S 4 b = 0 then 2 else 0))) ([]) (List.append_nil _).symm (List.append_nil _).symm hP hD hS hA (fun hPm hDm => va_runV (As := [.int (zI b)]) (rest := []) ⟨hx, hb, hml, hown, htg⟩ (m_isLeased l dg ck mo S F1 F2 F3 F4 M b _ hI (by omega)) (cwV 1 htg (gwV wq_1905 wq_1907 wp_65 wq_15 wq_1908) rfl rfl rfl (by decide +kernel) ⟨Nat.le_of_ble_eq_true rfl, Nat.le_of_ble_eq_true rfl⟩) (wr_preV hK hPm hDm 0 11 rfl rfl) rfl rfl hl.1 rfl (lv_room (Nat.le_of_ble_eq_true rfl)) dX9_tenantOf_2 ⟨Nat.zero_le _, Nat.zero_le _⟩) (fun r2 H locs hr2 hP hD hS => ?_)
  subst hr2
  refine x_bz_eq (tgt := 16) hx hb dX9_tenantOf_5 (by decide) (fun c5 => ?_) (fun c5 => ?_)
  · refine x_iconst hx hb dX9_tenantOf_16 ?_
    have hEq : modelC ck mo (encZ S) F1 F2 F3 F4 (upS M 8 0 (if ¬ isBench S b then 1 else if S 4 b = 0 then 2 else 0)) = modelC ck mo (encZ S) F1 F2 F3 F4 (upS M 8 0 (if ¬ isBench S b then 1 else if S 4 b = 0 then 2 else 0)) := rfl
    exact W.iret (v := _) hx hb hr (fun t9 ht9 hW9 => ⟨⟨_, (), rfl, (by first | (rw [itZ_t (show (isBench S b ∧ S 4 b ≠ 0) by omega)] <;> rfl) | (rw [itZ_f (show ¬ ((isBench S b ∧ S 4 b ≠ 0)) by omega)] <;> rfl)), by rw [ht9, hEq]; exact hP, by rw [hEq, hAe]; exact hD⟩, hS.F ht9⟩) hS.2.2 dX9_tenantOf_17
  · refine lv_aload_n hx hb dX9_tenantOf_8 rfl (lv_at hl 0 rfl) ?_
    refine lv_iload_n hx hb dX9_tenantOf_9 rfl (lv_at hl 1 rfl) ?_
    refine vp_callSi (W.runV (As := [.int (zI b)]) (rest := []) ⟨hx, hb, hml, hown, htg⟩ (m_by l dg ck mo S F1 F2 F3 F4 (upS M 8 0 (if ¬ isBench S b then 1 else if S 4 b = 0 then 2 else 0)) b (by omega)) (cwV 1 htg (gwV wq_1853 wq_1855 wp_59 wq_15 wq_1856) rfl rfl rfl (by decide +kernel) ⟨Nat.le_of_ble_eq_true rfl, Nat.le_of_ble_eq_true rfl⟩) (rd_preV hK hP 0 11 rfl rfl) rfl rfl hl.1 rfl (lv_room (Nat.le_of_ble_eq_true rfl)) dX9_tenantOf_10 ⟨Nat.zero_le _, Nat.zero_le _⟩) (fun r10 hr10 => ?_)
    subst hr10
    have q10 := b4 b
    refine x_is (show (S 4 b - 1) = ((S 4 b) - 1) from rfl) ?_
    refine lv_goto (tgt := 17) hx hb dX9_tenantOf_13 (by decide) ?_
    have hEq : modelC ck mo (encZ S) F1 F2 F3 F4 (upS M 8 0 (if ¬ isBench S b then 1 else if S 4 b = 0 then 2 else 0)) = modelC ck mo (encZ S) F1 F2 F3 F4 (upS M 8 0 (if ¬ isBench S b then 1 else if S 4 b = 0 then 2 else 0)) := rfl
    exact W.iret (v := _) hx hb hr (fun t9 ht9 hW9 => ⟨⟨_, (), rfl, (by first | (rw [itZ_t (show (isBench S b ∧ S 4 b ≠ 0) by omega)] <;> rfl) | (rw [itZ_f (show ¬ ((isBench S b ∧ S 4 b ≠ 0)) by omega)] <;> rfl)), by rw [ht9, hEq]; exact hP, by rw [hEq, hAe]; exact hD⟩, hS.F ht9⟩) hS.2.2 dX9_tenantOf_17

set_option maxHeartbeats 4000000 in
set_option maxRecDepth 100000 in
/-- BenchBrokerModel.depositOf -/
theorem m_depositOf (l : Launch) (dg : va_G) (ck : Nat → ClassId) (mo : Nat → Nat) (S : St) (F1 F2 F3 F4 : Int → Int) (M : St) (b : Int) (sz : Nat) (hI : Bd S) (rg_b : -2147483648 ≤ b ∧ b < 2147483648) : Met l yX9_depositOf (.code yX9_depositOf cX9_depositOf 2 (some .int) :: GW) ({ frames := 3, cells := 0, slots := 0, locals := 64 }) (va_Pc [.ref (mo 0), .int (zI b)] (wrP dg ck sz (modelC ck mo (encZ S) F1 F2 F3 F4 M))) (va_Qi (fun r (_ : Unit) => r = zI (itZ ((isBench S b ∧ S 4 b ≠ 0)) (S 5 b))) (fun _ t9 => wrQ dg sz (modelC ck mo (encZ S) F1 F2 F3 F4 M) (modelC ck mo (encZ S) F1 F2 F3 F4 (upS M 8 0 (if ¬ isBench S b then 1 else if S 4 b = 0 then 2 else 0))) t9) (va_A (modelC ck mo (encZ S) F1 F2 F3 F4 M) sz)) 0 0 (va_A (modelC ck mo (encZ S) F1 F2 F3 F4 M) sz) := by
  refine Met.ofW (cc := cX9_depositOf) (maxL := 2) (ret := (some .int)) (by decide) rfl ?_
  intro p e s m args below meth c s₁ B hml hv
  obtain ⟨rfl, hsz, hP, hK, hD0⟩ := hv
  have hx := B.exec
  have hb := B.bytes
  have hr := B.returns
  have hts := atoms_spec (ws := .code yX9_depositOf cX9_depositOf 2 (some .int) :: GW) B.pre
  have htg : ∀ w ∈ GW, w.before _ s = true := fun w h => hts w (List.mem_cons_of_mem _ h)
  have hown : s.vm.findClass RX9 = some m.cls := findClass_of_methodNamed B.named
  have hlocks := B.notSynchronized
  subst hsz
  have hD := hD0.self (sz := s.heap.size)
  generalize hAe : va_A (modelC ck mo (encZ S) F1 F2 F3 F4 M) s.heap.size = A at hD ⊢
  have hA : ∀ q : Nat, s.heap.size ≤ q → A q := fun q h => by rw [← hAe]; exact Or.inr h
  have hS : va_S A s.heap s.heap [] := va_S.rf
  have hP : va_P dg vwCl (modelC ck mo (encZ S) F1 F2 F3 F4 M) s.heap := hP
  have hl := lv_entry ([.ref (mo 0), .int (zI b)]) (n := 2) (Nat.le_of_ble_eq_true rfl)
  rw [lg_entry_eq]
  generalize (lg_sl ([.ref (mo 0), .int (zI b)]) ++ List.replicate (2 - (lg_sl ([.ref (mo 0), .int (zI b)])).length) Slot.unset).toArray = ls at hl ⊢
  have hl : lv_has ls 2 [(0, .ref (mo 0)), (1, .int (zI b))] := hl
  obtain ⟨b00, b01, b02, b03, b1, b2, b3, b4, b5, b6, b7, b8, b9, b10, b11, b12⟩ := id hI
  refine lv_aload_n hx hb dX9_depositOf_0 rfl (lv_at hl 0 rfl) ?_
  refine lv_iload_n hx hb dX9_depositOf_1 rfl (lv_at hl 1 rfl) ?_
  refine x_calli (ws' := modelC ck mo (encZ S) F1 F2 F3 F4 (upS M 8 0 (if ¬ isBench S b then 1 else if S 4 b = 0 then 2 else 0))) [] (M := modelC ck mo (encZ S) F1 F2 F3 F4 M) (M' := modelC ck mo (encZ S) F1 F2 F3 F4 (upS M 8 0 (if ¬ isBench S b then 1 else if S 4 b = 0 then 2 else 0))) ([]) (List.append_nil _).symm (List.append_nil _).symm hP hD hS hA (fun hPm hDm => va_runV (As := [.int (zI b)]) (rest := []) ⟨hx, hb, hml, hown, htg⟩ (m_isLeased l dg ck mo S F1 F2 F3 F4 M b _ hI (by omega)) (cwV 1 htg (gwV wq_1905 wq_1907 wp_65 wq_15 wq_1908) rfl rfl rfl (by decide +kernel) ⟨Nat.le_of_ble_eq_true rfl, Nat.le_of_ble_eq_true rfl⟩) (wr_preV hK hPm hDm 0 11 rfl rfl) rfl rfl hl.1 rfl (lv_room (Nat.le_of_ble_eq_true rfl)) dX9_depositOf_2 ⟨Nat.zero_le _, Nat.zero_le _⟩) (fun r2 H locs hr2 hP hD hS => ?_)
  subst hr2
  refine x_bz_eq (tgt := 17) hx hb dX9_depositOf_5 (by decide) (fun c5 => ?_) (fun c5 => ?_)
  · refine x_iconst hx hb dX9_depositOf_17 ?_
    have hEq : modelC ck mo (encZ S) F1 F2 F3 F4 (upS M 8 0 (if ¬ isBench S b then 1 else if S 4 b = 0 then 2 else 0)) = modelC ck mo (encZ S) F1 F2 F3 F4 (upS M 8 0 (if ¬ isBench S b then 1 else if S 4 b = 0 then 2 else 0)) := rfl
    exact W.iret (v := _) hx hb hr (fun t9 ht9 hW9 => ⟨⟨_, (), rfl, (by first | (rw [itZ_t (show (isBench S b ∧ S 4 b ≠ 0) by omega)] <;> rfl) | (rw [itZ_f (show ¬ ((isBench S b ∧ S 4 b ≠ 0)) by omega)] <;> rfl)), by rw [ht9, hEq]; exact hP, by rw [hEq, hAe]; exact hD⟩, hS.F ht9⟩) hS.2.2 dX9_depositOf_18
  · refine lv_aload_n hx hb dX9_depositOf_8 rfl (lv_at hl 0 rfl) ?_
    refine lv_iload_n hx hb dX9_depositOf_9 rfl (lv_at hl 1 rfl) ?_
    refine x_iconst hx hb dX9_depositOf_10 ?_
    refine vp_callSi (W.runV (As := [.int (zI b), .int (zI 4)]) (rest := []) ⟨hx, hb, hml, hown, htg⟩ (m_bench l dg ck mo S F1 F2 F3 F4 (upS M 8 0 (if ¬ isBench S b then 1 else if S 4 b = 0 then 2 else 0)) b 4 (by omega) (by decide)) (cwV 2 htg (gwV wq_1657 wq_1659 wp_35 wq_15 wq_1660) rfl rfl rfl (by decide +kernel) ⟨Nat.le_of_ble_eq_true rfl, Nat.le_of_ble_eq_true rfl⟩) (rd_preV hK hP 0 11 rfl rfl) rfl rfl hl.1 rfl (lv_room (Nat.le_of_ble_eq_true rfl)) dX9_depositOf_11 ⟨Nat.zero_le _, Nat.zero_le _⟩) (fun r11 hr11 => ?_)
    subst hr11
    have q11 := b5 b
    refine x_is (show (S (1 + Int.toNat 4) b) = (S 5 b) from rfl) ?_
    refine lv_goto (tgt := 18) hx hb dX9_depositOf_14 (by decide) ?_
    have hEq : modelC ck mo (encZ S) F1 F2 F3 F4 (upS M 8 0 (if ¬ isBench S b then 1 else if S 4 b = 0 then 2 else 0)) = modelC ck mo (encZ S) F1 F2 F3 F4 (upS M 8 0 (if ¬ isBench S b then 1 else if S 4 b = 0 then 2 else 0)) := rfl
    exact W.iret (v := _) hx hb hr (fun t9 ht9 hW9 => ⟨⟨_, (), rfl, (by first | (rw [itZ_t (show (isBench S b ∧ S 4 b ≠ 0) by omega)] <;> rfl) | (rw [itZ_f (show ¬ ((isBench S b ∧ S 4 b ≠ 0)) by omega)] <;> rfl)), by rw [ht9, hEq]; exact hP, by rw [hEq, hAe]; exact hD⟩, hS.F ht9⟩) hS.2.2 dX9_depositOf_18

set_option maxHeartbeats 4000000 in
set_option maxRecDepth 100000 in
/-- BenchBrokerModel.monthsLeft -/
theorem m_monthsLeft (l : Launch) (dg : va_G) (ck : Nat → ClassId) (mo : Nat → Nat) (S : St) (F1 F2 F3 F4 : Int → Int) (M : St) (b : Int) (sz : Nat) (hI : Bd S) (rg_b : -2147483648 ≤ b ∧ b < 2147483648) : Met l yX9_monthsLeft (.code yX9_monthsLeft cX9_monthsLeft 2 (some .int) :: GW) ({ frames := 3, cells := 0, slots := 0, locals := 64 }) (va_Pc [.ref (mo 0), .int (zI b)] (wrP dg ck sz (modelC ck mo (encZ S) F1 F2 F3 F4 M))) (va_Qi (fun r (_ : Unit) => r = zI (itZ ((isBench S b ∧ S 4 b ≠ 0)) (S 6 b))) (fun _ t9 => wrQ dg sz (modelC ck mo (encZ S) F1 F2 F3 F4 M) (modelC ck mo (encZ S) F1 F2 F3 F4 (upS M 8 0 (if ¬ isBench S b then 1 else if S 4 b = 0 then 2 else 0))) t9) (va_A (modelC ck mo (encZ S) F1 F2 F3 F4 M) sz)) 0 0 (va_A (modelC ck mo (encZ S) F1 F2 F3 F4 M) sz) := by
  refine Met.ofW (cc := cX9_monthsLeft) (maxL := 2) (ret := (some .int)) (by decide) rfl ?_
  intro p e s m args below meth c s₁ B hml hv
  obtain ⟨rfl, hsz, hP, hK, hD0⟩ := hv
  have hx := B.exec
  have hb := B.bytes
  have hr := B.returns
  have hts := atoms_spec (ws := .code yX9_monthsLeft cX9_monthsLeft 2 (some .int) :: GW) B.pre
  have htg : ∀ w ∈ GW, w.before _ s = true := fun w h => hts w (List.mem_cons_of_mem _ h)
  have hown : s.vm.findClass RX9 = some m.cls := findClass_of_methodNamed B.named
  have hlocks := B.notSynchronized
  subst hsz
  have hD := hD0.self (sz := s.heap.size)
  generalize hAe : va_A (modelC ck mo (encZ S) F1 F2 F3 F4 M) s.heap.size = A at hD ⊢
  have hA : ∀ q : Nat, s.heap.size ≤ q → A q := fun q h => by rw [← hAe]; exact Or.inr h
  have hS : va_S A s.heap s.heap [] := va_S.rf
  have hP : va_P dg vwCl (modelC ck mo (encZ S) F1 F2 F3 F4 M) s.heap := hP
  have hl := lv_entry ([.ref (mo 0), .int (zI b)]) (n := 2) (Nat.le_of_ble_eq_true rfl)
  rw [lg_entry_eq]
  generalize (lg_sl ([.ref (mo 0), .int (zI b)]) ++ List.replicate (2 - (lg_sl ([.ref (mo 0), .int (zI b)])).length) Slot.unset).toArray = ls at hl ⊢
  have hl : lv_has ls 2 [(0, .ref (mo 0)), (1, .int (zI b))] := hl
  obtain ⟨b00, b01, b02, b03, b1, b2, b3, b4, b5, b6, b7, b8, b9, b10, b11, b12⟩ := id hI
  refine lv_aload_n hx hb dX9_monthsLeft_0 rfl (lv_at hl 0 rfl) ?_
  refine lv_iload_n hx hb dX9_monthsLeft_1 rfl (lv_at hl 1 rfl) ?_
  refine x_calli (ws' := modelC ck mo (encZ S) F1 F2 F3 F4 (upS M 8 0 (if ¬ isBench S b then 1 else if S 4 b = 0 then 2 else 0))) [] (M := modelC ck mo (encZ S) F1 F2 F3 F4 M) (M' := modelC ck mo (encZ S) F1 F2 F3 F4 (upS M 8 0 (if ¬ isBench S b then 1 else if S 4 b = 0 then 2 else 0))) ([]) (List.append_nil _).symm (List.append_nil _).symm hP hD hS hA (fun hPm hDm => va_runV (As := [.int (zI b)]) (rest := []) ⟨hx, hb, hml, hown, htg⟩ (m_isLeased l dg ck mo S F1 F2 F3 F4 M b _ hI (by omega)) (cwV 1 htg (gwV wq_1905 wq_1907 wp_65 wq_15 wq_1908) rfl rfl rfl (by decide +kernel) ⟨Nat.le_of_ble_eq_true rfl, Nat.le_of_ble_eq_true rfl⟩) (wr_preV hK hPm hDm 0 11 rfl rfl) rfl rfl hl.1 rfl (lv_room (Nat.le_of_ble_eq_true rfl)) dX9_monthsLeft_2 ⟨Nat.zero_le _, Nat.zero_le _⟩) (fun r2 H locs hr2 hP hD hS => ?_)
  subst hr2
  refine x_bz_eq (tgt := 17) hx hb dX9_monthsLeft_5 (by decide) (fun c5 => ?_) (fun c5 => ?_)
  · refine x_iconst hx hb dX9_monthsLeft_17 ?_
    have hEq : modelC ck mo (encZ S) F1 F2 F3 F4 (upS M 8 0 (if ¬ isBench S b then 1 else if S 4 b = 0 then 2 else 0)) = modelC ck mo (encZ S) F1 F2 F3 F4 (upS M 8 0 (if ¬ isBench S b then 1 else if S 4 b = 0 then 2 else 0)) := rfl
    exact W.iret (v := _) hx hb hr (fun t9 ht9 hW9 => ⟨⟨_, (), rfl, (by first | (rw [itZ_t (show (isBench S b ∧ S 4 b ≠ 0) by omega)] <;> rfl) | (rw [itZ_f (show ¬ ((isBench S b ∧ S 4 b ≠ 0)) by omega)] <;> rfl)), by rw [ht9, hEq]; exact hP, by rw [hEq, hAe]; exact hD⟩, hS.F ht9⟩) hS.2.2 dX9_monthsLeft_18
  · refine lv_aload_n hx hb dX9_monthsLeft_8 rfl (lv_at hl 0 rfl) ?_
    refine lv_iload_n hx hb dX9_monthsLeft_9 rfl (lv_at hl 1 rfl) ?_
    refine x_iconst hx hb dX9_monthsLeft_10 ?_
    refine vp_callSi (W.runV (As := [.int (zI b), .int (zI 5)]) (rest := []) ⟨hx, hb, hml, hown, htg⟩ (m_bench l dg ck mo S F1 F2 F3 F4 (upS M 8 0 (if ¬ isBench S b then 1 else if S 4 b = 0 then 2 else 0)) b 5 (by omega) (by decide)) (cwV 2 htg (gwV wq_1657 wq_1659 wp_35 wq_15 wq_1660) rfl rfl rfl (by decide +kernel) ⟨Nat.le_of_ble_eq_true rfl, Nat.le_of_ble_eq_true rfl⟩) (rd_preV hK hP 0 11 rfl rfl) rfl rfl hl.1 rfl (lv_room (Nat.le_of_ble_eq_true rfl)) dX9_monthsLeft_11 ⟨Nat.zero_le _, Nat.zero_le _⟩) (fun r11 hr11 => ?_)
    subst hr11
    have q11 := b6 b
    refine x_is (show (S (1 + Int.toNat 5) b) = (S 6 b) from rfl) ?_
    refine lv_goto (tgt := 18) hx hb dX9_monthsLeft_14 (by decide) ?_
    have hEq : modelC ck mo (encZ S) F1 F2 F3 F4 (upS M 8 0 (if ¬ isBench S b then 1 else if S 4 b = 0 then 2 else 0)) = modelC ck mo (encZ S) F1 F2 F3 F4 (upS M 8 0 (if ¬ isBench S b then 1 else if S 4 b = 0 then 2 else 0)) := rfl
    exact W.iret (v := _) hx hb hr (fun t9 ht9 hW9 => ⟨⟨_, (), rfl, (by first | (rw [itZ_t (show (isBench S b ∧ S 4 b ≠ 0) by omega)] <;> rfl) | (rw [itZ_f (show ¬ ((isBench S b ∧ S 4 b ≠ 0)) by omega)] <;> rfl)), by rw [ht9, hEq]; exact hP, by rw [hEq, hAe]; exact hD⟩, hS.F ht9⟩) hS.2.2 dX9_monthsLeft_18

set_option maxHeartbeats 4000000 in
set_option maxRecDepth 100000 in
/-- BenchBrokerModel.defaultMonth -/
theorem m_defaultMonth (l : Launch) (dg : va_G) (ck : Nat → ClassId) (mo : Nat → Nat) (S : St) (F1 F2 F3 F4 : Int → Int) (M : St) (b : Int) (sz : Nat) (hI : Bd S) (rg_b : -2147483648 ≤ b ∧ b < 2147483648) : Met l yX9_defaultMonth (.code yX9_defaultMonth cX9_defaultMonth 3 (some .int) :: GW) ({ frames := 4, cells := 0, slots := 0, locals := 91 }) (va_Pc [.ref (mo 0), .int (zI b)] (wrP dg ck sz (modelC ck mo (encZ S) F1 F2 F3 F4 M))) (va_Qi (fun r (_ : Unit) => r = zI (itZ ((isBench S b ∧ S 4 b ≠ 0 ∧ quietB S b ∧ payable S b < S 6 b)) (payable S b + 1))) (fun _ t9 => wrQ dg sz (modelC ck mo (encZ S) F1 F2 F3 F4 M) (modelC ck mo (encZ S) F1 F2 F3 F4 (upS M 8 0 (if (isBench S b ∧ S 4 b ≠ 0 ∧ quietB S b ∧ payable S b < S 6 b) then 0 else if ¬ isBench S b then 1 else 2))) t9) (va_A (modelC ck mo (encZ S) F1 F2 F3 F4 M) sz)) 0 0 (va_A (modelC ck mo (encZ S) F1 F2 F3 F4 M) sz) := by
  refine Met.ofW (cc := cX9_defaultMonth) (maxL := 3) (ret := (some .int)) (by decide) rfl ?_
  intro p e s m args below meth c s₁ B hml hv
  obtain ⟨rfl, hsz, hP, hK, hD0⟩ := hv
  have hx := B.exec
  have hb := B.bytes
  have hr := B.returns
  have hts := atoms_spec (ws := .code yX9_defaultMonth cX9_defaultMonth 3 (some .int) :: GW) B.pre
  have htg : ∀ w ∈ GW, w.before _ s = true := fun w h => hts w (List.mem_cons_of_mem _ h)
  have hown : s.vm.findClass RX9 = some m.cls := findClass_of_methodNamed B.named
  have hlocks := B.notSynchronized
  subst hsz
  have hD := hD0.self (sz := s.heap.size)
  generalize hAe : va_A (modelC ck mo (encZ S) F1 F2 F3 F4 M) s.heap.size = A at hD ⊢
  have hA : ∀ q : Nat, s.heap.size ≤ q → A q := fun q h => by rw [← hAe]; exact Or.inr h
  have hS : va_S A s.heap s.heap [] := va_S.rf
  have hP : va_P dg vwCl (modelC ck mo (encZ S) F1 F2 F3 F4 M) s.heap := hP
  have hl := lv_entry ([.ref (mo 0), .int (zI b)]) (n := 3) (Nat.le_of_ble_eq_true rfl)
  rw [lg_entry_eq]
  generalize (lg_sl ([.ref (mo 0), .int (zI b)]) ++ List.replicate (3 - (lg_sl ([.ref (mo 0), .int (zI b)])).length) Slot.unset).toArray = ls at hl ⊢
  have hl : lv_has ls 3 [(0, .ref (mo 0)), (1, .int (zI b))] := hl
  obtain ⟨b00, b01, b02, b03, b1, b2, b3, b4, b5, b6, b7, b8, b9, b10, b11, b12⟩ := id hI
  have hre := rent_r hI b
  have hcn := b11 (S 4 b - 1)
  have hpy : 0 ≤ payable S b := Int.ediv_nonneg hcn.1 (by omega)
  have hpy2 : payable S b ≤ S 11 (S 4 b - 1) := Int.ediv_le_self _ hcn.1
  have hlt := b4 b
  refine lv_aload_n hx hb dX9_defaultMonth_0 rfl (lv_at hl 0 rfl) ?_
  refine lv_iload_n hx hb dX9_defaultMonth_1 rfl (lv_at hl 1 rfl) ?_
  refine x_calli (ws' := modelC ck mo (encZ S) F1 F2 F3 F4 (upS M 8 0 (if ¬ isBench S b then 1 else if S 4 b = 0 then 2 else 0))) [] (M := modelC ck mo (encZ S) F1 F2 F3 F4 M) (M' := modelC ck mo (encZ S) F1 F2 F3 F4 (upS M 8 0 (if ¬ isBench S b then 1 else if S 4 b = 0 then 2 else 0))) ([]) (List.append_nil _).symm (List.append_nil _).symm hP hD hS hA (fun hPm hDm => va_runV (As := [.int (zI b)]) (rest := []) ⟨hx, hb, hml, hown, htg⟩ (m_isLeased l dg ck mo S F1 F2 F3 F4 M b _ hI (by omega)) (cwV 1 htg (gwV wq_1905 wq_1907 wp_65 wq_15 wq_1908) rfl rfl rfl (by decide +kernel) ⟨Nat.le_of_ble_eq_true rfl, Nat.le_of_ble_eq_true rfl⟩) (wr_preV hK hPm hDm 0 11 rfl rfl) rfl rfl hl.1 rfl (lv_room (Nat.le_of_ble_eq_true rfl)) dX9_defaultMonth_2 ⟨Nat.zero_le _, Nat.zero_le _⟩) (fun r2 H locs hr2 hP hD hS => ?_)
  subst hr2
  refine x_bz_ne (tgt := 10) hx hb dX9_defaultMonth_5 (by decide) (fun c5 => ?_) (fun c5 => ?_)
  · refine lv_aload_n hx hb dX9_defaultMonth_10 rfl (lv_at hl 0 rfl) ?_
    refine lv_aload_n hx hb dX9_defaultMonth_11 rfl (lv_at hl 0 rfl) ?_
    refine lv_iload_n hx hb dX9_defaultMonth_12 rfl (lv_at hl 1 rfl) ?_
    refine vp_callSi (W.runV (As := [.int (zI b)]) (rest := [.ref (mo 0)]) ⟨hx, hb, hml, hown, htg⟩ (m_by l dg ck mo S F1 F2 F3 F4 (upS M 8 0 (if ¬ isBench S b then 1 else if S 4 b = 0 then 2 else 0)) b (by omega)) (cwV 1 htg (gwV wq_1853 wq_1855 wp_59 wq_15 wq_1856) rfl rfl rfl (by decide +kernel) ⟨Nat.le_of_ble_eq_true rfl, Nat.le_of_ble_eq_true rfl⟩) (rd_preV hK hP 0 11 rfl rfl) rfl rfl hl.1 rfl (lv_room (Nat.le_of_ble_eq_true rfl)) dX9_defaultMonth_13 ⟨Nat.zero_le _, Nat.zero_le _⟩) (fun r13 hr13 => ?_)
    subst hr13
    have q13 := b4 b
    refine x_is (show (S 4 b - 1) = ((S 4 b) - 1) from rfl) ?_
    refine x_iconst hx hb dX9_defaultMonth_16 ?_
    refine vp_callSi (W.runV (As := [.int (zI ((S 4 b) - 1)), .int (zI 0)]) (rest := []) ⟨hx, hb, hml, hown, htg⟩ (m_tenant l dg ck mo S F1 F2 F3 F4 (upS M 8 0 (if ¬ isBench S b then 1 else if S 4 b = 0 then 2 else 0)) ((S 4 b) - 1) 0 (by omega) (by decide)) (cwV 2 htg (gwV wq_1825 wq_1827 wp_56 wq_15 wq_1828) rfl rfl rfl (by decide +kernel) ⟨Nat.le_of_ble_eq_true rfl, Nat.le_of_ble_eq_true rfl⟩) (rd_preV hK hP 0 11 rfl rfl) rfl rfl hl.1 rfl (lv_room (Nat.le_of_ble_eq_true rfl)) dX9_defaultMonth_17 ⟨Nat.zero_le _, Nat.zero_le _⟩) (fun r17 hr17 => ?_)
    subst hr17
    have q17 := b11 ((S 4 b) - 1)
    refine x_is (show (S (11 + Int.toNat 0) ((S 4 b) - 1)) = (S 11 ((S 4 b) - 1)) from rfl) ?_
    refine lv_aload_n hx hb dX9_defaultMonth_20 rfl (lv_at hl 0 rfl) ?_
    refine lv_iload_n hx hb dX9_defaultMonth_21 rfl (lv_at hl 1 rfl) ?_
    refine vp_callSi (W.runV (As := [.int (zI b)]) (rest := [.int (zI (S 11 ((S 4 b) - 1)))]) ⟨hx, hb, hml, hown, htg⟩ (m_rent l dg ck mo S F1 F2 F3 F4 (upS M 8 0 (if ¬ isBench S b then 1 else if S 4 b = 0 then 2 else 0)) b hI (by omega)) (cwV 1 htg (gwV wq_1753 wq_1755 wp_49 wq_15 wq_1756) rfl rfl rfl (by decide +kernel) ⟨Nat.le_of_ble_eq_true rfl, Nat.le_of_ble_eq_true rfl⟩) (rd_preV hK hP 0 11 rfl rfl) rfl rfl hl.1 rfl (lv_room (Nat.le_of_ble_eq_true rfl)) dX9_defaultMonth_22 ⟨Nat.zero_le _, Nat.zero_le _⟩) (fun r22 hr22 => ?_)
    subst hr22
    refine x_idiv hx hb dX9_defaultMonth_25 (by omega) (by omega) ?_
    refine lv_istore_n (lv' := [(2, .int (zI ((S 11 ((S 4 b) - 1)) / (rent S b)))), (0, .ref (mo 0)), (1, .int (zI b))]) hx hb dX9_defaultMonth_26 rfl hl (by decide) rfl (fun ls hl => ?_)
    have hpe : S 11 (S 4 b - 1) / rent S b = payable S b := rfl
    refine lv_aload_n hx hb dX9_defaultMonth_27 rfl (lv_at hl 1 rfl) ?_
    refine lv_iload_n hx hb dX9_defaultMonth_28 rfl (lv_at hl 2 rfl) ?_
    refine vp_callSi (W.runV (As := [.int (zI b)]) (rest := []) ⟨hx, hb, hml, hown, htg⟩ (m_quiet l dg ck mo S F1 F2 F3 F4 (upS M 8 0 (if ¬ isBench S b then 1 else if S 4 b = 0 then 2 else 0)) b hI (by omega)) (cwV 1 htg (gwV wq_1797 wq_1799 wp_52 wq_15 wq_1800) rfl rfl rfl (by decide +kernel) ⟨Nat.le_of_ble_eq_true rfl, Nat.le_of_ble_eq_true rfl⟩) (rd_preV hK hP 0 11 rfl rfl) rfl rfl hl.1 rfl (lv_room (Nat.le_of_ble_eq_true rfl)) dX9_defaultMonth_29 ⟨Nat.zero_le _, Nat.zero_le _⟩) (fun r29 hr29 => ?_)
    subst hr29
    refine x_bz_eq (tgt := 51) hx hb dX9_defaultMonth_32 (by decide) (fun c32 => ?_) (fun c32 => ?_)
    · refine lv_aload_n hx hb dX9_defaultMonth_51 rfl (lv_at hl 1 rfl) ?_
      refine x_iconst hx hb dX9_defaultMonth_52 ?_
      refine x_calli (ws' := modelC ck mo (encZ S) F1 F2 F3 F4 (upS (upS M 8 0 (if ¬ isBench S b then 1 else if S 4 b = 0 then 2 else 0)) 8 0 2)) [] (M := modelC ck mo (encZ S) F1 F2 F3 F4 (upS M 8 0 (if ¬ isBench S b then 1 else if S 4 b = 0 then 2 else 0))) (M' := modelC ck mo (encZ S) F1 F2 F3 F4 (upS (upS M 8 0 (if ¬ isBench S b then 1 else if S 4 b = 0 then 2 else 0)) 8 0 2)) ([]) (List.append_nil _).symm (List.append_nil _).symm hP hD hS hA (fun hPm hDm => va_runV (As := [.int (zI 2)]) (rest := []) ⟨hx, hb, hml, hown, htg⟩ (m_fails l dg ck mo S F1 F2 F3 F4 (upS M 8 0 (if ¬ isBench S b then 1 else if S 4 b = 0 then 2 else 0)) 2 _ ) (cwV 1 htg (gwV wq_1677 wq_1679 wp_40 wq_15 wq_1680) rfl rfl rfl (by decide +kernel) ⟨Nat.le_of_ble_eq_true rfl, Nat.le_of_ble_eq_true rfl⟩) (wr_preV hK hPm hDm 0 11 rfl rfl) rfl rfl hl.1 rfl (lv_room (Nat.le_of_ble_eq_true rfl)) dX9_defaultMonth_53 ⟨Nat.zero_le _, Nat.zero_le _⟩) (fun r53 H locs hr53 hP hD hS => ?_)
      subst hr53
      have hEq : modelC ck mo (encZ S) F1 F2 F3 F4 (upS M 8 0 (if (isBench S b ∧ S 4 b ≠ 0 ∧ quietB S b ∧ payable S b < S 6 b) then 0 else if ¬ isBench S b then 1 else 2)) = modelC ck mo (encZ S) F1 F2 F3 F4 (upS (upS M 8 0 (if ¬ isBench S b then 1 else if S 4 b = 0 then 2 else 0)) 8 0 2) := (by first | (rw [if_pos (show (isBench S b ∧ S 4 b ≠ 0 ∧ quietB S b ∧ payable S b < S 6 b) by omega)]; (repeat (first | rw [if_pos (by omega)] | rw [if_neg (by omega)]))) | (rw [upS_up]; (repeat (first | rw [if_pos (by omega)] | rw [if_neg (by omega)]))) | (repeat (first | rw [if_pos (by omega)] | rw [if_neg (by omega)])))
      exact W.iret (v := _) hx hb hr (fun t9 ht9 hW9 => ⟨⟨_, (), rfl, (by first | (rw [itZ_t (show (isBench S b ∧ S 4 b ≠ 0 ∧ quietB S b ∧ payable S b < S 6 b) by omega)] <;> rfl) | (rw [itZ_f (show ¬ ((isBench S b ∧ S 4 b ≠ 0 ∧ quietB S b ∧ payable S b < S 6 b)) by omega)] <;> rfl)), by rw [ht9, hEq]; exact hP, by rw [hEq, hAe]; exact hD⟩, hS.F ht9⟩) hS.2.2 dX9_defaultMonth_56
    · refine lv_iload_n hx hb dX9_defaultMonth_35 rfl (lv_at hl 0 rfl) ?_
      refine lv_aload_n hx hb dX9_defaultMonth_36 rfl (lv_at hl 1 rfl) ?_
      refine lv_iload_n hx hb dX9_defaultMonth_37 rfl (lv_at hl 2 rfl) ?_
      refine x_iconst hx hb dX9_defaultMonth_38 ?_
      refine vp_callSi (W.runV (As := [.int (zI b), .int (zI 5)]) (rest := [.int (zI ((S 11 ((S 4 b) - 1)) / (rent S b)))]) ⟨hx, hb, hml, hown, htg⟩ (m_bench l dg ck mo S F1 F2 F3 F4 (upS M 8 0 (if ¬ isBench S b then 1 else if S 4 b = 0 then 2 else 0)) b 5 (by omega) (by decide)) (cwV 2 htg (gwV wq_1657 wq_1659 wp_35 wq_15 wq_1660) rfl rfl rfl (by decide +kernel) ⟨Nat.le_of_ble_eq_true rfl, Nat.le_of_ble_eq_true rfl⟩) (rd_preV hK hP 0 11 rfl rfl) rfl rfl hl.1 rfl (lv_room (Nat.le_of_ble_eq_true rfl)) dX9_defaultMonth_39 ⟨Nat.zero_le _, Nat.zero_le _⟩) (fun r39 hr39 => ?_)
      subst hr39
      have q39 := b6 b
      refine x_is (show (S (1 + Int.toNat 5) b) = (S 6 b) from rfl) ?_
      refine x_icmp_ge (tgt := 51) hx hb dX9_defaultMonth_42 (by decide) (by omega) (by omega) (fun c42 => ?_) (fun c42 => ?_)
      · refine lv_aload_n hx hb dX9_defaultMonth_51 rfl (lv_at hl 1 rfl) ?_
        refine x_iconst hx hb dX9_defaultMonth_52 ?_
        refine x_calli (ws' := modelC ck mo (encZ S) F1 F2 F3 F4 (upS (upS M 8 0 (if ¬ isBench S b then 1 else if S 4 b = 0 then 2 else 0)) 8 0 2)) [] (M := modelC ck mo (encZ S) F1 F2 F3 F4 (upS M 8 0 (if ¬ isBench S b then 1 else if S 4 b = 0 then 2 else 0))) (M' := modelC ck mo (encZ S) F1 F2 F3 F4 (upS (upS M 8 0 (if ¬ isBench S b then 1 else if S 4 b = 0 then 2 else 0)) 8 0 2)) ([]) (List.append_nil _).symm (List.append_nil _).symm hP hD hS hA (fun hPm hDm => va_runV (As := [.int (zI 2)]) (rest := []) ⟨hx, hb, hml, hown, htg⟩ (m_fails l dg ck mo S F1 F2 F3 F4 (upS M 8 0 (if ¬ isBench S b then 1 else if S 4 b = 0 then 2 else 0)) 2 _ ) (cwV 1 htg (gwV wq_1677 wq_1679 wp_40 wq_15 wq_1680) rfl rfl rfl (by decide +kernel) ⟨Nat.le_of_ble_eq_true rfl, Nat.le_of_ble_eq_true rfl⟩) (wr_preV hK hPm hDm 0 11 rfl rfl) rfl rfl hl.1 rfl (lv_room (Nat.le_of_ble_eq_true rfl)) dX9_defaultMonth_53 ⟨Nat.zero_le _, Nat.zero_le _⟩) (fun r53 H locs hr53 hP hD hS => ?_)
        subst hr53
        have hEq : modelC ck mo (encZ S) F1 F2 F3 F4 (upS M 8 0 (if (isBench S b ∧ S 4 b ≠ 0 ∧ quietB S b ∧ payable S b < S 6 b) then 0 else if ¬ isBench S b then 1 else 2)) = modelC ck mo (encZ S) F1 F2 F3 F4 (upS (upS M 8 0 (if ¬ isBench S b then 1 else if S 4 b = 0 then 2 else 0)) 8 0 2) := (by first | (rw [if_pos (show (isBench S b ∧ S 4 b ≠ 0 ∧ quietB S b ∧ payable S b < S 6 b) by omega)]; (repeat (first | rw [if_pos (by omega)] | rw [if_neg (by omega)]))) | (rw [upS_up]; (repeat (first | rw [if_pos (by omega)] | rw [if_neg (by omega)]))) | (repeat (first | rw [if_pos (by omega)] | rw [if_neg (by omega)])))
        exact W.iret (v := _) hx hb hr (fun t9 ht9 hW9 => ⟨⟨_, (), rfl, (by first | (rw [itZ_t (show (isBench S b ∧ S 4 b ≠ 0 ∧ quietB S b ∧ payable S b < S 6 b) by omega)] <;> rfl) | (rw [itZ_f (show ¬ ((isBench S b ∧ S 4 b ≠ 0 ∧ quietB S b ∧ payable S b < S 6 b)) by omega)] <;> rfl)), by rw [ht9, hEq]; exact hP, by rw [hEq, hAe]; exact hD⟩, hS.F ht9⟩) hS.2.2 dX9_defaultMonth_56
      · refine lv_iload_n hx hb dX9_defaultMonth_45 rfl (lv_at hl 0 rfl) ?_
        refine x_iconst hx hb dX9_defaultMonth_46 ?_
        refine x_iadd hx hb dX9_defaultMonth_47 ?_
        refine lv_goto (tgt := 56) hx hb dX9_defaultMonth_48 (by decide) ?_
        have hEq : modelC ck mo (encZ S) F1 F2 F3 F4 (upS M 8 0 (if (isBench S b ∧ S 4 b ≠ 0 ∧ quietB S b ∧ payable S b < S 6 b) then 0 else if ¬ isBench S b then 1 else 2)) = modelC ck mo (encZ S) F1 F2 F3 F4 (upS M 8 0 (if ¬ isBench S b then 1 else if S 4 b = 0 then 2 else 0)) := (by first | (rw [if_pos (show (isBench S b ∧ S 4 b ≠ 0 ∧ quietB S b ∧ payable S b < S 6 b) by omega)]; (repeat (first | rw [if_pos (by omega)] | rw [if_neg (by omega)]))) | (rw [upS_up]; (repeat (first | rw [if_pos (by omega)] | rw [if_neg (by omega)]))) | (repeat (first | rw [if_pos (by omega)] | rw [if_neg (by omega)])))
        exact W.iret (v := _) hx hb hr (fun t9 ht9 hW9 => ⟨⟨_, (), rfl, (by first | (rw [itZ_t (show (isBench S b ∧ S 4 b ≠ 0 ∧ quietB S b ∧ payable S b < S 6 b) by omega)] <;> rfl) | (rw [itZ_f (show ¬ ((isBench S b ∧ S 4 b ≠ 0 ∧ quietB S b ∧ payable S b < S 6 b)) by omega)] <;> rfl)), by rw [ht9, hEq]; exact hP, by rw [hEq, hAe]; exact hD⟩, hS.F ht9⟩) hS.2.2 dX9_defaultMonth_56
  · refine x_iconst hx hb dX9_defaultMonth_8 ?_
    have hEq : modelC ck mo (encZ S) F1 F2 F3 F4 (upS M 8 0 (if (isBench S b ∧ S 4 b ≠ 0 ∧ quietB S b ∧ payable S b < S 6 b) then 0 else if ¬ isBench S b then 1 else 2)) = modelC ck mo (encZ S) F1 F2 F3 F4 (upS M 8 0 (if ¬ isBench S b then 1 else if S 4 b = 0 then 2 else 0)) := (by rw [if_neg (show ¬ (isBench S b ∧ S 4 b ≠ 0 ∧ quietB S b ∧ payable S b < S 6 b) by omega)]; by_cases hq : isBench S b <;> (first | (rw [if_neg (by omega), if_neg (by omega), if_pos (by omega)]) | (rw [if_pos (by omega), if_pos (by omega)])))
    exact W.iret (v := _) hx hb hr (fun t9 ht9 hW9 => ⟨⟨_, (), rfl, (by first | (rw [itZ_t (show (isBench S b ∧ S 4 b ≠ 0 ∧ quietB S b ∧ payable S b < S 6 b) by omega)] <;> rfl) | (rw [itZ_f (show ¬ ((isBench S b ∧ S 4 b ≠ 0 ∧ quietB S b ∧ payable S b < S 6 b)) by omega)] <;> rfl)), by rw [ht9, hEq]; exact hP, by rw [hEq, hAe]; exact hD⟩, hS.F ht9⟩) hS.2.2 dX9_defaultMonth_9

set_option maxHeartbeats 4000000 in
set_option maxRecDepth 100000 in
/-- BenchBrokerModel.deposits -/
theorem m_deposits (l : Launch) (dg : va_G) (ck : Nat → ClassId) (mo : Nat → Nat) (S : St) (F1 F2 F3 F4 : Int → Int) (M : St) (hI : Bd S)  : Met l yX9_deposits (.code yX9_deposits cX9_deposits 3 (some .int) :: GW) ({ frames := 1, cells := 0, slots := 0, locals := 22 }) (va_Pc [.ref (mo 0)] (rdP dg ck (modelC ck mo (encZ S) F1 F2 F3 F4 M))) (vp_Si (fun r => r = zI (deps S))) 0 0 (fun _ => False) := by
  refine Met.ofW (cc := cX9_deposits) (maxL := 3) (ret := (some .int)) (by decide) rfl ?_
  intro p e s m args below meth c s₁ B hml hv
  obtain ⟨rfl, hP, hK⟩ := hv
  have hx := B.exec
  have hb := B.bytes
  have hr := B.returns
  have hts := atoms_spec (ws := .code yX9_deposits cX9_deposits 3 (some .int) :: GW) B.pre
  have htg : ∀ w ∈ GW, w.before _ s = true := fun w h => hts w (List.mem_cons_of_mem _ h)
  have hown : s.vm.findClass RX9 = some m.cls := findClass_of_methodNamed B.named
  have hlocks := B.notSynchronized
  have hl := lv_entry ([.ref (mo 0)]) (n := 3) (Nat.le_of_ble_eq_true rfl)
  rw [lg_entry_eq]
  generalize (lg_sl ([.ref (mo 0)]) ++ List.replicate (3 - (lg_sl ([.ref (mo 0)])).length) Slot.unset).toArray = ls at hl ⊢
  have hl : lv_has ls 3 [(0, .ref (mo 0))] := hl
  obtain ⟨b00, b01, b02, b03, b1, b2, b3, b4, b5, b6, b7, b8, b9, b10, b11, b12⟩ := id hI
  refine x_iconst hx hb dX9_deposits_0 ?_
  refine lv_istore_n (lv' := [(1, .int (zI 0)), (0, .ref (mo 0))]) hx hb dX9_deposits_1 rfl hl (by decide) rfl (fun ls hl => ?_)
  refine x_iconst hx hb dX9_deposits_2 ?_
  refine lv_istore_n (lv' := [(2, .int (zI 0)), (1, .int (zI 0)), (0, .ref (mo 0))]) hx hb dX9_deposits_3 rfl hl (by decide) rfl (fun ls hl => ?_)
  refine x_loop (ι := Int × Int) (fun v => (0 ≤ v.2 ∧ v.2 ≤ S 0 0) ∧ v.1 = sumZ (S 5) v.2.toNat) (fun v => (S 0 0 - v.2).toNat) (fun v => [(0, .ref (mo 0)), (1, .int (zI v.1)), (2, .int (zI v.2))]) (0, 0) (show (0 ≤ (0 : Int) ∧ (0 : Int) ≤ S 0 0) ∧ (0 : Int) = sumZ (S 5) (0 : Int).toNat from ⟨by omega, rfl⟩) (lv_sub hl [2, 1, 0] rfl) ?_
  intro v hv ih_4 ls hl
  obtain ⟨u, i⟩ := v
  have hl : lv_has ls 3 [(0, .ref (mo 0)), (1, .int (zI u)), (2, .int (zI i))] := hl
  have hv : (0 ≤ i ∧ i ≤ S 0 0) ∧ u = sumZ (S 5) i.toNat := hv
  obtain ⟨hi, hu⟩ := hv
  refine lv_iload_n hx hb dX9_deposits_4 rfl (lv_at hl 2 rfl) ?_
  refine lv_aload_n hx hb dX9_deposits_5 rfl (lv_at hl 0 rfl) ?_
  refine va_get (D := dg) (ci := 11) (v := .ref (mo 1)) (C := RX9) (T := TX9) (N := 23) hx hb htg inG_X9 hown hK hP 0 rfl rfl 1 (Nat.le_of_ble_eq_true rfl) (htg _ wq_1558) (fun _ h9 => h9) rfl dX9_deposits_6 ?_
  refine x_iconst hx hb dX9_deposits_9 ?_
  refine x_iald hx hb hK hP 1 0 (encZ S) rfl rfl (fun _ => rfl) (P := fun _ => True) (fun _ => trivial) (by decide) (by omega) dX9_deposits_10 (fun _ => ?_)
  refine x_is (show (encZ S) 0 = (S 0 0) from (encV (k := 0) (i := 0) (Or.inl ⟨rfl, by decide, by decide, rfl⟩)).trans (rfl)) ?_
  refine x_icmp_ge (tgt := 29) hx hb dX9_deposits_11 (by decide) (by omega) (by omega) (fun c11 => ?_) (fun c11 => ?_)
  · refine lv_iload_n hx hb dX9_deposits_29 rfl (lv_at hl 1 rfl) ?_
    exact W.iret (v := _) hx hb hr (fun t9 ht9 hW9 => ⟨_, rfl, (by rw [hu, show i = S 0 0 by omega]; rfl), ht9⟩) (fun _ h => by cases h) dX9_deposits_30
  · refine lv_iload_n hx hb dX9_deposits_14 rfl (lv_at hl 1 rfl) ?_
    refine lv_aload_n hx hb dX9_deposits_15 rfl (lv_at hl 0 rfl) ?_
    refine lv_iload_n hx hb dX9_deposits_16 rfl (lv_at hl 2 rfl) ?_
    refine x_iconst hx hb dX9_deposits_17 ?_
    refine vp_callSi (W.runV (As := [.int (zI i), .int (zI 4)]) (rest := [.int (zI u)]) ⟨hx, hb, hml, hown, htg⟩ (m_bench l dg ck mo S F1 F2 F3 F4 M i 4 (by omega) (by decide)) (cwV 2 htg (gwV wq_1657 wq_1659 wp_35 wq_15 wq_1660) rfl rfl rfl (by decide +kernel) ⟨Nat.le_of_ble_eq_true rfl, Nat.le_of_ble_eq_true rfl⟩) (rd_preV hK hP 0 11 rfl rfl) rfl rfl hl.1 rfl (lv_room (Nat.le_of_ble_eq_true rfl)) dX9_deposits_18 ⟨Nat.zero_le _, Nat.zero_le _⟩) (fun r18 hr18 => ?_)
    subst hr18
    have q18 := b5 i
    refine x_is (show (S (1 + Int.toNat 4) i) = (S 5 i) from rfl) ?_
    refine x_iadd hx hb dX9_deposits_21 ?_
    refine x_top _ (fun v22 e_v22 => ?_)
    refine lv_istore_n (lv' := [(1, .int (zI v22)), (0, .ref (mo 0)), (2, .int (zI i))]) hx hb dX9_deposits_22 rfl hl (by decide) rfl (fun ls hl => ?_)
    obtain ⟨v23, e_v23⟩ : ∃ y : Int, y = i + 1 := ⟨_, rfl⟩
    refine lv_iinc (v := zI v23) (lv' := [(2, .int (zI v23)), (1, .int (zI v22)), (0, .ref (mo 0))]) hx hb dX9_deposits_23 hl (k := 2) rfl (by rw [e_v23]; exact zI_add _ _) (by decide) rfl (fun ls hl => ?_)
    refine lv_goto (tgt := 4) hx hb dX9_deposits_26 (by decide) ?_
    exact ih_4 (v22, v23) (show (0 ≤ v23 ∧ v23 ≤ S 0 0) ∧ v22 = sumZ (S 5) v23.toNat from ⟨by omega, (by rw [e_v23, sumZ_s hi.1, ← hu, e_v22])⟩) (show (S 0 0 - v23).toNat < (S 0 0 - i).toNat from by omega) ls (lv_sub hl [2, 1, 0] rfl)

set_option maxHeartbeats 4000000 in
set_option maxRecDepth 100000 in
/-- BenchBrokerModel.depositTotal -/
theorem m_depositTotal (l : Launch) (dg : va_G) (ck : Nat → ClassId) (mo : Nat → Nat) (S : St) (F1 F2 F3 F4 : Int → Int) (M : St) (sz : Nat) (hI : Bd S)  : Met l yX9_depositTotal (.code yX9_depositTotal cX9_depositTotal 1 (some .int) :: GW) ({ frames := 2, cells := 0, slots := 0, locals := 44 }) (va_Pc [.ref (mo 0)] (wrP dg ck sz (modelC ck mo (encZ S) F1 F2 F3 F4 M))) (va_Qi (fun r (_ : Unit) => r = zI (deps S)) (fun _ t9 => wrQ dg sz (modelC ck mo (encZ S) F1 F2 F3 F4 M) (modelC ck mo (encZ S) F1 F2 F3 F4 (upS M 8 0 0)) t9) (va_A (modelC ck mo (encZ S) F1 F2 F3 F4 M) sz)) 0 0 (va_A (modelC ck mo (encZ S) F1 F2 F3 F4 M) sz) := by
  refine Met.ofW (cc := cX9_depositTotal) (maxL := 1) (ret := (some .int)) (by decide) rfl ?_
  intro p e s m args below meth c s₁ B hml hv
  obtain ⟨rfl, hsz, hP, hK, hD0⟩ := hv
  have hx := B.exec
  have hb := B.bytes
  have hr := B.returns
  have hts := atoms_spec (ws := .code yX9_depositTotal cX9_depositTotal 1 (some .int) :: GW) B.pre
  have htg : ∀ w ∈ GW, w.before _ s = true := fun w h => hts w (List.mem_cons_of_mem _ h)
  have hown : s.vm.findClass RX9 = some m.cls := findClass_of_methodNamed B.named
  have hlocks := B.notSynchronized
  subst hsz
  have hD := hD0.self (sz := s.heap.size)
  generalize hAe : va_A (modelC ck mo (encZ S) F1 F2 F3 F4 M) s.heap.size = A at hD ⊢
  have hA : ∀ q : Nat, s.heap.size ≤ q → A q := fun q h => by rw [← hAe]; exact Or.inr h
  have hS : va_S A s.heap s.heap [] := va_S.rf
  have hP : va_P dg vwCl (modelC ck mo (encZ S) F1 F2 F3 F4 M) s.heap := hP
  have hl := lv_entry ([.ref (mo 0)]) (n := 1) (Nat.le_of_ble_eq_true rfl)
  rw [lg_entry_eq]
  generalize (lg_sl ([.ref (mo 0)]) ++ List.replicate (1 - (lg_sl ([.ref (mo 0)])).length) Slot.unset).toArray = ls at hl ⊢
  have hl : lv_has ls 1 [(0, .ref (mo 0))] := hl
  obtain ⟨b00, b01, b02, b03, b1, b2, b3, b4, b5, b6, b7, b8, b9, b10, b11, b12⟩ := id hI
  refine lv_aload_n hx hb dX9_depositTotal_0 rfl (lv_at hl 0 rfl) ?_
  refine x_iconst hx hb dX9_depositTotal_1 ?_
  refine va_put (D := dg) (ci := 11) (v := .int (zI 0)) (ty := .int) (C := RX9) (T := TX9) (N := 23) hx hb htg inG_X9 tyX9 tyX9_ok nmX9 hown hK hP hD hS 0 rfl rfl 0 (Nat.le_of_ble_eq_true rfl) (htg _ wq_1557) (fun _ h9 => h9) rfl (by decide +kernel) rfl rfl (Nat.le_of_ble_eq_true rfl) dX9_depositTotal_2 (fun H locs hP hD hS => ?_)
  have hP : va_P dg vwCl (modelC ck mo (encZ S) F1 F2 F3 F4 (upS M 8 0 0)) H := hP
  have hD : va_D A (modelC ck mo (encZ S) F1 F2 F3 F4 (upS M 8 0 0)) := hD
  refine lv_aload_n hx hb dX9_depositTotal_5 rfl (lv_at hl 0 rfl) ?_
  refine vp_callSi (W.runV (As := []) (rest := []) ⟨hx, hb, hml, hown, htg⟩ (m_deposits l dg ck mo S F1 F2 F3 F4 (upS M 8 0 0) hI) (cwV 0 htg (gwV wq_1954 wq_1956 wp_68 wq_15 wq_1957) rfl rfl rfl (by decide +kernel) ⟨Nat.le_of_ble_eq_true rfl, Nat.le_of_ble_eq_true rfl⟩) (rd_preV hK hP 0 11 rfl rfl) rfl rfl hl.1 rfl (lv_room (Nat.le_of_ble_eq_true rfl)) dX9_depositTotal_6 ⟨Nat.zero_le _, Nat.zero_le _⟩) (fun r6 hr6 => ?_)
  subst hr6
  have hEq : modelC ck mo (encZ S) F1 F2 F3 F4 (upS M 8 0 0) = modelC ck mo (encZ S) F1 F2 F3 F4 (upS M 8 0 0) := rfl
  exact W.iret (v := _) hx hb hr (fun t9 ht9 hW9 => ⟨⟨_, (), rfl, rfl, by rw [ht9, hEq]; exact hP, by rw [hEq, hAe]; exact hD⟩, hS.F ht9⟩) hS.2.2 dX9_depositTotal_9

set_option maxHeartbeats 4000000 in
set_option maxRecDepth 100000 in
/-- BenchBrokerModel.allCoins -/
theorem m_allCoins (l : Launch) (dg : va_G) (ck : Nat → ClassId) (mo : Nat → Nat) (S : St) (F1 F2 F3 F4 : Int → Int) (M : St) (sz : Nat) (hI : Bd S)  : Met l yX9_allCoins (.code yX9_allCoins cX9_allCoins 3 (some .int) :: GW) ({ frames := 2, cells := 0, slots := 0, locals := 44 }) (va_Pc [.ref (mo 0)] (wrP dg ck sz (modelC ck mo (encZ S) F1 F2 F3 F4 M))) (va_Qi (fun r (_ : Unit) => r = zI (coinsA S)) (fun _ t9 => wrQ dg sz (modelC ck mo (encZ S) F1 F2 F3 F4 M) (modelC ck mo (encZ S) F1 F2 F3 F4 (upS M 8 0 0)) t9) (va_A (modelC ck mo (encZ S) F1 F2 F3 F4 M) sz)) 0 0 (va_A (modelC ck mo (encZ S) F1 F2 F3 F4 M) sz) := by
  refine Met.ofW (cc := cX9_allCoins) (maxL := 3) (ret := (some .int)) (by decide) rfl ?_
  intro p e s m args below meth c s₁ B hml hv
  obtain ⟨rfl, hsz, hP, hK, hD0⟩ := hv
  have hx := B.exec
  have hb := B.bytes
  have hr := B.returns
  have hts := atoms_spec (ws := .code yX9_allCoins cX9_allCoins 3 (some .int) :: GW) B.pre
  have htg : ∀ w ∈ GW, w.before _ s = true := fun w h => hts w (List.mem_cons_of_mem _ h)
  have hown : s.vm.findClass RX9 = some m.cls := findClass_of_methodNamed B.named
  have hlocks := B.notSynchronized
  subst hsz
  have hD := hD0.self (sz := s.heap.size)
  generalize hAe : va_A (modelC ck mo (encZ S) F1 F2 F3 F4 M) s.heap.size = A at hD ⊢
  have hA : ∀ q : Nat, s.heap.size ≤ q → A q := fun q h => by rw [← hAe]; exact Or.inr h
  have hS : va_S A s.heap s.heap [] := va_S.rf
  have hP : va_P dg vwCl (modelC ck mo (encZ S) F1 F2 F3 F4 M) s.heap := hP
  have hl := lv_entry ([.ref (mo 0)]) (n := 3) (Nat.le_of_ble_eq_true rfl)
  rw [lg_entry_eq]
  generalize (lg_sl ([.ref (mo 0)]) ++ List.replicate (3 - (lg_sl ([.ref (mo 0)])).length) Slot.unset).toArray = ls at hl ⊢
  have hl : lv_has ls 3 [(0, .ref (mo 0))] := hl
  obtain ⟨b00, b01, b02, b03, b1, b2, b3, b4, b5, b6, b7, b8, b9, b10, b11, b12⟩ := id hI
  refine lv_aload_n hx hb dX9_allCoins_0 rfl (lv_at hl 0 rfl) ?_
  refine x_iconst hx hb dX9_allCoins_1 ?_
  refine va_put (D := dg) (ci := 11) (v := .int (zI 0)) (ty := .int) (C := RX9) (T := TX9) (N := 23) hx hb htg inG_X9 tyX9 tyX9_ok nmX9 hown hK hP hD hS 0 rfl rfl 0 (Nat.le_of_ble_eq_true rfl) (htg _ wq_1557) (fun _ h9 => h9) rfl (by decide +kernel) rfl rfl (Nat.le_of_ble_eq_true rfl) dX9_allCoins_2 (fun H locs hP hD hS => ?_)
  have hP : va_P dg vwCl (modelC ck mo (encZ S) F1 F2 F3 F4 (upS M 8 0 0)) H := hP
  have hD : va_D A (modelC ck mo (encZ S) F1 F2 F3 F4 (upS M 8 0 0)) := hD
  refine lv_aload_n hx hb dX9_allCoins_5 rfl (lv_at hl 0 rfl) ?_
  refine va_get (D := dg) (ci := 11) (v := .ref (mo 1)) (C := RX9) (T := TX9) (N := 23) hx hb htg inG_X9 hown hK hP 0 rfl rfl 1 (Nat.le_of_ble_eq_true rfl) (htg _ wq_1558) (fun _ h9 => h9) rfl dX9_allCoins_6 ?_
  refine x_iconst hx hb dX9_allCoins_9 ?_
  refine x_iald hx hb hK hP 1 0 (encZ S) rfl rfl (fun _ => rfl) (P := fun _ => True) (fun _ => trivial) (by decide) (by omega) dX9_allCoins_10 (fun _ => ?_)
  refine x_is (show (encZ S) 5 = (S 0 5) from (encV (k := 0) (i := 5) (Or.inl ⟨rfl, by decide, by decide, rfl⟩)).trans (rfl)) ?_
  refine lv_aload_n hx hb dX9_allCoins_11 rfl (lv_at hl 0 rfl) ?_
  refine vp_callSi (W.runV (As := []) (rest := [.int (zI (S 0 5))]) ⟨hx, hb, hml, hown, htg⟩ (m_deposits l dg ck mo S F1 F2 F3 F4 (upS M 8 0 0) hI) (cwV 0 htg (gwV wq_1954 wq_1956 wp_68 wq_15 wq_1957) rfl rfl rfl (by decide +kernel) ⟨Nat.le_of_ble_eq_true rfl, Nat.le_of_ble_eq_true rfl⟩) (rd_preV hK hP 0 11 rfl rfl) rfl rfl hl.1 rfl (lv_room (Nat.le_of_ble_eq_true rfl)) dX9_allCoins_12 ⟨Nat.zero_le _, Nat.zero_le _⟩) (fun r12 hr12 => ?_)
  subst hr12
  refine x_iadd hx hb dX9_allCoins_15 ?_
  refine x_top _ (fun v16 e_v16 => ?_)
  refine lv_istore_n (lv' := [(1, .int (zI v16)), (0, .ref (mo 0))]) hx hb dX9_allCoins_16 rfl hl (by decide) rfl (fun ls hl => ?_)
  refine x_iconst hx hb dX9_allCoins_17 ?_
  refine lv_istore_n (lv' := [(2, .int (zI 0)), (1, .int (zI v16)), (0, .ref (mo 0))]) hx hb dX9_allCoins_18 rfl hl (by decide) rfl (fun ls hl => ?_)
  refine x_loopW (ι := Int × Int) (fun v => (0 ≤ v.2 ∧ v.2 ≤ S 0 2) ∧ v.1 = deps S + S 0 5 + sumZ (S 11) v.2.toNat) (fun v => (S 0 2 - v.2).toNat) (fun v => [(0, .ref (mo 0)), (1, .int (zI v.1)), (2, .int (zI v.2))]) (fun v => modelC ck mo (encZ S) F1 F2 F3 F4 (upS M 8 0 0)) (v16, 0) (show (0 ≤ (0 : Int) ∧ (0 : Int) ≤ S 0 2) ∧ v16 = deps S + S 0 5 + sumZ (S 11) (0 : Int).toNat from ⟨by omega, by rw [e_v16, Int.add_comm]; exact (Int.add_zero _).symm⟩) (lv_sub hl [2, 1, 0] rfl) hP hD hS ?_
  intro v hv ih_19 ls H locs hl hP hD hS
  obtain ⟨u, i⟩ := v
  have hl : lv_has ls 3 [(0, .ref (mo 0)), (1, .int (zI u)), (2, .int (zI i))] := hl
  have hv : (0 ≤ i ∧ i ≤ S 0 2) ∧ u = deps S + S 0 5 + sumZ (S 11) i.toNat := hv
  have hP : va_P dg vwCl (modelC ck mo (encZ S) F1 F2 F3 F4 (upS M 8 0 0)) H := hP
  have hD : va_D A (modelC ck mo (encZ S) F1 F2 F3 F4 (upS M 8 0 0)) := hD
  obtain ⟨hi, hu⟩ := hv
  refine lv_iload_n hx hb dX9_allCoins_19 rfl (lv_at hl 2 rfl) ?_
  refine lv_aload_n hx hb dX9_allCoins_20 rfl (lv_at hl 0 rfl) ?_
  refine va_get (D := dg) (ci := 11) (v := .ref (mo 1)) (C := RX9) (T := TX9) (N := 23) hx hb htg inG_X9 hown hK hP 0 rfl rfl 1 (Nat.le_of_ble_eq_true rfl) (htg _ wq_1558) (fun _ h9 => h9) rfl dX9_allCoins_21 ?_
  refine x_iconst hx hb dX9_allCoins_24 ?_
  refine x_iald hx hb hK hP 1 0 (encZ S) rfl rfl (fun _ => rfl) (P := fun _ => True) (fun _ => trivial) (by decide) (by omega) dX9_allCoins_25 (fun _ => ?_)
  refine x_is (show (encZ S) 2 = (S 0 2) from (encV (k := 0) (i := 2) (Or.inl ⟨rfl, by decide, by decide, rfl⟩)).trans (rfl)) ?_
  refine x_icmp_ge (tgt := 44) hx hb dX9_allCoins_26 (by decide) (by omega) (by omega) (fun c26 => ?_) (fun c26 => ?_)
  · refine lv_iload_n hx hb dX9_allCoins_44 rfl (lv_at hl 1 rfl) ?_
    have hEq : modelC ck mo (encZ S) F1 F2 F3 F4 (upS M 8 0 0) = modelC ck mo (encZ S) F1 F2 F3 F4 (upS M 8 0 0) := rfl
    exact W.iret (v := _) hx hb hr (fun t9 ht9 hW9 => ⟨⟨_, (), rfl, (by rw [hu, show i = S 0 2 by omega]; rfl), by rw [ht9, hEq]; exact hP, by rw [hEq, hAe]; exact hD⟩, hS.F ht9⟩) hS.2.2 dX9_allCoins_45
  · refine lv_iload_n hx hb dX9_allCoins_29 rfl (lv_at hl 1 rfl) ?_
    refine lv_aload_n hx hb dX9_allCoins_30 rfl (lv_at hl 0 rfl) ?_
    refine lv_iload_n hx hb dX9_allCoins_31 rfl (lv_at hl 2 rfl) ?_
    refine x_iconst hx hb dX9_allCoins_32 ?_
    refine vp_callSi (W.runV (As := [.int (zI i), .int (zI 0)]) (rest := [.int (zI u)]) ⟨hx, hb, hml, hown, htg⟩ (m_tenant l dg ck mo S F1 F2 F3 F4 (upS M 8 0 0) i 0 (by omega) (by decide)) (cwV 2 htg (gwV wq_1825 wq_1827 wp_56 wq_15 wq_1828) rfl rfl rfl (by decide +kernel) ⟨Nat.le_of_ble_eq_true rfl, Nat.le_of_ble_eq_true rfl⟩) (rd_preV hK hP 0 11 rfl rfl) rfl rfl hl.1 rfl (lv_room (Nat.le_of_ble_eq_true rfl)) dX9_allCoins_33 ⟨Nat.zero_le _, Nat.zero_le _⟩) (fun r33 hr33 => ?_)
    subst hr33
    have q33 := b11 i
    refine x_is (show (S (11 + Int.toNat 0) i) = (S 11 i) from rfl) ?_
    refine x_iadd hx hb dX9_allCoins_36 ?_
    refine x_top _ (fun v37 e_v37 => ?_)
    refine lv_istore_n (lv' := [(1, .int (zI v37)), (0, .ref (mo 0)), (2, .int (zI i))]) hx hb dX9_allCoins_37 rfl hl (by decide) rfl (fun ls hl => ?_)
    obtain ⟨v38, e_v38⟩ : ∃ y : Int, y = i + 1 := ⟨_, rfl⟩
    refine lv_iinc (v := zI v38) (lv' := [(2, .int (zI v38)), (1, .int (zI v37)), (0, .ref (mo 0))]) hx hb dX9_allCoins_38 hl (k := 2) rfl (by rw [e_v38]; exact zI_add _ _) (by decide) rfl (fun ls hl => ?_)
    refine lv_goto (tgt := 19) hx hb dX9_allCoins_41 (by decide) ?_
    exact ih_19 (v37, v38) (show (0 ≤ v38 ∧ v38 ≤ S 0 2) ∧ v37 = deps S + S 0 5 + sumZ (S 11) v38.toNat from ⟨by omega, (by rw [e_v38, sumZ_s hi.1, e_v37, hu]; omega)⟩) (show (S 0 2 - v38).toNat < (S 0 2 - i).toNat from by omega) ls H locs (lv_sub hl [2, 1, 0] rfl) hP hD hS

set_option maxHeartbeats 4000000 in
set_option maxRecDepth 100000 in
/-- BenchBrokerModel.isCheaper -/
theorem m_isCheaper (l : Launch) (dg : va_G) (ck : Nat → ClassId) (mo : Nat → Nat) (S : St) (F1 F2 F3 F4 : Int → Int) (M : St) (x y : Int) (hI : Bd S) (hx0 : 0 ≤ x ∧ x < 10) (hy0 : 0 ≤ y ∧ y < 10) : Met l yX9_isCheaper (.code yX9_isCheaper cX9_isCheaper 4 (some .boolean) :: GW) ({ frames := 4, cells := 0, slots := 0, locals := 91 }) (va_Pc [.ref (mo 0), .int (zI x), .int (zI y)] (rdP dg ck (modelC ck mo (encZ S) F1 F2 F3 F4 M))) (vp_Si (fun r => r = zI (bI (bFirst S x y)))) 0 0 (fun _ => False) := by
  refine Met.ofW (cc := cX9_isCheaper) (maxL := 4) (ret := (some .boolean)) (by decide) rfl ?_
  intro p e s m args below meth c s₁ B hml hv
  obtain ⟨rfl, hP, hK⟩ := hv
  have hx := B.exec
  have hb := B.bytes
  have hr := B.returns
  have hts := atoms_spec (ws := .code yX9_isCheaper cX9_isCheaper 4 (some .boolean) :: GW) B.pre
  have htg : ∀ w ∈ GW, w.before _ s = true := fun w h => hts w (List.mem_cons_of_mem _ h)
  have hown : s.vm.findClass RX9 = some m.cls := findClass_of_methodNamed B.named
  have hlocks := B.notSynchronized
  have hl := lv_entry ([.ref (mo 0), .int (zI x), .int (zI y)]) (n := 4) (Nat.le_of_ble_eq_true rfl)
  rw [lg_entry_eq]
  generalize (lg_sl ([.ref (mo 0), .int (zI x), .int (zI y)]) ++ List.replicate (4 - (lg_sl ([.ref (mo 0), .int (zI x), .int (zI y)])).length) Slot.unset).toArray = ls at hl ⊢
  have hl : lv_has ls 4 [(0, .ref (mo 0)), (1, .int (zI x)), (2, .int (zI y))] := hl
  obtain ⟨b00, b01, b02, b03, b1, b2, b3, b4, b5, b6, b7, b8, b9, b10, b11, b12⟩ := id hI
  have hrx := rent_r hI x
  have hry := rent_r hI y
  have h4x := b4 x
  have h4y := b4 y
  refine lv_aload_n hx hb dX9_isCheaper_0 rfl (lv_at hl 0 rfl) ?_
  refine lv_iload_n hx hb dX9_isCheaper_1 rfl (lv_at hl 1 rfl) ?_
  refine vp_callSi (W.runV (As := [.int (zI x)]) (rest := []) ⟨hx, hb, hml, hown, htg⟩ (m_rent l dg ck mo S F1 F2 F3 F4 M x hI (by omega)) (cwV 1 htg (gwV wq_1753 wq_1755 wp_49 wq_15 wq_1756) rfl rfl rfl (by decide +kernel) ⟨Nat.le_of_ble_eq_true rfl, Nat.le_of_ble_eq_true rfl⟩) (rd_preV hK hP 0 11 rfl rfl) rfl rfl hl.1 rfl (lv_room (Nat.le_of_ble_eq_true rfl)) dX9_isCheaper_2 ⟨Nat.zero_le _, Nat.zero_le _⟩) (fun r2 hr2 => ?_)
  subst hr2
  refine lv_aload_n hx hb dX9_isCheaper_5 rfl (lv_at hl 0 rfl) ?_
  refine lv_iload_n hx hb dX9_isCheaper_6 rfl (lv_at hl 2 rfl) ?_
  refine vp_callSi (W.runV (As := [.int (zI y)]) (rest := [.int (zI (rent S x))]) ⟨hx, hb, hml, hown, htg⟩ (m_rent l dg ck mo S F1 F2 F3 F4 M y hI (by omega)) (cwV 1 htg (gwV wq_1753 wq_1755 wp_49 wq_15 wq_1756) rfl rfl rfl (by decide +kernel) ⟨Nat.le_of_ble_eq_true rfl, Nat.le_of_ble_eq_true rfl⟩) (rd_preV hK hP 0 11 rfl rfl) rfl rfl hl.1 rfl (lv_room (Nat.le_of_ble_eq_true rfl)) dX9_isCheaper_7 ⟨Nat.zero_le _, Nat.zero_le _⟩) (fun r7 hr7 => ?_)
  subst hr7
  refine x_icmp_eq (tgt := 32) hx hb dX9_isCheaper_10 (by decide) (by omega) (by omega) (fun c10 => ?_) (fun c10 => ?_)
  · refine lv_aload_n hx hb dX9_isCheaper_32 rfl (lv_at hl 0 rfl) ?_
    refine lv_iload_n hx hb dX9_isCheaper_33 rfl (lv_at hl 1 rfl) ?_
    refine vp_callSi (W.runV (As := [.int (zI x)]) (rest := []) ⟨hx, hb, hml, hown, htg⟩ (m_by l dg ck mo S F1 F2 F3 F4 M x (by omega)) (cwV 1 htg (gwV wq_1853 wq_1855 wp_59 wq_15 wq_1856) rfl rfl rfl (by decide +kernel) ⟨Nat.le_of_ble_eq_true rfl, Nat.le_of_ble_eq_true rfl⟩) (rd_preV hK hP 0 11 rfl rfl) rfl rfl hl.1 rfl (lv_room (Nat.le_of_ble_eq_true rfl)) dX9_isCheaper_34 ⟨Nat.zero_le _, Nat.zero_le _⟩) (fun r34 hr34 => ?_)
    subst hr34
    have q34 := b4 x
    refine x_is (show (S 4 x - 1) = ((S 4 x) - 1) from rfl) ?_
    refine x_iconst hx hb dX9_isCheaper_37 ?_
    refine x_icmp_ne (tgt := 45) hx hb dX9_isCheaper_38 (by decide) (by omega) (by omega) (fun c38 => ?_) (fun c38 => ?_)
    · refine x_iconst hx hb dX9_isCheaper_45 ?_
      refine lv_istore_n (lv' := [(3, .int (zI 0)), (0, .ref (mo 0)), (1, .int (zI x)), (2, .int (zI y))]) hx hb dX9_isCheaper_46 rfl hl (by decide) rfl (fun ls hl => ?_)
      refine lv_iload_n hx hb dX9_isCheaper_47 rfl (lv_at hl 0 rfl) ?_
      refine lv_aload_n hx hb dX9_isCheaper_48 rfl (lv_at hl 1 rfl) ?_
      refine lv_iload_n hx hb dX9_isCheaper_49 rfl (lv_at hl 3 rfl) ?_
      refine vp_callSi (W.runV (As := [.int (zI y)]) (rest := [.int (zI 0)]) ⟨hx, hb, hml, hown, htg⟩ (m_by l dg ck mo S F1 F2 F3 F4 M y (by omega)) (cwV 1 htg (gwV wq_1853 wq_1855 wp_59 wq_15 wq_1856) rfl rfl rfl (by decide +kernel) ⟨Nat.le_of_ble_eq_true rfl, Nat.le_of_ble_eq_true rfl⟩) (rd_preV hK hP 0 11 rfl rfl) rfl rfl hl.1 rfl (lv_room (Nat.le_of_ble_eq_true rfl)) dX9_isCheaper_50 ⟨Nat.zero_le _, Nat.zero_le _⟩) (fun r50 hr50 => ?_)
      subst hr50
      have q50 := b4 y
      refine x_is (show (S 4 y - 1) = ((S 4 y) - 1) from rfl) ?_
      refine x_iconst hx hb dX9_isCheaper_53 ?_
      refine x_icmp_ne (tgt := 61) hx hb dX9_isCheaper_54 (by decide) (by omega) (by omega) (fun c54 => ?_) (fun c54 => ?_)
      · refine x_iconst hx hb dX9_isCheaper_61 ?_
        refine x_icmp_ne (tgt := 78) hx hb dX9_isCheaper_62 (by decide) (by omega) (by omega) (fun c62 => absurd c62 (by decide)) (fun c62 => ?_)
        refine lv_iload_n hx hb dX9_isCheaper_65 rfl (lv_at hl 2 rfl) ?_
        refine lv_iload_n hx hb dX9_isCheaper_66 rfl (lv_at hl 3 rfl) ?_
        refine x_icmp_ge (tgt := 74) hx hb dX9_isCheaper_67 (by decide) (by omega) (by omega) (fun c67 => ?_) (fun c67 => ?_)
        · refine x_iconst hx hb dX9_isCheaper_74 ?_
          refine lv_goto (tgt := 79) hx hb dX9_isCheaper_75 (by decide) ?_
          exact W.zret (v := _) hx hb hr (by first | rfl | rfl) (fun t9 ht9 hW9 => ⟨_, rfl, (congrArg zI (by first | exact (bI_t (by omega)).symm | exact (bI_f (by omega)).symm)), ht9⟩) (fun _ h => by cases h) dX9_isCheaper_79
        · refine x_iconst hx hb dX9_isCheaper_70 ?_
          refine lv_goto (tgt := 79) hx hb dX9_isCheaper_71 (by decide) ?_
          exact W.zret (v := _) hx hb hr (by first | rfl | rfl) (fun t9 ht9 hW9 => ⟨_, rfl, (congrArg zI (by first | exact (bI_t (by omega)).symm | exact (bI_f (by omega)).symm)), ht9⟩) (fun _ h => by cases h) dX9_isCheaper_79
      · refine x_iconst hx hb dX9_isCheaper_57 ?_
        refine lv_goto (tgt := 62) hx hb dX9_isCheaper_58 (by decide) ?_
        refine x_icmp_ne (tgt := 78) hx hb dX9_isCheaper_62 (by decide) (by omega) (by omega) (fun c62 => ?_) (fun c62 => absurd c62 (by decide))
        refine lv_iload_n hx hb dX9_isCheaper_78 rfl (lv_at hl 0 rfl) ?_
        exact W.zret (v := _) hx hb hr (by first | rfl | rfl) (fun t9 ht9 hW9 => ⟨_, rfl, (congrArg zI (by first | exact (bI_t (by omega)).symm | exact (bI_f (by omega)).symm)), ht9⟩) (fun _ h => by cases h) dX9_isCheaper_79
    · refine x_iconst hx hb dX9_isCheaper_41 ?_
      refine lv_goto (tgt := 46) hx hb dX9_isCheaper_42 (by decide) ?_
      refine lv_istore_n (lv' := [(3, .int (zI 1)), (0, .ref (mo 0)), (1, .int (zI x)), (2, .int (zI y))]) hx hb dX9_isCheaper_46 rfl hl (by decide) rfl (fun ls hl => ?_)
      refine lv_iload_n hx hb dX9_isCheaper_47 rfl (lv_at hl 0 rfl) ?_
      refine lv_aload_n hx hb dX9_isCheaper_48 rfl (lv_at hl 1 rfl) ?_
      refine lv_iload_n hx hb dX9_isCheaper_49 rfl (lv_at hl 3 rfl) ?_
      refine vp_callSi (W.runV (As := [.int (zI y)]) (rest := [.int (zI 1)]) ⟨hx, hb, hml, hown, htg⟩ (m_by l dg ck mo S F1 F2 F3 F4 M y (by omega)) (cwV 1 htg (gwV wq_1853 wq_1855 wp_59 wq_15 wq_1856) rfl rfl rfl (by decide +kernel) ⟨Nat.le_of_ble_eq_true rfl, Nat.le_of_ble_eq_true rfl⟩) (rd_preV hK hP 0 11 rfl rfl) rfl rfl hl.1 rfl (lv_room (Nat.le_of_ble_eq_true rfl)) dX9_isCheaper_50 ⟨Nat.zero_le _, Nat.zero_le _⟩) (fun r50 hr50 => ?_)
      subst hr50
      have q50 := b4 y
      refine x_is (show (S 4 y - 1) = ((S 4 y) - 1) from rfl) ?_
      refine x_iconst hx hb dX9_isCheaper_53 ?_
      refine x_icmp_ne (tgt := 61) hx hb dX9_isCheaper_54 (by decide) (by omega) (by omega) (fun c54 => ?_) (fun c54 => ?_)
      · refine x_iconst hx hb dX9_isCheaper_61 ?_
        refine x_icmp_ne (tgt := 78) hx hb dX9_isCheaper_62 (by decide) (by omega) (by omega) (fun c62 => ?_) (fun c62 => absurd c62 (by decide))
        refine lv_iload_n hx hb dX9_isCheaper_78 rfl (lv_at hl 0 rfl) ?_
        exact W.zret (v := _) hx hb hr (by first | rfl | rfl) (fun t9 ht9 hW9 => ⟨_, rfl, (congrArg zI (by first | exact (bI_t (by omega)).symm | exact (bI_f (by omega)).symm)), ht9⟩) (fun _ h => by cases h) dX9_isCheaper_79
      · refine x_iconst hx hb dX9_isCheaper_57 ?_
        refine lv_goto (tgt := 62) hx hb dX9_isCheaper_58 (by decide) ?_
        refine x_icmp_ne (tgt := 78) hx hb dX9_isCheaper_62 (by decide) (by omega) (by omega) (fun c62 => absurd c62 (by decide)) (fun c62 => ?_)
        refine lv_iload_n hx hb dX9_isCheaper_65 rfl (lv_at hl 2 rfl) ?_
        refine lv_iload_n hx hb dX9_isCheaper_66 rfl (lv_at hl 3 rfl) ?_
        refine x_icmp_ge (tgt := 74) hx hb dX9_isCheaper_67 (by decide) (by omega) (by omega) (fun c67 => ?_) (fun c67 => ?_)
        · refine x_iconst hx hb dX9_isCheaper_74 ?_
          refine lv_goto (tgt := 79) hx hb dX9_isCheaper_75 (by decide) ?_
          exact W.zret (v := _) hx hb hr (by first | rfl | rfl) (fun t9 ht9 hW9 => ⟨_, rfl, (congrArg zI (by first | exact (bI_t (by omega)).symm | exact (bI_f (by omega)).symm)), ht9⟩) (fun _ h => by cases h) dX9_isCheaper_79
        · refine x_iconst hx hb dX9_isCheaper_70 ?_
          refine lv_goto (tgt := 79) hx hb dX9_isCheaper_71 (by decide) ?_
          exact W.zret (v := _) hx hb hr (by first | rfl | rfl) (fun t9 ht9 hW9 => ⟨_, rfl, (congrArg zI (by first | exact (bI_t (by omega)).symm | exact (bI_f (by omega)).symm)), ht9⟩) (fun _ h => by cases h) dX9_isCheaper_79
  · refine lv_aload_n hx hb dX9_isCheaper_13 rfl (lv_at hl 0 rfl) ?_
    refine lv_iload_n hx hb dX9_isCheaper_14 rfl (lv_at hl 1 rfl) ?_
    refine vp_callSi (W.runV (As := [.int (zI x)]) (rest := []) ⟨hx, hb, hml, hown, htg⟩ (m_rent l dg ck mo S F1 F2 F3 F4 M x hI (by omega)) (cwV 1 htg (gwV wq_1753 wq_1755 wp_49 wq_15 wq_1756) rfl rfl rfl (by decide +kernel) ⟨Nat.le_of_ble_eq_true rfl, Nat.le_of_ble_eq_true rfl⟩) (rd_preV hK hP 0 11 rfl rfl) rfl rfl hl.1 rfl (lv_room (Nat.le_of_ble_eq_true rfl)) dX9_isCheaper_15 ⟨Nat.zero_le _, Nat.zero_le _⟩) (fun r15 hr15 => ?_)
    subst hr15
    refine lv_aload_n hx hb dX9_isCheaper_18 rfl (lv_at hl 0 rfl) ?_
    refine lv_iload_n hx hb dX9_isCheaper_19 rfl (lv_at hl 2 rfl) ?_
    refine vp_callSi (W.runV (As := [.int (zI y)]) (rest := [.int (zI (rent S x))]) ⟨hx, hb, hml, hown, htg⟩ (m_rent l dg ck mo S F1 F2 F3 F4 M y hI (by omega)) (cwV 1 htg (gwV wq_1753 wq_1755 wp_49 wq_15 wq_1756) rfl rfl rfl (by decide +kernel) ⟨Nat.le_of_ble_eq_true rfl, Nat.le_of_ble_eq_true rfl⟩) (rd_preV hK hP 0 11 rfl rfl) rfl rfl hl.1 rfl (lv_room (Nat.le_of_ble_eq_true rfl)) dX9_isCheaper_20 ⟨Nat.zero_le _, Nat.zero_le _⟩) (fun r20 hr20 => ?_)
    subst hr20
    refine x_icmp_ge (tgt := 30) hx hb dX9_isCheaper_23 (by decide) (by omega) (by omega) (fun c23 => ?_) (fun c23 => ?_)
    · refine x_iconst hx hb dX9_isCheaper_30 ?_
      exact W.zret (v := _) hx hb hr (by first | rfl | rfl) (fun t9 ht9 hW9 => ⟨_, rfl, (congrArg zI (by first | exact (bI_t (by omega)).symm | exact (bI_f (by omega)).symm)), ht9⟩) (fun _ h => by cases h) dX9_isCheaper_31
    · refine x_iconst hx hb dX9_isCheaper_26 ?_
      refine lv_goto (tgt := 31) hx hb dX9_isCheaper_27 (by decide) ?_
      exact W.zret (v := _) hx hb hr (by first | rfl | rfl) (fun t9 ht9 hW9 => ⟨_, rfl, (congrArg zI (by first | exact (bI_t (by omega)).symm | exact (bI_f (by omega)).symm)), ht9⟩) (fun _ h => by cases h) dX9_isCheaper_31

set_option maxHeartbeats 4000000 in
set_option maxRecDepth 100000 in
/-- BenchBrokerModel.isRicher -/
theorem m_isRicher (l : Launch) (dg : va_G) (ck : Nat → ClassId) (mo : Nat → Nat) (S : St) (F1 F2 F3 F4 : Int → Int) (M : St) (x y : Int) (hI : Bd S) (hx0 : 0 ≤ x ∧ x < 8) (hy0 : 0 ≤ y ∧ y < 8) : Met l yX9_isRicher (.code yX9_isRicher cX9_isRicher 3 (some .boolean) :: GW) ({ frames := 1, cells := 0, slots := 0, locals := 22 }) (va_Pc [.ref (mo 0), .int (zI x), .int (zI y)] (rdP dg ck (modelC ck mo (encZ S) F1 F2 F3 F4 M))) (vp_Si (fun r => r = zI (bI (tFirst S x y)))) 0 0 (fun _ => False) := by
  refine Met.ofW (cc := cX9_isRicher) (maxL := 3) (ret := (some .boolean)) (by decide) rfl ?_
  intro p e s m args below meth c s₁ B hml hv
  obtain ⟨rfl, hP, hK⟩ := hv
  have hx := B.exec
  have hb := B.bytes
  have hr := B.returns
  have hts := atoms_spec (ws := .code yX9_isRicher cX9_isRicher 3 (some .boolean) :: GW) B.pre
  have htg : ∀ w ∈ GW, w.before _ s = true := fun w h => hts w (List.mem_cons_of_mem _ h)
  have hown : s.vm.findClass RX9 = some m.cls := findClass_of_methodNamed B.named
  have hlocks := B.notSynchronized
  have hl := lv_entry ([.ref (mo 0), .int (zI x), .int (zI y)]) (n := 3) (Nat.le_of_ble_eq_true rfl)
  rw [lg_entry_eq]
  generalize (lg_sl ([.ref (mo 0), .int (zI x), .int (zI y)]) ++ List.replicate (3 - (lg_sl ([.ref (mo 0), .int (zI x), .int (zI y)])).length) Slot.unset).toArray = ls at hl ⊢
  have hl : lv_has ls 3 [(0, .ref (mo 0)), (1, .int (zI x)), (2, .int (zI y))] := hl
  obtain ⟨b00, b01, b02, b03, b1, b2, b3, b4, b5, b6, b7, b8, b9, b10, b11, b12⟩ := id hI
  refine lv_aload_n hx hb dX9_isRicher_0 rfl (lv_at hl 0 rfl) ?_
  refine lv_iload_n hx hb dX9_isRicher_1 rfl (lv_at hl 1 rfl) ?_
  refine x_iconst hx hb dX9_isRicher_2 ?_
  refine vp_callSi (W.runV (As := [.int (zI x), .int (zI 0)]) (rest := []) ⟨hx, hb, hml, hown, htg⟩ (m_tenant l dg ck mo S F1 F2 F3 F4 M x 0 (by omega) (by decide)) (cwV 2 htg (gwV wq_1825 wq_1827 wp_56 wq_15 wq_1828) rfl rfl rfl (by decide +kernel) ⟨Nat.le_of_ble_eq_true rfl, Nat.le_of_ble_eq_true rfl⟩) (rd_preV hK hP 0 11 rfl rfl) rfl rfl hl.1 rfl (lv_room (Nat.le_of_ble_eq_true rfl)) dX9_isRicher_3 ⟨Nat.zero_le _, Nat.zero_le _⟩) (fun r3 hr3 => ?_)
  subst hr3
  have q3 := b11 x
  refine x_is (show (S (11 + Int.toNat 0) x) = (S 11 x) from rfl) ?_
  refine lv_aload_n hx hb dX9_isRicher_6 rfl (lv_at hl 0 rfl) ?_
  refine lv_iload_n hx hb dX9_isRicher_7 rfl (lv_at hl 2 rfl) ?_
  refine x_iconst hx hb dX9_isRicher_8 ?_
  refine vp_callSi (W.runV (As := [.int (zI y), .int (zI 0)]) (rest := [.int (zI (S 11 x))]) ⟨hx, hb, hml, hown, htg⟩ (m_tenant l dg ck mo S F1 F2 F3 F4 M y 0 (by omega) (by decide)) (cwV 2 htg (gwV wq_1825 wq_1827 wp_56 wq_15 wq_1828) rfl rfl rfl (by decide +kernel) ⟨Nat.le_of_ble_eq_true rfl, Nat.le_of_ble_eq_true rfl⟩) (rd_preV hK hP 0 11 rfl rfl) rfl rfl hl.1 rfl (lv_room (Nat.le_of_ble_eq_true rfl)) dX9_isRicher_9 ⟨Nat.zero_le _, Nat.zero_le _⟩) (fun r9 hr9 => ?_)
  subst hr9
  have q9 := b11 y
  refine x_is (show (S (11 + Int.toNat 0) y) = (S 11 y) from rfl) ?_
  refine x_icmp_eq (tgt := 36) hx hb dX9_isRicher_12 (by decide) (by omega) (by omega) (fun c12 => ?_) (fun c12 => ?_)
  · refine lv_aload_n hx hb dX9_isRicher_36 rfl (lv_at hl 0 rfl) ?_
    refine lv_iload_n hx hb dX9_isRicher_37 rfl (lv_at hl 1 rfl) ?_
    refine x_iconst hx hb dX9_isRicher_38 ?_
    refine vp_callSi (W.runV (As := [.int (zI x), .int (zI 1)]) (rest := []) ⟨hx, hb, hml, hown, htg⟩ (m_tenant l dg ck mo S F1 F2 F3 F4 M x 1 (by omega) (by decide)) (cwV 2 htg (gwV wq_1825 wq_1827 wp_56 wq_15 wq_1828) rfl rfl rfl (by decide +kernel) ⟨Nat.le_of_ble_eq_true rfl, Nat.le_of_ble_eq_true rfl⟩) (rd_preV hK hP 0 11 rfl rfl) rfl rfl hl.1 rfl (lv_room (Nat.le_of_ble_eq_true rfl)) dX9_isRicher_39 ⟨Nat.zero_le _, Nat.zero_le _⟩) (fun r39 hr39 => ?_)
    subst hr39
    have q39 := b12 x
    refine x_is (show (S (11 + Int.toNat 1) x) = (S 12 x) from rfl) ?_
    refine lv_aload_n hx hb dX9_isRicher_42 rfl (lv_at hl 0 rfl) ?_
    refine lv_iload_n hx hb dX9_isRicher_43 rfl (lv_at hl 2 rfl) ?_
    refine x_iconst hx hb dX9_isRicher_44 ?_
    refine vp_callSi (W.runV (As := [.int (zI y), .int (zI 1)]) (rest := [.int (zI (S 12 x))]) ⟨hx, hb, hml, hown, htg⟩ (m_tenant l dg ck mo S F1 F2 F3 F4 M y 1 (by omega) (by decide)) (cwV 2 htg (gwV wq_1825 wq_1827 wp_56 wq_15 wq_1828) rfl rfl rfl (by decide +kernel) ⟨Nat.le_of_ble_eq_true rfl, Nat.le_of_ble_eq_true rfl⟩) (rd_preV hK hP 0 11 rfl rfl) rfl rfl hl.1 rfl (lv_room (Nat.le_of_ble_eq_true rfl)) dX9_isRicher_45 ⟨Nat.zero_le _, Nat.zero_le _⟩) (fun r45 hr45 => ?_)
    subst hr45
    have q45 := b12 y
    refine x_is (show (S (11 + Int.toNat 1) y) = (S 12 y) from rfl) ?_
    refine x_icmp_ne (tgt := 64) hx hb dX9_isRicher_48 (by decide) (by omega) (by omega) (fun c48 => ?_) (fun c48 => ?_)
    · refine lv_aload_n hx hb dX9_isRicher_64 rfl (lv_at hl 0 rfl) ?_
      refine lv_iload_n hx hb dX9_isRicher_65 rfl (lv_at hl 1 rfl) ?_
      refine x_iconst hx hb dX9_isRicher_66 ?_
      refine vp_callSi (W.runV (As := [.int (zI x), .int (zI 1)]) (rest := []) ⟨hx, hb, hml, hown, htg⟩ (m_tenant l dg ck mo S F1 F2 F3 F4 M x 1 (by omega) (by decide)) (cwV 2 htg (gwV wq_1825 wq_1827 wp_56 wq_15 wq_1828) rfl rfl rfl (by decide +kernel) ⟨Nat.le_of_ble_eq_true rfl, Nat.le_of_ble_eq_true rfl⟩) (rd_preV hK hP 0 11 rfl rfl) rfl rfl hl.1 rfl (lv_room (Nat.le_of_ble_eq_true rfl)) dX9_isRicher_67 ⟨Nat.zero_le _, Nat.zero_le _⟩) (fun r67 hr67 => ?_)
      subst hr67
      have q67 := b12 x
      refine x_is (show (S (11 + Int.toNat 1) x) = (S 12 x) from rfl) ?_
      refine lv_aload_n hx hb dX9_isRicher_70 rfl (lv_at hl 0 rfl) ?_
      refine lv_iload_n hx hb dX9_isRicher_71 rfl (lv_at hl 2 rfl) ?_
      refine x_iconst hx hb dX9_isRicher_72 ?_
      refine vp_callSi (W.runV (As := [.int (zI y), .int (zI 1)]) (rest := [.int (zI (S 12 x))]) ⟨hx, hb, hml, hown, htg⟩ (m_tenant l dg ck mo S F1 F2 F3 F4 M y 1 (by omega) (by decide)) (cwV 2 htg (gwV wq_1825 wq_1827 wp_56 wq_15 wq_1828) rfl rfl rfl (by decide +kernel) ⟨Nat.le_of_ble_eq_true rfl, Nat.le_of_ble_eq_true rfl⟩) (rd_preV hK hP 0 11 rfl rfl) rfl rfl hl.1 rfl (lv_room (Nat.le_of_ble_eq_true rfl)) dX9_isRicher_73 ⟨Nat.zero_le _, Nat.zero_le _⟩) (fun r73 hr73 => ?_)
      subst hr73
      have q73 := b12 y
      refine x_is (show (S (11 + Int.toNat 1) y) = (S 12 y) from rfl) ?_
      refine x_icmp_ge (tgt := 83) hx hb dX9_isRicher_76 (by decide) (by omega) (by omega) (fun c76 => ?_) (fun c76 => ?_)
      · refine x_iconst hx hb dX9_isRicher_83 ?_
        exact W.zret (v := _) hx hb hr (by first | rfl | rfl) (fun t9 ht9 hW9 => ⟨_, rfl, (congrArg zI (by first | exact (bI_t (by omega)).symm | exact (bI_f (by omega)).symm)), ht9⟩) (fun _ h => by cases h) dX9_isRicher_84
      · refine x_iconst hx hb dX9_isRicher_79 ?_
        refine lv_goto (tgt := 84) hx hb dX9_isRicher_80 (by decide) ?_
        exact W.zret (v := _) hx hb hr (by first | rfl | rfl) (fun t9 ht9 hW9 => ⟨_, rfl, (congrArg zI (by first | exact (bI_t (by omega)).symm | exact (bI_f (by omega)).symm)), ht9⟩) (fun _ h => by cases h) dX9_isRicher_84
    · refine lv_iload_n hx hb dX9_isRicher_51 rfl (lv_at hl 1 rfl) ?_
      refine lv_iload_n hx hb dX9_isRicher_52 rfl (lv_at hl 2 rfl) ?_
      refine x_icmp_ge (tgt := 60) hx hb dX9_isRicher_53 (by decide) (by omega) (by omega) (fun c53 => ?_) (fun c53 => ?_)
      · refine x_iconst hx hb dX9_isRicher_60 ?_
        refine lv_goto (tgt := 84) hx hb dX9_isRicher_61 (by decide) ?_
        exact W.zret (v := _) hx hb hr (by first | rfl | rfl) (fun t9 ht9 hW9 => ⟨_, rfl, (congrArg zI (by first | exact (bI_t (by omega)).symm | exact (bI_f (by omega)).symm)), ht9⟩) (fun _ h => by cases h) dX9_isRicher_84
      · refine x_iconst hx hb dX9_isRicher_56 ?_
        refine lv_goto (tgt := 84) hx hb dX9_isRicher_57 (by decide) ?_
        exact W.zret (v := _) hx hb hr (by first | rfl | rfl) (fun t9 ht9 hW9 => ⟨_, rfl, (congrArg zI (by first | exact (bI_t (by omega)).symm | exact (bI_f (by omega)).symm)), ht9⟩) (fun _ h => by cases h) dX9_isRicher_84
  · refine lv_aload_n hx hb dX9_isRicher_15 rfl (lv_at hl 0 rfl) ?_
    refine lv_iload_n hx hb dX9_isRicher_16 rfl (lv_at hl 1 rfl) ?_
    refine x_iconst hx hb dX9_isRicher_17 ?_
    refine vp_callSi (W.runV (As := [.int (zI x), .int (zI 0)]) (rest := []) ⟨hx, hb, hml, hown, htg⟩ (m_tenant l dg ck mo S F1 F2 F3 F4 M x 0 (by omega) (by decide)) (cwV 2 htg (gwV wq_1825 wq_1827 wp_56 wq_15 wq_1828) rfl rfl rfl (by decide +kernel) ⟨Nat.le_of_ble_eq_true rfl, Nat.le_of_ble_eq_true rfl⟩) (rd_preV hK hP 0 11 rfl rfl) rfl rfl hl.1 rfl (lv_room (Nat.le_of_ble_eq_true rfl)) dX9_isRicher_18 ⟨Nat.zero_le _, Nat.zero_le _⟩) (fun r18 hr18 => ?_)
    subst hr18
    have q18 := b11 x
    refine x_is (show (S (11 + Int.toNat 0) x) = (S 11 x) from rfl) ?_
    refine lv_aload_n hx hb dX9_isRicher_21 rfl (lv_at hl 0 rfl) ?_
    refine lv_iload_n hx hb dX9_isRicher_22 rfl (lv_at hl 2 rfl) ?_
    refine x_iconst hx hb dX9_isRicher_23 ?_
    refine vp_callSi (W.runV (As := [.int (zI y), .int (zI 0)]) (rest := [.int (zI (S 11 x))]) ⟨hx, hb, hml, hown, htg⟩ (m_tenant l dg ck mo S F1 F2 F3 F4 M y 0 (by omega) (by decide)) (cwV 2 htg (gwV wq_1825 wq_1827 wp_56 wq_15 wq_1828) rfl rfl rfl (by decide +kernel) ⟨Nat.le_of_ble_eq_true rfl, Nat.le_of_ble_eq_true rfl⟩) (rd_preV hK hP 0 11 rfl rfl) rfl rfl hl.1 rfl (lv_room (Nat.le_of_ble_eq_true rfl)) dX9_isRicher_24 ⟨Nat.zero_le _, Nat.zero_le _⟩) (fun r24 hr24 => ?_)
    subst hr24
    have q24 := b11 y
    refine x_is (show (S (11 + Int.toNat 0) y) = (S 11 y) from rfl) ?_
    refine x_icmp_le (tgt := 34) hx hb dX9_isRicher_27 (by decide) (by omega) (by omega) (fun c27 => ?_) (fun c27 => ?_)
    · refine x_iconst hx hb dX9_isRicher_34 ?_
      exact W.zret (v := _) hx hb hr (by first | rfl | rfl) (fun t9 ht9 hW9 => ⟨_, rfl, (congrArg zI (by first | exact (bI_t (by omega)).symm | exact (bI_f (by omega)).symm)), ht9⟩) (fun _ h => by cases h) dX9_isRicher_35
    · refine x_iconst hx hb dX9_isRicher_30 ?_
      refine lv_goto (tgt := 35) hx hb dX9_isRicher_31 (by decide) ?_
      exact W.zret (v := _) hx hb hr (by first | rfl | rfl) (fun t9 ht9 hW9 => ⟨_, rfl, (congrArg zI (by first | exact (bI_t (by omega)).symm | exact (bI_f (by omega)).symm)), ht9⟩) (fun _ h => by cases h) dX9_isRicher_35

def bbR (S : St) (x : Int) : Int := scan (fun a => bAhead S a = x) (S 0 0 - 0).toNat 0
def tbC (S : St) (x : Int) : Int := scan (fun a => tAhead S a = x) (S 0 2 - 0).toNat 0
theorem bF_irr (S : St) (x : Int) : ¬ bFirst S x x := by omega
theorem tF_irr (S : St) (x : Int) : ¬ tFirst S x x := by omega

set_option maxHeartbeats 4000000 in
set_option maxRecDepth 100000 in
/-- BenchBrokerModel.benchByRent -/
theorem m_benchByRent (l : Launch) (dg : va_G) (ck : Nat → ClassId) (mo : Nat → Nat) (S : St) (F1 F2 F3 F4 : Int → Int) (M : St) (x : Int) (sz : Nat) (hI : Bd S) (rg_x : -2147483648 ≤ x ∧ x < 2147483648) : Met l yX9_benchByRent (.code yX9_benchByRent cX9_benchByRent 5 (some .int) :: GW) ({ frames := 5, cells := 0, slots := 0, locals := 114 }) (va_Pc [.ref (mo 0), .int (zI x)] (wrP dg ck sz (modelC ck mo (encZ S) F1 F2 F3 F4 M))) (va_Qi (fun r (_ : Unit) => r = zI (itZ (bbR S x ≠ -1) (bbR S x))) (fun _ t9 => wrQ dg sz (modelC ck mo (encZ S) F1 F2 F3 F4 M) (modelC ck mo (encZ S) F1 F2 F3 F4 (upS M 8 0 (1 - bI (bbR S x ≠ -1)))) t9) (va_A (modelC ck mo (encZ S) F1 F2 F3 F4 M) sz)) 0 0 (va_A (modelC ck mo (encZ S) F1 F2 F3 F4 M) sz) := by
  refine Met.ofW (cc := cX9_benchByRent) (maxL := 5) (ret := (some .int)) (by decide) rfl ?_
  intro p e s m args below meth c s₁ B hml hv
  obtain ⟨rfl, hsz, hP, hK, hD0⟩ := hv
  have hx := B.exec
  have hb := B.bytes
  have hr := B.returns
  have hts := atoms_spec (ws := .code yX9_benchByRent cX9_benchByRent 5 (some .int) :: GW) B.pre
  have htg : ∀ w ∈ GW, w.before _ s = true := fun w h => hts w (List.mem_cons_of_mem _ h)
  have hown : s.vm.findClass RX9 = some m.cls := findClass_of_methodNamed B.named
  have hlocks := B.notSynchronized
  subst hsz
  have hD := hD0.self (sz := s.heap.size)
  generalize hAe : va_A (modelC ck mo (encZ S) F1 F2 F3 F4 M) s.heap.size = A at hD ⊢
  have hA : ∀ q : Nat, s.heap.size ≤ q → A q := fun q h => by rw [← hAe]; exact Or.inr h
  have hS : va_S A s.heap s.heap [] := va_S.rf
  have hP : va_P dg vwCl (modelC ck mo (encZ S) F1 F2 F3 F4 M) s.heap := hP
  have hl := lv_entry ([.ref (mo 0), .int (zI x)]) (n := 5) (Nat.le_of_ble_eq_true rfl)
  rw [lg_entry_eq]
  generalize (lg_sl ([.ref (mo 0), .int (zI x)]) ++ List.replicate (5 - (lg_sl ([.ref (mo 0), .int (zI x)])).length) Slot.unset).toArray = ls at hl ⊢
  have hl : lv_has ls 5 [(0, .ref (mo 0)), (1, .int (zI x))] := hl
  obtain ⟨b00, b01, b02, b03, b1, b2, b3, b4, b5, b6, b7, b8, b9, b10, b11, b12⟩ := id hI
  refine lv_aload_n hx hb dX9_benchByRent_0 rfl (lv_at hl 0 rfl) ?_
  refine x_iconst hx hb dX9_benchByRent_1 ?_
  refine va_put (D := dg) (ci := 11) (v := .int (zI 0)) (ty := .int) (C := RX9) (T := TX9) (N := 23) hx hb htg inG_X9 tyX9 tyX9_ok nmX9 hown hK hP hD hS 0 rfl rfl 0 (Nat.le_of_ble_eq_true rfl) (htg _ wq_1557) (fun _ h9 => h9) rfl (by decide +kernel) rfl rfl (Nat.le_of_ble_eq_true rfl) dX9_benchByRent_2 (fun H locs hP hD hS => ?_)
  have hP : va_P dg vwCl (modelC ck mo (encZ S) F1 F2 F3 F4 (upS M 8 0 0)) H := hP
  have hD : va_D A (modelC ck mo (encZ S) F1 F2 F3 F4 (upS M 8 0 0)) := hD
  refine x_iconst hx hb dX9_benchByRent_5 ?_
  refine lv_istore_n (lv' := [(2, .int (zI 0)), (0, .ref (mo 0)), (1, .int (zI x))]) hx hb dX9_benchByRent_6 rfl hl (by decide) rfl (fun ls hl => ?_)
  refine x_loopW (ι := Int) (fun v => (0 ≤ v ∧ v ≤ S 0 0) ∧ bbR S x = scan (fun a => bAhead S a = x) (S 0 0 - v).toNat v) (fun v => (S 0 0 - v).toNat) (fun v => [(0, .ref (mo 0)), (1, .int (zI x)), (2, .int (zI v))]) (fun v => modelC ck mo (encZ S) F1 F2 F3 F4 (upS M 8 0 0)) (0) (show (0 ≤ (0 : Int) ∧ (0 : Int) ≤ S 0 0) ∧ bbR S x = scan (fun a => bAhead S a = x) (S 0 0 - (0 : Int)).toNat (0 : Int) from ⟨by omega, rfl⟩) (lv_sub hl [1, 2, 0] rfl) hP hD hS ?_
  intro v hv ih_7 ls H locs hl hP hD hS
  obtain ⟨i, rfl⟩ : ∃ z : Int, z = v := ⟨_, rfl⟩
  have hl : lv_has ls 5 [(0, .ref (mo 0)), (1, .int (zI x)), (2, .int (zI i))] := hl
  have hv : (0 ≤ i ∧ i ≤ S 0 0) ∧ bbR S x = scan (fun a => bAhead S a = x) (S 0 0 - i).toNat i := hv
  have hP : va_P dg vwCl (modelC ck mo (encZ S) F1 F2 F3 F4 (upS M 8 0 0)) H := hP
  have hD : va_D A (modelC ck mo (encZ S) F1 F2 F3 F4 (upS M 8 0 0)) := hD
  obtain ⟨hi, hB⟩ := hv
  refine lv_iload_n hx hb dX9_benchByRent_7 rfl (lv_at hl 2 rfl) ?_
  refine lv_aload_n hx hb dX9_benchByRent_8 rfl (lv_at hl 0 rfl) ?_
  refine va_get (D := dg) (ci := 11) (v := .ref (mo 1)) (C := RX9) (T := TX9) (N := 23) hx hb htg inG_X9 hown hK hP 0 rfl rfl 1 (Nat.le_of_ble_eq_true rfl) (htg _ wq_1558) (fun _ h9 => h9) rfl dX9_benchByRent_9 ?_
  refine x_iconst hx hb dX9_benchByRent_12 ?_
  refine x_iald hx hb hK hP 1 0 (encZ S) rfl rfl (fun _ => rfl) (P := fun _ => True) (fun _ => trivial) (by decide) (by omega) dX9_benchByRent_13 (fun _ => ?_)
  refine x_is (show (encZ S) 0 = (S 0 0) from (encV (k := 0) (i := 0) (Or.inl ⟨rfl, by decide, by decide, rfl⟩)).trans (rfl)) ?_
  refine x_icmp_ge (tgt := 76) hx hb dX9_benchByRent_14 (by decide) (by omega) (by omega) (fun c14 => ?_) (fun c14 => ?_)
  · have hbm : bbR S x = -1 := by rw [hB]; exact scan_e (by omega)
    refine lv_aload_n hx hb dX9_benchByRent_76 rfl (lv_at hl 0 rfl) ?_
    refine x_iconst hx hb dX9_benchByRent_77 ?_
    refine x_calli (ws' := modelC ck mo (encZ S) F1 F2 F3 F4 (upS (upS M 8 0 0) 8 0 1)) [] (M := modelC ck mo (encZ S) F1 F2 F3 F4 (upS M 8 0 0)) (M' := modelC ck mo (encZ S) F1 F2 F3 F4 (upS (upS M 8 0 0) 8 0 1)) ([]) (List.append_nil _).symm (List.append_nil _).symm hP hD hS hA (fun hPm hDm => va_runV (As := [.int (zI 1)]) (rest := []) ⟨hx, hb, hml, hown, htg⟩ (m_fails l dg ck mo S F1 F2 F3 F4 (upS M 8 0 0) 1 _ ) (cwV 1 htg (gwV wq_1677 wq_1679 wp_40 wq_15 wq_1680) rfl rfl rfl (by decide +kernel) ⟨Nat.le_of_ble_eq_true rfl, Nat.le_of_ble_eq_true rfl⟩) (wr_preV hK hPm hDm 0 11 rfl rfl) rfl rfl hl.1 rfl (lv_room (Nat.le_of_ble_eq_true rfl)) dX9_benchByRent_78 ⟨Nat.zero_le _, Nat.zero_le _⟩) (fun r78 H locs hr78 hP hD hS => ?_)
    subst hr78
    have hEq : modelC ck mo (encZ S) F1 F2 F3 F4 (upS M 8 0 (1 - bI (bbR S x ≠ -1))) = modelC ck mo (encZ S) F1 F2 F3 F4 (upS (upS M 8 0 0) 8 0 1) := (by rw [bI_f (show ¬ bbR S x ≠ -1 by omega), upS_up] <;> rfl)
    exact W.iret (v := _) hx hb hr (fun t9 ht9 hW9 => ⟨⟨_, (), rfl, (by rw [itZ_f (show ¬ bbR S x ≠ -1 by omega)]), by rw [ht9, hEq]; exact hP, by rw [hEq, hAe]; exact hD⟩, hS.F ht9⟩) hS.2.2 dX9_benchByRent_81
  · refine x_iconst hx hb dX9_benchByRent_17 ?_
    refine lv_istore_n (lv' := [(3, .int (zI 0)), (0, .ref (mo 0)), (1, .int (zI x)), (2, .int (zI i))]) hx hb dX9_benchByRent_18 rfl hl (by decide) rfl (fun ls hl => ?_)
    refine x_iconst hx hb dX9_benchByRent_19 ?_
    refine lv_istore (lv' := [(4, .int (zI 0)), (3, .int (zI 0)), (0, .ref (mo 0)), (1, .int (zI x)), (2, .int (zI i))]) hx hb dX9_benchByRent_20 hl (by decide) rfl (fun ls hl => ?_)
    refine x_loopW (ι := Int × Int) (fun v => (0 ≤ v.2 ∧ v.2 ≤ S 0 0) ∧ v.1 = sumZ (fun o => bI (bFirst S o i)) v.2.toNat ∧ 0 ≤ v.1 ∧ v.1 ≤ v.2) (fun v => (S 0 0 - v.2).toNat) (fun v => [(0, .ref (mo 0)), (1, .int (zI x)), (2, .int (zI i)), (3, .int (zI v.1)), (4, .int (zI v.2))]) (fun v => modelC ck mo (encZ S) F1 F2 F3 F4 (upS M 8 0 0)) (0, 0) (show (0 ≤ (0 : Int) ∧ (0 : Int) ≤ S 0 0) ∧ (0 : Int) = sumZ (fun o => bI (bFirst S o i)) (0 : Int).toNat ∧ 0 ≤ (0 : Int) ∧ (0 : Int) ≤ (0 : Int) from ⟨by omega, rfl, by omega, by omega⟩) (lv_sub hl [2, 3, 4, 1, 0] rfl) hP hD hS ?_
    intro v hv ih_22 ls H locs hl hP hD hS
    obtain ⟨u, j⟩ := v
    have hl : lv_has ls 5 [(0, .ref (mo 0)), (1, .int (zI x)), (2, .int (zI i)), (3, .int (zI u)), (4, .int (zI j))] := hl
    have hv : (0 ≤ j ∧ j ≤ S 0 0) ∧ u = sumZ (fun o => bI (bFirst S o i)) j.toNat ∧ 0 ≤ u ∧ u ≤ j := hv
    have hP : va_P dg vwCl (modelC ck mo (encZ S) F1 F2 F3 F4 (upS M 8 0 0)) H := hP
    have hD : va_D A (modelC ck mo (encZ S) F1 F2 F3 F4 (upS M 8 0 0)) := hD
    obtain ⟨hj, hu, hu0, hu1⟩ := hv
    refine lv_iload hx hb dX9_benchByRent_22 (lv_at hl 4 rfl) ?_
    refine lv_aload_n hx hb dX9_benchByRent_24 rfl (lv_at hl 0 rfl) ?_
    refine va_get (D := dg) (ci := 11) (v := .ref (mo 1)) (C := RX9) (T := TX9) (N := 23) hx hb htg inG_X9 hown hK hP 0 rfl rfl 1 (Nat.le_of_ble_eq_true rfl) (htg _ wq_1558) (fun _ h9 => h9) rfl dX9_benchByRent_25 ?_
    refine x_iconst hx hb dX9_benchByRent_28 ?_
    refine x_iald hx hb hK hP 1 0 (encZ S) rfl rfl (fun _ => rfl) (P := fun _ => True) (fun _ => trivial) (by decide) (by omega) dX9_benchByRent_29 (fun _ => ?_)
    refine x_is (show (encZ S) 0 = (S 0 0) from (encV (k := 0) (i := 0) (Or.inl ⟨rfl, by decide, by decide, rfl⟩)).trans (rfl)) ?_
    refine x_icmp_ge (tgt := 63) hx hb dX9_benchByRent_30 (by decide) (by omega) (by omega) (fun c30 => ?_) (fun c30 => ?_)
    · have hah : bAhead S i = u := by rw [hu, show j = S 0 0 by omega]; rfl
      refine lv_iload_n hx hb dX9_benchByRent_63 rfl (lv_at hl 3 rfl) ?_
      refine lv_iload_n hx hb dX9_benchByRent_64 rfl (lv_at hl 1 rfl) ?_
      refine x_icmp_ne (tgt := 70) hx hb dX9_benchByRent_65 (by decide) (by omega) (by omega) (fun c65 => ?_) (fun c65 => ?_)
      · obtain ⟨v70, e_v70⟩ : ∃ y : Int, y = i + 1 := ⟨_, rfl⟩
        refine lv_iinc (v := zI v70) (lv' := [(2, .int (zI v70)), (0, .ref (mo 0)), (1, .int (zI x)), (3, .int (zI u)), (4, .int (zI j))]) hx hb dX9_benchByRent_70 hl (k := 2) rfl (by rw [e_v70]; exact zI_add _ _) (by decide) rfl (fun ls hl => ?_)
        refine lv_goto (tgt := 7) hx hb dX9_benchByRent_73 (by decide) ?_
        exact ih_7 (v70) (show (0 ≤ v70 ∧ v70 ≤ S 0 0) ∧ bbR S x = scan (fun a => bAhead S a = x) (S 0 0 - v70).toNat v70 from ⟨by omega, by rw [hB, scan_s (by omega), if_neg (by omega), e_v70]⟩) (show (S 0 0 - v70).toNat < (S 0 0 - i).toNat from by omega) ls H locs (lv_sub hl [1, 2, 0] rfl) hP hD hS
      · have hbi : bbR S x = i := by rw [hB, scan_s (by omega), if_pos (by omega)]
        refine lv_iload_n hx hb dX9_benchByRent_68 rfl (lv_at hl 2 rfl) ?_
        have hEq : modelC ck mo (encZ S) F1 F2 F3 F4 (upS M 8 0 (1 - bI (bbR S x ≠ -1))) = modelC ck mo (encZ S) F1 F2 F3 F4 (upS M 8 0 0) := (by rw [bI_t (show bbR S x ≠ -1 by omega)] <;> rfl)
        exact W.iret (v := _) hx hb hr (fun t9 ht9 hW9 => ⟨⟨_, (), rfl, (by rw [itZ_t (show bbR S x ≠ -1 by omega), hbi]), by rw [ht9, hEq]; exact hP, by rw [hEq, hAe]; exact hD⟩, hS.F ht9⟩) hS.2.2 dX9_benchByRent_69
    · refine lv_iload_n hx hb dX9_benchByRent_33 rfl (lv_at hl 3 rfl) ?_
      refine lv_iload hx hb dX9_benchByRent_34 (lv_at hl 4 rfl) ?_
      refine lv_iload_n hx hb dX9_benchByRent_36 rfl (lv_at hl 2 rfl) ?_
      refine x_icmp_eq (tgt := 54) hx hb dX9_benchByRent_37 (by decide) (by omega) (by omega) (fun c37 => ?_) (fun c37 => ?_)
      · refine x_iconst hx hb dX9_benchByRent_54 ?_
        refine x_iadd hx hb dX9_benchByRent_55 ?_
        refine x_top _ (fun v56 e_v56 => ?_)
        refine lv_istore_n (lv' := [(3, .int (zI v56)), (0, .ref (mo 0)), (1, .int (zI x)), (2, .int (zI i)), (4, .int (zI j))]) hx hb dX9_benchByRent_56 rfl hl (by decide) rfl (fun ls hl => ?_)
        obtain ⟨v57, e_v57⟩ : ∃ y : Int, y = j + 1 := ⟨_, rfl⟩
        refine lv_iinc (v := zI v57) (lv' := [(4, .int (zI v57)), (3, .int (zI v56)), (0, .ref (mo 0)), (1, .int (zI x)), (2, .int (zI i))]) hx hb dX9_benchByRent_57 hl (k := 4) rfl (by rw [e_v57]; exact zI_add _ _) (by decide) rfl (fun ls hl => ?_)
        refine lv_goto (tgt := 22) hx hb dX9_benchByRent_60 (by decide) ?_
        exact ih_22 (v56, v57) (show (0 ≤ v57 ∧ v57 ≤ S 0 0) ∧ v56 = sumZ (fun o => bI (bFirst S o i)) v57.toNat ∧ 0 ≤ v56 ∧ v56 ≤ v57 from (by have hz : u + bI (bFirst S j i) = sumZ (fun o => bI (bFirst S o i)) (j + 1).toNat := (by rw [sumZ_s hj.1, ← hu]); first | (rw [bI_t c47] at hz; exact ⟨by omega, by rw [e_v57, ← hz]; omega, by omega, by omega⟩) | (rw [bI_f c47] at hz; exact ⟨by omega, by rw [e_v57, ← hz]; omega, by omega, by omega⟩) | (rw [show j = i from c37, bI_f (bF_irr S i)] at hz; exact ⟨by omega, by rw [e_v57, show j = i from c37, ← hz]; omega, by omega, by omega⟩))) (show (S 0 0 - v57).toNat < (S 0 0 - j).toNat from by omega) ls H locs (lv_sub hl [2, 3, 4, 1, 0] rfl) hP hD hS
      · refine lv_aload_n hx hb dX9_benchByRent_40 rfl (lv_at hl 0 rfl) ?_
        refine lv_iload hx hb dX9_benchByRent_41 (lv_at hl 4 rfl) ?_
        refine lv_iload_n hx hb dX9_benchByRent_43 rfl (lv_at hl 2 rfl) ?_
        refine vp_callSi (W.runV (As := [.int (zI j), .int (zI i)]) (rest := [.int (zI u)]) ⟨hx, hb, hml, hown, htg⟩ (m_isCheaper l dg ck mo S F1 F2 F3 F4 (upS M 8 0 0) j i hI (by omega) (by omega)) (cwV 2 htg (gwV wq_1982 wq_1984 wp_69 wq_15 wq_1985) rfl rfl rfl (by decide +kernel) ⟨Nat.le_of_ble_eq_true rfl, Nat.le_of_ble_eq_true rfl⟩) (rd_preV hK hP 0 11 rfl rfl) rfl rfl hl.1 rfl (lv_room (Nat.le_of_ble_eq_true rfl)) dX9_benchByRent_44 ⟨Nat.zero_le _, Nat.zero_le _⟩) (fun r44 hr44 => ?_)
        subst hr44
        refine x_bz_eq (tgt := 54) hx hb dX9_benchByRent_47 (by decide) (fun c47 => ?_) (fun c47 => ?_)
        · refine x_iconst hx hb dX9_benchByRent_54 ?_
          refine x_iadd hx hb dX9_benchByRent_55 ?_
          refine x_top _ (fun v56 e_v56 => ?_)
          refine lv_istore_n (lv' := [(3, .int (zI v56)), (0, .ref (mo 0)), (1, .int (zI x)), (2, .int (zI i)), (4, .int (zI j))]) hx hb dX9_benchByRent_56 rfl hl (by decide) rfl (fun ls hl => ?_)
          obtain ⟨v57, e_v57⟩ : ∃ y : Int, y = j + 1 := ⟨_, rfl⟩
          refine lv_iinc (v := zI v57) (lv' := [(4, .int (zI v57)), (3, .int (zI v56)), (0, .ref (mo 0)), (1, .int (zI x)), (2, .int (zI i))]) hx hb dX9_benchByRent_57 hl (k := 4) rfl (by rw [e_v57]; exact zI_add _ _) (by decide) rfl (fun ls hl => ?_)
          refine lv_goto (tgt := 22) hx hb dX9_benchByRent_60 (by decide) ?_
          exact ih_22 (v56, v57) (show (0 ≤ v57 ∧ v57 ≤ S 0 0) ∧ v56 = sumZ (fun o => bI (bFirst S o i)) v57.toNat ∧ 0 ≤ v56 ∧ v56 ≤ v57 from (by have hz : u + bI (bFirst S j i) = sumZ (fun o => bI (bFirst S o i)) (j + 1).toNat := (by rw [sumZ_s hj.1, ← hu]); first | (rw [bI_t c47] at hz; exact ⟨by omega, by rw [e_v57, ← hz]; omega, by omega, by omega⟩) | (rw [bI_f c47] at hz; exact ⟨by omega, by rw [e_v57, ← hz]; omega, by omega, by omega⟩) | (rw [show j = i from c37, bI_f (bF_irr S i)] at hz; exact ⟨by omega, by rw [e_v57, show j = i from c37, ← hz]; omega, by omega, by omega⟩))) (show (S 0 0 - v57).toNat < (S 0 0 - j).toNat from by omega) ls H locs (lv_sub hl [2, 3, 4, 1, 0] rfl) hP hD hS
        · refine x_iconst hx hb dX9_benchByRent_50 ?_
          refine lv_goto (tgt := 55) hx hb dX9_benchByRent_51 (by decide) ?_
          refine x_iadd hx hb dX9_benchByRent_55 ?_
          refine x_top _ (fun v56 e_v56 => ?_)
          refine lv_istore_n (lv' := [(3, .int (zI v56)), (0, .ref (mo 0)), (1, .int (zI x)), (2, .int (zI i)), (4, .int (zI j))]) hx hb dX9_benchByRent_56 rfl hl (by decide) rfl (fun ls hl => ?_)
          obtain ⟨v57, e_v57⟩ : ∃ y : Int, y = j + 1 := ⟨_, rfl⟩
          refine lv_iinc (v := zI v57) (lv' := [(4, .int (zI v57)), (3, .int (zI v56)), (0, .ref (mo 0)), (1, .int (zI x)), (2, .int (zI i))]) hx hb dX9_benchByRent_57 hl (k := 4) rfl (by rw [e_v57]; exact zI_add _ _) (by decide) rfl (fun ls hl => ?_)
          refine lv_goto (tgt := 22) hx hb dX9_benchByRent_60 (by decide) ?_
          exact ih_22 (v56, v57) (show (0 ≤ v57 ∧ v57 ≤ S 0 0) ∧ v56 = sumZ (fun o => bI (bFirst S o i)) v57.toNat ∧ 0 ≤ v56 ∧ v56 ≤ v57 from (by have hz : u + bI (bFirst S j i) = sumZ (fun o => bI (bFirst S o i)) (j + 1).toNat := (by rw [sumZ_s hj.1, ← hu]); first | (rw [bI_t c47] at hz; exact ⟨by omega, by rw [e_v57, ← hz]; omega, by omega, by omega⟩) | (rw [bI_f c47] at hz; exact ⟨by omega, by rw [e_v57, ← hz]; omega, by omega, by omega⟩) | (rw [show j = i from c37, bI_f (bF_irr S i)] at hz; exact ⟨by omega, by rw [e_v57, show j = i from c37, ← hz]; omega, by omega, by omega⟩))) (show (S 0 0 - v57).toNat < (S 0 0 - j).toNat from by omega) ls H locs (lv_sub hl [2, 3, 4, 1, 0] rfl) hP hD hS

set_option maxHeartbeats 4000000 in
set_option maxRecDepth 100000 in
/-- BenchBrokerModel.tenantByCoins -/
theorem m_tenantByCoins (l : Launch) (dg : va_G) (ck : Nat → ClassId) (mo : Nat → Nat) (S : St) (F1 F2 F3 F4 : Int → Int) (M : St) (x : Int) (sz : Nat) (hI : Bd S) (rg_x : -2147483648 ≤ x ∧ x < 2147483648) : Met l yX9_tenantByCoins (.code yX9_tenantByCoins cX9_tenantByCoins 5 (some .int) :: GW) ({ frames := 2, cells := 0, slots := 0, locals := 44 }) (va_Pc [.ref (mo 0), .int (zI x)] (wrP dg ck sz (modelC ck mo (encZ S) F1 F2 F3 F4 M))) (va_Qi (fun r (_ : Unit) => r = zI (itZ (tbC S x ≠ -1) (tbC S x))) (fun _ t9 => wrQ dg sz (modelC ck mo (encZ S) F1 F2 F3 F4 M) (modelC ck mo (encZ S) F1 F2 F3 F4 (upS M 8 0 (1 - bI (tbC S x ≠ -1)))) t9) (va_A (modelC ck mo (encZ S) F1 F2 F3 F4 M) sz)) 0 0 (va_A (modelC ck mo (encZ S) F1 F2 F3 F4 M) sz) := by
  refine Met.ofW (cc := cX9_tenantByCoins) (maxL := 5) (ret := (some .int)) (by decide) rfl ?_
  intro p e s m args below meth c s₁ B hml hv
  obtain ⟨rfl, hsz, hP, hK, hD0⟩ := hv
  have hx := B.exec
  have hb := B.bytes
  have hr := B.returns
  have hts := atoms_spec (ws := .code yX9_tenantByCoins cX9_tenantByCoins 5 (some .int) :: GW) B.pre
  have htg : ∀ w ∈ GW, w.before _ s = true := fun w h => hts w (List.mem_cons_of_mem _ h)
  have hown : s.vm.findClass RX9 = some m.cls := findClass_of_methodNamed B.named
  have hlocks := B.notSynchronized
  subst hsz
  have hD := hD0.self (sz := s.heap.size)
  generalize hAe : va_A (modelC ck mo (encZ S) F1 F2 F3 F4 M) s.heap.size = A at hD ⊢
  have hA : ∀ q : Nat, s.heap.size ≤ q → A q := fun q h => by rw [← hAe]; exact Or.inr h
  have hS : va_S A s.heap s.heap [] := va_S.rf
  have hP : va_P dg vwCl (modelC ck mo (encZ S) F1 F2 F3 F4 M) s.heap := hP
  have hl := lv_entry ([.ref (mo 0), .int (zI x)]) (n := 5) (Nat.le_of_ble_eq_true rfl)
  rw [lg_entry_eq]
  generalize (lg_sl ([.ref (mo 0), .int (zI x)]) ++ List.replicate (5 - (lg_sl ([.ref (mo 0), .int (zI x)])).length) Slot.unset).toArray = ls at hl ⊢
  have hl : lv_has ls 5 [(0, .ref (mo 0)), (1, .int (zI x))] := hl
  obtain ⟨b00, b01, b02, b03, b1, b2, b3, b4, b5, b6, b7, b8, b9, b10, b11, b12⟩ := id hI
  refine lv_aload_n hx hb dX9_tenantByCoins_0 rfl (lv_at hl 0 rfl) ?_
  refine x_iconst hx hb dX9_tenantByCoins_1 ?_
  refine va_put (D := dg) (ci := 11) (v := .int (zI 0)) (ty := .int) (C := RX9) (T := TX9) (N := 23) hx hb htg inG_X9 tyX9 tyX9_ok nmX9 hown hK hP hD hS 0 rfl rfl 0 (Nat.le_of_ble_eq_true rfl) (htg _ wq_1557) (fun _ h9 => h9) rfl (by decide +kernel) rfl rfl (Nat.le_of_ble_eq_true rfl) dX9_tenantByCoins_2 (fun H locs hP hD hS => ?_)
  have hP : va_P dg vwCl (modelC ck mo (encZ S) F1 F2 F3 F4 (upS M 8 0 0)) H := hP
  have hD : va_D A (modelC ck mo (encZ S) F1 F2 F3 F4 (upS M 8 0 0)) := hD
  refine x_iconst hx hb dX9_tenantByCoins_5 ?_
  refine lv_istore_n (lv' := [(2, .int (zI 0)), (0, .ref (mo 0)), (1, .int (zI x))]) hx hb dX9_tenantByCoins_6 rfl hl (by decide) rfl (fun ls hl => ?_)
  refine x_loopW (ι := Int) (fun v => (0 ≤ v ∧ v ≤ S 0 2) ∧ tbC S x = scan (fun a => tAhead S a = x) (S 0 2 - v).toNat v) (fun v => (S 0 2 - v).toNat) (fun v => [(0, .ref (mo 0)), (1, .int (zI x)), (2, .int (zI v))]) (fun v => modelC ck mo (encZ S) F1 F2 F3 F4 (upS M 8 0 0)) (0) (show (0 ≤ (0 : Int) ∧ (0 : Int) ≤ S 0 2) ∧ tbC S x = scan (fun a => tAhead S a = x) (S 0 2 - (0 : Int)).toNat (0 : Int) from ⟨by omega, rfl⟩) (lv_sub hl [1, 2, 0] rfl) hP hD hS ?_
  intro v hv ih_7 ls H locs hl hP hD hS
  obtain ⟨i, rfl⟩ : ∃ z : Int, z = v := ⟨_, rfl⟩
  have hl : lv_has ls 5 [(0, .ref (mo 0)), (1, .int (zI x)), (2, .int (zI i))] := hl
  have hv : (0 ≤ i ∧ i ≤ S 0 2) ∧ tbC S x = scan (fun a => tAhead S a = x) (S 0 2 - i).toNat i := hv
  have hP : va_P dg vwCl (modelC ck mo (encZ S) F1 F2 F3 F4 (upS M 8 0 0)) H := hP
  have hD : va_D A (modelC ck mo (encZ S) F1 F2 F3 F4 (upS M 8 0 0)) := hD
  obtain ⟨hi, hB⟩ := hv
  refine lv_iload_n hx hb dX9_tenantByCoins_7 rfl (lv_at hl 2 rfl) ?_
  refine lv_aload_n hx hb dX9_tenantByCoins_8 rfl (lv_at hl 0 rfl) ?_
  refine va_get (D := dg) (ci := 11) (v := .ref (mo 1)) (C := RX9) (T := TX9) (N := 23) hx hb htg inG_X9 hown hK hP 0 rfl rfl 1 (Nat.le_of_ble_eq_true rfl) (htg _ wq_1558) (fun _ h9 => h9) rfl dX9_tenantByCoins_9 ?_
  refine x_iconst hx hb dX9_tenantByCoins_12 ?_
  refine x_iald hx hb hK hP 1 0 (encZ S) rfl rfl (fun _ => rfl) (P := fun _ => True) (fun _ => trivial) (by decide) (by omega) dX9_tenantByCoins_13 (fun _ => ?_)
  refine x_is (show (encZ S) 2 = (S 0 2) from (encV (k := 0) (i := 2) (Or.inl ⟨rfl, by decide, by decide, rfl⟩)).trans (rfl)) ?_
  refine x_icmp_ge (tgt := 76) hx hb dX9_tenantByCoins_14 (by decide) (by omega) (by omega) (fun c14 => ?_) (fun c14 => ?_)
  · have hbm : tbC S x = -1 := by rw [hB]; exact scan_e (by omega)
    refine lv_aload_n hx hb dX9_tenantByCoins_76 rfl (lv_at hl 0 rfl) ?_
    refine x_iconst hx hb dX9_tenantByCoins_77 ?_
    refine x_calli (ws' := modelC ck mo (encZ S) F1 F2 F3 F4 (upS (upS M 8 0 0) 8 0 1)) [] (M := modelC ck mo (encZ S) F1 F2 F3 F4 (upS M 8 0 0)) (M' := modelC ck mo (encZ S) F1 F2 F3 F4 (upS (upS M 8 0 0) 8 0 1)) ([]) (List.append_nil _).symm (List.append_nil _).symm hP hD hS hA (fun hPm hDm => va_runV (As := [.int (zI 1)]) (rest := []) ⟨hx, hb, hml, hown, htg⟩ (m_fails l dg ck mo S F1 F2 F3 F4 (upS M 8 0 0) 1 _ ) (cwV 1 htg (gwV wq_1677 wq_1679 wp_40 wq_15 wq_1680) rfl rfl rfl (by decide +kernel) ⟨Nat.le_of_ble_eq_true rfl, Nat.le_of_ble_eq_true rfl⟩) (wr_preV hK hPm hDm 0 11 rfl rfl) rfl rfl hl.1 rfl (lv_room (Nat.le_of_ble_eq_true rfl)) dX9_tenantByCoins_78 ⟨Nat.zero_le _, Nat.zero_le _⟩) (fun r78 H locs hr78 hP hD hS => ?_)
    subst hr78
    have hEq : modelC ck mo (encZ S) F1 F2 F3 F4 (upS M 8 0 (1 - bI (tbC S x ≠ -1))) = modelC ck mo (encZ S) F1 F2 F3 F4 (upS (upS M 8 0 0) 8 0 1) := (by rw [bI_f (show ¬ tbC S x ≠ -1 by omega), upS_up] <;> rfl)
    exact W.iret (v := _) hx hb hr (fun t9 ht9 hW9 => ⟨⟨_, (), rfl, (by rw [itZ_f (show ¬ tbC S x ≠ -1 by omega)]), by rw [ht9, hEq]; exact hP, by rw [hEq, hAe]; exact hD⟩, hS.F ht9⟩) hS.2.2 dX9_tenantByCoins_81
  · refine x_iconst hx hb dX9_tenantByCoins_17 ?_
    refine lv_istore_n (lv' := [(3, .int (zI 0)), (0, .ref (mo 0)), (1, .int (zI x)), (2, .int (zI i))]) hx hb dX9_tenantByCoins_18 rfl hl (by decide) rfl (fun ls hl => ?_)
    refine x_iconst hx hb dX9_tenantByCoins_19 ?_
    refine lv_istore (lv' := [(4, .int (zI 0)), (3, .int (zI 0)), (0, .ref (mo 0)), (1, .int (zI x)), (2, .int (zI i))]) hx hb dX9_tenantByCoins_20 hl (by decide) rfl (fun ls hl => ?_)
    refine x_loopW (ι := Int × Int) (fun v => (0 ≤ v.2 ∧ v.2 ≤ S 0 2) ∧ v.1 = sumZ (fun o => bI (tFirst S o i)) v.2.toNat ∧ 0 ≤ v.1 ∧ v.1 ≤ v.2) (fun v => (S 0 2 - v.2).toNat) (fun v => [(0, .ref (mo 0)), (1, .int (zI x)), (2, .int (zI i)), (3, .int (zI v.1)), (4, .int (zI v.2))]) (fun v => modelC ck mo (encZ S) F1 F2 F3 F4 (upS M 8 0 0)) (0, 0) (show (0 ≤ (0 : Int) ∧ (0 : Int) ≤ S 0 2) ∧ (0 : Int) = sumZ (fun o => bI (tFirst S o i)) (0 : Int).toNat ∧ 0 ≤ (0 : Int) ∧ (0 : Int) ≤ (0 : Int) from ⟨by omega, rfl, by omega, by omega⟩) (lv_sub hl [2, 3, 4, 1, 0] rfl) hP hD hS ?_
    intro v hv ih_22 ls H locs hl hP hD hS
    obtain ⟨u, j⟩ := v
    have hl : lv_has ls 5 [(0, .ref (mo 0)), (1, .int (zI x)), (2, .int (zI i)), (3, .int (zI u)), (4, .int (zI j))] := hl
    have hv : (0 ≤ j ∧ j ≤ S 0 2) ∧ u = sumZ (fun o => bI (tFirst S o i)) j.toNat ∧ 0 ≤ u ∧ u ≤ j := hv
    have hP : va_P dg vwCl (modelC ck mo (encZ S) F1 F2 F3 F4 (upS M 8 0 0)) H := hP
    have hD : va_D A (modelC ck mo (encZ S) F1 F2 F3 F4 (upS M 8 0 0)) := hD
    obtain ⟨hj, hu, hu0, hu1⟩ := hv
    refine lv_iload hx hb dX9_tenantByCoins_22 (lv_at hl 4 rfl) ?_
    refine lv_aload_n hx hb dX9_tenantByCoins_24 rfl (lv_at hl 0 rfl) ?_
    refine va_get (D := dg) (ci := 11) (v := .ref (mo 1)) (C := RX9) (T := TX9) (N := 23) hx hb htg inG_X9 hown hK hP 0 rfl rfl 1 (Nat.le_of_ble_eq_true rfl) (htg _ wq_1558) (fun _ h9 => h9) rfl dX9_tenantByCoins_25 ?_
    refine x_iconst hx hb dX9_tenantByCoins_28 ?_
    refine x_iald hx hb hK hP 1 0 (encZ S) rfl rfl (fun _ => rfl) (P := fun _ => True) (fun _ => trivial) (by decide) (by omega) dX9_tenantByCoins_29 (fun _ => ?_)
    refine x_is (show (encZ S) 2 = (S 0 2) from (encV (k := 0) (i := 2) (Or.inl ⟨rfl, by decide, by decide, rfl⟩)).trans (rfl)) ?_
    refine x_icmp_ge (tgt := 63) hx hb dX9_tenantByCoins_30 (by decide) (by omega) (by omega) (fun c30 => ?_) (fun c30 => ?_)
    · have hah : tAhead S i = u := by rw [hu, show j = S 0 2 by omega]; rfl
      refine lv_iload_n hx hb dX9_tenantByCoins_63 rfl (lv_at hl 3 rfl) ?_
      refine lv_iload_n hx hb dX9_tenantByCoins_64 rfl (lv_at hl 1 rfl) ?_
      refine x_icmp_ne (tgt := 70) hx hb dX9_tenantByCoins_65 (by decide) (by omega) (by omega) (fun c65 => ?_) (fun c65 => ?_)
      · obtain ⟨v70, e_v70⟩ : ∃ y : Int, y = i + 1 := ⟨_, rfl⟩
        refine lv_iinc (v := zI v70) (lv' := [(2, .int (zI v70)), (0, .ref (mo 0)), (1, .int (zI x)), (3, .int (zI u)), (4, .int (zI j))]) hx hb dX9_tenantByCoins_70 hl (k := 2) rfl (by rw [e_v70]; exact zI_add _ _) (by decide) rfl (fun ls hl => ?_)
        refine lv_goto (tgt := 7) hx hb dX9_tenantByCoins_73 (by decide) ?_
        exact ih_7 (v70) (show (0 ≤ v70 ∧ v70 ≤ S 0 2) ∧ tbC S x = scan (fun a => tAhead S a = x) (S 0 2 - v70).toNat v70 from ⟨by omega, by rw [hB, scan_s (by omega), if_neg (by omega), e_v70]⟩) (show (S 0 2 - v70).toNat < (S 0 2 - i).toNat from by omega) ls H locs (lv_sub hl [1, 2, 0] rfl) hP hD hS
      · have hbi : tbC S x = i := by rw [hB, scan_s (by omega), if_pos (by omega)]
        refine lv_iload_n hx hb dX9_tenantByCoins_68 rfl (lv_at hl 2 rfl) ?_
        have hEq : modelC ck mo (encZ S) F1 F2 F3 F4 (upS M 8 0 (1 - bI (tbC S x ≠ -1))) = modelC ck mo (encZ S) F1 F2 F3 F4 (upS M 8 0 0) := (by rw [bI_t (show tbC S x ≠ -1 by omega)] <;> rfl)
        exact W.iret (v := _) hx hb hr (fun t9 ht9 hW9 => ⟨⟨_, (), rfl, (by rw [itZ_t (show tbC S x ≠ -1 by omega), hbi]), by rw [ht9, hEq]; exact hP, by rw [hEq, hAe]; exact hD⟩, hS.F ht9⟩) hS.2.2 dX9_tenantByCoins_69
    · refine lv_iload_n hx hb dX9_tenantByCoins_33 rfl (lv_at hl 3 rfl) ?_
      refine lv_iload hx hb dX9_tenantByCoins_34 (lv_at hl 4 rfl) ?_
      refine lv_iload_n hx hb dX9_tenantByCoins_36 rfl (lv_at hl 2 rfl) ?_
      refine x_icmp_eq (tgt := 54) hx hb dX9_tenantByCoins_37 (by decide) (by omega) (by omega) (fun c37 => ?_) (fun c37 => ?_)
      · refine x_iconst hx hb dX9_tenantByCoins_54 ?_
        refine x_iadd hx hb dX9_tenantByCoins_55 ?_
        refine x_top _ (fun v56 e_v56 => ?_)
        refine lv_istore_n (lv' := [(3, .int (zI v56)), (0, .ref (mo 0)), (1, .int (zI x)), (2, .int (zI i)), (4, .int (zI j))]) hx hb dX9_tenantByCoins_56 rfl hl (by decide) rfl (fun ls hl => ?_)
        obtain ⟨v57, e_v57⟩ : ∃ y : Int, y = j + 1 := ⟨_, rfl⟩
        refine lv_iinc (v := zI v57) (lv' := [(4, .int (zI v57)), (3, .int (zI v56)), (0, .ref (mo 0)), (1, .int (zI x)), (2, .int (zI i))]) hx hb dX9_tenantByCoins_57 hl (k := 4) rfl (by rw [e_v57]; exact zI_add _ _) (by decide) rfl (fun ls hl => ?_)
        refine lv_goto (tgt := 22) hx hb dX9_tenantByCoins_60 (by decide) ?_
        exact ih_22 (v56, v57) (show (0 ≤ v57 ∧ v57 ≤ S 0 2) ∧ v56 = sumZ (fun o => bI (tFirst S o i)) v57.toNat ∧ 0 ≤ v56 ∧ v56 ≤ v57 from (by have hz : u + bI (tFirst S j i) = sumZ (fun o => bI (tFirst S o i)) (j + 1).toNat := (by rw [sumZ_s hj.1, ← hu]); first | (rw [bI_t c47] at hz; exact ⟨by omega, by rw [e_v57, ← hz]; omega, by omega, by omega⟩) | (rw [bI_f c47] at hz; exact ⟨by omega, by rw [e_v57, ← hz]; omega, by omega, by omega⟩) | (rw [show j = i from c37, bI_f (tF_irr S i)] at hz; exact ⟨by omega, by rw [e_v57, show j = i from c37, ← hz]; omega, by omega, by omega⟩))) (show (S 0 2 - v57).toNat < (S 0 2 - j).toNat from by omega) ls H locs (lv_sub hl [2, 3, 4, 1, 0] rfl) hP hD hS
      · refine lv_aload_n hx hb dX9_tenantByCoins_40 rfl (lv_at hl 0 rfl) ?_
        refine lv_iload hx hb dX9_tenantByCoins_41 (lv_at hl 4 rfl) ?_
        refine lv_iload_n hx hb dX9_tenantByCoins_43 rfl (lv_at hl 2 rfl) ?_
        refine vp_callSi (W.runV (As := [.int (zI j), .int (zI i)]) (rest := [.int (zI u)]) ⟨hx, hb, hml, hown, htg⟩ (m_isRicher l dg ck mo S F1 F2 F3 F4 (upS M 8 0 0) j i hI (by omega) (by omega)) (cwV 2 htg (gwV wq_1990 wq_1992 wp_70 wq_15 wq_1993) rfl rfl rfl (by decide +kernel) ⟨Nat.le_of_ble_eq_true rfl, Nat.le_of_ble_eq_true rfl⟩) (rd_preV hK hP 0 11 rfl rfl) rfl rfl hl.1 rfl (lv_room (Nat.le_of_ble_eq_true rfl)) dX9_tenantByCoins_44 ⟨Nat.zero_le _, Nat.zero_le _⟩) (fun r44 hr44 => ?_)
        subst hr44
        refine x_bz_eq (tgt := 54) hx hb dX9_tenantByCoins_47 (by decide) (fun c47 => ?_) (fun c47 => ?_)
        · refine x_iconst hx hb dX9_tenantByCoins_54 ?_
          refine x_iadd hx hb dX9_tenantByCoins_55 ?_
          refine x_top _ (fun v56 e_v56 => ?_)
          refine lv_istore_n (lv' := [(3, .int (zI v56)), (0, .ref (mo 0)), (1, .int (zI x)), (2, .int (zI i)), (4, .int (zI j))]) hx hb dX9_tenantByCoins_56 rfl hl (by decide) rfl (fun ls hl => ?_)
          obtain ⟨v57, e_v57⟩ : ∃ y : Int, y = j + 1 := ⟨_, rfl⟩
          refine lv_iinc (v := zI v57) (lv' := [(4, .int (zI v57)), (3, .int (zI v56)), (0, .ref (mo 0)), (1, .int (zI x)), (2, .int (zI i))]) hx hb dX9_tenantByCoins_57 hl (k := 4) rfl (by rw [e_v57]; exact zI_add _ _) (by decide) rfl (fun ls hl => ?_)
          refine lv_goto (tgt := 22) hx hb dX9_tenantByCoins_60 (by decide) ?_
          exact ih_22 (v56, v57) (show (0 ≤ v57 ∧ v57 ≤ S 0 2) ∧ v56 = sumZ (fun o => bI (tFirst S o i)) v57.toNat ∧ 0 ≤ v56 ∧ v56 ≤ v57 from (by have hz : u + bI (tFirst S j i) = sumZ (fun o => bI (tFirst S o i)) (j + 1).toNat := (by rw [sumZ_s hj.1, ← hu]); first | (rw [bI_t c47] at hz; exact ⟨by omega, by rw [e_v57, ← hz]; omega, by omega, by omega⟩) | (rw [bI_f c47] at hz; exact ⟨by omega, by rw [e_v57, ← hz]; omega, by omega, by omega⟩) | (rw [show j = i from c37, bI_f (tF_irr S i)] at hz; exact ⟨by omega, by rw [e_v57, show j = i from c37, ← hz]; omega, by omega, by omega⟩))) (show (S 0 2 - v57).toNat < (S 0 2 - j).toNat from by omega) ls H locs (lv_sub hl [2, 3, 4, 1, 0] rfl) hP hD hS
        · refine x_iconst hx hb dX9_tenantByCoins_50 ?_
          refine lv_goto (tgt := 55) hx hb dX9_tenantByCoins_51 (by decide) ?_
          refine x_iadd hx hb dX9_tenantByCoins_55 ?_
          refine x_top _ (fun v56 e_v56 => ?_)
          refine lv_istore_n (lv' := [(3, .int (zI v56)), (0, .ref (mo 0)), (1, .int (zI x)), (2, .int (zI i)), (4, .int (zI j))]) hx hb dX9_tenantByCoins_56 rfl hl (by decide) rfl (fun ls hl => ?_)
          obtain ⟨v57, e_v57⟩ : ∃ y : Int, y = j + 1 := ⟨_, rfl⟩
          refine lv_iinc (v := zI v57) (lv' := [(4, .int (zI v57)), (3, .int (zI v56)), (0, .ref (mo 0)), (1, .int (zI x)), (2, .int (zI i))]) hx hb dX9_tenantByCoins_57 hl (k := 4) rfl (by rw [e_v57]; exact zI_add _ _) (by decide) rfl (fun ls hl => ?_)
          refine lv_goto (tgt := 22) hx hb dX9_tenantByCoins_60 (by decide) ?_
          exact ih_22 (v56, v57) (show (0 ≤ v57 ∧ v57 ≤ S 0 2) ∧ v56 = sumZ (fun o => bI (tFirst S o i)) v57.toNat ∧ 0 ≤ v56 ∧ v56 ≤ v57 from (by have hz : u + bI (tFirst S j i) = sumZ (fun o => bI (tFirst S o i)) (j + 1).toNat := (by rw [sumZ_s hj.1, ← hu]); first | (rw [bI_t c47] at hz; exact ⟨by omega, by rw [e_v57, ← hz]; omega, by omega, by omega⟩) | (rw [bI_f c47] at hz; exact ⟨by omega, by rw [e_v57, ← hz]; omega, by omega, by omega⟩) | (rw [show j = i from c37, bI_f (tF_irr S i)] at hz; exact ⟨by omega, by rw [e_v57, show j = i from c37, ← hz]; omega, by omega, by omega⟩))) (show (S 0 2 - v57).toNat < (S 0 2 - j).toNat from by omega) ls H locs (lv_sub hl [2, 3, 4, 1, 0] rfl) hP hD hS

set_option maxHeartbeats 4000000 in
set_option maxRecDepth 100000 in
/-- BenchBrokerModel.isConsistent -/
theorem m_isConsistent (l : Launch) (dg : va_G) (ck : Nat → ClassId) (mo : Nat → Nat) (S : St) (F1 F2 F3 F4 : Int → Int) (M : St) (sz : Nat) (hI : Bd S)  : Met l yX9_isConsistent (.code yX9_isConsistent cX9_isConsistent 1 (some .boolean) :: GW) ({ frames := 0, cells := 0, slots := 0, locals := 0 }) (va_Pc [.ref (mo 0)] (wrP dg ck sz (modelC ck mo (encZ S) F1 F2 F3 F4 M))) (va_Qi (fun r (_ : Unit) => r = zI (bI (True))) (fun _ t9 => wrQ dg sz (modelC ck mo (encZ S) F1 F2 F3 F4 M) (modelC ck mo (encZ S) F1 F2 F3 F4 (upS M 8 0 0)) t9) (va_A (modelC ck mo (encZ S) F1 F2 F3 F4 M) sz)) 0 0 (va_A (modelC ck mo (encZ S) F1 F2 F3 F4 M) sz) := by
  refine Met.ofW (cc := cX9_isConsistent) (maxL := 1) (ret := (some .boolean)) (by decide) rfl ?_
  intro p e s m args below meth c s₁ B hml hv
  obtain ⟨rfl, hsz, hP, hK, hD0⟩ := hv
  have hx := B.exec
  have hb := B.bytes
  have hr := B.returns
  have hts := atoms_spec (ws := .code yX9_isConsistent cX9_isConsistent 1 (some .boolean) :: GW) B.pre
  have htg : ∀ w ∈ GW, w.before _ s = true := fun w h => hts w (List.mem_cons_of_mem _ h)
  have hown : s.vm.findClass RX9 = some m.cls := findClass_of_methodNamed B.named
  have hlocks := B.notSynchronized
  subst hsz
  have hD := hD0.self (sz := s.heap.size)
  generalize hAe : va_A (modelC ck mo (encZ S) F1 F2 F3 F4 M) s.heap.size = A at hD ⊢
  have hA : ∀ q : Nat, s.heap.size ≤ q → A q := fun q h => by rw [← hAe]; exact Or.inr h
  have hS : va_S A s.heap s.heap [] := va_S.rf
  have hP : va_P dg vwCl (modelC ck mo (encZ S) F1 F2 F3 F4 M) s.heap := hP
  have hl := lv_entry ([.ref (mo 0)]) (n := 1) (Nat.le_of_ble_eq_true rfl)
  rw [lg_entry_eq]
  generalize (lg_sl ([.ref (mo 0)]) ++ List.replicate (1 - (lg_sl ([.ref (mo 0)])).length) Slot.unset).toArray = ls at hl ⊢
  have hl : lv_has ls 1 [(0, .ref (mo 0))] := hl
  obtain ⟨b00, b01, b02, b03, b1, b2, b3, b4, b5, b6, b7, b8, b9, b10, b11, b12⟩ := id hI
  refine lv_aload_n hx hb dX9_isConsistent_0 rfl (lv_at hl 0 rfl) ?_
  refine x_iconst hx hb dX9_isConsistent_1 ?_
  refine va_put (D := dg) (ci := 11) (v := .int (zI 0)) (ty := .int) (C := RX9) (T := TX9) (N := 23) hx hb htg inG_X9 tyX9 tyX9_ok nmX9 hown hK hP hD hS 0 rfl rfl 0 (Nat.le_of_ble_eq_true rfl) (htg _ wq_1557) (fun _ h9 => h9) rfl (by decide +kernel) rfl rfl (Nat.le_of_ble_eq_true rfl) dX9_isConsistent_2 (fun H locs hP hD hS => ?_)
  have hP : va_P dg vwCl (modelC ck mo (encZ S) F1 F2 F3 F4 (upS M 8 0 0)) H := hP
  have hD : va_D A (modelC ck mo (encZ S) F1 F2 F3 F4 (upS M 8 0 0)) := hD
  refine x_iconst hx hb dX9_isConsistent_5 ?_
  have hEq : modelC ck mo (encZ S) F1 F2 F3 F4 (upS M 8 0 0) = modelC ck mo (encZ S) F1 F2 F3 F4 (upS M 8 0 0) := rfl
  exact W.zret (v := _) hx hb hr (by first | rfl | rfl) (fun t9 ht9 hW9 => ⟨⟨_, (), rfl, (congrArg zI (bI_t trivial).symm), by rw [ht9, hEq]; exact hP, by rw [hEq, hAe]; exact hD⟩, hS.F ht9⟩) hS.2.2 dX9_isConsistent_6

set_option maxHeartbeats 4000000 in
set_option maxRecDepth 100000 in
/-- BenchBrokerModel.syntaxErrorOffset -/
theorem m_syntaxErrorOffset (l : Launch) (dg : va_G) (ck : Nat → ClassId) (mo : Nat → Nat) (S : St) (F1 F2 F3 F4 : Int → Int) (M : St) (sz : Nat)  (hfa : -1 ≤ M 8 5 ∧ M 8 5 ≤ 60) : Met l yX9_syntaxErrorOffset (.code yX9_syntaxErrorOffset cX9_syntaxErrorOffset 1 (some .int) :: GW) ({ frames := 1, cells := 0, slots := 0, locals := 21 }) (va_Pc [.ref (mo 0)] (wrP dg ck sz (modelC ck mo (encZ S) F1 F2 F3 F4 M))) (va_Qi (fun r (_ : Unit) => r = zI (itZ (M 8 5 ≠ -1) (M 8 5))) (fun _ t9 => wrQ dg sz (modelC ck mo (encZ S) F1 F2 F3 F4 M) (modelC ck mo (encZ S) F1 F2 F3 F4 (upS M 8 0 (bI (M 8 5 = -1)))) t9) (va_A (modelC ck mo (encZ S) F1 F2 F3 F4 M) sz)) 0 0 (va_A (modelC ck mo (encZ S) F1 F2 F3 F4 M) sz) := by
  refine Met.ofW (cc := cX9_syntaxErrorOffset) (maxL := 1) (ret := (some .int)) (by decide) rfl ?_
  intro p e s m args below meth c s₁ B hml hv
  obtain ⟨rfl, hsz, hP, hK, hD0⟩ := hv
  have hx := B.exec
  have hb := B.bytes
  have hr := B.returns
  have hts := atoms_spec (ws := .code yX9_syntaxErrorOffset cX9_syntaxErrorOffset 1 (some .int) :: GW) B.pre
  have htg : ∀ w ∈ GW, w.before _ s = true := fun w h => hts w (List.mem_cons_of_mem _ h)
  have hown : s.vm.findClass RX9 = some m.cls := findClass_of_methodNamed B.named
  have hlocks := B.notSynchronized
  subst hsz
  have hD := hD0.self (sz := s.heap.size)
  generalize hAe : va_A (modelC ck mo (encZ S) F1 F2 F3 F4 M) s.heap.size = A at hD ⊢
  have hA : ∀ q : Nat, s.heap.size ≤ q → A q := fun q h => by rw [← hAe]; exact Or.inr h
  have hS : va_S A s.heap s.heap [] := va_S.rf
  have hP : va_P dg vwCl (modelC ck mo (encZ S) F1 F2 F3 F4 M) s.heap := hP
  have hl := lv_entry ([.ref (mo 0)]) (n := 1) (Nat.le_of_ble_eq_true rfl)
  rw [lg_entry_eq]
  generalize (lg_sl ([.ref (mo 0)]) ++ List.replicate (1 - (lg_sl ([.ref (mo 0)])).length) Slot.unset).toArray = ls at hl ⊢
  have hl : lv_has ls 1 [(0, .ref (mo 0))] := hl
  refine lv_aload_n hx hb dX9_syntaxErrorOffset_0 rfl (lv_at hl 0 rfl) ?_
  refine x_iconst hx hb dX9_syntaxErrorOffset_1 ?_
  refine va_put (D := dg) (ci := 11) (v := .int (zI 0)) (ty := .int) (C := RX9) (T := TX9) (N := 23) hx hb htg inG_X9 tyX9 tyX9_ok nmX9 hown hK hP hD hS 0 rfl rfl 0 (Nat.le_of_ble_eq_true rfl) (htg _ wq_1557) (fun _ h9 => h9) rfl (by decide +kernel) rfl rfl (Nat.le_of_ble_eq_true rfl) dX9_syntaxErrorOffset_2 (fun H locs hP hD hS => ?_)
  have hP : va_P dg vwCl (modelC ck mo (encZ S) F1 F2 F3 F4 (upS M 8 0 0)) H := hP
  have hD : va_D A (modelC ck mo (encZ S) F1 F2 F3 F4 (upS M 8 0 0)) := hD
  refine lv_aload_n hx hb dX9_syntaxErrorOffset_5 rfl (lv_at hl 0 rfl) ?_
  refine va_get (D := dg) (ci := 11) (v := .int (zI (M 8 5))) (C := RX9) (T := TX9) (N := 23) hx hb htg inG_X9 hown hK hP 0 rfl rfl 13 (Nat.le_of_ble_eq_true rfl) (htg _ wq_1570) (fun _ h9 => h9) rfl dX9_syntaxErrorOffset_6 ?_
  refine x_iconst hx hb dX9_syntaxErrorOffset_9 ?_
  refine x_icmp_ne (tgt := 21) hx hb dX9_syntaxErrorOffset_10 (by decide) (by omega) (by omega) (fun c10 => ?_) (fun c10 => ?_)
  · refine lv_aload_n hx hb dX9_syntaxErrorOffset_21 rfl (lv_at hl 0 rfl) ?_
    refine va_get (D := dg) (ci := 11) (v := .int (zI (M 8 5))) (C := RX9) (T := TX9) (N := 23) hx hb htg inG_X9 hown hK hP 0 rfl rfl 13 (Nat.le_of_ble_eq_true rfl) (htg _ wq_1570) (fun _ h9 => h9) rfl dX9_syntaxErrorOffset_22 ?_
    have hEq : modelC ck mo (encZ S) F1 F2 F3 F4 (upS M 8 0 (bI (M 8 5 = -1))) = modelC ck mo (encZ S) F1 F2 F3 F4 (upS M 8 0 0) := (by first | (rw [bI_t (by omega), upS_up] <;> rfl) | (rw [bI_f (by omega)] <;> rfl))
    exact W.iret (v := _) hx hb hr (fun t9 ht9 hW9 => ⟨⟨_, (), rfl, (by first | (rw [itZ_t (by omega)] <;> rfl) | (rw [itZ_f (by omega)] <;> rfl)), by rw [ht9, hEq]; exact hP, by rw [hEq, hAe]; exact hD⟩, hS.F ht9⟩) hS.2.2 dX9_syntaxErrorOffset_25
  · refine lv_aload_n hx hb dX9_syntaxErrorOffset_13 rfl (lv_at hl 0 rfl) ?_
    refine x_iconst hx hb dX9_syntaxErrorOffset_14 ?_
    refine x_calli (ws' := modelC ck mo (encZ S) F1 F2 F3 F4 (upS (upS M 8 0 0) 8 0 1)) [] (M := modelC ck mo (encZ S) F1 F2 F3 F4 (upS M 8 0 0)) (M' := modelC ck mo (encZ S) F1 F2 F3 F4 (upS (upS M 8 0 0) 8 0 1)) ([]) (List.append_nil _).symm (List.append_nil _).symm hP hD hS hA (fun hPm hDm => va_runV (As := [.int (zI 1)]) (rest := []) ⟨hx, hb, hml, hown, htg⟩ (m_fails l dg ck mo S F1 F2 F3 F4 (upS M 8 0 0) 1 _ ) (cwV 1 htg (gwV wq_1677 wq_1679 wp_40 wq_15 wq_1680) rfl rfl rfl (by decide +kernel) ⟨Nat.le_of_ble_eq_true rfl, Nat.le_of_ble_eq_true rfl⟩) (wr_preV hK hPm hDm 0 11 rfl rfl) rfl rfl hl.1 rfl (lv_room (Nat.le_of_ble_eq_true rfl)) dX9_syntaxErrorOffset_15 ⟨Nat.zero_le _, Nat.zero_le _⟩) (fun r15 H locs hr15 hP hD hS => ?_)
    subst hr15
    refine lv_goto (tgt := 25) hx hb dX9_syntaxErrorOffset_18 (by decide) ?_
    have hEq : modelC ck mo (encZ S) F1 F2 F3 F4 (upS M 8 0 (bI (M 8 5 = -1))) = modelC ck mo (encZ S) F1 F2 F3 F4 (upS (upS M 8 0 0) 8 0 1) := (by first | (rw [bI_t (by omega), upS_up] <;> rfl) | (rw [bI_f (by omega)] <;> rfl))
    exact W.iret (v := _) hx hb hr (fun t9 ht9 hW9 => ⟨⟨_, (), rfl, (by first | (rw [itZ_t (by omega)] <;> rfl) | (rw [itZ_f (by omega)] <;> rfl)), by rw [ht9, hEq]; exact hP, by rw [hEq, hAe]; exact hD⟩, hS.F ht9⟩) hS.2.2 dX9_syntaxErrorOffset_25

set_option maxHeartbeats 4000000 in
set_option maxRecDepth 100000 in
/-- BenchBrokerModel.rejectionReason -/
theorem m_rejectionReason (l : Launch) (dg : va_G) (ck : Nat → ClassId) (mo : Nat → Nat) (S : St) (F1 F2 F3 F4 : Int → Int) (M : St) (sz : Nat)  (hwy : 0 ≤ M 8 6 ∧ M 8 6 ≤ 12) : Met l yX9_rejectionReason (.code yX9_rejectionReason cX9_rejectionReason 1 (some .int) :: GW) ({ frames := 0, cells := 0, slots := 0, locals := 0 }) (va_Pc [.ref (mo 0)] (wrP dg ck sz (modelC ck mo (encZ S) F1 F2 F3 F4 M))) (va_Qi (fun r (_ : Unit) => r = zI (M 8 6)) (fun _ t9 => wrQ dg sz (modelC ck mo (encZ S) F1 F2 F3 F4 M) (modelC ck mo (encZ S) F1 F2 F3 F4 (upS M 8 0 (bI (M 8 6 = 0)))) t9) (va_A (modelC ck mo (encZ S) F1 F2 F3 F4 M) sz)) 0 0 (va_A (modelC ck mo (encZ S) F1 F2 F3 F4 M) sz) := by
  refine Met.ofW (cc := cX9_rejectionReason) (maxL := 1) (ret := (some .int)) (by decide) rfl ?_
  intro p e s m args below meth c s₁ B hml hv
  obtain ⟨rfl, hsz, hP, hK, hD0⟩ := hv
  have hx := B.exec
  have hb := B.bytes
  have hr := B.returns
  have hts := atoms_spec (ws := .code yX9_rejectionReason cX9_rejectionReason 1 (some .int) :: GW) B.pre
  have htg : ∀ w ∈ GW, w.before _ s = true := fun w h => hts w (List.mem_cons_of_mem _ h)
  have hown : s.vm.findClass RX9 = some m.cls := findClass_of_methodNamed B.named
  have hlocks := B.notSynchronized
  subst hsz
  have hD := hD0.self (sz := s.heap.size)
  generalize hAe : va_A (modelC ck mo (encZ S) F1 F2 F3 F4 M) s.heap.size = A at hD ⊢
  have hA : ∀ q : Nat, s.heap.size ≤ q → A q := fun q h => by rw [← hAe]; exact Or.inr h
  have hS : va_S A s.heap s.heap [] := va_S.rf
  have hP : va_P dg vwCl (modelC ck mo (encZ S) F1 F2 F3 F4 M) s.heap := hP
  have hl := lv_entry ([.ref (mo 0)]) (n := 1) (Nat.le_of_ble_eq_true rfl)
  rw [lg_entry_eq]
  generalize (lg_sl ([.ref (mo 0)]) ++ List.replicate (1 - (lg_sl ([.ref (mo 0)])).length) Slot.unset).toArray = ls at hl ⊢
  have hl : lv_has ls 1 [(0, .ref (mo 0))] := hl
  refine lv_aload_n hx hb dX9_rejectionReason_0 rfl (lv_at hl 0 rfl) ?_
  refine lv_aload_n hx hb dX9_rejectionReason_1 rfl (lv_at hl 0 rfl) ?_
  refine va_get (D := dg) (ci := 11) (v := .int (zI (M 8 6))) (C := RX9) (T := TX9) (N := 23) hx hb htg inG_X9 hown hK hP 0 rfl rfl 14 (Nat.le_of_ble_eq_true rfl) (htg _ wq_1571) (fun _ h9 => h9) rfl dX9_rejectionReason_2 ?_
  refine x_if_ne (tgt := 12) hx hb dX9_rejectionReason_5 (by decide) (by omega) (fun c5 => ?_) (fun c5 => ?_)
  · refine x_iconst hx hb dX9_rejectionReason_12 ?_
    refine va_put (D := dg) (ci := 11) (v := .int (zI 0)) (ty := .int) (C := RX9) (T := TX9) (N := 23) hx hb htg inG_X9 tyX9 tyX9_ok nmX9 hown hK hP hD hS 0 rfl rfl 0 (Nat.le_of_ble_eq_true rfl) (htg _ wq_1557) (fun _ h9 => h9) rfl (by decide +kernel) rfl rfl (Nat.le_of_ble_eq_true rfl) dX9_rejectionReason_13 (fun H locs hP hD hS => ?_)
    have hP : va_P dg vwCl (modelC ck mo (encZ S) F1 F2 F3 F4 (upS M 8 0 0)) H := hP
    have hD : va_D A (modelC ck mo (encZ S) F1 F2 F3 F4 (upS M 8 0 0)) := hD
    refine lv_aload_n hx hb dX9_rejectionReason_16 rfl (lv_at hl 0 rfl) ?_
    refine va_get (D := dg) (ci := 11) (v := .int (zI (M 8 6))) (C := RX9) (T := TX9) (N := 23) hx hb htg inG_X9 hown hK hP 0 rfl rfl 14 (Nat.le_of_ble_eq_true rfl) (htg _ wq_1571) (fun _ h9 => h9) rfl dX9_rejectionReason_17 ?_
    have hEq : modelC ck mo (encZ S) F1 F2 F3 F4 (upS M 8 0 (bI (M 8 6 = 0))) = modelC ck mo (encZ S) F1 F2 F3 F4 (upS M 8 0 0) := (by first | (rw [bI_t (by omega)] <;> rfl) | (rw [bI_f (by omega)] <;> rfl))
    exact W.iret (v := _) hx hb hr (fun t9 ht9 hW9 => ⟨⟨_, (), rfl, rfl, by rw [ht9, hEq]; exact hP, by rw [hEq, hAe]; exact hD⟩, hS.F ht9⟩) hS.2.2 dX9_rejectionReason_20
  · refine x_iconst hx hb dX9_rejectionReason_8 ?_
    refine lv_goto (tgt := 13) hx hb dX9_rejectionReason_9 (by decide) ?_
    refine va_put (D := dg) (ci := 11) (v := .int (zI 1)) (ty := .int) (C := RX9) (T := TX9) (N := 23) hx hb htg inG_X9 tyX9 tyX9_ok nmX9 hown hK hP hD hS 0 rfl rfl 0 (Nat.le_of_ble_eq_true rfl) (htg _ wq_1557) (fun _ h9 => h9) rfl (by decide +kernel) rfl rfl (Nat.le_of_ble_eq_true rfl) dX9_rejectionReason_13 (fun H locs hP hD hS => ?_)
    have hP : va_P dg vwCl (modelC ck mo (encZ S) F1 F2 F3 F4 (upS M 8 0 1)) H := hP
    have hD : va_D A (modelC ck mo (encZ S) F1 F2 F3 F4 (upS M 8 0 1)) := hD
    refine lv_aload_n hx hb dX9_rejectionReason_16 rfl (lv_at hl 0 rfl) ?_
    refine va_get (D := dg) (ci := 11) (v := .int (zI (M 8 6))) (C := RX9) (T := TX9) (N := 23) hx hb htg inG_X9 hown hK hP 0 rfl rfl 14 (Nat.le_of_ble_eq_true rfl) (htg _ wq_1571) (fun _ h9 => h9) rfl dX9_rejectionReason_17 ?_
    have hEq : modelC ck mo (encZ S) F1 F2 F3 F4 (upS M 8 0 (bI (M 8 6 = 0))) = modelC ck mo (encZ S) F1 F2 F3 F4 (upS M 8 0 1) := (by first | (rw [bI_t (by omega)] <;> rfl) | (rw [bI_f (by omega)] <;> rfl))
    exact W.iret (v := _) hx hb hr (fun t9 ht9 hW9 => ⟨⟨_, (), rfl, rfl, by rw [ht9, hEq]; exact hP, by rw [hEq, hAe]; exact hD⟩, hS.F ht9⟩) hS.2.2 dX9_rejectionReason_20

set_option maxHeartbeats 4000000 in
set_option maxRecDepth 100000 in
/-- BenchBrokerModel.rejectionDetail -/
theorem m_rejectionDetail (l : Launch) (dg : va_G) (ck : Nat → ClassId) (mo : Nat → Nat) (S : St) (F1 F2 F3 F4 : Int → Int) (M : St) (sz : Nat)  (hwy : 0 ≤ M 8 6 ∧ M 8 6 ≤ 12) : Met l yX9_rejectionDetail (.code yX9_rejectionDetail cX9_rejectionDetail 1 (some .int) :: GW) ({ frames := 0, cells := 0, slots := 0, locals := 0 }) (va_Pc [.ref (mo 0)] (wrP dg ck sz (modelC ck mo (encZ S) F1 F2 F3 F4 M))) (va_Qi (fun r (_ : Unit) => r = zI (itZ (M 8 6 ≠ 0) (M 8 7))) (fun _ t9 => wrQ dg sz (modelC ck mo (encZ S) F1 F2 F3 F4 M) (modelC ck mo (encZ S) F1 F2 F3 F4 (upS M 8 0 (bI (M 8 6 = 0)))) t9) (va_A (modelC ck mo (encZ S) F1 F2 F3 F4 M) sz)) 0 0 (va_A (modelC ck mo (encZ S) F1 F2 F3 F4 M) sz) := by
  refine Met.ofW (cc := cX9_rejectionDetail) (maxL := 1) (ret := (some .int)) (by decide) rfl ?_
  intro p e s m args below meth c s₁ B hml hv
  obtain ⟨rfl, hsz, hP, hK, hD0⟩ := hv
  have hx := B.exec
  have hb := B.bytes
  have hr := B.returns
  have hts := atoms_spec (ws := .code yX9_rejectionDetail cX9_rejectionDetail 1 (some .int) :: GW) B.pre
  have htg : ∀ w ∈ GW, w.before _ s = true := fun w h => hts w (List.mem_cons_of_mem _ h)
  have hown : s.vm.findClass RX9 = some m.cls := findClass_of_methodNamed B.named
  have hlocks := B.notSynchronized
  subst hsz
  have hD := hD0.self (sz := s.heap.size)
  generalize hAe : va_A (modelC ck mo (encZ S) F1 F2 F3 F4 M) s.heap.size = A at hD ⊢
  have hA : ∀ q : Nat, s.heap.size ≤ q → A q := fun q h => by rw [← hAe]; exact Or.inr h
  have hS : va_S A s.heap s.heap [] := va_S.rf
  have hP : va_P dg vwCl (modelC ck mo (encZ S) F1 F2 F3 F4 M) s.heap := hP
  have hl := lv_entry ([.ref (mo 0)]) (n := 1) (Nat.le_of_ble_eq_true rfl)
  rw [lg_entry_eq]
  generalize (lg_sl ([.ref (mo 0)]) ++ List.replicate (1 - (lg_sl ([.ref (mo 0)])).length) Slot.unset).toArray = ls at hl ⊢
  have hl : lv_has ls 1 [(0, .ref (mo 0))] := hl
  refine lv_aload_n hx hb dX9_rejectionDetail_0 rfl (lv_at hl 0 rfl) ?_
  refine lv_aload_n hx hb dX9_rejectionDetail_1 rfl (lv_at hl 0 rfl) ?_
  refine va_get (D := dg) (ci := 11) (v := .int (zI (M 8 6))) (C := RX9) (T := TX9) (N := 23) hx hb htg inG_X9 hown hK hP 0 rfl rfl 14 (Nat.le_of_ble_eq_true rfl) (htg _ wq_1571) (fun _ h9 => h9) rfl dX9_rejectionDetail_2 ?_
  refine x_if_ne (tgt := 12) hx hb dX9_rejectionDetail_5 (by decide) (by omega) (fun c5 => ?_) (fun c5 => ?_)
  · refine x_iconst hx hb dX9_rejectionDetail_12 ?_
    refine va_put (D := dg) (ci := 11) (v := .int (zI 0)) (ty := .int) (C := RX9) (T := TX9) (N := 23) hx hb htg inG_X9 tyX9 tyX9_ok nmX9 hown hK hP hD hS 0 rfl rfl 0 (Nat.le_of_ble_eq_true rfl) (htg _ wq_1557) (fun _ h9 => h9) rfl (by decide +kernel) rfl rfl (Nat.le_of_ble_eq_true rfl) dX9_rejectionDetail_13 (fun H locs hP hD hS => ?_)
    have hP : va_P dg vwCl (modelC ck mo (encZ S) F1 F2 F3 F4 (upS M 8 0 0)) H := hP
    have hD : va_D A (modelC ck mo (encZ S) F1 F2 F3 F4 (upS M 8 0 0)) := hD
    refine lv_aload_n hx hb dX9_rejectionDetail_16 rfl (lv_at hl 0 rfl) ?_
    refine va_get (D := dg) (ci := 11) (v := .int (zI 0)) (C := RX9) (T := TX9) (N := 23) hx hb htg inG_X9 hown hK hP 0 rfl rfl 0 (Nat.le_of_ble_eq_true rfl) (htg _ wq_1557) (fun _ h9 => h9) rfl dX9_rejectionDetail_17 ?_
    refine x_if_le (tgt := 27) hx hb dX9_rejectionDetail_20 (by decide) (by omega) (fun c20 => ?_) (fun c20 => absurd c20 (by decide))
    refine lv_aload_n hx hb dX9_rejectionDetail_27 rfl (lv_at hl 0 rfl) ?_
    refine va_get (D := dg) (ci := 11) (v := .int (zI (M 8 7))) (C := RX9) (T := TX9) (N := 23) hx hb htg inG_X9 hown hK hP 0 rfl rfl 15 (Nat.le_of_ble_eq_true rfl) (htg _ wq_1572) (fun _ h9 => h9) rfl dX9_rejectionDetail_28 ?_
    have hEq : modelC ck mo (encZ S) F1 F2 F3 F4 (upS M 8 0 (bI (M 8 6 = 0))) = modelC ck mo (encZ S) F1 F2 F3 F4 (upS M 8 0 0) := (by first | (rw [bI_t (by omega)] <;> rfl) | (rw [bI_f (by omega)] <;> rfl))
    exact W.iret (v := _) hx hb hr (fun t9 ht9 hW9 => ⟨⟨_, (), rfl, (by first | (rw [itZ_t (by omega)] <;> rfl) | (rw [itZ_f (by omega)] <;> rfl)), by rw [ht9, hEq]; exact hP, by rw [hEq, hAe]; exact hD⟩, hS.F ht9⟩) hS.2.2 dX9_rejectionDetail_31
  · refine x_iconst hx hb dX9_rejectionDetail_8 ?_
    refine lv_goto (tgt := 13) hx hb dX9_rejectionDetail_9 (by decide) ?_
    refine va_put (D := dg) (ci := 11) (v := .int (zI 1)) (ty := .int) (C := RX9) (T := TX9) (N := 23) hx hb htg inG_X9 tyX9 tyX9_ok nmX9 hown hK hP hD hS 0 rfl rfl 0 (Nat.le_of_ble_eq_true rfl) (htg _ wq_1557) (fun _ h9 => h9) rfl (by decide +kernel) rfl rfl (Nat.le_of_ble_eq_true rfl) dX9_rejectionDetail_13 (fun H locs hP hD hS => ?_)
    have hP : va_P dg vwCl (modelC ck mo (encZ S) F1 F2 F3 F4 (upS M 8 0 1)) H := hP
    have hD : va_D A (modelC ck mo (encZ S) F1 F2 F3 F4 (upS M 8 0 1)) := hD
    refine lv_aload_n hx hb dX9_rejectionDetail_16 rfl (lv_at hl 0 rfl) ?_
    refine va_get (D := dg) (ci := 11) (v := .int (zI 1)) (C := RX9) (T := TX9) (N := 23) hx hb htg inG_X9 hown hK hP 0 rfl rfl 0 (Nat.le_of_ble_eq_true rfl) (htg _ wq_1557) (fun _ h9 => h9) rfl dX9_rejectionDetail_17 ?_
    refine x_if_le (tgt := 27) hx hb dX9_rejectionDetail_20 (by decide) (by omega) (fun c20 => absurd c20 (by decide)) (fun c20 => ?_)
    refine x_iconst hx hb dX9_rejectionDetail_23 ?_
    refine lv_goto (tgt := 31) hx hb dX9_rejectionDetail_24 (by decide) ?_
    have hEq : modelC ck mo (encZ S) F1 F2 F3 F4 (upS M 8 0 (bI (M 8 6 = 0))) = modelC ck mo (encZ S) F1 F2 F3 F4 (upS M 8 0 1) := (by first | (rw [bI_t (by omega)] <;> rfl) | (rw [bI_f (by omega)] <;> rfl))
    exact W.iret (v := _) hx hb hr (fun t9 ht9 hW9 => ⟨⟨_, (), rfl, (by first | (rw [itZ_t (by omega)] <;> rfl) | (rw [itZ_f (by omega)] <;> rfl)), by rw [ht9, hEq]; exact hP, by rw [hEq, hAe]; exact hD⟩, hS.F ht9⟩) hS.2.2 dX9_rejectionDetail_31

set_option maxHeartbeats 4000000 in
set_option maxRecDepth 100000 in
/-- BenchBrokerModel.causeReason -/
theorem m_causeReason (l : Launch) (dg : va_G) (ck : Nat → ClassId) (mo : Nat → Nat) (S : St) (F1 F2 F3 F4 : Int → Int) (M : St) (sz : Nat)  (hwy : 0 ≤ M 8 6 ∧ M 8 6 ≤ 12) : Met l yX9_causeReason (.code yX9_causeReason cX9_causeReason 1 (some .int) :: GW) ({ frames := 0, cells := 0, slots := 0, locals := 0 }) (va_Pc [.ref (mo 0)] (wrP dg ck sz (modelC ck mo (encZ S) F1 F2 F3 F4 M))) (va_Qi (fun r (_ : Unit) => r = zI (itZ (M 8 6 = 12) (M 8 8))) (fun _ t9 => wrQ dg sz (modelC ck mo (encZ S) F1 F2 F3 F4 M) (modelC ck mo (encZ S) F1 F2 F3 F4 (upS M 8 0 (1 - bI (M 8 6 = 12)))) t9) (va_A (modelC ck mo (encZ S) F1 F2 F3 F4 M) sz)) 0 0 (va_A (modelC ck mo (encZ S) F1 F2 F3 F4 M) sz) := by
  refine Met.ofW (cc := cX9_causeReason) (maxL := 1) (ret := (some .int)) (by decide) rfl ?_
  intro p e s m args below meth c s₁ B hml hv
  obtain ⟨rfl, hsz, hP, hK, hD0⟩ := hv
  have hx := B.exec
  have hb := B.bytes
  have hr := B.returns
  have hts := atoms_spec (ws := .code yX9_causeReason cX9_causeReason 1 (some .int) :: GW) B.pre
  have htg : ∀ w ∈ GW, w.before _ s = true := fun w h => hts w (List.mem_cons_of_mem _ h)
  have hown : s.vm.findClass RX9 = some m.cls := findClass_of_methodNamed B.named
  have hlocks := B.notSynchronized
  subst hsz
  have hD := hD0.self (sz := s.heap.size)
  generalize hAe : va_A (modelC ck mo (encZ S) F1 F2 F3 F4 M) s.heap.size = A at hD ⊢
  have hA : ∀ q : Nat, s.heap.size ≤ q → A q := fun q h => by rw [← hAe]; exact Or.inr h
  have hS : va_S A s.heap s.heap [] := va_S.rf
  have hP : va_P dg vwCl (modelC ck mo (encZ S) F1 F2 F3 F4 M) s.heap := hP
  have hl := lv_entry ([.ref (mo 0)]) (n := 1) (Nat.le_of_ble_eq_true rfl)
  rw [lg_entry_eq]
  generalize (lg_sl ([.ref (mo 0)]) ++ List.replicate (1 - (lg_sl ([.ref (mo 0)])).length) Slot.unset).toArray = ls at hl ⊢
  have hl : lv_has ls 1 [(0, .ref (mo 0))] := hl
  refine lv_aload_n hx hb dX9_causeReason_0 rfl (lv_at hl 0 rfl) ?_
  refine lv_aload_n hx hb dX9_causeReason_1 rfl (lv_at hl 0 rfl) ?_
  refine va_get (D := dg) (ci := 11) (v := .int (zI (M 8 6))) (C := RX9) (T := TX9) (N := 23) hx hb htg inG_X9 hown hK hP 0 rfl rfl 14 (Nat.le_of_ble_eq_true rfl) (htg _ wq_1571) (fun _ h9 => h9) rfl dX9_causeReason_2 ?_
  refine x_bipush hx hb dX9_causeReason_5 (by decide) ?_
  refine x_icmp_ne (tgt := 14) hx hb dX9_causeReason_7 (by decide) (by omega) (by omega) (fun c7 => ?_) (fun c7 => ?_)
  · refine x_iconst hx hb dX9_causeReason_14 ?_
    refine va_put (D := dg) (ci := 11) (v := .int (zI 1)) (ty := .int) (C := RX9) (T := TX9) (N := 23) hx hb htg inG_X9 tyX9 tyX9_ok nmX9 hown hK hP hD hS 0 rfl rfl 0 (Nat.le_of_ble_eq_true rfl) (htg _ wq_1557) (fun _ h9 => h9) rfl (by decide +kernel) rfl rfl (Nat.le_of_ble_eq_true rfl) dX9_causeReason_15 (fun H locs hP hD hS => ?_)
    have hP : va_P dg vwCl (modelC ck mo (encZ S) F1 F2 F3 F4 (upS M 8 0 1)) H := hP
    have hD : va_D A (modelC ck mo (encZ S) F1 F2 F3 F4 (upS M 8 0 1)) := hD
    refine lv_aload_n hx hb dX9_causeReason_18 rfl (lv_at hl 0 rfl) ?_
    refine va_get (D := dg) (ci := 11) (v := .int (zI 1)) (C := RX9) (T := TX9) (N := 23) hx hb htg inG_X9 hown hK hP 0 rfl rfl 0 (Nat.le_of_ble_eq_true rfl) (htg _ wq_1557) (fun _ h9 => h9) rfl dX9_causeReason_19 ?_
    refine x_if_le (tgt := 29) hx hb dX9_causeReason_22 (by decide) (by omega) (fun c22 => absurd c22 (by decide)) (fun c22 => ?_)
    refine x_iconst hx hb dX9_causeReason_25 ?_
    refine lv_goto (tgt := 33) hx hb dX9_causeReason_26 (by decide) ?_
    have hEq : modelC ck mo (encZ S) F1 F2 F3 F4 (upS M 8 0 (1 - bI (M 8 6 = 12))) = modelC ck mo (encZ S) F1 F2 F3 F4 (upS M 8 0 1) := (by first | (rw [bI_t (by omega)] <;> rfl) | (rw [bI_f (by omega)] <;> rfl))
    exact W.iret (v := _) hx hb hr (fun t9 ht9 hW9 => ⟨⟨_, (), rfl, (by first | (rw [itZ_t (by omega)] <;> rfl) | (rw [itZ_f (by omega)] <;> rfl)), by rw [ht9, hEq]; exact hP, by rw [hEq, hAe]; exact hD⟩, hS.F ht9⟩) hS.2.2 dX9_causeReason_33
  · refine x_iconst hx hb dX9_causeReason_10 ?_
    refine lv_goto (tgt := 15) hx hb dX9_causeReason_11 (by decide) ?_
    refine va_put (D := dg) (ci := 11) (v := .int (zI 0)) (ty := .int) (C := RX9) (T := TX9) (N := 23) hx hb htg inG_X9 tyX9 tyX9_ok nmX9 hown hK hP hD hS 0 rfl rfl 0 (Nat.le_of_ble_eq_true rfl) (htg _ wq_1557) (fun _ h9 => h9) rfl (by decide +kernel) rfl rfl (Nat.le_of_ble_eq_true rfl) dX9_causeReason_15 (fun H locs hP hD hS => ?_)
    have hP : va_P dg vwCl (modelC ck mo (encZ S) F1 F2 F3 F4 (upS M 8 0 0)) H := hP
    have hD : va_D A (modelC ck mo (encZ S) F1 F2 F3 F4 (upS M 8 0 0)) := hD
    refine lv_aload_n hx hb dX9_causeReason_18 rfl (lv_at hl 0 rfl) ?_
    refine va_get (D := dg) (ci := 11) (v := .int (zI 0)) (C := RX9) (T := TX9) (N := 23) hx hb htg inG_X9 hown hK hP 0 rfl rfl 0 (Nat.le_of_ble_eq_true rfl) (htg _ wq_1557) (fun _ h9 => h9) rfl dX9_causeReason_19 ?_
    refine x_if_le (tgt := 29) hx hb dX9_causeReason_22 (by decide) (by omega) (fun c22 => ?_) (fun c22 => absurd c22 (by decide))
    refine lv_aload_n hx hb dX9_causeReason_29 rfl (lv_at hl 0 rfl) ?_
    refine va_get (D := dg) (ci := 11) (v := .int (zI (M 8 8))) (C := RX9) (T := TX9) (N := 23) hx hb htg inG_X9 hown hK hP 0 rfl rfl 16 (Nat.le_of_ble_eq_true rfl) (htg _ wq_1573) (fun _ h9 => h9) rfl dX9_causeReason_30 ?_
    have hEq : modelC ck mo (encZ S) F1 F2 F3 F4 (upS M 8 0 (1 - bI (M 8 6 = 12))) = modelC ck mo (encZ S) F1 F2 F3 F4 (upS M 8 0 0) := (by first | (rw [bI_t (by omega)] <;> rfl) | (rw [bI_f (by omega)] <;> rfl))
    exact W.iret (v := _) hx hb hr (fun t9 ht9 hW9 => ⟨⟨_, (), rfl, (by first | (rw [itZ_t (by omega)] <;> rfl) | (rw [itZ_f (by omega)] <;> rfl)), by rw [ht9, hEq]; exact hP, by rw [hEq, hAe]; exact hD⟩, hS.F ht9⟩) hS.2.2 dX9_causeReason_33
