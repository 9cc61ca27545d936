/-! copies -/
set_option maxHeartbeats 4000000 in
set_option maxRecDepth 100000 in
/-- BenchBroker$Park.copyFrom -/
theorem c_parkCopy (l : Launch) (dg : va_G) (ck : Nat → ClassId) (a : Nat → Nat) (S : St) (b : Nat → Nat) (T : St) (sz : Nat) (hT : ∀ i, 0 ≤ T 10 i ∧ T 10 i ≤ 1) : Met l yX6_copyFrom (.code yX6_copyFrom cX6_copyFrom 2 none :: GW) ({ frames := 1, cells := 0, slots := 0, locals := 26 }) (va_Pc [.ref (a 0), .ref (b 0)] (wrP dg ck sz (parkC ck a S ++ (parkC ck b T)))) (va_Qv (fun _ : Unit => True) (fun _ t9 => wrQ dg sz (parkC ck a S ++ (parkC ck b T)) (parkC ck a T ++ (parkC ck b T)) t9) (va_A (parkC ck a S ++ (parkC ck b T)) sz)) 0 0 (va_A (parkC ck a S ++ (parkC ck b T)) sz) := by
  refine Met.ofW (cc := cX6_copyFrom) (maxL := 2) (ret := none) (by decide) rfl ?_
  intro p e s m args below meth c s₁ B hml hv
  obtain ⟨rfl, hsz, hP, hK, hD0⟩ := hv
  have hx := B.exec
  have hb := B.bytes
  have hr := B.returns
  have hts := atoms_spec (ws := .code yX6_copyFrom cX6_copyFrom 2 none :: GW) B.pre
  have htg : ∀ w ∈ GW, w.before _ s = true := fun w h => hts w (List.mem_cons_of_mem _ h)
  have hown : s.vm.findClass RX6 = some m.cls := findClass_of_methodNamed B.named
  have hlocks := B.notSynchronized
  subst hsz
  have hD := hD0.self (sz := s.heap.size)
  generalize hAe : va_A (parkC ck a S ++ (parkC ck b T)) s.heap.size = A at hD ⊢
  have hA : ∀ q : Nat, s.heap.size ≤ q → A q := fun q h => by rw [← hAe]; exact Or.inr h
  have hS : va_S A s.heap s.heap [] := va_S.rf
  have hP : va_P dg vwCl (parkC ck a S ++ (parkC ck b T)) s.heap := hP
  have hl := lv_entry ([.ref (a 0), .ref (b 0)]) (n := 2) (Nat.le_of_ble_eq_true rfl)
  rw [lg_entry_eq]
  generalize (lg_sl ([.ref (a 0), .ref (b 0)]) ++ List.replicate (2 - (lg_sl ([.ref (a 0), .ref (b 0)])).length) Slot.unset).toArray = ls at hl ⊢
  have hl : lv_has ls 2 [(0, .ref (a 0)), (1, .ref (b 0))] := hl
  refine lv_aload_n hx hb dX6_copyFrom_0 rfl (lv_at hl 0 rfl) ?_
  refine lv_aload_n hx hb dX6_copyFrom_1 rfl (lv_at hl 1 rfl) ?_
  refine va_get (D := dg) (ci := 9) (v := .int (zI (T 0 0))) (C := RX6) (T := TX6) (N := 10) hx hb htg inG_X6 hown hK hP 8 rfl rfl 0 (Nat.le_of_ble_eq_true rfl) (htg _ wq_54) (fun _ h9 => h9) rfl dX6_copyFrom_2 ?_
  refine va_put (D := dg) (ci := 9) (v := .int (zI (T 0 0))) (ty := .int) (C := RX6) (T := TX6) (N := 10) hx hb htg inG_X6 tyX6 tyX6_ok nmX6 hown hK hP hD hS 0 rfl rfl 0 (Nat.le_of_ble_eq_true rfl) (htg _ wq_54) (fun _ h9 => h9) rfl (by decide +kernel) rfl rfl (Nat.le_of_ble_eq_true rfl) dX6_copyFrom_5 (fun H locs hP hD hS => ?_)
  have hP : va_P dg vwCl (parkC ck a (upS S 0 0 (T 0 0)) ++ (parkC ck b T)) H := hP
  have hD : va_D A (parkC ck a (upS S 0 0 (T 0 0)) ++ (parkC ck b T)) := hD
  refine lv_aload_n hx hb dX6_copyFrom_8 rfl (lv_at hl 1 rfl) ?_
  refine va_get (D := dg) (ci := 9) (v := .ref (b 1)) (C := RX6) (T := TX6) (N := 10) hx hb htg inG_X6 hown hK hP 8 rfl rfl 1 (Nat.le_of_ble_eq_true rfl) (htg _ wq_57) (fun _ h9 => h9) rfl dX6_copyFrom_9 ?_
  refine x_iconst hx hb dX6_copyFrom_12 ?_
  refine lv_aload_n hx hb dX6_copyFrom_13 rfl (lv_at hl 0 rfl) ?_
  refine va_get (D := dg) (ci := 9) (v := .ref (a 1)) (C := RX6) (T := TX6) (N := 10) hx hb htg inG_X6 hown hK hP 0 rfl rfl 1 (Nat.le_of_ble_eq_true rfl) (htg _ wq_57) (fun _ h9 => h9) rfl dX6_copyFrom_14 ?_
  refine x_iconst hx hb dX6_copyFrom_17 ?_
  refine x_bipush hx hb dX6_copyFrom_18 (by decide) ?_
  refine x_copy (n := 10) (ws' := parkC ck a (repS (upS S 0 0 (T 0 0)) 1 T) ++ (parkC ck b T)) hx hb (hml.trans hl.1.symm) hown (htg _ wq_605) (htg _ wq_607) (htg _ wq_606) (htg _ wq_24) hK hP hD hS 9 1 0 rfl rfl rfl rfl (by decide) (fun _ => rfl) (Nat.le_of_ble_eq_true rfl) (Nat.le_of_ble_eq_true rfl) rfl dX6_copyFrom_20 (fun H locs hP hD hS => ?_)
  refine lv_aload_n hx hb dX6_copyFrom_23 rfl (lv_at hl 1 rfl) ?_
  refine va_get (D := dg) (ci := 9) (v := .ref (b 2)) (C := RX6) (T := TX6) (N := 10) hx hb htg inG_X6 hown hK hP 8 rfl rfl 2 (Nat.le_of_ble_eq_true rfl) (htg _ wq_60) (fun _ h9 => h9) rfl dX6_copyFrom_24 ?_
  refine x_iconst hx hb dX6_copyFrom_27 ?_
  refine lv_aload_n hx hb dX6_copyFrom_28 rfl (lv_at hl 0 rfl) ?_
  refine va_get (D := dg) (ci := 9) (v := .ref (a 2)) (C := RX6) (T := TX6) (N := 10) hx hb htg inG_X6 hown hK hP 0 rfl rfl 2 (Nat.le_of_ble_eq_true rfl) (htg _ wq_60) (fun _ h9 => h9) rfl dX6_copyFrom_29 ?_
  refine x_iconst hx hb dX6_copyFrom_32 ?_
  refine x_bipush hx hb dX6_copyFrom_33 (by decide) ?_
  refine x_copy (n := 10) (ws' := parkC ck a (repS (repS (upS S 0 0 (T 0 0)) 1 T) 2 T) ++ (parkC ck b T)) hx hb (hml.trans hl.1.symm) hown (htg _ wq_605) (htg _ wq_607) (htg _ wq_606) (htg _ wq_24) hK hP hD hS 10 2 0 rfl rfl rfl rfl (by decide) (fun _ => rfl) (Nat.le_of_ble_eq_true rfl) (Nat.le_of_ble_eq_true rfl) rfl dX6_copyFrom_35 (fun H locs hP hD hS => ?_)
  refine lv_aload_n hx hb dX6_copyFrom_38 rfl (lv_at hl 1 rfl) ?_
  refine va_get (D := dg) (ci := 9) (v := .ref (b 3)) (C := RX6) (T := TX6) (N := 10) hx hb htg inG_X6 hown hK hP 8 rfl rfl 3 (Nat.le_of_ble_eq_true rfl) (htg _ wq_63) (fun _ h9 => h9) rfl dX6_copyFrom_39 ?_
  refine x_iconst hx hb dX6_copyFrom_42 ?_
  refine lv_aload_n hx hb dX6_copyFrom_43 rfl (lv_at hl 0 rfl) ?_
  refine va_get (D := dg) (ci := 9) (v := .ref (a 3)) (C := RX6) (T := TX6) (N := 10) hx hb htg inG_X6 hown hK hP 0 rfl rfl 3 (Nat.le_of_ble_eq_true rfl) (htg _ wq_63) (fun _ h9 => h9) rfl dX6_copyFrom_44 ?_
  refine x_iconst hx hb dX6_copyFrom_47 ?_
  refine x_bipush hx hb dX6_copyFrom_48 (by decide) ?_
  refine x_copy (n := 10) (ws' := parkC ck a (repS (repS (repS (upS S 0 0 (T 0 0)) 1 T) 2 T) 3 T) ++ (parkC ck b T)) hx hb (hml.trans hl.1.symm) hown (htg _ wq_605) (htg _ wq_607) (htg _ wq_606) (htg _ wq_24) hK hP hD hS 11 3 0 rfl rfl rfl rfl (by decide) (fun _ => rfl) (Nat.le_of_ble_eq_true rfl) (Nat.le_of_ble_eq_true rfl) rfl dX6_copyFrom_50 (fun H locs hP hD hS => ?_)
  refine lv_aload_n hx hb dX6_copyFrom_53 rfl (lv_at hl 0 rfl) ?_
  refine lv_aload_n hx hb dX6_copyFrom_54 rfl (lv_at hl 1 rfl) ?_
  refine va_get (D := dg) (ci := 9) (v := .int (zI (T 0 1))) (C := RX6) (T := TX6) (N := 10) hx hb htg inG_X6 hown hK hP 8 rfl rfl 4 (Nat.le_of_ble_eq_true rfl) (htg _ wq_65) (fun _ h9 => h9) rfl dX6_copyFrom_55 ?_
  refine va_put (D := dg) (ci := 9) (v := .int (zI (T 0 1))) (ty := .int) (C := RX6) (T := TX6) (N := 10) hx hb htg inG_X6 tyX6 tyX6_ok nmX6 hown hK hP hD hS 0 rfl rfl 4 (Nat.le_of_ble_eq_true rfl) (htg _ wq_65) (fun _ h9 => h9) rfl (by decide +kernel) rfl rfl (Nat.le_of_ble_eq_true rfl) dX6_copyFrom_58 (fun H locs hP hD hS => ?_)
  have hP : va_P dg vwCl (parkC ck a (upS (repS (repS (repS (upS S 0 0 (T 0 0)) 1 T) 2 T) 3 T) 0 1 (T 0 1)) ++ (parkC ck b T)) H := hP
  have hD : va_D A (parkC ck a (upS (repS (repS (repS (upS S 0 0 (T 0 0)) 1 T) 2 T) 3 T) 0 1 (T 0 1)) ++ (parkC ck b T)) := hD
  refine lv_aload_n hx hb dX6_copyFrom_61 rfl (lv_at hl 1 rfl) ?_
  refine va_get (D := dg) (ci := 9) (v := .ref (b 4)) (C := RX6) (T := TX6) (N := 10) hx hb htg inG_X6 hown hK hP 8 rfl rfl 5 (Nat.le_of_ble_eq_true rfl) (htg _ wq_68) (fun _ h9 => h9) rfl dX6_copyFrom_62 ?_
  refine x_iconst hx hb dX6_copyFrom_65 ?_
  refine lv_aload_n hx hb dX6_copyFrom_66 rfl (lv_at hl 0 rfl) ?_
  refine va_get (D := dg) (ci := 9) (v := .ref (a 4)) (C := RX6) (T := TX6) (N := 10) hx hb htg inG_X6 hown hK hP 0 rfl rfl 5 (Nat.le_of_ble_eq_true rfl) (htg _ wq_68) (fun _ h9 => h9) rfl dX6_copyFrom_67 ?_
  refine x_iconst hx hb dX6_copyFrom_70 ?_
  refine x_iconst hx hb dX6_copyFrom_71 ?_
  refine x_copy (n := 4) (ws' := parkC ck a (repS (upS (repS (repS (repS (upS S 0 0 (T 0 0)) 1 T) 2 T) 3 T) 0 1 (T 0 1)) 7 T) ++ (parkC ck b T)) hx hb (hml.trans hl.1.symm) hown (htg _ wq_605) (htg _ wq_607) (htg _ wq_606) (htg _ wq_24) hK hP hD hS 12 4 0 rfl rfl rfl rfl (by decide) (fun _ => rfl) (Nat.le_of_ble_eq_true rfl) (Nat.le_of_ble_eq_true rfl) rfl dX6_copyFrom_72 (fun H locs hP hD hS => ?_)
  refine lv_aload_n hx hb dX6_copyFrom_75 rfl (lv_at hl 1 rfl) ?_
  refine va_get (D := dg) (ci := 9) (v := .ref (b 5)) (C := RX6) (T := TX6) (N := 10) hx hb htg inG_X6 hown hK hP 8 rfl rfl 6 (Nat.le_of_ble_eq_true rfl) (htg _ wq_70) (fun _ h9 => h9) rfl dX6_copyFrom_76 ?_
  refine x_iconst hx hb dX6_copyFrom_79 ?_
  refine lv_aload_n hx hb dX6_copyFrom_80 rfl (lv_at hl 0 rfl) ?_
  refine va_get (D := dg) (ci := 9) (v := .ref (a 5)) (C := RX6) (T := TX6) (N := 10) hx hb htg inG_X6 hown hK hP 0 rfl rfl 6 (Nat.le_of_ble_eq_true rfl) (htg _ wq_70) (fun _ h9 => h9) rfl dX6_copyFrom_81 ?_
  refine x_iconst hx hb dX6_copyFrom_84 ?_
  refine x_iconst hx hb dX6_copyFrom_85 ?_
  refine x_copy (n := 4) (ws' := parkC ck a (repS (repS (upS (repS (repS (repS (upS S 0 0 (T 0 0)) 1 T) 2 T) 3 T) 0 1 (T 0 1)) 7 T) 8 T) ++ (parkC ck b T)) hx hb (hml.trans hl.1.symm) hown (htg _ wq_605) (htg _ wq_607) (htg _ wq_606) (htg _ wq_24) hK hP hD hS 13 5 0 rfl rfl rfl rfl (by decide) (fun _ => rfl) (Nat.le_of_ble_eq_true rfl) (Nat.le_of_ble_eq_true rfl) rfl dX6_copyFrom_86 (fun H locs hP hD hS => ?_)
  refine lv_aload_n hx hb dX6_copyFrom_89 rfl (lv_at hl 1 rfl) ?_
  refine va_get (D := dg) (ci := 9) (v := .ref (b 6)) (C := RX6) (T := TX6) (N := 10) hx hb htg inG_X6 hown hK hP 8 rfl rfl 7 (Nat.le_of_ble_eq_true rfl) (htg _ wq_72) (fun _ h9 => h9) rfl dX6_copyFrom_90 ?_
  refine x_iconst hx hb dX6_copyFrom_93 ?_
  refine lv_aload_n hx hb dX6_copyFrom_94 rfl (lv_at hl 0 rfl) ?_
  refine va_get (D := dg) (ci := 9) (v := .ref (a 6)) (C := RX6) (T := TX6) (N := 10) hx hb htg inG_X6 hown hK hP 0 rfl rfl 7 (Nat.le_of_ble_eq_true rfl) (htg _ wq_72) (fun _ h9 => h9) rfl dX6_copyFrom_95 ?_
  refine x_iconst hx hb dX6_copyFrom_98 ?_
  refine x_iconst hx hb dX6_copyFrom_99 ?_
  refine x_copy (n := 4) (ws' := parkC ck a (repS (repS (repS (upS (repS (repS (repS (upS S 0 0 (T 0 0)) 1 T) 2 T) 3 T) 0 1 (T 0 1)) 7 T) 8 T) 9 T) ++ (parkC ck b T)) hx hb (hml.trans hl.1.symm) hown (htg _ wq_605) (htg _ wq_607) (htg _ wq_606) (htg _ wq_24) hK hP hD hS 14 6 0 rfl rfl rfl rfl (by decide) (fun _ => rfl) (Nat.le_of_ble_eq_true rfl) (Nat.le_of_ble_eq_true rfl) rfl dX6_copyFrom_100 (fun H locs hP hD hS => ?_)
  refine lv_aload_n hx hb dX6_copyFrom_103 rfl (lv_at hl 1 rfl) ?_
  refine va_get (D := dg) (ci := 9) (v := .ref (b 7)) (C := RX6) (T := TX6) (N := 10) hx hb htg inG_X6 hown hK hP 8 rfl rfl 8 (Nat.le_of_ble_eq_true rfl) (htg _ wq_75) (fun _ h9 => h9) rfl dX6_copyFrom_104 ?_
  refine x_iconst hx hb dX6_copyFrom_107 ?_
  refine lv_aload_n hx hb dX6_copyFrom_108 rfl (lv_at hl 0 rfl) ?_
  refine va_get (D := dg) (ci := 9) (v := .ref (a 7)) (C := RX6) (T := TX6) (N := 10) hx hb htg inG_X6 hown hK hP 0 rfl rfl 8 (Nat.le_of_ble_eq_true rfl) (htg _ wq_75) (fun _ h9 => h9) rfl dX6_copyFrom_109 ?_
  refine x_iconst hx hb dX6_copyFrom_112 ?_
  refine x_iconst hx hb dX6_copyFrom_113 ?_
  refine x_copy (n := 4) (ws' := parkC ck a (repS (repS (repS (repS (upS (repS (repS (repS (upS S 0 0 (T 0 0)) 1 T) 2 T) 3 T) 0 1 (T 0 1)) 7 T) 8 T) 9 T) 10 T) ++ (parkC ck b T)) hx hb (hml.trans hl.1.symm) hown (htg _ wq_605) (htg _ wq_607) (htg _ wq_606) (htg _ wq_24) hK hP hD hS 15 7 1 rfl rfl rfl rfl (by decide) (fun i => fit_z (hT i)) (Nat.le_of_ble_eq_true rfl) (Nat.le_of_ble_eq_true rfl) rfl dX6_copyFrom_114 (fun H locs hP hD hS => ?_)
  refine lv_aload_n hx hb dX6_copyFrom_117 rfl (lv_at hl 0 rfl) ?_
  refine lv_aload_n hx hb dX6_copyFrom_118 rfl (lv_at hl 1 rfl) ?_
  refine va_get (D := dg) (ci := 9) (v := .int (zI (T 0 3))) (C := RX6) (T := TX6) (N := 10) hx hb htg inG_X6 hown hK hP 8 rfl rfl 9 (Nat.le_of_ble_eq_true rfl) (htg _ wq_78) (fun _ h9 => h9) rfl dX6_copyFrom_119 ?_
  refine va_put (D := dg) (ci := 9) (v := .int (zI (T 0 3))) (ty := .int) (C := RX6) (T := TX6) (N := 10) hx hb htg inG_X6 tyX6 tyX6_ok nmX6 hown hK hP hD hS 0 rfl rfl 9 (Nat.le_of_ble_eq_true rfl) (htg _ wq_78) (fun _ h9 => h9) rfl (by decide +kernel) rfl rfl (Nat.le_of_ble_eq_true rfl) dX6_copyFrom_122 (fun H locs hP hD hS => ?_)
  have hP : va_P dg vwCl (parkC ck a (upS (repS (repS (repS (repS (upS (repS (repS (repS (upS S 0 0 (T 0 0)) 1 T) 2 T) 3 T) 0 1 (T 0 1)) 7 T) 8 T) 9 T) 10 T) 0 3 (T 0 3)) ++ (parkC ck b T)) H := hP
  have hD : va_D A (parkC ck a (upS (repS (repS (repS (repS (upS (repS (repS (repS (upS S 0 0 (T 0 0)) 1 T) 2 T) 3 T) 0 1 (T 0 1)) 7 T) 8 T) 9 T) 10 T) 0 3 (T 0 3)) ++ (parkC ck b T)) := hD
  have hEq : parkC ck a T ++ (parkC ck b T) = parkC ck a (upS (repS (repS (repS (repS (upS (repS (repS (repS (upS S 0 0 (T 0 0)) 1 T) 2 T) 3 T) 0 1 (T 0 1)) 7 T) 8 T) 9 T) 10 T) 0 3 (T 0 3)) ++ (parkC ck b T) := rfl
  exact W.vret hx hb hr (fun t9 ht9 hW9 => ⟨⟨(), rfl, trivial, by rw [ht9, hEq]; exact hP, by rw [hEq, hAe]; exact hD⟩, hS.F ht9⟩) hS.2.2 dX6_copyFrom_125

set_option maxHeartbeats 4000000 in
set_option maxRecDepth 100000 in
/-- BenchBroker$Books.copyFrom -/
theorem c_booksCopyI (l : Launch) (dg : va_G) (ck : Nat → ClassId) (a : Nat → Nat) (S : St) (b : Nat → Nat) (T : St) (sz : Nat) (hT : ∀ i, 0 ≤ T 10 i ∧ T 10 i ≤ 1) : Met l yX1_copyFrom (.code yX1_copyFrom cX1_copyFrom 2 none :: GW) ({ frames := 2, cells := 0, slots := 0, locals := 47 }) (va_Pc [.ref (a 0), .ref (b 0)] (wrP dg ck sz (bookC ck a S ++ (bookC ck b T ++ (parkC ck (pa a) S ++ (parkC ck (pa b) T)))))) (va_Qv (fun _ : Unit => True) (fun _ t9 => wrQ dg sz (bookC ck a S ++ (bookC ck b T ++ (parkC ck (pa a) S ++ (parkC ck (pa b) T)))) (bookC ck a T ++ (bookC ck b T ++ (parkC ck (pa a) T ++ (parkC ck (pa b) T)))) t9) (va_A (bookC ck a S ++ (bookC ck b T ++ (parkC ck (pa a) S ++ (parkC ck (pa b) T)))) sz)) 0 0 (va_A (bookC ck a S ++ (bookC ck b T ++ (parkC ck (pa a) S ++ (parkC ck (pa b) T)))) sz) := by
  refine Met.ofW (cc := cX1_copyFrom) (maxL := 2) (ret := none) (by decide) rfl ?_
  intro p e s m args below meth c s₁ B hml hv
  obtain ⟨rfl, hsz, hP, hK, hD0⟩ := hv
  have hx := B.exec
  have hb := B.bytes
  have hr := B.returns
  have hts := atoms_spec (ws := .code yX1_copyFrom cX1_copyFrom 2 none :: GW) B.pre
  have htg : ∀ w ∈ GW, w.before _ s = true := fun w h => hts w (List.mem_cons_of_mem _ h)
  have hown : s.vm.findClass RX1 = some m.cls := findClass_of_methodNamed B.named
  have hlocks := B.notSynchronized
  subst hsz
  have hD := hD0.self (sz := s.heap.size)
  generalize hAe : va_A (bookC ck a S ++ (bookC ck b T ++ (parkC ck (pa a) S ++ (parkC ck (pa b) T)))) s.heap.size = A at hD ⊢
  have hA : ∀ q : Nat, s.heap.size ≤ q → A q := fun q h => by rw [← hAe]; exact Or.inr h
  have hS : va_S A s.heap s.heap [] := va_S.rf
  have hP : va_P dg vwCl (bookC ck a S ++ (bookC ck b T ++ (parkC ck (pa a) S ++ (parkC ck (pa b) T)))) s.heap := hP
  have hl := lv_entry ([.ref (a 0), .ref (b 0)]) (n := 2) (Nat.le_of_ble_eq_true rfl)
  rw [lg_entry_eq]
  generalize (lg_sl ([.ref (a 0), .ref (b 0)]) ++ List.replicate (2 - (lg_sl ([.ref (a 0), .ref (b 0)])).length) Slot.unset).toArray = ls at hl ⊢
  have hl : lv_has ls 2 [(0, .ref (a 0)), (1, .ref (b 0))] := hl
  refine lv_aload_n hx hb dX1_copyFrom_0 rfl (lv_at hl 0 rfl) ?_
  refine va_get (D := dg) (ci := 4) (v := .ref (a 6)) (C := RX1) (T := TX1) (N := 13) hx hb htg inG_X1 hown hK hP 0 rfl rfl 0 (Nat.le_of_ble_eq_true rfl) (htg _ wq_106) (fun _ h9 => h9) rfl dX1_copyFrom_1 ?_
  refine lv_aload_n hx hb dX1_copyFrom_4 rfl (lv_at hl 1 rfl) ?_
  refine va_get (D := dg) (ci := 4) (v := .ref (b 6)) (C := RX1) (T := TX1) (N := 13) hx hb htg inG_X1 hown hK hP 6 rfl rfl 0 (Nat.le_of_ble_eq_true rfl) (htg _ wq_106) (fun _ h9 => h9) rfl dX1_copyFrom_5 ?_
  refine x_callvB (ws' := bookC ck a S ++ (bookC ck b T ++ (parkC ck (pa a) T ++ (parkC ck (pa b) T)))) (M := parkC ck (pa a) S ++ (parkC ck (pa b) T)) (M' := parkC ck (pa a) T ++ (parkC ck (pa b) T)) (N := bookC ck a S ++ (bookC ck b T)) (cat_perm [bookC ck a S, bookC ck b T, parkC ck (pa a) S, parkC ck (pa b) T] [2, 3] [0, 1] 4 rfl (by decide)) (cat_perm [bookC ck a S, bookC ck b T, parkC ck (pa a) T, parkC ck (pa b) T] [2, 3] [0, 1] 4 rfl (by decide)) hP hD hS hA (fun hPm hDm => va_runV (As := [.ref (b 6)]) (rest := []) ⟨hx, hb, hml, hown, htg⟩ (c_parkCopy l dg ck (pa a) S (pa b) T _ hT) (cwV 1 htg (gwV wq_601 wq_602 wq_603 wq_3 wq_604) rfl rfl rfl (by decide +kernel) ⟨Nat.le_of_ble_eq_true rfl, Nat.le_of_ble_eq_true rfl⟩) (wr_preV hK hPm hDm 0 9 rfl rfl) rfl rfl hl.1 rfl (lv_room (Nat.le_of_ble_eq_true rfl)) dX1_copyFrom_8 ⟨Nat.zero_le _, Nat.zero_le _⟩) (fun H locs hP hD hS => ?_)
  refine lv_aload_n hx hb dX1_copyFrom_11 rfl (lv_at hl 0 rfl) ?_
  refine lv_aload_n hx hb dX1_copyFrom_12 rfl (lv_at hl 1 rfl) ?_
  refine va_get (D := dg) (ci := 4) (v := .int (zI (T 0 2))) (C := RX1) (T := TX1) (N := 13) hx hb htg inG_X1 hown hK hP 6 rfl rfl 1 (Nat.le_of_ble_eq_true rfl) (htg _ wq_108) (fun _ h9 => h9) rfl dX1_copyFrom_13 ?_
  refine va_put (D := dg) (ci := 4) (v := .int (zI (T 0 2))) (ty := .int) (C := RX1) (T := TX1) (N := 13) hx hb htg inG_X1 tyX1 tyX1_ok nmX1 hown hK hP hD hS 0 rfl rfl 1 (Nat.le_of_ble_eq_true rfl) (htg _ wq_108) (fun _ h9 => h9) rfl (by decide +kernel) rfl rfl (Nat.le_of_ble_eq_true rfl) dX1_copyFrom_16 (fun H locs hP hD hS => ?_)
  have hP : va_P dg vwCl (bookC ck a (upS S 0 2 (T 0 2)) ++ (bookC ck b T ++ (parkC ck (pa a) T ++ (parkC ck (pa b) T)))) H := hP
  have hD : va_D A (bookC ck a (upS S 0 2 (T 0 2)) ++ (bookC ck b T ++ (parkC ck (pa a) T ++ (parkC ck (pa b) T)))) := hD
  refine lv_aload_n hx hb dX1_copyFrom_19 rfl (lv_at hl 1 rfl) ?_
  refine va_get (D := dg) (ci := 4) (v := .ref (b 1)) (C := RX1) (T := TX1) (N := 13) hx hb htg inG_X1 hown hK hP 6 rfl rfl 2 (Nat.le_of_ble_eq_true rfl) (htg _ wq_110) (fun _ h9 => h9) rfl dX1_copyFrom_20 ?_
  refine x_iconst hx hb dX1_copyFrom_23 ?_
  refine lv_aload_n hx hb dX1_copyFrom_24 rfl (lv_at hl 0 rfl) ?_
  refine va_get (D := dg) (ci := 4) (v := .ref (a 1)) (C := RX1) (T := TX1) (N := 13) hx hb htg inG_X1 hown hK hP 0 rfl rfl 2 (Nat.le_of_ble_eq_true rfl) (htg _ wq_110) (fun _ h9 => h9) rfl dX1_copyFrom_25 ?_
  refine x_iconst hx hb dX1_copyFrom_28 ?_
  refine x_bipush hx hb dX1_copyFrom_29 (by decide) ?_
  refine x_copy (n := 8) (ws' := bookC ck a (repS (upS S 0 2 (T 0 2)) 11 T) ++ (bookC ck b T ++ (parkC ck (pa a) T ++ (parkC ck (pa b) T)))) hx hb (hml.trans hl.1.symm) hown (htg _ wq_608) (htg _ wq_607) (htg _ wq_606) (htg _ wq_24) hK hP hD hS 7 1 0 rfl rfl rfl rfl (by decide) (fun _ => rfl) (Nat.le_of_ble_eq_true rfl) (Nat.le_of_ble_eq_true rfl) rfl dX1_copyFrom_31 (fun H locs hP hD hS => ?_)
  refine lv_aload_n hx hb dX1_copyFrom_34 rfl (lv_at hl 1 rfl) ?_
  refine va_get (D := dg) (ci := 4) (v := .ref (b 2)) (C := RX1) (T := TX1) (N := 13) hx hb htg inG_X1 hown hK hP 6 rfl rfl 3 (Nat.le_of_ble_eq_true rfl) (htg _ wq_112) (fun _ h9 => h9) rfl dX1_copyFrom_35 ?_
  refine x_iconst hx hb dX1_copyFrom_38 ?_
  refine lv_aload_n hx hb dX1_copyFrom_39 rfl (lv_at hl 0 rfl) ?_
  refine va_get (D := dg) (ci := 4) (v := .ref (a 2)) (C := RX1) (T := TX1) (N := 13) hx hb htg inG_X1 hown hK hP 0 rfl rfl 3 (Nat.le_of_ble_eq_true rfl) (htg _ wq_112) (fun _ h9 => h9) rfl dX1_copyFrom_40 ?_
  refine x_iconst hx hb dX1_copyFrom_43 ?_
  refine x_bipush hx hb dX1_copyFrom_44 (by decide) ?_
  refine x_copy (n := 8) (ws' := bookC ck a (repS (repS (upS S 0 2 (T 0 2)) 11 T) 12 T) ++ (bookC ck b T ++ (parkC ck (pa a) T ++ (parkC ck (pa b) T)))) hx hb (hml.trans hl.1.symm) hown (htg _ wq_608) (htg _ wq_607) (htg _ wq_606) (htg _ wq_24) hK hP hD hS 8 2 0 rfl rfl rfl rfl (by decide) (fun _ => rfl) (Nat.le_of_ble_eq_true rfl) (Nat.le_of_ble_eq_true rfl) rfl dX1_copyFrom_46 (fun H locs hP hD hS => ?_)
  refine lv_aload_n hx hb dX1_copyFrom_49 rfl (lv_at hl 1 rfl) ?_
  refine va_get (D := dg) (ci := 4) (v := .ref (b 3)) (C := RX1) (T := TX1) (N := 13) hx hb htg inG_X1 hown hK hP 6 rfl rfl 4 (Nat.le_of_ble_eq_true rfl) (htg _ wq_114) (fun _ h9 => h9) rfl dX1_copyFrom_50 ?_
  refine x_iconst hx hb dX1_copyFrom_53 ?_
  refine lv_aload_n hx hb dX1_copyFrom_54 rfl (lv_at hl 0 rfl) ?_
  refine va_get (D := dg) (ci := 4) (v := .ref (a 3)) (C := RX1) (T := TX1) (N := 13) hx hb htg inG_X1 hown hK hP 0 rfl rfl 4 (Nat.le_of_ble_eq_true rfl) (htg _ wq_114) (fun _ h9 => h9) rfl dX1_copyFrom_55 ?_
  refine x_iconst hx hb dX1_copyFrom_58 ?_
  refine x_bipush hx hb dX1_copyFrom_59 (by decide) ?_
  refine x_copy (n := 10) (ws' := bookC ck a (repS (repS (repS (upS S 0 2 (T 0 2)) 11 T) 12 T) 4 T) ++ (bookC ck b T ++ (parkC ck (pa a) T ++ (parkC ck (pa b) T)))) hx hb (hml.trans hl.1.symm) hown (htg _ wq_608) (htg _ wq_607) (htg _ wq_606) (htg _ wq_24) hK hP hD hS 9 3 0 rfl rfl rfl rfl (by decide) (fun _ => rfl) (Nat.le_of_ble_eq_true rfl) (Nat.le_of_ble_eq_true rfl) rfl dX1_copyFrom_61 (fun H locs hP hD hS => ?_)
  refine lv_aload_n hx hb dX1_copyFrom_64 rfl (lv_at hl 1 rfl) ?_
  refine va_get (D := dg) (ci := 4) (v := .ref (b 4)) (C := RX1) (T := TX1) (N := 13) hx hb htg inG_X1 hown hK hP 6 rfl rfl 5 (Nat.le_of_ble_eq_true rfl) (htg _ wq_116) (fun _ h9 => h9) rfl dX1_copyFrom_65 ?_
  refine x_iconst hx hb dX1_copyFrom_68 ?_
  refine lv_aload_n hx hb dX1_copyFrom_69 rfl (lv_at hl 0 rfl) ?_
  refine va_get (D := dg) (ci := 4) (v := .ref (a 4)) (C := RX1) (T := TX1) (N := 13) hx hb htg inG_X1 hown hK hP 0 rfl rfl 5 (Nat.le_of_ble_eq_true rfl) (htg _ wq_116) (fun _ h9 => h9) rfl dX1_copyFrom_70 ?_
  refine x_iconst hx hb dX1_copyFrom_73 ?_
  refine x_bipush hx hb dX1_copyFrom_74 (by decide) ?_
  refine x_copy (n := 10) (ws' := bookC ck a (repS (repS (repS (repS (upS S 0 2 (T 0 2)) 11 T) 12 T) 4 T) 5 T) ++ (bookC ck b T ++ (parkC ck (pa a) T ++ (parkC ck (pa b) T)))) hx hb (hml.trans hl.1.symm) hown (htg _ wq_608) (htg _ wq_607) (htg _ wq_606) (htg _ wq_24) hK hP hD hS 10 4 0 rfl rfl rfl rfl (by decide) (fun _ => rfl) (Nat.le_of_ble_eq_true rfl) (Nat.le_of_ble_eq_true rfl) rfl dX1_copyFrom_76 (fun H locs hP hD hS => ?_)
  refine lv_aload_n hx hb dX1_copyFrom_79 rfl (lv_at hl 1 rfl) ?_
  refine va_get (D := dg) (ci := 4) (v := .ref (b 5)) (C := RX1) (T := TX1) (N := 13) hx hb htg inG_X1 hown hK hP 6 rfl rfl 6 (Nat.le_of_ble_eq_true rfl) (htg _ wq_118) (fun _ h9 => h9) rfl dX1_copyFrom_80 ?_
  refine x_iconst hx hb dX1_copyFrom_83 ?_
  refine lv_aload_n hx hb dX1_copyFrom_84 rfl (lv_at hl 0 rfl) ?_
  refine va_get (D := dg) (ci := 4) (v := .ref (a 5)) (C := RX1) (T := TX1) (N := 13) hx hb htg inG_X1 hown hK hP 0 rfl rfl 6 (Nat.le_of_ble_eq_true rfl) (htg _ wq_118) (fun _ h9 => h9) rfl dX1_copyFrom_85 ?_
  refine x_iconst hx hb dX1_copyFrom_88 ?_
  refine x_bipush hx hb dX1_copyFrom_89 (by decide) ?_
  refine x_copy (n := 10) (ws' := bookC ck a (repS (repS (repS (repS (repS (upS S 0 2 (T 0 2)) 11 T) 12 T) 4 T) 5 T) 6 T) ++ (bookC ck b T ++ (parkC ck (pa a) T ++ (parkC ck (pa b) T)))) hx hb (hml.trans hl.1.symm) hown (htg _ wq_608) (htg _ wq_607) (htg _ wq_606) (htg _ wq_24) hK hP hD hS 11 5 0 rfl rfl rfl rfl (by decide) (fun _ => rfl) (Nat.le_of_ble_eq_true rfl) (Nat.le_of_ble_eq_true rfl) rfl dX1_copyFrom_91 (fun H locs hP hD hS => ?_)
  refine lv_aload_n hx hb dX1_copyFrom_94 rfl (lv_at hl 0 rfl) ?_
  refine lv_aload_n hx hb dX1_copyFrom_95 rfl (lv_at hl 1 rfl) ?_
  refine va_get (D := dg) (ci := 4) (v := .int (zI (T 0 4))) (C := RX1) (T := TX1) (N := 13) hx hb htg inG_X1 hown hK hP 6 rfl rfl 7 (Nat.le_of_ble_eq_true rfl) (htg _ wq_120) (fun _ h9 => h9) rfl dX1_copyFrom_96 ?_
  refine va_put (D := dg) (ci := 4) (v := .int (zI (T 0 4))) (ty := .int) (C := RX1) (T := TX1) (N := 13) hx hb htg inG_X1 tyX1 tyX1_ok nmX1 hown hK hP hD hS 0 rfl rfl 7 (Nat.le_of_ble_eq_true rfl) (htg _ wq_120) (fun _ h9 => h9) rfl (by decide +kernel) rfl rfl (Nat.le_of_ble_eq_true rfl) dX1_copyFrom_99 (fun H locs hP hD hS => ?_)
  have hP : va_P dg vwCl (bookC ck a (upS (repS (repS (repS (repS (repS (upS S 0 2 (T 0 2)) 11 T) 12 T) 4 T) 5 T) 6 T) 0 4 (T 0 4)) ++ (bookC ck b T ++ (parkC ck (pa a) T ++ (parkC ck (pa b) T)))) H := hP
  have hD : va_D A (bookC ck a (upS (repS (repS (repS (repS (repS (upS S 0 2 (T 0 2)) 11 T) 12 T) 4 T) 5 T) 6 T) 0 4 (T 0 4)) ++ (bookC ck b T ++ (parkC ck (pa a) T ++ (parkC ck (pa b) T)))) := hD
  refine lv_aload_n hx hb dX1_copyFrom_102 rfl (lv_at hl 0 rfl) ?_
  refine lv_aload_n hx hb dX1_copyFrom_103 rfl (lv_at hl 1 rfl) ?_
  refine va_get (D := dg) (ci := 4) (v := .int (zI (T 0 5))) (C := RX1) (T := TX1) (N := 13) hx hb htg inG_X1 hown hK hP 6 rfl rfl 8 (Nat.le_of_ble_eq_true rfl) (htg _ wq_122) (fun _ h9 => h9) rfl dX1_copyFrom_104 ?_
  refine va_put (D := dg) (ci := 4) (v := .int (zI (T 0 5))) (ty := .int) (C := RX1) (T := TX1) (N := 13) hx hb htg inG_X1 tyX1 tyX1_ok nmX1 hown hK hP hD hS 0 rfl rfl 8 (Nat.le_of_ble_eq_true rfl) (htg _ wq_122) (fun _ h9 => h9) rfl (by decide +kernel) rfl rfl (Nat.le_of_ble_eq_true rfl) dX1_copyFrom_107 (fun H locs hP hD hS => ?_)
  have hP : va_P dg vwCl (bookC ck a (upS (upS (repS (repS (repS (repS (repS (upS S 0 2 (T 0 2)) 11 T) 12 T) 4 T) 5 T) 6 T) 0 4 (T 0 4)) 0 5 (T 0 5)) ++ (bookC ck b T ++ (parkC ck (pa a) T ++ (parkC ck (pa b) T)))) H := hP
  have hD : va_D A (bookC ck a (upS (upS (repS (repS (repS (repS (repS (upS S 0 2 (T 0 2)) 11 T) 12 T) 4 T) 5 T) 6 T) 0 4 (T 0 4)) 0 5 (T 0 5)) ++ (bookC ck b T ++ (parkC ck (pa a) T ++ (parkC ck (pa b) T)))) := hD
  refine lv_aload_n hx hb dX1_copyFrom_110 rfl (lv_at hl 0 rfl) ?_
  refine lv_aload_n hx hb dX1_copyFrom_111 rfl (lv_at hl 1 rfl) ?_
  refine va_get (D := dg) (ci := 4) (v := .int (zI (T 0 6))) (C := RX1) (T := TX1) (N := 13) hx hb htg inG_X1 hown hK hP 6 rfl rfl 9 (Nat.le_of_ble_eq_true rfl) (htg _ wq_124) (fun _ h9 => h9) rfl dX1_copyFrom_112 ?_
  refine va_put (D := dg) (ci := 4) (v := .int (zI (T 0 6))) (ty := .int) (C := RX1) (T := TX1) (N := 13) hx hb htg inG_X1 tyX1 tyX1_ok nmX1 hown hK hP hD hS 0 rfl rfl 9 (Nat.le_of_ble_eq_true rfl) (htg _ wq_124) (fun _ h9 => h9) rfl (by decide +kernel) rfl rfl (Nat.le_of_ble_eq_true rfl) dX1_copyFrom_115 (fun H locs hP hD hS => ?_)
  have hP : va_P dg vwCl (bookC ck a (upS (upS (upS (repS (repS (repS (repS (repS (upS S 0 2 (T 0 2)) 11 T) 12 T) 4 T) 5 T) 6 T) 0 4 (T 0 4)) 0 5 (T 0 5)) 0 6 (T 0 6)) ++ (bookC ck b T ++ (parkC ck (pa a) T ++ (parkC ck (pa b) T)))) H := hP
  have hD : va_D A (bookC ck a (upS (upS (upS (repS (repS (repS (repS (repS (upS S 0 2 (T 0 2)) 11 T) 12 T) 4 T) 5 T) 6 T) 0 4 (T 0 4)) 0 5 (T 0 5)) 0 6 (T 0 6)) ++ (bookC ck b T ++ (parkC ck (pa a) T ++ (parkC ck (pa b) T)))) := hD
  refine lv_aload_n hx hb dX1_copyFrom_118 rfl (lv_at hl 0 rfl) ?_
  refine lv_aload_n hx hb dX1_copyFrom_119 rfl (lv_at hl 1 rfl) ?_
  refine va_get (D := dg) (ci := 4) (v := .int (zI (T 0 7))) (C := RX1) (T := TX1) (N := 13) hx hb htg inG_X1 hown hK hP 6 rfl rfl 10 (Nat.le_of_ble_eq_true rfl) (htg _ wq_126) (fun _ h9 => h9) rfl dX1_copyFrom_120 ?_
  refine va_put (D := dg) (ci := 4) (v := .int (zI (T 0 7))) (ty := .int) (C := RX1) (T := TX1) (N := 13) hx hb htg inG_X1 tyX1 tyX1_ok nmX1 hown hK hP hD hS 0 rfl rfl 10 (Nat.le_of_ble_eq_true rfl) (htg _ wq_126) (fun _ h9 => h9) rfl (by decide +kernel) rfl rfl (Nat.le_of_ble_eq_true rfl) dX1_copyFrom_123 (fun H locs hP hD hS => ?_)
  have hP : va_P dg vwCl (bookC ck a (upS (upS (upS (upS (repS (repS (repS (repS (repS (upS S 0 2 (T 0 2)) 11 T) 12 T) 4 T) 5 T) 6 T) 0 4 (T 0 4)) 0 5 (T 0 5)) 0 6 (T 0 6)) 0 7 (T 0 7)) ++ (bookC ck b T ++ (parkC ck (pa a) T ++ (parkC ck (pa b) T)))) H := hP
  have hD : va_D A (bookC ck a (upS (upS (upS (upS (repS (repS (repS (repS (repS (upS S 0 2 (T 0 2)) 11 T) 12 T) 4 T) 5 T) 6 T) 0 4 (T 0 4)) 0 5 (T 0 5)) 0 6 (T 0 6)) 0 7 (T 0 7)) ++ (bookC ck b T ++ (parkC ck (pa a) T ++ (parkC ck (pa b) T)))) := hD
  refine lv_aload_n hx hb dX1_copyFrom_126 rfl (lv_at hl 0 rfl) ?_
  refine lv_aload_n hx hb dX1_copyFrom_127 rfl (lv_at hl 1 rfl) ?_
  refine va_get (D := dg) (ci := 4) (v := .int (zI (T 0 8))) (C := RX1) (T := TX1) (N := 13) hx hb htg inG_X1 hown hK hP 6 rfl rfl 11 (Nat.le_of_ble_eq_true rfl) (htg _ wq_128) (fun _ h9 => h9) rfl dX1_copyFrom_128 ?_
  refine va_put (D := dg) (ci := 4) (v := .int (zI (T 0 8))) (ty := .int) (C := RX1) (T := TX1) (N := 13) hx hb htg inG_X1 tyX1 tyX1_ok nmX1 hown hK hP hD hS 0 rfl rfl 11 (Nat.le_of_ble_eq_true rfl) (htg _ wq_128) (fun _ h9 => h9) rfl (by decide +kernel) rfl rfl (Nat.le_of_ble_eq_true rfl) dX1_copyFrom_131 (fun H locs hP hD hS => ?_)
  have hP : va_P dg vwCl (bookC ck a (upS (upS (upS (upS (upS (repS (repS (repS (repS (repS (upS S 0 2 (T 0 2)) 11 T) 12 T) 4 T) 5 T) 6 T) 0 4 (T 0 4)) 0 5 (T 0 5)) 0 6 (T 0 6)) 0 7 (T 0 7)) 0 8 (T 0 8)) ++ (bookC ck b T ++ (parkC ck (pa a) T ++ (parkC ck (pa b) T)))) H := hP
  have hD : va_D A (bookC ck a (upS (upS (upS (upS (upS (repS (repS (repS (repS (repS (upS S 0 2 (T 0 2)) 11 T) 12 T) 4 T) 5 T) 6 T) 0 4 (T 0 4)) 0 5 (T 0 5)) 0 6 (T 0 6)) 0 7 (T 0 7)) 0 8 (T 0 8)) ++ (bookC ck b T ++ (parkC ck (pa a) T ++ (parkC ck (pa b) T)))) := hD
  refine lv_aload_n hx hb dX1_copyFrom_134 rfl (lv_at hl 0 rfl) ?_
  refine lv_aload_n hx hb dX1_copyFrom_135 rfl (lv_at hl 1 rfl) ?_
  refine va_get (D := dg) (ci := 4) (v := .int (zI (T 0 9))) (C := RX1) (T := TX1) (N := 13) hx hb htg inG_X1 hown hK hP 6 rfl rfl 12 (Nat.le_of_ble_eq_true rfl) (htg _ wq_130) (fun _ h9 => h9) rfl dX1_copyFrom_136 ?_
  refine va_put (D := dg) (ci := 4) (v := .int (zI (T 0 9))) (ty := .int) (C := RX1) (T := TX1) (N := 13) hx hb htg inG_X1 tyX1 tyX1_ok nmX1 hown hK hP hD hS 0 rfl rfl 12 (Nat.le_of_ble_eq_true rfl) (htg _ wq_130) (fun _ h9 => h9) rfl (by decide +kernel) rfl rfl (Nat.le_of_ble_eq_true rfl) dX1_copyFrom_139 (fun H locs hP hD hS => ?_)
  have hP : va_P dg vwCl (bookC ck a (upS (upS (upS (upS (upS (upS (repS (repS (repS (repS (repS (upS S 0 2 (T 0 2)) 11 T) 12 T) 4 T) 5 T) 6 T) 0 4 (T 0 4)) 0 5 (T 0 5)) 0 6 (T 0 6)) 0 7 (T 0 7)) 0 8 (T 0 8)) 0 9 (T 0 9)) ++ (bookC ck b T ++ (parkC ck (pa a) T ++ (parkC ck (pa b) T)))) H := hP
  have hD : va_D A (bookC ck a (upS (upS (upS (upS (upS (upS (repS (repS (repS (repS (repS (upS S 0 2 (T 0 2)) 11 T) 12 T) 4 T) 5 T) 6 T) 0 4 (T 0 4)) 0 5 (T 0 5)) 0 6 (T 0 6)) 0 7 (T 0 7)) 0 8 (T 0 8)) 0 9 (T 0 9)) ++ (bookC ck b T ++ (parkC ck (pa a) T ++ (parkC ck (pa b) T)))) := hD
  have hEq : bookC ck a T ++ (bookC ck b T ++ (parkC ck (pa a) T ++ (parkC ck (pa b) T))) = bookC ck a (upS (upS (upS (upS (upS (upS (repS (repS (repS (repS (repS (upS S 0 2 (T 0 2)) 11 T) 12 T) 4 T) 5 T) 6 T) 0 4 (T 0 4)) 0 5 (T 0 5)) 0 6 (T 0 6)) 0 7 (T 0 7)) 0 8 (T 0 8)) 0 9 (T 0 9)) ++ (bookC ck b T ++ (parkC ck (pa a) T ++ (parkC ck (pa b) T))) := rfl
  exact W.vret hx hb hr (fun t9 ht9 hW9 => ⟨⟨(), rfl, trivial, by rw [ht9, hEq]; exact hP, by rw [hEq, hAe]; exact hD⟩, hS.F ht9⟩) hS.2.2 dX1_copyFrom_142

theorem pm_bb (ck : Nat → ClassId) (a b : Nat → Nat) (S T : St) : (bookC ck a S ++ (bookC ck b T ++ (parkC ck (pa a) S ++ parkC ck (pa b) T))).Perm (booksC ck a S ++ booksC ck b T) := by
  have h := cat_perm [bookC ck a S, bookC ck b T, parkC ck (pa a) S, parkC ck (pa b) T] [0, 2] [1, 3] 4 rfl (by decide)
  exact h
theorem c_booksCopy (l : Launch) (dg : va_G) (ck : Nat → ClassId) (a : Nat → Nat) (S : St) (b : Nat → Nat) (T : St) (sz : Nat) (hT : ∀ i, 0 ≤ T 10 i ∧ T 10 i ≤ 1) : Met l yX1_copyFrom (.code yX1_copyFrom cX1_copyFrom 2 none :: GW) ({ frames := 2, cells := 0, slots := 0, locals := 47 }) (va_Pc [.ref (a 0), .ref (b 0)] (wrP dg ck sz (booksC ck a S ++ booksC ck b T))) (va_Qv (fun _ : Unit => True) (fun _ t9 => wrQ dg sz (booksC ck a S ++ booksC ck b T) (booksC ck a T ++ booksC ck b T) t9) (va_A (booksC ck a S ++ booksC ck b T) sz)) 0 0 (va_A (booksC ck a S ++ booksC ck b T) sz) := by
  have h := c_booksCopyI l dg ck a S b T sz hT
  rw [wrP_perm (pm_bb ck a b S T), vaA_perm (pm_bb ck a b S T), wrQ_perm (pm_bb ck a b S T) (pm_bb ck a b T T)] at h
  exact h
