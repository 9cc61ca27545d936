/-! changes: the outcome, and what Park does -/
set_option maxHeartbeats 4000000 in
set_option maxRecDepth 100000 in
/-- BenchBroker$Outcome.succeed -/
theorem c_out_succeed (l : Launch) (dg : va_G) (ck : Nat → ClassId) (o : Nat) (O : Nat → Int) (x : Int) (sz : Nat)  : Met l yX5_succeed (.code yX5_succeed cX5_succeed 2 none :: GW) ({ frames := 0, cells := 0, slots := 0, locals := 0 }) (va_Pc [.ref o, .int (zI x)] (wrP dg ck sz (outC o O))) (va_Qv (fun _ : Unit => True) (fun _ t9 => wrQ dg sz (outC o O) (outC o (upO (upO O 0 0) 1 x)) t9) (va_A (outC o O) sz)) 0 0 (va_A (outC o O) sz) := by
  refine Met.ofW (cc := cX5_succeed) (maxL := 2) (ret := none) (by decide) rfl ?_
  intro p e s m args below meth c s₁ B hml hv
  obtain ⟨rfl, hsz, hP, hK, hD0⟩ := hv
  have hx := B.exec
  have hb := B.bytes
  have hr := B.returns
  have hts := atoms_spec (ws := .code yX5_succeed cX5_succeed 2 none :: GW) B.pre
  have htg : ∀ w ∈ GW, w.before _ s = true := fun w h => hts w (List.mem_cons_of_mem _ h)
  have hown : s.vm.findClass RX5 = some m.cls := findClass_of_methodNamed B.named
  have hlocks := B.notSynchronized
  subst hsz
  have hD := hD0.self (sz := s.heap.size)
  generalize hAe : va_A (outC o O) s.heap.size = A at hD ⊢
  have hA : ∀ q : Nat, s.heap.size ≤ q → A q := fun q h => by rw [← hAe]; exact Or.inr h
  have hS : va_S A s.heap s.heap [] := va_S.rf
  have hP : va_P dg vwCl (outC o O) s.heap := hP
  have hl := lv_entry ([.ref o, .int (zI x)]) (n := 2) (Nat.le_of_ble_eq_true rfl)
  rw [lg_entry_eq]
  generalize (lg_sl ([.ref o, .int (zI x)]) ++ List.replicate (2 - (lg_sl ([.ref o, .int (zI x)])).length) Slot.unset).toArray = ls at hl ⊢
  have hl : lv_has ls 2 [(0, .ref o), (1, .int (zI x))] := hl
  refine lv_aload_n hx hb dX5_succeed_0 rfl (lv_at hl 0 rfl) ?_
  refine x_iconst hx hb dX5_succeed_1 ?_
  refine va_put (D := dg) (ci := 8) (v := .int (zI 0)) (ty := .int) (C := RX5) (T := TX5) (N := 4) hx hb htg inG_X5 tyX5 tyX5_ok nmX5 hown hK hP hD hS 0 rfl rfl 0 (Nat.le_of_ble_eq_true rfl) (htg _ wq_185) (fun _ h9 => h9) rfl (by decide +kernel) rfl rfl (Nat.le_of_ble_eq_true rfl) dX5_succeed_2 (fun H locs hP hD hS => ?_)
  have hP : va_P dg vwCl (outC o (upO O 0 0)) H := hP
  have hD : va_D A (outC o (upO O 0 0)) := hD
  refine lv_aload_n hx hb dX5_succeed_5 rfl (lv_at hl 0 rfl) ?_
  refine lv_iload_n hx hb dX5_succeed_6 rfl (lv_at hl 1 rfl) ?_
  refine va_put (D := dg) (ci := 8) (v := .int (zI x)) (ty := .int) (C := RX5) (T := TX5) (N := 4) hx hb htg inG_X5 tyX5 tyX5_ok nmX5 hown hK hP hD hS 0 rfl rfl 1 (Nat.le_of_ble_eq_true rfl) (htg _ wq_187) (fun _ h9 => h9) rfl (by decide +kernel) rfl rfl (Nat.le_of_ble_eq_true rfl) dX5_succeed_7 (fun H locs hP hD hS => ?_)
  have hP : va_P dg vwCl (outC o (upO (upO O 0 0) 1 x)) H := hP
  have hD : va_D A (outC o (upO (upO O 0 0) 1 x)) := hD
  have hEq : outC o (upO (upO O 0 0) 1 x) = outC o (upO (upO O 0 0) 1 x) := rfl
  exact W.vret hx hb hr (fun t9 ht9 hW9 => ⟨⟨(), rfl, trivial, by rw [ht9, hEq]; exact hP, by rw [hEq, hAe]; exact hD⟩, hS.F ht9⟩) hS.2.2 dX5_succeed_10

set_option maxHeartbeats 4000000 in
set_option maxRecDepth 100000 in
/-- BenchBroker$Outcome.missIndex -/
theorem c_out_missIndex (l : Launch) (dg : va_G) (ck : Nat → ClassId) (o : Nat) (O : Nat → Int) (sz : Nat)  : Met l yX5_missIndex (.code yX5_missIndex cX5_missIndex 1 none :: GW) ({ frames := 0, cells := 0, slots := 0, locals := 0 }) (va_Pc [.ref o] (wrP dg ck sz (outC o O))) (va_Qv (fun _ : Unit => True) (fun _ t9 => wrQ dg sz (outC o O) (outC o (upO O 0 1)) t9) (va_A (outC o O) sz)) 0 0 (va_A (outC o O) sz) := by
  refine Met.ofW (cc := cX5_missIndex) (maxL := 1) (ret := none) (by decide) rfl ?_
  intro p e s m args below meth c s₁ B hml hv
  obtain ⟨rfl, hsz, hP, hK, hD0⟩ := hv
  have hx := B.exec
  have hb := B.bytes
  have hr := B.returns
  have hts := atoms_spec (ws := .code yX5_missIndex cX5_missIndex 1 none :: GW) B.pre
  have htg : ∀ w ∈ GW, w.before _ s = true := fun w h => hts w (List.mem_cons_of_mem _ h)
  have hown : s.vm.findClass RX5 = some m.cls := findClass_of_methodNamed B.named
  have hlocks := B.notSynchronized
  subst hsz
  have hD := hD0.self (sz := s.heap.size)
  generalize hAe : va_A (outC o O) s.heap.size = A at hD ⊢
  have hA : ∀ q : Nat, s.heap.size ≤ q → A q := fun q h => by rw [← hAe]; exact Or.inr h
  have hS : va_S A s.heap s.heap [] := va_S.rf
  have hP : va_P dg vwCl (outC o O) s.heap := hP
  have hl := lv_entry ([.ref o]) (n := 1) (Nat.le_of_ble_eq_true rfl)
  rw [lg_entry_eq]
  generalize (lg_sl ([.ref o]) ++ List.replicate (1 - (lg_sl ([.ref o])).length) Slot.unset).toArray = ls at hl ⊢
  have hl : lv_has ls 1 [(0, .ref o)] := hl
  refine lv_aload_n hx hb dX5_missIndex_0 rfl (lv_at hl 0 rfl) ?_
  refine x_iconst hx hb dX5_missIndex_1 ?_
  refine va_put (D := dg) (ci := 8) (v := .int (zI 1)) (ty := .int) (C := RX5) (T := TX5) (N := 4) hx hb htg inG_X5 tyX5 tyX5_ok nmX5 hown hK hP hD hS 0 rfl rfl 0 (Nat.le_of_ble_eq_true rfl) (htg _ wq_185) (fun _ h9 => h9) rfl (by decide +kernel) rfl rfl (Nat.le_of_ble_eq_true rfl) dX5_missIndex_2 (fun H locs hP hD hS => ?_)
  have hP : va_P dg vwCl (outC o (upO O 0 1)) H := hP
  have hD : va_D A (outC o (upO O 0 1)) := hD
  have hEq : outC o (upO O 0 1) = outC o (upO O 0 1) := rfl
  exact W.vret hx hb hr (fun t9 ht9 hW9 => ⟨⟨(), rfl, trivial, by rw [ht9, hEq]; exact hP, by rw [hEq, hAe]; exact hD⟩, hS.F ht9⟩) hS.2.2 dX5_missIndex_5

set_option maxHeartbeats 4000000 in
set_option maxRecDepth 100000 in
/-- BenchBroker$Outcome.missNumber -/
theorem c_out_missNumber (l : Launch) (dg : va_G) (ck : Nat → ClassId) (o : Nat) (O : Nat → Int) (sz : Nat)  : Met l yX5_missNumber (.code yX5_missNumber cX5_missNumber 1 none :: GW) ({ frames := 0, cells := 0, slots := 0, locals := 0 }) (va_Pc [.ref o] (wrP dg ck sz (outC o O))) (va_Qv (fun _ : Unit => True) (fun _ t9 => wrQ dg sz (outC o O) (outC o (upO O 0 2)) t9) (va_A (outC o O) sz)) 0 0 (va_A (outC o O) sz) := by
  refine Met.ofW (cc := cX5_missNumber) (maxL := 1) (ret := none) (by decide) rfl ?_
  intro p e s m args below meth c s₁ B hml hv
  obtain ⟨rfl, hsz, hP, hK, hD0⟩ := hv
  have hx := B.exec
  have hb := B.bytes
  have hr := B.returns
  have hts := atoms_spec (ws := .code yX5_missNumber cX5_missNumber 1 none :: GW) B.pre
  have htg : ∀ w ∈ GW, w.before _ s = true := fun w h => hts w (List.mem_cons_of_mem _ h)
  have hown : s.vm.findClass RX5 = some m.cls := findClass_of_methodNamed B.named
  have hlocks := B.notSynchronized
  subst hsz
  have hD := hD0.self (sz := s.heap.size)
  generalize hAe : va_A (outC o O) s.heap.size = A at hD ⊢
  have hA : ∀ q : Nat, s.heap.size ≤ q → A q := fun q h => by rw [← hAe]; exact Or.inr h
  have hS : va_S A s.heap s.heap [] := va_S.rf
  have hP : va_P dg vwCl (outC o O) s.heap := hP
  have hl := lv_entry ([.ref o]) (n := 1) (Nat.le_of_ble_eq_true rfl)
  rw [lg_entry_eq]
  generalize (lg_sl ([.ref o]) ++ List.replicate (1 - (lg_sl ([.ref o])).length) Slot.unset).toArray = ls at hl ⊢
  have hl : lv_has ls 1 [(0, .ref o)] := hl
  refine lv_aload_n hx hb dX5_missNumber_0 rfl (lv_at hl 0 rfl) ?_
  refine x_iconst hx hb dX5_missNumber_1 ?_
  refine va_put (D := dg) (ci := 8) (v := .int (zI 2)) (ty := .int) (C := RX5) (T := TX5) (N := 4) hx hb htg inG_X5 tyX5 tyX5_ok nmX5 hown hK hP hD hS 0 rfl rfl 0 (Nat.le_of_ble_eq_true rfl) (htg _ wq_185) (fun _ h9 => h9) rfl (by decide +kernel) rfl rfl (Nat.le_of_ble_eq_true rfl) dX5_missNumber_2 (fun H locs hP hD hS => ?_)
  have hP : va_P dg vwCl (outC o (upO O 0 2)) H := hP
  have hD : va_D A (outC o (upO O 0 2)) := hD
  have hEq : outC o (upO O 0 2) = outC o (upO O 0 2) := rfl
  exact W.vret hx hb hr (fun t9 ht9 hW9 => ⟨⟨(), rfl, trivial, by rw [ht9, hEq]; exact hP, by rw [hEq, hAe]; exact hD⟩, hS.F ht9⟩) hS.2.2 dX5_missNumber_5

set_option maxHeartbeats 4000000 in
set_option maxRecDepth 100000 in
/-- BenchBroker$Outcome.reject -/
theorem c_out_reject (l : Launch) (dg : va_G) (ck : Nat → ClassId) (o : Nat) (O : Nat → Int) (why what : Int) (sz : Nat)  : Met l yX5_reject (.code yX5_reject cX5_reject 3 none :: GW) ({ frames := 0, cells := 0, slots := 0, locals := 0 }) (va_Pc [.ref o, .int (zI why), .int (zI what)] (wrP dg ck sz (outC o O))) (va_Qv (fun _ : Unit => True) (fun _ t9 => wrQ dg sz (outC o O) (outC o (upO (upO (upO O 0 3) 2 why) 3 what)) t9) (va_A (outC o O) sz)) 0 0 (va_A (outC o O) sz) := by
  refine Met.ofW (cc := cX5_reject) (maxL := 3) (ret := none) (by decide) rfl ?_
  intro p e s m args below meth c s₁ B hml hv
  obtain ⟨rfl, hsz, hP, hK, hD0⟩ := hv
  have hx := B.exec
  have hb := B.bytes
  have hr := B.returns
  have hts := atoms_spec (ws := .code yX5_reject cX5_reject 3 none :: GW) B.pre
  have htg : ∀ w ∈ GW, w.before _ s = true := fun w h => hts w (List.mem_cons_of_mem _ h)
  have hown : s.vm.findClass RX5 = some m.cls := findClass_of_methodNamed B.named
  have hlocks := B.notSynchronized
  subst hsz
  have hD := hD0.self (sz := s.heap.size)
  generalize hAe : va_A (outC o O) s.heap.size = A at hD ⊢
  have hA : ∀ q : Nat, s.heap.size ≤ q → A q := fun q h => by rw [← hAe]; exact Or.inr h
  have hS : va_S A s.heap s.heap [] := va_S.rf
  have hP : va_P dg vwCl (outC o O) s.heap := hP
  have hl := lv_entry ([.ref o, .int (zI why), .int (zI what)]) (n := 3) (Nat.le_of_ble_eq_true rfl)
  rw [lg_entry_eq]
  generalize (lg_sl ([.ref o, .int (zI why), .int (zI what)]) ++ List.replicate (3 - (lg_sl ([.ref o, .int (zI why), .int (zI what)])).length) Slot.unset).toArray = ls at hl ⊢
  have hl : lv_has ls 3 [(0, .ref o), (1, .int (zI why)), (2, .int (zI what))] := hl
  refine lv_aload_n hx hb dX5_reject_0 rfl (lv_at hl 0 rfl) ?_
  refine x_iconst hx hb dX5_reject_1 ?_
  refine va_put (D := dg) (ci := 8) (v := .int (zI 3)) (ty := .int) (C := RX5) (T := TX5) (N := 4) hx hb htg inG_X5 tyX5 tyX5_ok nmX5 hown hK hP hD hS 0 rfl rfl 0 (Nat.le_of_ble_eq_true rfl) (htg _ wq_185) (fun _ h9 => h9) rfl (by decide +kernel) rfl rfl (Nat.le_of_ble_eq_true rfl) dX5_reject_2 (fun H locs hP hD hS => ?_)
  have hP : va_P dg vwCl (outC o (upO O 0 3)) H := hP
  have hD : va_D A (outC o (upO O 0 3)) := hD
  refine lv_aload_n hx hb dX5_reject_5 rfl (lv_at hl 0 rfl) ?_
  refine lv_iload_n hx hb dX5_reject_6 rfl (lv_at hl 1 rfl) ?_
  refine va_put (D := dg) (ci := 8) (v := .int (zI why)) (ty := .int) (C := RX5) (T := TX5) (N := 4) hx hb htg inG_X5 tyX5 tyX5_ok nmX5 hown hK hP hD hS 0 rfl rfl 2 (Nat.le_of_ble_eq_true rfl) (htg _ wq_189) (fun _ h9 => h9) rfl (by decide +kernel) rfl rfl (Nat.le_of_ble_eq_true rfl) dX5_reject_7 (fun H locs hP hD hS => ?_)
  have hP : va_P dg vwCl (outC o (upO (upO O 0 3) 2 why)) H := hP
  have hD : va_D A (outC o (upO (upO O 0 3) 2 why)) := hD
  refine lv_aload_n hx hb dX5_reject_10 rfl (lv_at hl 0 rfl) ?_
  refine lv_iload_n hx hb dX5_reject_11 rfl (lv_at hl 2 rfl) ?_
  refine va_put (D := dg) (ci := 8) (v := .int (zI what)) (ty := .int) (C := RX5) (T := TX5) (N := 4) hx hb htg inG_X5 tyX5 tyX5_ok nmX5 hown hK hP hD hS 0 rfl rfl 3 (Nat.le_of_ble_eq_true rfl) (htg _ wq_191) (fun _ h9 => h9) rfl (by decide +kernel) rfl rfl (Nat.le_of_ble_eq_true rfl) dX5_reject_12 (fun H locs hP hD hS => ?_)
  have hP : va_P dg vwCl (outC o (upO (upO (upO O 0 3) 2 why) 3 what)) H := hP
  have hD : va_D A (outC o (upO (upO (upO O 0 3) 2 why) 3 what)) := hD
  have hEq : outC o (upO (upO (upO O 0 3) 2 why) 3 what) = outC o (upO (upO (upO O 0 3) 2 why) 3 what) := rfl
  exact W.vret hx hb hr (fun t9 ht9 hW9 => ⟨⟨(), rfl, trivial, by rw [ht9, hEq]; exact hP, by rw [hEq, hAe]; exact hD⟩, hS.F ht9⟩) hS.2.2 dX5_reject_15

theorem outc_r {O : Nat → Int} {c x : Int} (h : 1 ≤ c) : outc O c x = upO (upO (upO O 0 3) 2 c) 3 x := by
  unfold outc
  rw [if_neg (by omega), if_neg (by omega), if_neg (by omega)]
abbrev Chg : Type := Int × Int × St
def pbZ (S : St) (x y v : Int) : Chg := if ¬ isCell x y then (-1, 0, S) else if v < 1 ∨ 20 < v then (-2, 0, S) else if 10 ≤ S 0 0 then (1, 10, S) else if holder S x y ≠ -1 then (4, holder S x y, S) else (0, S 0 0, upS (upS (upS (upS S 1 (S 0 0) x) 2 (S 0 0) y) 3 (S 0 0) v) 0 0 (S 0 0 + 1))
def pfZ (S : St) (x y v : Int) : Chg := if ¬ isCell x y then (-1, 0, S) else if v < 1 ∨ 9 < v then (-2, 0, S) else if 4 ≤ S 0 1 then (2, 4, S) else if holder S x y ≠ -1 then (4, holder S x y, S) else (0, S 0 1, upS (upS (upS (upS (upS S 7 (S 0 1) x) 8 (S 0 1) y) 9 (S 0 1) v) 10 (S 0 1) 1) 0 1 (S 0 1 + 1))
def crZ (S : St) (b v : Int) : Chg := if ¬ isBench S b then (-1, 0, S) else if v < 1 ∨ 20 < v then (-2, 0, S) else (0, S 3 b, upS S 3 b v)
def clZ (S : St) (f v : Int) : Chg := if ¬ isFount S f then (-1, 0, S) else if v < 1 ∨ 9 < v then (-2, 0, S) else (0, S 9 f, upS S 9 f v)
def tgZ (S : St) (f : Int) : Chg := if ¬ isFount S f then (-1, 0, S) else (0, 1 - S 10 f, upS S 10 f (1 - S 10 f))
def cmZ (S : St) (v : Int) : Chg := if v < 0 ∨ 20 < v then (-2, 0, S) else (0, S 0 3, upS S 0 3 v)

set_option maxHeartbeats 4000000 in
set_option maxRecDepth 100000 in
/-- BenchBroker$Park.placeBench -/
theorem c_placeBench (l : Launch) (dg : va_G) (ck : Nat → ClassId) (a : Nat → Nat) (S : St) (o : Nat) (O : Nat → Int) (x y v : Int) (sz : Nat) (hI : Bd S) (rg_x : -2147483648 ≤ x ∧ x < 2147483648) (rg_y : -2147483648 ≤ y ∧ y < 2147483648) (rg_v : -2147483648 ≤ v ∧ v < 2147483648) : Met l yX6_placeBench (.code yX6_placeBench cX6_placeBench 5 none :: GW) ({ frames := 1, cells := 0, slots := 0, locals := 23 }) (va_Pc [.ref (a 0), .int (zI x), .int (zI y), .int (zI v), .ref o] (wrP dg ck sz (parkC ck a S ++ (outC o O)))) (va_Qv (fun _ : Unit => True) (fun _ t9 => wrQ dg sz (parkC ck a S ++ (outC o O)) (parkC ck a (pbZ S x y v).2.2 ++ (outC o (outc O (pbZ S x y v).1 (pbZ S x y v).2.1))) t9) (va_A (parkC ck a S ++ (outC o O)) sz)) 0 0 (va_A (parkC ck a S ++ (outC o O)) sz) := by
  refine Met.ofW (cc := cX6_placeBench) (maxL := 5) (ret := none) (by decide) rfl ?_
  intro p e s m args below meth c s₁ B hml hv
  obtain ⟨rfl, hsz, hP, hK, hD0⟩ := hv
  have hx := B.exec
  have hb := B.bytes
  have hr := B.returns
  have hts := atoms_spec (ws := .code yX6_placeBench cX6_placeBench 5 none :: GW) B.pre
  have htg : ∀ w ∈ GW, w.before _ s = true := fun w h => hts w (List.mem_cons_of_mem _ h)
  have hown : s.vm.findClass RX6 = some m.cls := findClass_of_methodNamed B.named
  have hlocks := B.notSynchronized
  subst hsz
  have hD := hD0.self (sz := s.heap.size)
  generalize hAe : va_A (parkC ck a S ++ (outC o O)) s.heap.size = A at hD ⊢
  have hA : ∀ q : Nat, s.heap.size ≤ q → A q := fun q h => by rw [← hAe]; exact Or.inr h
  have hS : va_S A s.heap s.heap [] := va_S.rf
  have hP : va_P dg vwCl (parkC ck a S ++ (outC o O)) s.heap := hP
  have hl := lv_entry ([.ref (a 0), .int (zI x), .int (zI y), .int (zI v), .ref o]) (n := 5) (Nat.le_of_ble_eq_true rfl)
  rw [lg_entry_eq]
  generalize (lg_sl ([.ref (a 0), .int (zI x), .int (zI y), .int (zI v), .ref o]) ++ List.replicate (5 - (lg_sl ([.ref (a 0), .int (zI x), .int (zI y), .int (zI v), .ref o])).length) Slot.unset).toArray = ls at hl ⊢
  have hl : lv_has ls 5 [(0, .ref (a 0)), (1, .int (zI x)), (2, .int (zI y)), (3, .int (zI v)), (4, .ref o)] := hl
  obtain ⟨b00, b01, b02, b03, b1, b2, b3, b4, b5, b6, b7, b8, b9, b10, b11, b12⟩ := id hI
  have hhr := holder_r hI x y
  refine lv_iload_n hx hb dX6_placeBench_0 rfl (lv_at hl 1 rfl) ?_
  refine lv_iload_n hx hb dX6_placeBench_1 rfl (lv_at hl 2 rfl) ?_
  refine vp_callSi (W.runS (As := [.int (zI x), .int (zI y)]) (rest := []) ⟨hx, hb, hml, hown, htg⟩ (c_hasCell l dg ck x y (by omega) (by omega)) (cwS 2 htg (gwS wq_668 wq_669 wq_3 wq_670) rfl rfl rfl (by decide +kernel) ⟨Nat.le_of_ble_eq_true rfl, Nat.le_of_ble_eq_true rfl⟩) (rd_preS hK va_P_nil) rfl rfl hl.1 rfl (lv_room (Nat.le_of_ble_eq_true rfl)) dX6_placeBench_2 ⟨Nat.zero_le _, Nat.zero_le _⟩) (fun r2 hr2 => ?_)
  subst hr2
  refine x_bz_ne (tgt := 16) hx hb dX6_placeBench_5 (by decide) (fun c5 => ?_) (fun c5 => ?_)
  · refine lv_iload_n hx hb dX6_placeBench_16 rfl (lv_at hl 3 rfl) ?_
    refine x_iconst hx hb dX6_placeBench_17 ?_
    refine x_icmp_lt (tgt := 27) hx hb dX6_placeBench_18 (by decide) (by omega) (by omega) (fun c18 => ?_) (fun c18 => ?_)
    · refine lv_aload hx hb dX6_placeBench_27 (lv_at hl 4 rfl) ?_
      refine x_callv (ws' := parkC ck a S ++ (outC o (upO O 0 2))) (parkC ck a S) (M := outC o O) (M' := outC o (upO O 0 2)) ([]) (by rw [List.append_nil]) (by rw [List.append_nil]) hP hD hS hA (fun hPm hDm => va_runV (As := []) (rest := []) ⟨hx, hb, hml, hown, htg⟩ (c_out_missNumber l dg ck o O _ ) (cwV 0 htg (gwV wq_675 wq_615 wq_616 wq_6 wq_617) rfl rfl rfl (by decide +kernel) ⟨Nat.le_of_ble_eq_true rfl, Nat.le_of_ble_eq_true rfl⟩) (wr_preV hK hPm hDm 0 8 rfl rfl) rfl rfl hl.1 rfl (lv_room (Nat.le_of_ble_eq_true rfl)) dX6_placeBench_29 ⟨Nat.zero_le _, Nat.zero_le _⟩) (fun H locs hP hD hS => ?_)
      refine lv_goto (tgt := 131) hx hb dX6_placeBench_32 (by decide) ?_
      have hEq : parkC ck a (pbZ S x y v).2.2 ++ (outC o (outc O (pbZ S x y v).1 (pbZ S x y v).2.1)) = parkC ck a S ++ (outC o (upO O 0 2)) := (by first | (have hc : pbZ S x y v = (-2, 0, S) := (by unfold pbZ; repeat (first | rw [if_pos (by omega)] | rw [if_neg (by omega)])); rw [hc]; first | rfl | (show _ ++ outC o (outc O _ _) = _; rw [outc_r (by omega)])) | (exfalso; omega))
      exact W.vret hx hb hr (fun t9 ht9 hW9 => ⟨⟨(), rfl, trivial, by rw [ht9, hEq]; exact hP, by rw [hEq, hAe]; exact hD⟩, hS.F ht9⟩) hS.2.2 dX6_placeBench_131
    · refine lv_iload_n hx hb dX6_placeBench_21 rfl (lv_at hl 3 rfl) ?_
      refine x_bipush hx hb dX6_placeBench_22 (by decide) ?_
      refine x_icmp_le (tgt := 35) hx hb dX6_placeBench_24 (by decide) (by omega) (by omega) (fun c24 => ?_) (fun c24 => ?_)
      · refine lv_aload_n hx hb dX6_placeBench_35 rfl (lv_at hl 0 rfl) ?_
        refine va_get (D := dg) (ci := 9) (v := .int (zI (S 0 0))) (C := RX6) (T := TX6) (N := 10) hx hb htg inG_X6 hown hK hP 0 rfl rfl 0 (Nat.le_of_ble_eq_true rfl) (htg _ wq_54) (fun _ h9 => h9) rfl dX6_placeBench_36 ?_
        refine x_bipush hx hb dX6_placeBench_39 (by decide) ?_
        refine x_icmp_lt (tgt := 55) hx hb dX6_placeBench_41 (by decide) (by omega) (by omega) (fun c41 => ?_) (fun c41 => ?_)
        · refine lv_aload_n hx hb dX6_placeBench_55 rfl (lv_at hl 0 rfl) ?_
          refine lv_iload_n hx hb dX6_placeBench_56 rfl (lv_at hl 1 rfl) ?_
          refine lv_iload_n hx hb dX6_placeBench_57 rfl (lv_at hl 2 rfl) ?_
          refine vp_callSi (W.runV (As := [.int (zI x), .int (zI y)]) (rest := []) ⟨hx, hb, hml, hown, htg⟩ (c_holder l dg ck a S x y hI (by omega) (by omega)) (cwV 2 htg (gwV wq_680 wq_681 wq_682 wq_3 wq_683) rfl rfl rfl (by decide +kernel) ⟨Nat.le_of_ble_eq_true rfl, Nat.le_of_ble_eq_true rfl⟩) (rd_preV hK (va_P_l hP) 0 9 rfl rfl) rfl rfl hl.1 rfl (lv_room (Nat.le_of_ble_eq_true rfl)) dX6_placeBench_58 ⟨Nat.zero_le _, Nat.zero_le _⟩) (fun r58 hr58 => ?_)
          subst hr58
          refine x_iconst hx hb dX6_placeBench_61 ?_
          refine x_icmp_eq (tgt := 80) hx hb dX6_placeBench_62 (by decide) (by omega) (by omega) (fun c62 => ?_) (fun c62 => ?_)
          · refine lv_aload_n hx hb dX6_placeBench_80 rfl (lv_at hl 0 rfl) ?_
            refine va_get (D := dg) (ci := 9) (v := .ref (a 1)) (C := RX6) (T := TX6) (N := 10) hx hb htg inG_X6 hown hK hP 0 rfl rfl 1 (Nat.le_of_ble_eq_true rfl) (htg _ wq_57) (fun _ h9 => h9) rfl dX6_placeBench_81 ?_
            refine lv_aload_n hx hb dX6_placeBench_84 rfl (lv_at hl 0 rfl) ?_
            refine va_get (D := dg) (ci := 9) (v := .int (zI (S 0 0))) (C := RX6) (T := TX6) (N := 10) hx hb htg inG_X6 hown hK hP 0 rfl rfl 0 (Nat.le_of_ble_eq_true rfl) (htg _ wq_54) (fun _ h9 => h9) rfl dX6_placeBench_85 ?_
            refine lv_iload_n hx hb dX6_placeBench_88 rfl (lv_at hl 1 rfl) ?_
            refine x_iast (ws' := parkC ck a (upS S 1 (S 0 0) x) ++ (outC o O)) hx hb hK hP hD hS 1 0 rfl rfl (by decide) (by omega) (by rw [ar_up (by omega)]; rfl) dX6_placeBench_89 (fun H locs hP hD hS => ?_)
            refine lv_aload_n hx hb dX6_placeBench_90 rfl (lv_at hl 0 rfl) ?_
            refine va_get (D := dg) (ci := 9) (v := .ref (a 2)) (C := RX6) (T := TX6) (N := 10) hx hb htg inG_X6 hown hK hP 0 rfl rfl 2 (Nat.le_of_ble_eq_true rfl) (htg _ wq_60) (fun _ h9 => h9) rfl dX6_placeBench_91 ?_
            refine lv_aload_n hx hb dX6_placeBench_94 rfl (lv_at hl 0 rfl) ?_
            refine va_get (D := dg) (ci := 9) (v := .int (zI (S 0 0))) (C := RX6) (T := TX6) (N := 10) hx hb htg inG_X6 hown hK hP 0 rfl rfl 0 (Nat.le_of_ble_eq_true rfl) (htg _ wq_54) (fun _ h9 => h9) rfl dX6_placeBench_95 ?_
            refine lv_iload_n hx hb dX6_placeBench_98 rfl (lv_at hl 2 rfl) ?_
            refine x_iast (ws' := parkC ck a (upS (upS S 1 (S 0 0) x) 2 (S 0 0) y) ++ (outC o O)) hx hb hK hP hD hS 2 0 rfl rfl (by decide) (by omega) (by rw [ar_up (by omega)]; rfl) dX6_placeBench_99 (fun H locs hP hD hS => ?_)
            refine lv_aload_n hx hb dX6_placeBench_100 rfl (lv_at hl 0 rfl) ?_
            refine va_get (D := dg) (ci := 9) (v := .ref (a 3)) (C := RX6) (T := TX6) (N := 10) hx hb htg inG_X6 hown hK hP 0 rfl rfl 3 (Nat.le_of_ble_eq_true rfl) (htg _ wq_63) (fun _ h9 => h9) rfl dX6_placeBench_101 ?_
            refine lv_aload_n hx hb dX6_placeBench_104 rfl (lv_at hl 0 rfl) ?_
            refine va_get (D := dg) (ci := 9) (v := .int (zI (S 0 0))) (C := RX6) (T := TX6) (N := 10) hx hb htg inG_X6 hown hK hP 0 rfl rfl 0 (Nat.le_of_ble_eq_true rfl) (htg _ wq_54) (fun _ h9 => h9) rfl dX6_placeBench_105 ?_
            refine lv_iload_n hx hb dX6_placeBench_108 rfl (lv_at hl 3 rfl) ?_
            refine x_iast (ws' := parkC ck a (upS (upS (upS S 1 (S 0 0) x) 2 (S 0 0) y) 3 (S 0 0) v) ++ (outC o O)) hx hb hK hP hD hS 3 0 rfl rfl (by decide) (by omega) (by rw [ar_up (by omega)]; rfl) dX6_placeBench_109 (fun H locs hP hD hS => ?_)
            refine lv_aload_n hx hb dX6_placeBench_110 rfl (lv_at hl 0 rfl) ?_
            refine lv_dup hx hb dX6_placeBench_111 rfl ?_
            refine va_get (D := dg) (ci := 9) (v := .int (zI (S 0 0))) (C := RX6) (T := TX6) (N := 10) hx hb htg inG_X6 hown hK hP 0 rfl rfl 0 (Nat.le_of_ble_eq_true rfl) (htg _ wq_54) (fun _ h9 => h9) rfl dX6_placeBench_112 ?_
            refine x_iconst hx hb dX6_placeBench_115 ?_
            refine x_iadd hx hb dX6_placeBench_116 ?_
            refine va_put (D := dg) (ci := 9) (v := .int (zI ((S 0 0) + 1))) (ty := .int) (C := RX6) (T := TX6) (N := 10) hx hb htg inG_X6 tyX6 tyX6_ok nmX6 hown hK hP hD hS 0 rfl rfl 0 (Nat.le_of_ble_eq_true rfl) (htg _ wq_54) (fun _ h9 => h9) rfl (by decide +kernel) rfl rfl (Nat.le_of_ble_eq_true rfl) dX6_placeBench_117 (fun H locs hP hD hS => ?_)
            have hP : va_P dg vwCl (parkC ck a (upS (upS (upS (upS S 1 (S 0 0) x) 2 (S 0 0) y) 3 (S 0 0) v) 0 0 ((S 0 0) + 1)) ++ (outC o O)) H := hP
            have hD : va_D A (parkC ck a (upS (upS (upS (upS S 1 (S 0 0) x) 2 (S 0 0) y) 3 (S 0 0) v) 0 0 ((S 0 0) + 1)) ++ (outC o O)) := hD
            refine lv_aload hx hb dX6_placeBench_120 (lv_at hl 4 rfl) ?_
            refine lv_aload_n hx hb dX6_placeBench_122 rfl (lv_at hl 0 rfl) ?_
            refine va_get (D := dg) (ci := 9) (v := .int (zI ((S 0 0) + 1))) (C := RX6) (T := TX6) (N := 10) hx hb htg inG_X6 hown hK hP 0 rfl rfl 0 (Nat.le_of_ble_eq_true rfl) (htg _ wq_54) (fun _ h9 => h9) rfl dX6_placeBench_123 ?_
            refine x_iconst hx hb dX6_placeBench_126 ?_
            refine x_isub hx hb dX6_placeBench_127 ?_
            refine x_is (show (((S 0 0) + 1) - 1) = (S 0 0) by omega) ?_
            refine x_callv (ws' := parkC ck a (upS (upS (upS (upS S 1 (S 0 0) x) 2 (S 0 0) y) 3 (S 0 0) v) 0 0 ((S 0 0) + 1)) ++ (outC o (upO (upO O 0 0) 1 (S 0 0)))) (parkC ck a (upS (upS (upS (upS S 1 (S 0 0) x) 2 (S 0 0) y) 3 (S 0 0) v) 0 0 ((S 0 0) + 1))) (M := outC o O) (M' := outC o (upO (upO O 0 0) 1 (S 0 0))) ([]) (by rw [List.append_nil]) (by rw [List.append_nil]) hP hD hS hA (fun hPm hDm => va_runV (As := [.int (zI (S 0 0))]) (rest := []) ⟨hx, hb, hml, hown, htg⟩ (c_out_succeed l dg ck o O (S 0 0) _ ) (cwV 1 htg (gwV wq_684 wq_627 wq_628 wq_6 wq_629) rfl rfl rfl (by decide +kernel) ⟨Nat.le_of_ble_eq_true rfl, Nat.le_of_ble_eq_true rfl⟩) (wr_preV hK hPm hDm 0 8 rfl rfl) rfl rfl hl.1 rfl (lv_room (Nat.le_of_ble_eq_true rfl)) dX6_placeBench_128 ⟨Nat.zero_le _, Nat.zero_le _⟩) (fun H locs hP hD hS => ?_)
            have hEq : parkC ck a (pbZ S x y v).2.2 ++ (outC o (outc O (pbZ S x y v).1 (pbZ S x y v).2.1)) = parkC ck a (upS (upS (upS (upS S 1 (S 0 0) x) 2 (S 0 0) y) 3 (S 0 0) v) 0 0 ((S 0 0) + 1)) ++ (outC o (upO (upO O 0 0) 1 (S 0 0))) := (by first | (have hc : pbZ S x y v = (0, (S 0 0), (upS (upS (upS (upS S 1 (S 0 0) x) 2 (S 0 0) y) 3 (S 0 0) v) 0 0 ((S 0 0) + 1))) := (by unfold pbZ; repeat (first | rw [if_pos (by omega)] | rw [if_neg (by omega)])); rw [hc]; first | rfl | (show _ ++ outC o (outc O _ _) = _; rw [outc_r (by omega)])) | (exfalso; omega))
            exact W.vret hx hb hr (fun t9 ht9 hW9 => ⟨⟨(), rfl, trivial, by rw [ht9, hEq]; exact hP, by rw [hEq, hAe]; exact hD⟩, hS.F ht9⟩) hS.2.2 dX6_placeBench_131
          · refine lv_aload hx hb dX6_placeBench_65 (lv_at hl 4 rfl) ?_
            refine x_iconst hx hb dX6_placeBench_67 ?_
            refine lv_aload_n hx hb dX6_placeBench_68 rfl (lv_at hl 0 rfl) ?_
            refine lv_iload_n hx hb dX6_placeBench_69 rfl (lv_at hl 1 rfl) ?_
            refine lv_iload_n hx hb dX6_placeBench_70 rfl (lv_at hl 2 rfl) ?_
            refine vp_callSi (W.runV (As := [.int (zI x), .int (zI y)]) (rest := [.int (zI 4), .ref o]) ⟨hx, hb, hml, hown, htg⟩ (c_holder l dg ck a S x y hI (by omega) (by omega)) (cwV 2 htg (gwV wq_680 wq_681 wq_682 wq_3 wq_683) rfl rfl rfl (by decide +kernel) ⟨Nat.le_of_ble_eq_true rfl, Nat.le_of_ble_eq_true rfl⟩) (rd_preV hK (va_P_l hP) 0 9 rfl rfl) rfl rfl hl.1 rfl (lv_room (Nat.le_of_ble_eq_true rfl)) dX6_placeBench_71 ⟨Nat.zero_le _, Nat.zero_le _⟩) (fun r71 hr71 => ?_)
            subst hr71
            refine x_callv (ws' := parkC ck a S ++ (outC o (upO (upO (upO O 0 3) 2 4) 3 (holder S x y)))) (parkC ck a S) (M := outC o O) (M' := outC o (upO (upO (upO O 0 3) 2 4) 3 (holder S x y))) ([]) (by rw [List.append_nil]) (by rw [List.append_nil]) hP hD hS hA (fun hPm hDm => va_runV (As := [.int (zI 4), .int (zI (holder S x y))]) (rest := []) ⟨hx, hb, hml, hown, htg⟩ (c_out_reject l dg ck o O 4 (holder S x y) _ ) (cwV 2 htg (gwV wq_676 wq_677 wq_678 wq_6 wq_679) rfl rfl rfl (by decide +kernel) ⟨Nat.le_of_ble_eq_true rfl, Nat.le_of_ble_eq_true rfl⟩) (wr_preV hK hPm hDm 0 8 rfl rfl) rfl rfl hl.1 rfl (lv_room (Nat.le_of_ble_eq_true rfl)) dX6_placeBench_74 ⟨Nat.zero_le _, Nat.zero_le _⟩) (fun H locs hP hD hS => ?_)
            refine lv_goto (tgt := 131) hx hb dX6_placeBench_77 (by decide) ?_
            have hEq : parkC ck a (pbZ S x y v).2.2 ++ (outC o (outc O (pbZ S x y v).1 (pbZ S x y v).2.1)) = parkC ck a S ++ (outC o (upO (upO (upO O 0 3) 2 4) 3 (holder S x y))) := (by first | (have hc : pbZ S x y v = (4, (holder S x y), S) := (by unfold pbZ; repeat (first | rw [if_pos (by omega)] | rw [if_neg (by omega)])); rw [hc]; first | rfl | (show _ ++ outC o (outc O _ _) = _; rw [outc_r (by omega)])) | (exfalso; omega))
            exact W.vret hx hb hr (fun t9 ht9 hW9 => ⟨⟨(), rfl, trivial, by rw [ht9, hEq]; exact hP, by rw [hEq, hAe]; exact hD⟩, hS.F ht9⟩) hS.2.2 dX6_placeBench_131
        · refine lv_aload hx hb dX6_placeBench_44 (lv_at hl 4 rfl) ?_
          refine x_iconst hx hb dX6_placeBench_46 ?_
          refine x_bipush hx hb dX6_placeBench_47 (by decide) ?_
          refine x_callv (ws' := parkC ck a S ++ (outC o (upO (upO (upO O 0 3) 2 1) 3 10))) (parkC ck a S) (M := outC o O) (M' := outC o (upO (upO (upO O 0 3) 2 1) 3 10)) ([]) (by rw [List.append_nil]) (by rw [List.append_nil]) hP hD hS hA (fun hPm hDm => va_runV (As := [.int (zI 1), .int (zI 10)]) (rest := []) ⟨hx, hb, hml, hown, htg⟩ (c_out_reject l dg ck o O 1 10 _ ) (cwV 2 htg (gwV wq_676 wq_677 wq_678 wq_6 wq_679) rfl rfl rfl (by decide +kernel) ⟨Nat.le_of_ble_eq_true rfl, Nat.le_of_ble_eq_true rfl⟩) (wr_preV hK hPm hDm 0 8 rfl rfl) rfl rfl hl.1 rfl (lv_room (Nat.le_of_ble_eq_true rfl)) dX6_placeBench_49 ⟨Nat.zero_le _, Nat.zero_le _⟩) (fun H locs hP hD hS => ?_)
          refine lv_goto (tgt := 131) hx hb dX6_placeBench_52 (by decide) ?_
          have hEq : parkC ck a (pbZ S x y v).2.2 ++ (outC o (outc O (pbZ S x y v).1 (pbZ S x y v).2.1)) = parkC ck a S ++ (outC o (upO (upO (upO O 0 3) 2 1) 3 10)) := (by first | (have hc : pbZ S x y v = (1, 10, S) := (by unfold pbZ; repeat (first | rw [if_pos (by omega)] | rw [if_neg (by omega)])); rw [hc]; first | rfl | (show _ ++ outC o (outc O _ _) = _; rw [outc_r (by omega)])) | (exfalso; omega))
          exact W.vret hx hb hr (fun t9 ht9 hW9 => ⟨⟨(), rfl, trivial, by rw [ht9, hEq]; exact hP, by rw [hEq, hAe]; exact hD⟩, hS.F ht9⟩) hS.2.2 dX6_placeBench_131
      · refine lv_aload hx hb dX6_placeBench_27 (lv_at hl 4 rfl) ?_
        refine x_callv (ws' := parkC ck a S ++ (outC o (upO O 0 2))) (parkC ck a S) (M := outC o O) (M' := outC o (upO O 0 2)) ([]) (by rw [List.append_nil]) (by rw [List.append_nil]) hP hD hS hA (fun hPm hDm => va_runV (As := []) (rest := []) ⟨hx, hb, hml, hown, htg⟩ (c_out_missNumber l dg ck o O _ ) (cwV 0 htg (gwV wq_675 wq_615 wq_616 wq_6 wq_617) rfl rfl rfl (by decide +kernel) ⟨Nat.le_of_ble_eq_true rfl, Nat.le_of_ble_eq_true rfl⟩) (wr_preV hK hPm hDm 0 8 rfl rfl) rfl rfl hl.1 rfl (lv_room (Nat.le_of_ble_eq_true rfl)) dX6_placeBench_29 ⟨Nat.zero_le _, Nat.zero_le _⟩) (fun H locs hP hD hS => ?_)
        refine lv_goto (tgt := 131) hx hb dX6_placeBench_32 (by decide) ?_
        have hEq : parkC ck a (pbZ S x y v).2.2 ++ (outC o (outc O (pbZ S x y v).1 (pbZ S x y v).2.1)) = parkC ck a S ++ (outC o (upO O 0 2)) := (by first | (have hc : pbZ S x y v = (-2, 0, S) := (by unfold pbZ; repeat (first | rw [if_pos (by omega)] | rw [if_neg (by omega)])); rw [hc]; first | rfl | (show _ ++ outC o (outc O _ _) = _; rw [outc_r (by omega)])) | (exfalso; omega))
        exact W.vret hx hb hr (fun t9 ht9 hW9 => ⟨⟨(), rfl, trivial, by rw [ht9, hEq]; exact hP, by rw [hEq, hAe]; exact hD⟩, hS.F ht9⟩) hS.2.2 dX6_placeBench_131
  · refine lv_aload hx hb dX6_placeBench_8 (lv_at hl 4 rfl) ?_
    refine x_callv (ws' := parkC ck a S ++ (outC o (upO O 0 1))) (parkC ck a S) (M := outC o O) (M' := outC o (upO O 0 1)) ([]) (by rw [List.append_nil]) (by rw [List.append_nil]) hP hD hS hA (fun hPm hDm => va_runV (As := []) (rest := []) ⟨hx, hb, hml, hown, htg⟩ (c_out_missIndex l dg ck o O _ ) (cwV 0 htg (gwV wq_671 wq_672 wq_673 wq_6 wq_674) rfl rfl rfl (by decide +kernel) ⟨Nat.le_of_ble_eq_true rfl, Nat.le_of_ble_eq_true rfl⟩) (wr_preV hK hPm hDm 0 8 rfl rfl) rfl rfl hl.1 rfl (lv_room (Nat.le_of_ble_eq_true rfl)) dX6_placeBench_10 ⟨Nat.zero_le _, Nat.zero_le _⟩) (fun H locs hP hD hS => ?_)
    refine lv_goto (tgt := 131) hx hb dX6_placeBench_13 (by decide) ?_
    have hEq : parkC ck a (pbZ S x y v).2.2 ++ (outC o (outc O (pbZ S x y v).1 (pbZ S x y v).2.1)) = parkC ck a S ++ (outC o (upO O 0 1)) := (by first | (have hc : pbZ S x y v = (-1, 0, S) := (by unfold pbZ; repeat (first | rw [if_pos (by omega)] | rw [if_neg (by omega)])); rw [hc]; first | rfl | (show _ ++ outC o (outc O _ _) = _; rw [outc_r (by omega)])) | (exfalso; omega))
    exact W.vret hx hb hr (fun t9 ht9 hW9 => ⟨⟨(), rfl, trivial, by rw [ht9, hEq]; exact hP, by rw [hEq, hAe]; exact hD⟩, hS.F ht9⟩) hS.2.2 dX6_placeBench_131

set_option maxHeartbeats 4000000 in
set_option maxRecDepth 100000 in
/-- BenchBroker$Park.placeFountain -/
theorem c_placeFountain (l : Launch) (dg : va_G) (ck : Nat → ClassId) (a : Nat → Nat) (S : St) (o : Nat) (O : Nat → Int) (x y v : Int) (sz : Nat) (hI : Bd S) (rg_x : -2147483648 ≤ x ∧ x < 2147483648) (rg_y : -2147483648 ≤ y ∧ y < 2147483648) (rg_v : -2147483648 ≤ v ∧ v < 2147483648) : Met l yX6_placeFountain (.code yX6_placeFountain cX6_placeFountain 5 none :: GW) ({ frames := 1, cells := 0, slots := 0, locals := 23 }) (va_Pc [.ref (a 0), .int (zI x), .int (zI y), .int (zI v), .ref o] (wrP dg ck sz (parkC ck a S ++ (outC o O)))) (va_Qv (fun _ : Unit => True) (fun _ t9 => wrQ dg sz (parkC ck a S ++ (outC o O)) (parkC ck a (pfZ S x y v).2.2 ++ (outC o (outc O (pfZ S x y v).1 (pfZ S x y v).2.1))) t9) (va_A (parkC ck a S ++ (outC o O)) sz)) 0 0 (va_A (parkC ck a S ++ (outC o O)) sz) := by
  refine Met.ofW (cc := cX6_placeFountain) (maxL := 5) (ret := none) (by decide) rfl ?_
  intro p e s m args below meth c s₁ B hml hv
  obtain ⟨rfl, hsz, hP, hK, hD0⟩ := hv
  have hx := B.exec
  have hb := B.bytes
  have hr := B.returns
  have hts := atoms_spec (ws := .code yX6_placeFountain cX6_placeFountain 5 none :: GW) B.pre
  have htg : ∀ w ∈ GW, w.before _ s = true := fun w h => hts w (List.mem_cons_of_mem _ h)
  have hown : s.vm.findClass RX6 = some m.cls := findClass_of_methodNamed B.named
  have hlocks := B.notSynchronized
  subst hsz
  have hD := hD0.self (sz := s.heap.size)
  generalize hAe : va_A (parkC ck a S ++ (outC o O)) s.heap.size = A at hD ⊢
  have hA : ∀ q : Nat, s.heap.size ≤ q → A q := fun q h => by rw [← hAe]; exact Or.inr h
  have hS : va_S A s.heap s.heap [] := va_S.rf
  have hP : va_P dg vwCl (parkC ck a S ++ (outC o O)) s.heap := hP
  have hl := lv_entry ([.ref (a 0), .int (zI x), .int (zI y), .int (zI v), .ref o]) (n := 5) (Nat.le_of_ble_eq_true rfl)
  rw [lg_entry_eq]
  generalize (lg_sl ([.ref (a 0), .int (zI x), .int (zI y), .int (zI v), .ref o]) ++ List.replicate (5 - (lg_sl ([.ref (a 0), .int (zI x), .int (zI y), .int (zI v), .ref o])).length) Slot.unset).toArray = ls at hl ⊢
  have hl : lv_has ls 5 [(0, .ref (a 0)), (1, .int (zI x)), (2, .int (zI y)), (3, .int (zI v)), (4, .ref o)] := hl
  obtain ⟨b00, b01, b02, b03, b1, b2, b3, b4, b5, b6, b7, b8, b9, b10, b11, b12⟩ := id hI
  have hhr := holder_r hI x y
  refine lv_iload_n hx hb dX6_placeFountain_0 rfl (lv_at hl 1 rfl) ?_
  refine lv_iload_n hx hb dX6_placeFountain_1 rfl (lv_at hl 2 rfl) ?_
  refine vp_callSi (W.runS (As := [.int (zI x), .int (zI y)]) (rest := []) ⟨hx, hb, hml, hown, htg⟩ (c_hasCell l dg ck x y (by omega) (by omega)) (cwS 2 htg (gwS wq_668 wq_669 wq_3 wq_670) rfl rfl rfl (by decide +kernel) ⟨Nat.le_of_ble_eq_true rfl, Nat.le_of_ble_eq_true rfl⟩) (rd_preS hK va_P_nil) rfl rfl hl.1 rfl (lv_room (Nat.le_of_ble_eq_true rfl)) dX6_placeFountain_2 ⟨Nat.zero_le _, Nat.zero_le _⟩) (fun r2 hr2 => ?_)
  subst hr2
  refine x_bz_ne (tgt := 16) hx hb dX6_placeFountain_5 (by decide) (fun c5 => ?_) (fun c5 => ?_)
  · refine lv_iload_n hx hb dX6_placeFountain_16 rfl (lv_at hl 3 rfl) ?_
    refine x_iconst hx hb dX6_placeFountain_17 ?_
    refine x_icmp_lt (tgt := 27) hx hb dX6_placeFountain_18 (by decide) (by omega) (by omega) (fun c18 => ?_) (fun c18 => ?_)
    · refine lv_aload hx hb dX6_placeFountain_27 (lv_at hl 4 rfl) ?_
      refine x_callv (ws' := parkC ck a S ++ (outC o (upO O 0 2))) (parkC ck a S) (M := outC o O) (M' := outC o (upO O 0 2)) ([]) (by rw [List.append_nil]) (by rw [List.append_nil]) hP hD hS hA (fun hPm hDm => va_runV (As := []) (rest := []) ⟨hx, hb, hml, hown, htg⟩ (c_out_missNumber l dg ck o O _ ) (cwV 0 htg (gwV wq_675 wq_615 wq_616 wq_6 wq_617) rfl rfl rfl (by decide +kernel) ⟨Nat.le_of_ble_eq_true rfl, Nat.le_of_ble_eq_true rfl⟩) (wr_preV hK hPm hDm 0 8 rfl rfl) rfl rfl hl.1 rfl (lv_room (Nat.le_of_ble_eq_true rfl)) dX6_placeFountain_29 ⟨Nat.zero_le _, Nat.zero_le _⟩) (fun H locs hP hD hS => ?_)
      refine lv_goto (tgt := 139) hx hb dX6_placeFountain_32 (by decide) ?_
      have hEq : parkC ck a (pfZ S x y v).2.2 ++ (outC o (outc O (pfZ S x y v).1 (pfZ S x y v).2.1)) = parkC ck a S ++ (outC o (upO O 0 2)) := (by first | (have hc : pfZ S x y v = (-2, 0, S) := (by unfold pfZ; repeat (first | rw [if_pos (by omega)] | rw [if_neg (by omega)])); rw [hc]; first | rfl | (show _ ++ outC o (outc O _ _) = _; rw [outc_r (by omega)])) | (exfalso; omega))
      exact W.vret hx hb hr (fun t9 ht9 hW9 => ⟨⟨(), rfl, trivial, by rw [ht9, hEq]; exact hP, by rw [hEq, hAe]; exact hD⟩, hS.F ht9⟩) hS.2.2 dX6_placeFountain_139
    · refine lv_iload_n hx hb dX6_placeFountain_21 rfl (lv_at hl 3 rfl) ?_
      refine x_bipush hx hb dX6_placeFountain_22 (by decide) ?_
      refine x_icmp_le (tgt := 35) hx hb dX6_placeFountain_24 (by decide) (by omega) (by omega) (fun c24 => ?_) (fun c24 => ?_)
      · refine lv_aload_n hx hb dX6_placeFountain_35 rfl (lv_at hl 0 rfl) ?_
        refine va_get (D := dg) (ci := 9) (v := .int (zI (S 0 1))) (C := RX6) (T := TX6) (N := 10) hx hb htg inG_X6 hown hK hP 0 rfl rfl 4 (Nat.le_of_ble_eq_true rfl) (htg _ wq_65) (fun _ h9 => h9) rfl dX6_placeFountain_36 ?_
        refine x_iconst hx hb dX6_placeFountain_39 ?_
        refine x_icmp_lt (tgt := 53) hx hb dX6_placeFountain_40 (by decide) (by omega) (by omega) (fun c40 => ?_) (fun c40 => ?_)
        · refine lv_aload_n hx hb dX6_placeFountain_53 rfl (lv_at hl 0 rfl) ?_
          refine lv_iload_n hx hb dX6_placeFountain_54 rfl (lv_at hl 1 rfl) ?_
          refine lv_iload_n hx hb dX6_placeFountain_55 rfl (lv_at hl 2 rfl) ?_
          refine vp_callSi (W.runV (As := [.int (zI x), .int (zI y)]) (rest := []) ⟨hx, hb, hml, hown, htg⟩ (c_holder l dg ck a S x y hI (by omega) (by omega)) (cwV 2 htg (gwV wq_680 wq_681 wq_682 wq_3 wq_683) rfl rfl rfl (by decide +kernel) ⟨Nat.le_of_ble_eq_true rfl, Nat.le_of_ble_eq_true rfl⟩) (rd_preV hK (va_P_l hP) 0 9 rfl rfl) rfl rfl hl.1 rfl (lv_room (Nat.le_of_ble_eq_true rfl)) dX6_placeFountain_56 ⟨Nat.zero_le _, Nat.zero_le _⟩) (fun r56 hr56 => ?_)
          subst hr56
          refine x_iconst hx hb dX6_placeFountain_59 ?_
          refine x_icmp_eq (tgt := 78) hx hb dX6_placeFountain_60 (by decide) (by omega) (by omega) (fun c60 => ?_) (fun c60 => ?_)
          · refine lv_aload_n hx hb dX6_placeFountain_78 rfl (lv_at hl 0 rfl) ?_
            refine va_get (D := dg) (ci := 9) (v := .ref (a 4)) (C := RX6) (T := TX6) (N := 10) hx hb htg inG_X6 hown hK hP 0 rfl rfl 5 (Nat.le_of_ble_eq_true rfl) (htg _ wq_68) (fun _ h9 => h9) rfl dX6_placeFountain_79 ?_
            refine lv_aload_n hx hb dX6_placeFountain_82 rfl (lv_at hl 0 rfl) ?_
            refine va_get (D := dg) (ci := 9) (v := .int (zI (S 0 1))) (C := RX6) (T := TX6) (N := 10) hx hb htg inG_X6 hown hK hP 0 rfl rfl 4 (Nat.le_of_ble_eq_true rfl) (htg _ wq_65) (fun _ h9 => h9) rfl dX6_placeFountain_83 ?_
            refine lv_iload_n hx hb dX6_placeFountain_86 rfl (lv_at hl 1 rfl) ?_
            refine x_iast (ws' := parkC ck a (upS S 7 (S 0 1) x) ++ (outC o O)) hx hb hK hP hD hS 4 0 rfl rfl (by decide) (by omega) (by rw [ar_up (by omega)]; rfl) dX6_placeFountain_87 (fun H locs hP hD hS => ?_)
            refine lv_aload_n hx hb dX6_placeFountain_88 rfl (lv_at hl 0 rfl) ?_
            refine va_get (D := dg) (ci := 9) (v := .ref (a 5)) (C := RX6) (T := TX6) (N := 10) hx hb htg inG_X6 hown hK hP 0 rfl rfl 6 (Nat.le_of_ble_eq_true rfl) (htg _ wq_70) (fun _ h9 => h9) rfl dX6_placeFountain_89 ?_
            refine lv_aload_n hx hb dX6_placeFountain_92 rfl (lv_at hl 0 rfl) ?_
            refine va_get (D := dg) (ci := 9) (v := .int (zI (S 0 1))) (C := RX6) (T := TX6) (N := 10) hx hb htg inG_X6 hown hK hP 0 rfl rfl 4 (Nat.le_of_ble_eq_true rfl) (htg _ wq_65) (fun _ h9 => h9) rfl dX6_placeFountain_93 ?_
            refine lv_iload_n hx hb dX6_placeFountain_96 rfl (lv_at hl 2 rfl) ?_
            refine x_iast (ws' := parkC ck a (upS (upS S 7 (S 0 1) x) 8 (S 0 1) y) ++ (outC o O)) hx hb hK hP hD hS 5 0 rfl rfl (by decide) (by omega) (by rw [ar_up (by omega)]; rfl) dX6_placeFountain_97 (fun H locs hP hD hS => ?_)
            refine lv_aload_n hx hb dX6_placeFountain_98 rfl (lv_at hl 0 rfl) ?_
            refine va_get (D := dg) (ci := 9) (v := .ref (a 6)) (C := RX6) (T := TX6) (N := 10) hx hb htg inG_X6 hown hK hP 0 rfl rfl 7 (Nat.le_of_ble_eq_true rfl) (htg _ wq_72) (fun _ h9 => h9) rfl dX6_placeFountain_99 ?_
            refine lv_aload_n hx hb dX6_placeFountain_102 rfl (lv_at hl 0 rfl) ?_
            refine va_get (D := dg) (ci := 9) (v := .int (zI (S 0 1))) (C := RX6) (T := TX6) (N := 10) hx hb htg inG_X6 hown hK hP 0 rfl rfl 4 (Nat.le_of_ble_eq_true rfl) (htg _ wq_65) (fun _ h9 => h9) rfl dX6_placeFountain_103 ?_
            refine lv_iload_n hx hb dX6_placeFountain_106 rfl (lv_at hl 3 rfl) ?_
            refine x_iast (ws' := parkC ck a (upS (upS (upS S 7 (S 0 1) x) 8 (S 0 1) y) 9 (S 0 1) v) ++ (outC o O)) hx hb hK hP hD hS 6 0 rfl rfl (by decide) (by omega) (by rw [ar_up (by omega)]; rfl) dX6_placeFountain_107 (fun H locs hP hD hS => ?_)
            refine lv_aload_n hx hb dX6_placeFountain_108 rfl (lv_at hl 0 rfl) ?_
            refine va_get (D := dg) (ci := 9) (v := .ref (a 7)) (C := RX6) (T := TX6) (N := 10) hx hb htg inG_X6 hown hK hP 0 rfl rfl 8 (Nat.le_of_ble_eq_true rfl) (htg _ wq_75) (fun _ h9 => h9) rfl dX6_placeFountain_109 ?_
            refine lv_aload_n hx hb dX6_placeFountain_112 rfl (lv_at hl 0 rfl) ?_
            refine va_get (D := dg) (ci := 9) (v := .int (zI (S 0 1))) (C := RX6) (T := TX6) (N := 10) hx hb htg inG_X6 hown hK hP 0 rfl rfl 4 (Nat.le_of_ble_eq_true rfl) (htg _ wq_65) (fun _ h9 => h9) rfl dX6_placeFountain_113 ?_
            refine x_iconst hx hb dX6_placeFountain_116 ?_
            refine x_zast (ws' := parkC ck a (upS (upS (upS (upS S 7 (S 0 1) x) 8 (S 0 1) y) 9 (S 0 1) v) 10 (S 0 1) 1) ++ (outC o O)) hx hb hK hP hD hS 7 1 rfl rfl (by decide) (by omega) (by omega) (by rw [ar_up (by omega)]; rfl) dX6_placeFountain_117 (fun H locs hP hD hS => ?_)
            refine lv_aload_n hx hb dX6_placeFountain_118 rfl (lv_at hl 0 rfl) ?_
            refine lv_dup hx hb dX6_placeFountain_119 rfl ?_
            refine va_get (D := dg) (ci := 9) (v := .int (zI (S 0 1))) (C := RX6) (T := TX6) (N := 10) hx hb htg inG_X6 hown hK hP 0 rfl rfl 4 (Nat.le_of_ble_eq_true rfl) (htg _ wq_65) (fun _ h9 => h9) rfl dX6_placeFountain_120 ?_
            refine x_iconst hx hb dX6_placeFountain_123 ?_
            refine x_iadd hx hb dX6_placeFountain_124 ?_
            refine va_put (D := dg) (ci := 9) (v := .int (zI ((S 0 1) + 1))) (ty := .int) (C := RX6) (T := TX6) (N := 10) hx hb htg inG_X6 tyX6 tyX6_ok nmX6 hown hK hP hD hS 0 rfl rfl 4 (Nat.le_of_ble_eq_true rfl) (htg _ wq_65) (fun _ h9 => h9) rfl (by decide +kernel) rfl rfl (Nat.le_of_ble_eq_true rfl) dX6_placeFountain_125 (fun H locs hP hD hS => ?_)
            have hP : va_P dg vwCl (parkC ck a (upS (upS (upS (upS (upS S 7 (S 0 1) x) 8 (S 0 1) y) 9 (S 0 1) v) 10 (S 0 1) 1) 0 1 ((S 0 1) + 1)) ++ (outC o O)) H := hP
            have hD : va_D A (parkC ck a (upS (upS (upS (upS (upS S 7 (S 0 1) x) 8 (S 0 1) y) 9 (S 0 1) v) 10 (S 0 1) 1) 0 1 ((S 0 1) + 1)) ++ (outC o O)) := hD
            refine lv_aload hx hb dX6_placeFountain_128 (lv_at hl 4 rfl) ?_
            refine lv_aload_n hx hb dX6_placeFountain_130 rfl (lv_at hl 0 rfl) ?_
            refine va_get (D := dg) (ci := 9) (v := .int (zI ((S 0 1) + 1))) (C := RX6) (T := TX6) (N := 10) hx hb htg inG_X6 hown hK hP 0 rfl rfl 4 (Nat.le_of_ble_eq_true rfl) (htg _ wq_65) (fun _ h9 => h9) rfl dX6_placeFountain_131 ?_
            refine x_iconst hx hb dX6_placeFountain_134 ?_
            refine x_isub hx hb dX6_placeFountain_135 ?_
            refine x_is (show (((S 0 1) + 1) - 1) = (S 0 1) by omega) ?_
            refine x_callv (ws' := parkC ck a (upS (upS (upS (upS (upS S 7 (S 0 1) x) 8 (S 0 1) y) 9 (S 0 1) v) 10 (S 0 1) 1) 0 1 ((S 0 1) + 1)) ++ (outC o (upO (upO O 0 0) 1 (S 0 1)))) (parkC ck a (upS (upS (upS (upS (upS S 7 (S 0 1) x) 8 (S 0 1) y) 9 (S 0 1) v) 10 (S 0 1) 1) 0 1 ((S 0 1) + 1))) (M := outC o O) (M' := outC o (upO (upO O 0 0) 1 (S 0 1))) ([]) (by rw [List.append_nil]) (by rw [List.append_nil]) hP hD hS hA (fun hPm hDm => va_runV (As := [.int (zI (S 0 1))]) (rest := []) ⟨hx, hb, hml, hown, htg⟩ (c_out_succeed l dg ck o O (S 0 1) _ ) (cwV 1 htg (gwV wq_684 wq_627 wq_628 wq_6 wq_629) rfl rfl rfl (by decide +kernel) ⟨Nat.le_of_ble_eq_true rfl, Nat.le_of_ble_eq_true rfl⟩) (wr_preV hK hPm hDm 0 8 rfl rfl) rfl rfl hl.1 rfl (lv_room (Nat.le_of_ble_eq_true rfl)) dX6_placeFountain_136 ⟨Nat.zero_le _, Nat.zero_le _⟩) (fun H locs hP hD hS => ?_)
            have hEq : parkC ck a (pfZ S x y v).2.2 ++ (outC o (outc O (pfZ S x y v).1 (pfZ S x y v).2.1)) = parkC ck a (upS (upS (upS (upS (upS S 7 (S 0 1) x) 8 (S 0 1) y) 9 (S 0 1) v) 10 (S 0 1) 1) 0 1 ((S 0 1) + 1)) ++ (outC o (upO (upO O 0 0) 1 (S 0 1))) := (by first | (have hc : pfZ S x y v = (0, (S 0 1), (upS (upS (upS (upS (upS S 7 (S 0 1) x) 8 (S 0 1) y) 9 (S 0 1) v) 10 (S 0 1) 1) 0 1 ((S 0 1) + 1))) := (by unfold pfZ; repeat (first | rw [if_pos (by omega)] | rw [if_neg (by omega)])); rw [hc]; first | rfl | (show _ ++ outC o (outc O _ _) = _; rw [outc_r (by omega)])) | (exfalso; omega))
            exact W.vret hx hb hr (fun t9 ht9 hW9 => ⟨⟨(), rfl, trivial, by rw [ht9, hEq]; exact hP, by rw [hEq, hAe]; exact hD⟩, hS.F ht9⟩) hS.2.2 dX6_placeFountain_139
          · refine lv_aload hx hb dX6_placeFountain_63 (lv_at hl 4 rfl) ?_
            refine x_iconst hx hb dX6_placeFountain_65 ?_
            refine lv_aload_n hx hb dX6_placeFountain_66 rfl (lv_at hl 0 rfl) ?_
            refine lv_iload_n hx hb dX6_placeFountain_67 rfl (lv_at hl 1 rfl) ?_
            refine lv_iload_n hx hb dX6_placeFountain_68 rfl (lv_at hl 2 rfl) ?_
            refine vp_callSi (W.runV (As := [.int (zI x), .int (zI y)]) (rest := [.int (zI 4), .ref o]) ⟨hx, hb, hml, hown, htg⟩ (c_holder l dg ck a S x y hI (by omega) (by omega)) (cwV 2 htg (gwV wq_680 wq_681 wq_682 wq_3 wq_683) rfl rfl rfl (by decide +kernel) ⟨Nat.le_of_ble_eq_true rfl, Nat.le_of_ble_eq_true rfl⟩) (rd_preV hK (va_P_l hP) 0 9 rfl rfl) rfl rfl hl.1 rfl (lv_room (Nat.le_of_ble_eq_true rfl)) dX6_placeFountain_69 ⟨Nat.zero_le _, Nat.zero_le _⟩) (fun r69 hr69 => ?_)
            subst hr69
            refine x_callv (ws' := parkC ck a S ++ (outC o (upO (upO (upO O 0 3) 2 4) 3 (holder S x y)))) (parkC ck a S) (M := outC o O) (M' := outC o (upO (upO (upO O 0 3) 2 4) 3 (holder S x y))) ([]) (by rw [List.append_nil]) (by rw [List.append_nil]) hP hD hS hA (fun hPm hDm => va_runV (As := [.int (zI 4), .int (zI (holder S x y))]) (rest := []) ⟨hx, hb, hml, hown, htg⟩ (c_out_reject l dg ck o O 4 (holder S x y) _ ) (cwV 2 htg (gwV wq_676 wq_677 wq_678 wq_6 wq_679) rfl rfl rfl (by decide +kernel) ⟨Nat.le_of_ble_eq_true rfl, Nat.le_of_ble_eq_true rfl⟩) (wr_preV hK hPm hDm 0 8 rfl rfl) rfl rfl hl.1 rfl (lv_room (Nat.le_of_ble_eq_true rfl)) dX6_placeFountain_72 ⟨Nat.zero_le _, Nat.zero_le _⟩) (fun H locs hP hD hS => ?_)
            refine lv_goto (tgt := 139) hx hb dX6_placeFountain_75 (by decide) ?_
            have hEq : parkC ck a (pfZ S x y v).2.2 ++ (outC o (outc O (pfZ S x y v).1 (pfZ S x y v).2.1)) = parkC ck a S ++ (outC o (upO (upO (upO O 0 3) 2 4) 3 (holder S x y))) := (by first | (have hc : pfZ S x y v = (4, (holder S x y), S) := (by unfold pfZ; repeat (first | rw [if_pos (by omega)] | rw [if_neg (by omega)])); rw [hc]; first | rfl | (show _ ++ outC o (outc O _ _) = _; rw [outc_r (by omega)])) | (exfalso; omega))
            exact W.vret hx hb hr (fun t9 ht9 hW9 => ⟨⟨(), rfl, trivial, by rw [ht9, hEq]; exact hP, by rw [hEq, hAe]; exact hD⟩, hS.F ht9⟩) hS.2.2 dX6_placeFountain_139
        · refine lv_aload hx hb dX6_placeFountain_43 (lv_at hl 4 rfl) ?_
          refine x_iconst hx hb dX6_placeFountain_45 ?_
          refine x_iconst hx hb dX6_placeFountain_46 ?_
          refine x_callv (ws' := parkC ck a S ++ (outC o (upO (upO (upO O 0 3) 2 2) 3 4))) (parkC ck a S) (M := outC o O) (M' := outC o (upO (upO (upO O 0 3) 2 2) 3 4)) ([]) (by rw [List.append_nil]) (by rw [List.append_nil]) hP hD hS hA (fun hPm hDm => va_runV (As := [.int (zI 2), .int (zI 4)]) (rest := []) ⟨hx, hb, hml, hown, htg⟩ (c_out_reject l dg ck o O 2 4 _ ) (cwV 2 htg (gwV wq_676 wq_677 wq_678 wq_6 wq_679) rfl rfl rfl (by decide +kernel) ⟨Nat.le_of_ble_eq_true rfl, Nat.le_of_ble_eq_true rfl⟩) (wr_preV hK hPm hDm 0 8 rfl rfl) rfl rfl hl.1 rfl (lv_room (Nat.le_of_ble_eq_true rfl)) dX6_placeFountain_47 ⟨Nat.zero_le _, Nat.zero_le _⟩) (fun H locs hP hD hS => ?_)
          refine lv_goto (tgt := 139) hx hb dX6_placeFountain_50 (by decide) ?_
          have hEq : parkC ck a (pfZ S x y v).2.2 ++ (outC o (outc O (pfZ S x y v).1 (pfZ S x y v).2.1)) = parkC ck a S ++ (outC o (upO (upO (upO O 0 3) 2 2) 3 4)) := (by first | (have hc : pfZ S x y v = (2, 4, S) := (by unfold pfZ; repeat (first | rw [if_pos (by omega)] | rw [if_neg (by omega)])); rw [hc]; first | rfl | (show _ ++ outC o (outc O _ _) = _; rw [outc_r (by omega)])) | (exfalso; omega))
          exact W.vret hx hb hr (fun t9 ht9 hW9 => ⟨⟨(), rfl, trivial, by rw [ht9, hEq]; exact hP, by rw [hEq, hAe]; exact hD⟩, hS.F ht9⟩) hS.2.2 dX6_placeFountain_139
      · refine lv_aload hx hb dX6_placeFountain_27 (lv_at hl 4 rfl) ?_
        refine x_callv (ws' := parkC ck a S ++ (outC o (upO O 0 2))) (parkC ck a S) (M := outC o O) (M' := outC o (upO O 0 2)) ([]) (by rw [List.append_nil]) (by rw [List.append_nil]) hP hD hS hA (fun hPm hDm => va_runV (As := []) (rest := []) ⟨hx, hb, hml, hown, htg⟩ (c_out_missNumber l dg ck o O _ ) (cwV 0 htg (gwV wq_675 wq_615 wq_616 wq_6 wq_617) rfl rfl rfl (by decide +kernel) ⟨Nat.le_of_ble_eq_true rfl, Nat.le_of_ble_eq_true rfl⟩) (wr_preV hK hPm hDm 0 8 rfl rfl) rfl rfl hl.1 rfl (lv_room (Nat.le_of_ble_eq_true rfl)) dX6_placeFountain_29 ⟨Nat.zero_le _, Nat.zero_le _⟩) (fun H locs hP hD hS => ?_)
        refine lv_goto (tgt := 139) hx hb dX6_placeFountain_32 (by decide) ?_
        have hEq : parkC ck a (pfZ S x y v).2.2 ++ (outC o (outc O (pfZ S x y v).1 (pfZ S x y v).2.1)) = parkC ck a S ++ (outC o (upO O 0 2)) := (by first | (have hc : pfZ S x y v = (-2, 0, S) := (by unfold pfZ; repeat (first | rw [if_pos (by omega)] | rw [if_neg (by omega)])); rw [hc]; first | rfl | (show _ ++ outC o (outc O _ _) = _; rw [outc_r (by omega)])) | (exfalso; omega))
        exact W.vret hx hb hr (fun t9 ht9 hW9 => ⟨⟨(), rfl, trivial, by rw [ht9, hEq]; exact hP, by rw [hEq, hAe]; exact hD⟩, hS.F ht9⟩) hS.2.2 dX6_placeFountain_139
  · refine lv_aload hx hb dX6_placeFountain_8 (lv_at hl 4 rfl) ?_
    refine x_callv (ws' := parkC ck a S ++ (outC o (upO O 0 1))) (parkC ck a S) (M := outC o O) (M' := outC o (upO O 0 1)) ([]) (by rw [List.append_nil]) (by rw [List.append_nil]) hP hD hS hA (fun hPm hDm => va_runV (As := []) (rest := []) ⟨hx, hb, hml, hown, htg⟩ (c_out_missIndex l dg ck o O _ ) (cwV 0 htg (gwV wq_671 wq_672 wq_673 wq_6 wq_674) rfl rfl rfl (by decide +kernel) ⟨Nat.le_of_ble_eq_true rfl, Nat.le_of_ble_eq_true rfl⟩) (wr_preV hK hPm hDm 0 8 rfl rfl) rfl rfl hl.1 rfl (lv_room (Nat.le_of_ble_eq_true rfl)) dX6_placeFountain_10 ⟨Nat.zero_le _, Nat.zero_le _⟩) (fun H locs hP hD hS => ?_)
    refine lv_goto (tgt := 139) hx hb dX6_placeFountain_13 (by decide) ?_
    have hEq : parkC ck a (pfZ S x y v).2.2 ++ (outC o (outc O (pfZ S x y v).1 (pfZ S x y v).2.1)) = parkC ck a S ++ (outC o (upO O 0 1)) := (by first | (have hc : pfZ S x y v = (-1, 0, S) := (by unfold pfZ; repeat (first | rw [if_pos (by omega)] | rw [if_neg (by omega)])); rw [hc]; first | rfl | (show _ ++ outC o (outc O _ _) = _; rw [outc_r (by omega)])) | (exfalso; omega))
    exact W.vret hx hb hr (fun t9 ht9 hW9 => ⟨⟨(), rfl, trivial, by rw [ht9, hEq]; exact hP, by rw [hEq, hAe]; exact hD⟩, hS.F ht9⟩) hS.2.2 dX6_placeFountain_139

set_option maxHeartbeats 4000000 in
set_option maxRecDepth 100000 in
/-- BenchBroker$Park.changeRent -/
theorem c_changeRent (l : Launch) (dg : va_G) (ck : Nat → ClassId) (a : Nat → Nat) (S : St) (o : Nat) (O : Nat → Int) (b v : Int) (sz : Nat) (hI : Bd S) (rg_b : -2147483648 ≤ b ∧ b < 2147483648) (rg_v : -2147483648 ≤ v ∧ v < 2147483648) : Met l yX6_changeRent (.code yX6_changeRent cX6_changeRent 4 none :: GW) ({ frames := 1, cells := 0, slots := 0, locals := 21 }) (va_Pc [.ref (a 0), .int (zI b), .int (zI v), .ref o] (wrP dg ck sz (parkC ck a S ++ (outC o O)))) (va_Qv (fun _ : Unit => True) (fun _ t9 => wrQ dg sz (parkC ck a S ++ (outC o O)) (parkC ck a (crZ S b v).2.2 ++ (outC o (outc O (crZ S b v).1 (crZ S b v).2.1))) t9) (va_A (parkC ck a S ++ (outC o O)) sz)) 0 0 (va_A (parkC ck a S ++ (outC o O)) sz) := by
  refine Met.ofW (cc := cX6_changeRent) (maxL := 4) (ret := none) (by decide) rfl ?_
  intro p e s m args below meth c s₁ B hml hv
  obtain ⟨rfl, hsz, hP, hK, hD0⟩ := hv
  have hx := B.exec
  have hb := B.bytes
  have hr := B.returns
  have hts := atoms_spec (ws := .code yX6_changeRent cX6_changeRent 4 none :: GW) B.pre
  have htg : ∀ w ∈ GW, w.before _ s = true := fun w h => hts w (List.mem_cons_of_mem _ h)
  have hown : s.vm.findClass RX6 = some m.cls := findClass_of_methodNamed B.named
  have hlocks := B.notSynchronized
  subst hsz
  have hD := hD0.self (sz := s.heap.size)
  generalize hAe : va_A (parkC ck a S ++ (outC o O)) s.heap.size = A at hD ⊢
  have hA : ∀ q : Nat, s.heap.size ≤ q → A q := fun q h => by rw [← hAe]; exact Or.inr h
  have hS : va_S A s.heap s.heap [] := va_S.rf
  have hP : va_P dg vwCl (parkC ck a S ++ (outC o O)) s.heap := hP
  have hl := lv_entry ([.ref (a 0), .int (zI b), .int (zI v), .ref o]) (n := 4) (Nat.le_of_ble_eq_true rfl)
  rw [lg_entry_eq]
  generalize (lg_sl ([.ref (a 0), .int (zI b), .int (zI v), .ref o]) ++ List.replicate (4 - (lg_sl ([.ref (a 0), .int (zI b), .int (zI v), .ref o])).length) Slot.unset).toArray = ls at hl ⊢
  have hl : lv_has ls 4 [(0, .ref (a 0)), (1, .int (zI b)), (2, .int (zI v)), (3, .ref o)] := hl
  obtain ⟨b00, b01, b02, b03, b1, b2, b3, b4, b5, b6, b7, b8, b9, b10, b11, b12⟩ := id hI
  refine lv_aload_n hx hb dX6_changeRent_0 rfl (lv_at hl 0 rfl) ?_
  refine lv_iload_n hx hb dX6_changeRent_1 rfl (lv_at hl 1 rfl) ?_
  refine vp_callSi (W.runV (As := [.int (zI b)]) (rest := []) ⟨hx, hb, hml, hown, htg⟩ (c_hasBench l dg ck a S b hI (by omega)) (cwV 1 htg (gwV wq_850 wq_430 wq_431 wq_3 wq_432) rfl rfl rfl (by decide +kernel) ⟨Nat.le_of_ble_eq_true rfl, Nat.le_of_ble_eq_true rfl⟩) (rd_preV hK (va_P_l hP) 0 9 rfl rfl) rfl rfl hl.1 rfl (lv_room (Nat.le_of_ble_eq_true rfl)) dX6_changeRent_2 ⟨Nat.zero_le _, Nat.zero_le _⟩) (fun r2 hr2 => ?_)
  subst hr2
  refine x_bz_ne (tgt := 15) hx hb dX6_changeRent_5 (by decide) (fun c5 => ?_) (fun c5 => ?_)
  · refine lv_iload_n hx hb dX6_changeRent_15 rfl (lv_at hl 2 rfl) ?_
    refine x_iconst hx hb dX6_changeRent_16 ?_
    refine x_icmp_lt (tgt := 26) hx hb dX6_changeRent_17 (by decide) (by omega) (by omega) (fun c17 => ?_) (fun c17 => ?_)
    · refine lv_aload_n hx hb dX6_changeRent_26 rfl (lv_at hl 3 rfl) ?_
      refine x_callv (ws' := parkC ck a S ++ (outC o (upO O 0 2))) (parkC ck a S) (M := outC o O) (M' := outC o (upO O 0 2)) ([]) (by rw [List.append_nil]) (by rw [List.append_nil]) hP hD hS hA (fun hPm hDm => va_runV (As := []) (rest := []) ⟨hx, hb, hml, hown, htg⟩ (c_out_missNumber l dg ck o O _ ) (cwV 0 htg (gwV wq_675 wq_615 wq_616 wq_6 wq_617) rfl rfl rfl (by decide +kernel) ⟨Nat.le_of_ble_eq_true rfl, Nat.le_of_ble_eq_true rfl⟩) (wr_preV hK hPm hDm 0 8 rfl rfl) rfl rfl hl.1 rfl (lv_room (Nat.le_of_ble_eq_true rfl)) dX6_changeRent_27 ⟨Nat.zero_le _, Nat.zero_le _⟩) (fun H locs hP hD hS => ?_)
      refine lv_goto (tgt := 50) hx hb dX6_changeRent_30 (by decide) ?_
      have hEq : parkC ck a (crZ S b v).2.2 ++ (outC o (outc O (crZ S b v).1 (crZ S b v).2.1)) = parkC ck a S ++ (outC o (upO O 0 2)) := (by first | (have hc : crZ S b v = (-2, 0, S) := (by unfold crZ; repeat (first | rw [if_pos (by omega)] | rw [if_neg (by omega)])); rw [hc]; first | rfl | (show _ ++ outC o (outc O _ _) = _; rw [outc_r (by omega)])) | (exfalso; omega))
      exact W.vret hx hb hr (fun t9 ht9 hW9 => ⟨⟨(), rfl, trivial, by rw [ht9, hEq]; exact hP, by rw [hEq, hAe]; exact hD⟩, hS.F ht9⟩) hS.2.2 dX6_changeRent_50
    · refine lv_iload_n hx hb dX6_changeRent_20 rfl (lv_at hl 2 rfl) ?_
      refine x_bipush hx hb dX6_changeRent_21 (by decide) ?_
      refine x_icmp_le (tgt := 33) hx hb dX6_changeRent_23 (by decide) (by omega) (by omega) (fun c23 => ?_) (fun c23 => ?_)
      · refine lv_aload_n hx hb dX6_changeRent_33 rfl (lv_at hl 3 rfl) ?_
        refine lv_aload_n hx hb dX6_changeRent_34 rfl (lv_at hl 0 rfl) ?_
        refine va_get (D := dg) (ci := 9) (v := .ref (a 3)) (C := RX6) (T := TX6) (N := 10) hx hb htg inG_X6 hown hK hP 0 rfl rfl 3 (Nat.le_of_ble_eq_true rfl) (htg _ wq_63) (fun _ h9 => h9) rfl dX6_changeRent_35 ?_
        refine lv_iload_n hx hb dX6_changeRent_38 rfl (lv_at hl 1 rfl) ?_
        refine x_iald hx hb hK hP 3 0 (S 3) rfl rfl (fun _ => rfl) (P := fun y => 0 ≤ y ∧ y ≤ 20) b3 (by decide) (by omega) dX6_changeRent_39 (fun g39 => ?_)
        refine x_callv (ws' := parkC ck a S ++ (outC o (upO (upO O 0 0) 1 (S 3 b)))) (parkC ck a S) (M := outC o O) (M' := outC o (upO (upO O 0 0) 1 (S 3 b))) ([]) (by rw [List.append_nil]) (by rw [List.append_nil]) hP hD hS hA (fun hPm hDm => va_runV (As := [.int (zI (S 3 b))]) (rest := []) ⟨hx, hb, hml, hown, htg⟩ (c_out_succeed l dg ck o O (S 3 b) _ ) (cwV 1 htg (gwV wq_684 wq_627 wq_628 wq_6 wq_629) rfl rfl rfl (by decide +kernel) ⟨Nat.le_of_ble_eq_true rfl, Nat.le_of_ble_eq_true rfl⟩) (wr_preV hK hPm hDm 0 8 rfl rfl) rfl rfl hl.1 rfl (lv_room (Nat.le_of_ble_eq_true rfl)) dX6_changeRent_40 ⟨Nat.zero_le _, Nat.zero_le _⟩) (fun H locs hP hD hS => ?_)
        refine lv_aload_n hx hb dX6_changeRent_43 rfl (lv_at hl 0 rfl) ?_
        refine va_get (D := dg) (ci := 9) (v := .ref (a 3)) (C := RX6) (T := TX6) (N := 10) hx hb htg inG_X6 hown hK hP 0 rfl rfl 3 (Nat.le_of_ble_eq_true rfl) (htg _ wq_63) (fun _ h9 => h9) rfl dX6_changeRent_44 ?_
        refine lv_iload_n hx hb dX6_changeRent_47 rfl (lv_at hl 1 rfl) ?_
        refine lv_iload_n hx hb dX6_changeRent_48 rfl (lv_at hl 2 rfl) ?_
        refine x_iast (ws' := parkC ck a (upS S 3 b v) ++ (outC o (upO (upO O 0 0) 1 (S 3 b)))) hx hb hK hP hD hS 3 0 rfl rfl (by decide) (by omega) (by rw [ar_up (by omega)]; rfl) dX6_changeRent_49 (fun H locs hP hD hS => ?_)
        have hEq : parkC ck a (crZ S b v).2.2 ++ (outC o (outc O (crZ S b v).1 (crZ S b v).2.1)) = parkC ck a (upS S 3 b v) ++ (outC o (upO (upO O 0 0) 1 (S 3 b))) := (by first | (have hc : crZ S b v = (0, (S 3 b), (upS S 3 b v)) := (by unfold crZ; repeat (first | rw [if_pos (by omega)] | rw [if_neg (by omega)])); rw [hc]; first | rfl | (show _ ++ outC o (outc O _ _) = _; rw [outc_r (by omega)])) | (exfalso; omega))
        exact W.vret hx hb hr (fun t9 ht9 hW9 => ⟨⟨(), rfl, trivial, by rw [ht9, hEq]; exact hP, by rw [hEq, hAe]; exact hD⟩, hS.F ht9⟩) hS.2.2 dX6_changeRent_50
      · refine lv_aload_n hx hb dX6_changeRent_26 rfl (lv_at hl 3 rfl) ?_
        refine x_callv (ws' := parkC ck a S ++ (outC o (upO O 0 2))) (parkC ck a S) (M := outC o O) (M' := outC o (upO O 0 2)) ([]) (by rw [List.append_nil]) (by rw [List.append_nil]) hP hD hS hA (fun hPm hDm => va_runV (As := []) (rest := []) ⟨hx, hb, hml, hown, htg⟩ (c_out_missNumber l dg ck o O _ ) (cwV 0 htg (gwV wq_675 wq_615 wq_616 wq_6 wq_617) rfl rfl rfl (by decide +kernel) ⟨Nat.le_of_ble_eq_true rfl, Nat.le_of_ble_eq_true rfl⟩) (wr_preV hK hPm hDm 0 8 rfl rfl) rfl rfl hl.1 rfl (lv_room (Nat.le_of_ble_eq_true rfl)) dX6_changeRent_27 ⟨Nat.zero_le _, Nat.zero_le _⟩) (fun H locs hP hD hS => ?_)
        refine lv_goto (tgt := 50) hx hb dX6_changeRent_30 (by decide) ?_
        have hEq : parkC ck a (crZ S b v).2.2 ++ (outC o (outc O (crZ S b v).1 (crZ S b v).2.1)) = parkC ck a S ++ (outC o (upO O 0 2)) := (by first | (have hc : crZ S b v = (-2, 0, S) := (by unfold crZ; repeat (first | rw [if_pos (by omega)] | rw [if_neg (by omega)])); rw [hc]; first | rfl | (show _ ++ outC o (outc O _ _) = _; rw [outc_r (by omega)])) | (exfalso; omega))
        exact W.vret hx hb hr (fun t9 ht9 hW9 => ⟨⟨(), rfl, trivial, by rw [ht9, hEq]; exact hP, by rw [hEq, hAe]; exact hD⟩, hS.F ht9⟩) hS.2.2 dX6_changeRent_50
  · refine lv_aload_n hx hb dX6_changeRent_8 rfl (lv_at hl 3 rfl) ?_
    refine x_callv (ws' := parkC ck a S ++ (outC o (upO O 0 1))) (parkC ck a S) (M := outC o O) (M' := outC o (upO O 0 1)) ([]) (by rw [List.append_nil]) (by rw [List.append_nil]) hP hD hS hA (fun hPm hDm => va_runV (As := []) (rest := []) ⟨hx, hb, hml, hown, htg⟩ (c_out_missIndex l dg ck o O _ ) (cwV 0 htg (gwV wq_671 wq_672 wq_673 wq_6 wq_674) rfl rfl rfl (by decide +kernel) ⟨Nat.le_of_ble_eq_true rfl, Nat.le_of_ble_eq_true rfl⟩) (wr_preV hK hPm hDm 0 8 rfl rfl) rfl rfl hl.1 rfl (lv_room (Nat.le_of_ble_eq_true rfl)) dX6_changeRent_9 ⟨Nat.zero_le _, Nat.zero_le _⟩) (fun H locs hP hD hS => ?_)
    refine lv_goto (tgt := 50) hx hb dX6_changeRent_12 (by decide) ?_
    have hEq : parkC ck a (crZ S b v).2.2 ++ (outC o (outc O (crZ S b v).1 (crZ S b v).2.1)) = parkC ck a S ++ (outC o (upO O 0 1)) := (by first | (have hc : crZ S b v = (-1, 0, S) := (by unfold crZ; repeat (first | rw [if_pos (by omega)] | rw [if_neg (by omega)])); rw [hc]; first | rfl | (show _ ++ outC o (outc O _ _) = _; rw [outc_r (by omega)])) | (exfalso; omega))
    exact W.vret hx hb hr (fun t9 ht9 hW9 => ⟨⟨(), rfl, trivial, by rw [ht9, hEq]; exact hP, by rw [hEq, hAe]; exact hD⟩, hS.F ht9⟩) hS.2.2 dX6_changeRent_50

set_option maxHeartbeats 4000000 in
set_option maxRecDepth 100000 in
/-- BenchBroker$Park.changeLoudness -/
theorem c_changeLoudness (l : Launch) (dg : va_G) (ck : Nat → ClassId) (a : Nat → Nat) (S : St) (o : Nat) (O : Nat → Int) (f v : Int) (sz : Nat) (hI : Bd S) (rg_f : -2147483648 ≤ f ∧ f < 2147483648) (rg_v : -2147483648 ≤ v ∧ v < 2147483648) : Met l yX6_changeLoudness (.code yX6_changeLoudness cX6_changeLoudness 4 none :: GW) ({ frames := 1, cells := 0, slots := 0, locals := 21 }) (va_Pc [.ref (a 0), .int (zI f), .int (zI v), .ref o] (wrP dg ck sz (parkC ck a S ++ (outC o O)))) (va_Qv (fun _ : Unit => True) (fun _ t9 => wrQ dg sz (parkC ck a S ++ (outC o O)) (parkC ck a (clZ S f v).2.2 ++ (outC o (outc O (clZ S f v).1 (clZ S f v).2.1))) t9) (va_A (parkC ck a S ++ (outC o O)) sz)) 0 0 (va_A (parkC ck a S ++ (outC o O)) sz) := by
  refine Met.ofW (cc := cX6_changeLoudness) (maxL := 4) (ret := none) (by decide) rfl ?_
  intro p e s m args below meth c s₁ B hml hv
  obtain ⟨rfl, hsz, hP, hK, hD0⟩ := hv
  have hx := B.exec
  have hb := B.bytes
  have hr := B.returns
  have hts := atoms_spec (ws := .code yX6_changeLoudness cX6_changeLoudness 4 none :: GW) B.pre
  have htg : ∀ w ∈ GW, w.before _ s = true := fun w h => hts w (List.mem_cons_of_mem _ h)
  have hown : s.vm.findClass RX6 = some m.cls := findClass_of_methodNamed B.named
  have hlocks := B.notSynchronized
  subst hsz
  have hD := hD0.self (sz := s.heap.size)
  generalize hAe : va_A (parkC ck a S ++ (outC o O)) s.heap.size = A at hD ⊢
  have hA : ∀ q : Nat, s.heap.size ≤ q → A q := fun q h => by rw [← hAe]; exact Or.inr h
  have hS : va_S A s.heap s.heap [] := va_S.rf
  have hP : va_P dg vwCl (parkC ck a S ++ (outC o O)) s.heap := hP
  have hl := lv_entry ([.ref (a 0), .int (zI f), .int (zI v), .ref o]) (n := 4) (Nat.le_of_ble_eq_true rfl)
  rw [lg_entry_eq]
  generalize (lg_sl ([.ref (a 0), .int (zI f), .int (zI v), .ref o]) ++ List.replicate (4 - (lg_sl ([.ref (a 0), .int (zI f), .int (zI v), .ref o])).length) Slot.unset).toArray = ls at hl ⊢
  have hl : lv_has ls 4 [(0, .ref (a 0)), (1, .int (zI f)), (2, .int (zI v)), (3, .ref o)] := hl
  obtain ⟨b00, b01, b02, b03, b1, b2, b3, b4, b5, b6, b7, b8, b9, b10, b11, b12⟩ := id hI
  refine lv_aload_n hx hb dX6_changeLoudness_0 rfl (lv_at hl 0 rfl) ?_
  refine lv_iload_n hx hb dX6_changeLoudness_1 rfl (lv_at hl 1 rfl) ?_
  refine vp_callSi (W.runV (As := [.int (zI f)]) (rest := []) ⟨hx, hb, hml, hown, htg⟩ (c_hasFountain l dg ck a S f hI (by omega)) (cwV 1 htg (gwV wq_765 wq_766 wq_767 wq_3 wq_768) rfl rfl rfl (by decide +kernel) ⟨Nat.le_of_ble_eq_true rfl, Nat.le_of_ble_eq_true rfl⟩) (rd_preV hK (va_P_l hP) 0 9 rfl rfl) rfl rfl hl.1 rfl (lv_room (Nat.le_of_ble_eq_true rfl)) dX6_changeLoudness_2 ⟨Nat.zero_le _, Nat.zero_le _⟩) (fun r2 hr2 => ?_)
  subst hr2
  refine x_bz_ne (tgt := 15) hx hb dX6_changeLoudness_5 (by decide) (fun c5 => ?_) (fun c5 => ?_)
  · refine lv_iload_n hx hb dX6_changeLoudness_15 rfl (lv_at hl 2 rfl) ?_
    refine x_iconst hx hb dX6_changeLoudness_16 ?_
    refine x_icmp_lt (tgt := 26) hx hb dX6_changeLoudness_17 (by decide) (by omega) (by omega) (fun c17 => ?_) (fun c17 => ?_)
    · refine lv_aload_n hx hb dX6_changeLoudness_26 rfl (lv_at hl 3 rfl) ?_
      refine x_callv (ws' := parkC ck a S ++ (outC o (upO O 0 2))) (parkC ck a S) (M := outC o O) (M' := outC o (upO O 0 2)) ([]) (by rw [List.append_nil]) (by rw [List.append_nil]) hP hD hS hA (fun hPm hDm => va_runV (As := []) (rest := []) ⟨hx, hb, hml, hown, htg⟩ (c_out_missNumber l dg ck o O _ ) (cwV 0 htg (gwV wq_675 wq_615 wq_616 wq_6 wq_617) rfl rfl rfl (by decide +kernel) ⟨Nat.le_of_ble_eq_true rfl, Nat.le_of_ble_eq_true rfl⟩) (wr_preV hK hPm hDm 0 8 rfl rfl) rfl rfl hl.1 rfl (lv_room (Nat.le_of_ble_eq_true rfl)) dX6_changeLoudness_27 ⟨Nat.zero_le _, Nat.zero_le _⟩) (fun H locs hP hD hS => ?_)
      refine lv_goto (tgt := 50) hx hb dX6_changeLoudness_30 (by decide) ?_
      have hEq : parkC ck a (clZ S f v).2.2 ++ (outC o (outc O (clZ S f v).1 (clZ S f v).2.1)) = parkC ck a S ++ (outC o (upO O 0 2)) := (by first | (have hc : clZ S f v = (-2, 0, S) := (by unfold clZ; repeat (first | rw [if_pos (by omega)] | rw [if_neg (by omega)])); rw [hc]; first | rfl | (show _ ++ outC o (outc O _ _) = _; rw [outc_r (by omega)])) | (exfalso; omega))
      exact W.vret hx hb hr (fun t9 ht9 hW9 => ⟨⟨(), rfl, trivial, by rw [ht9, hEq]; exact hP, by rw [hEq, hAe]; exact hD⟩, hS.F ht9⟩) hS.2.2 dX6_changeLoudness_50
    · refine lv_iload_n hx hb dX6_changeLoudness_20 rfl (lv_at hl 2 rfl) ?_
      refine x_bipush hx hb dX6_changeLoudness_21 (by decide) ?_
      refine x_icmp_le (tgt := 33) hx hb dX6_changeLoudness_23 (by decide) (by omega) (by omega) (fun c23 => ?_) (fun c23 => ?_)
      · refine lv_aload_n hx hb dX6_changeLoudness_33 rfl (lv_at hl 3 rfl) ?_
        refine lv_aload_n hx hb dX6_changeLoudness_34 rfl (lv_at hl 0 rfl) ?_
        refine va_get (D := dg) (ci := 9) (v := .ref (a 6)) (C := RX6) (T := TX6) (N := 10) hx hb htg inG_X6 hown hK hP 0 rfl rfl 7 (Nat.le_of_ble_eq_true rfl) (htg _ wq_72) (fun _ h9 => h9) rfl dX6_changeLoudness_35 ?_
        refine lv_iload_n hx hb dX6_changeLoudness_38 rfl (lv_at hl 1 rfl) ?_
        refine x_iald hx hb hK hP 6 0 (S 9) rfl rfl (fun _ => rfl) (P := fun y => 0 ≤ y ∧ y ≤ 9) b9 (by decide) (by omega) dX6_changeLoudness_39 (fun g39 => ?_)
        refine x_callv (ws' := parkC ck a S ++ (outC o (upO (upO O 0 0) 1 (S 9 f)))) (parkC ck a S) (M := outC o O) (M' := outC o (upO (upO O 0 0) 1 (S 9 f))) ([]) (by rw [List.append_nil]) (by rw [List.append_nil]) hP hD hS hA (fun hPm hDm => va_runV (As := [.int (zI (S 9 f))]) (rest := []) ⟨hx, hb, hml, hown, htg⟩ (c_out_succeed l dg ck o O (S 9 f) _ ) (cwV 1 htg (gwV wq_684 wq_627 wq_628 wq_6 wq_629) rfl rfl rfl (by decide +kernel) ⟨Nat.le_of_ble_eq_true rfl, Nat.le_of_ble_eq_true rfl⟩) (wr_preV hK hPm hDm 0 8 rfl rfl) rfl rfl hl.1 rfl (lv_room (Nat.le_of_ble_eq_true rfl)) dX6_changeLoudness_40 ⟨Nat.zero_le _, Nat.zero_le _⟩) (fun H locs hP hD hS => ?_)
        refine lv_aload_n hx hb dX6_changeLoudness_43 rfl (lv_at hl 0 rfl) ?_
        refine va_get (D := dg) (ci := 9) (v := .ref (a 6)) (C := RX6) (T := TX6) (N := 10) hx hb htg inG_X6 hown hK hP 0 rfl rfl 7 (Nat.le_of_ble_eq_true rfl) (htg _ wq_72) (fun _ h9 => h9) rfl dX6_changeLoudness_44 ?_
        refine lv_iload_n hx hb dX6_changeLoudness_47 rfl (lv_at hl 1 rfl) ?_
        refine lv_iload_n hx hb dX6_changeLoudness_48 rfl (lv_at hl 2 rfl) ?_
        refine x_iast (ws' := parkC ck a (upS S 9 f v) ++ (outC o (upO (upO O 0 0) 1 (S 9 f)))) hx hb hK hP hD hS 6 0 rfl rfl (by decide) (by omega) (by rw [ar_up (by omega)]; rfl) dX6_changeLoudness_49 (fun H locs hP hD hS => ?_)
        have hEq : parkC ck a (clZ S f v).2.2 ++ (outC o (outc O (clZ S f v).1 (clZ S f v).2.1)) = parkC ck a (upS S 9 f v) ++ (outC o (upO (upO O 0 0) 1 (S 9 f))) := (by first | (have hc : clZ S f v = (0, (S 9 f), (upS S 9 f v)) := (by unfold clZ; repeat (first | rw [if_pos (by omega)] | rw [if_neg (by omega)])); rw [hc]; first | rfl | (show _ ++ outC o (outc O _ _) = _; rw [outc_r (by omega)])) | (exfalso; omega))
        exact W.vret hx hb hr (fun t9 ht9 hW9 => ⟨⟨(), rfl, trivial, by rw [ht9, hEq]; exact hP, by rw [hEq, hAe]; exact hD⟩, hS.F ht9⟩) hS.2.2 dX6_changeLoudness_50
      · refine lv_aload_n hx hb dX6_changeLoudness_26 rfl (lv_at hl 3 rfl) ?_
        refine x_callv (ws' := parkC ck a S ++ (outC o (upO O 0 2))) (parkC ck a S) (M := outC o O) (M' := outC o (upO O 0 2)) ([]) (by rw [List.append_nil]) (by rw [List.append_nil]) hP hD hS hA (fun hPm hDm => va_runV (As := []) (rest := []) ⟨hx, hb, hml, hown, htg⟩ (c_out_missNumber l dg ck o O _ ) (cwV 0 htg (gwV wq_675 wq_615 wq_616 wq_6 wq_617) rfl rfl rfl (by decide +kernel) ⟨Nat.le_of_ble_eq_true rfl, Nat.le_of_ble_eq_true rfl⟩) (wr_preV hK hPm hDm 0 8 rfl rfl) rfl rfl hl.1 rfl (lv_room (Nat.le_of_ble_eq_true rfl)) dX6_changeLoudness_27 ⟨Nat.zero_le _, Nat.zero_le _⟩) (fun H locs hP hD hS => ?_)
        refine lv_goto (tgt := 50) hx hb dX6_changeLoudness_30 (by decide) ?_
        have hEq : parkC ck a (clZ S f v).2.2 ++ (outC o (outc O (clZ S f v).1 (clZ S f v).2.1)) = parkC ck a S ++ (outC o (upO O 0 2)) := (by first | (have hc : clZ S f v = (-2, 0, S) := (by unfold clZ; repeat (first | rw [if_pos (by omega)] | rw [if_neg (by omega)])); rw [hc]; first | rfl | (show _ ++ outC o (outc O _ _) = _; rw [outc_r (by omega)])) | (exfalso; omega))
        exact W.vret hx hb hr (fun t9 ht9 hW9 => ⟨⟨(), rfl, trivial, by rw [ht9, hEq]; exact hP, by rw [hEq, hAe]; exact hD⟩, hS.F ht9⟩) hS.2.2 dX6_changeLoudness_50
  · refine lv_aload_n hx hb dX6_changeLoudness_8 rfl (lv_at hl 3 rfl) ?_
    refine x_callv (ws' := parkC ck a S ++ (outC o (upO O 0 1))) (parkC ck a S) (M := outC o O) (M' := outC o (upO O 0 1)) ([]) (by rw [List.append_nil]) (by rw [List.append_nil]) hP hD hS hA (fun hPm hDm => va_runV (As := []) (rest := []) ⟨hx, hb, hml, hown, htg⟩ (c_out_missIndex l dg ck o O _ ) (cwV 0 htg (gwV wq_671 wq_672 wq_673 wq_6 wq_674) rfl rfl rfl (by decide +kernel) ⟨Nat.le_of_ble_eq_true rfl, Nat.le_of_ble_eq_true rfl⟩) (wr_preV hK hPm hDm 0 8 rfl rfl) rfl rfl hl.1 rfl (lv_room (Nat.le_of_ble_eq_true rfl)) dX6_changeLoudness_9 ⟨Nat.zero_le _, Nat.zero_le _⟩) (fun H locs hP hD hS => ?_)
    refine lv_goto (tgt := 50) hx hb dX6_changeLoudness_12 (by decide) ?_
    have hEq : parkC ck a (clZ S f v).2.2 ++ (outC o (outc O (clZ S f v).1 (clZ S f v).2.1)) = parkC ck a S ++ (outC o (upO O 0 1)) := (by first | (have hc : clZ S f v = (-1, 0, S) := (by unfold clZ; repeat (first | rw [if_pos (by omega)] | rw [if_neg (by omega)])); rw [hc]; first | rfl | (show _ ++ outC o (outc O _ _) = _; rw [outc_r (by omega)])) | (exfalso; omega))
    exact W.vret hx hb hr (fun t9 ht9 hW9 => ⟨⟨(), rfl, trivial, by rw [ht9, hEq]; exact hP, by rw [hEq, hAe]; exact hD⟩, hS.F ht9⟩) hS.2.2 dX6_changeLoudness_50

set_option maxHeartbeats 4000000 in
set_option maxRecDepth 100000 in
/-- BenchBroker$Park.changeLimit -/
theorem c_changeLimit (l : Launch) (dg : va_G) (ck : Nat → ClassId) (a : Nat → Nat) (S : St) (o : Nat) (O : Nat → Int) (v : Int) (sz : Nat) (hI : Bd S) (rg_v : -2147483648 ≤ v ∧ v < 2147483648) : Met l yX6_changeLimit (.code yX6_changeLimit cX6_changeLimit 3 none :: GW) ({ frames := 1, cells := 0, slots := 0, locals := 21 }) (va_Pc [.ref (a 0), .int (zI v), .ref o] (wrP dg ck sz (parkC ck a S ++ (outC o O)))) (va_Qv (fun _ : Unit => True) (fun _ t9 => wrQ dg sz (parkC ck a S ++ (outC o O)) (parkC ck a (cmZ S v).2.2 ++ (outC o (outc O (cmZ S v).1 (cmZ S v).2.1))) t9) (va_A (parkC ck a S ++ (outC o O)) sz)) 0 0 (va_A (parkC ck a S ++ (outC o O)) sz) := by
  refine Met.ofW (cc := cX6_changeLimit) (maxL := 3) (ret := none) (by decide) rfl ?_
  intro p e s m args below meth c s₁ B hml hv
  obtain ⟨rfl, hsz, hP, hK, hD0⟩ := hv
  have hx := B.exec
  have hb := B.bytes
  have hr := B.returns
  have hts := atoms_spec (ws := .code yX6_changeLimit cX6_changeLimit 3 none :: GW) B.pre
  have htg : ∀ w ∈ GW, w.before _ s = true := fun w h => hts w (List.mem_cons_of_mem _ h)
  have hown : s.vm.findClass RX6 = some m.cls := findClass_of_methodNamed B.named
  have hlocks := B.notSynchronized
  subst hsz
  have hD := hD0.self (sz := s.heap.size)
  generalize hAe : va_A (parkC ck a S ++ (outC o O)) s.heap.size = A at hD ⊢
  have hA : ∀ q : Nat, s.heap.size ≤ q → A q := fun q h => by rw [← hAe]; exact Or.inr h
  have hS : va_S A s.heap s.heap [] := va_S.rf
  have hP : va_P dg vwCl (parkC ck a S ++ (outC o O)) s.heap := hP
  have hl := lv_entry ([.ref (a 0), .int (zI v), .ref o]) (n := 3) (Nat.le_of_ble_eq_true rfl)
  rw [lg_entry_eq]
  generalize (lg_sl ([.ref (a 0), .int (zI v), .ref o]) ++ List.replicate (3 - (lg_sl ([.ref (a 0), .int (zI v), .ref o])).length) Slot.unset).toArray = ls at hl ⊢
  have hl : lv_has ls 3 [(0, .ref (a 0)), (1, .int (zI v)), (2, .ref o)] := hl
  obtain ⟨b00, b01, b02, b03, b1, b2, b3, b4, b5, b6, b7, b8, b9, b10, b11, b12⟩ := id hI
  refine lv_iload_n hx hb dX6_changeLimit_0 rfl (lv_at hl 1 rfl) ?_
  refine x_if_lt (tgt := 10) hx hb dX6_changeLimit_1 (by decide) (by omega) (fun c1 => ?_) (fun c1 => ?_)
  · refine lv_aload_n hx hb dX6_changeLimit_10 rfl (lv_at hl 2 rfl) ?_
    refine x_callv (ws' := parkC ck a S ++ (outC o (upO O 0 2))) (parkC ck a S) (M := outC o O) (M' := outC o (upO O 0 2)) ([]) (by rw [List.append_nil]) (by rw [List.append_nil]) hP hD hS hA (fun hPm hDm => va_runV (As := []) (rest := []) ⟨hx, hb, hml, hown, htg⟩ (c_out_missNumber l dg ck o O _ ) (cwV 0 htg (gwV wq_675 wq_615 wq_616 wq_6 wq_617) rfl rfl rfl (by decide +kernel) ⟨Nat.le_of_ble_eq_true rfl, Nat.le_of_ble_eq_true rfl⟩) (wr_preV hK hPm hDm 0 8 rfl rfl) rfl rfl hl.1 rfl (lv_room (Nat.le_of_ble_eq_true rfl)) dX6_changeLimit_11 ⟨Nat.zero_le _, Nat.zero_le _⟩) (fun H locs hP hD hS => ?_)
    refine lv_goto (tgt := 30) hx hb dX6_changeLimit_14 (by decide) ?_
    have hEq : parkC ck a (cmZ S v).2.2 ++ (outC o (outc O (cmZ S v).1 (cmZ S v).2.1)) = parkC ck a S ++ (outC o (upO O 0 2)) := (by first | (have hc : cmZ S v = (-2, 0, S) := (by unfold cmZ; repeat (first | rw [if_pos (by omega)] | rw [if_neg (by omega)])); rw [hc]; first | rfl | (show _ ++ outC o (outc O _ _) = _; rw [outc_r (by omega)])) | (exfalso; omega))
    exact W.vret hx hb hr (fun t9 ht9 hW9 => ⟨⟨(), rfl, trivial, by rw [ht9, hEq]; exact hP, by rw [hEq, hAe]; exact hD⟩, hS.F ht9⟩) hS.2.2 dX6_changeLimit_30
  · refine lv_iload_n hx hb dX6_changeLimit_4 rfl (lv_at hl 1 rfl) ?_
    refine x_bipush hx hb dX6_changeLimit_5 (by decide) ?_
    refine x_icmp_le (tgt := 17) hx hb dX6_changeLimit_7 (by decide) (by omega) (by omega) (fun c7 => ?_) (fun c7 => ?_)
    · refine lv_aload_n hx hb dX6_changeLimit_17 rfl (lv_at hl 2 rfl) ?_
      refine lv_aload_n hx hb dX6_changeLimit_18 rfl (lv_at hl 0 rfl) ?_
      refine va_get (D := dg) (ci := 9) (v := .int (zI (S 0 3))) (C := RX6) (T := TX6) (N := 10) hx hb htg inG_X6 hown hK hP 0 rfl rfl 9 (Nat.le_of_ble_eq_true rfl) (htg _ wq_78) (fun _ h9 => h9) rfl dX6_changeLimit_19 ?_
      refine x_callv (ws' := parkC ck a S ++ (outC o (upO (upO O 0 0) 1 (S 0 3)))) (parkC ck a S) (M := outC o O) (M' := outC o (upO (upO O 0 0) 1 (S 0 3))) ([]) (by rw [List.append_nil]) (by rw [List.append_nil]) hP hD hS hA (fun hPm hDm => va_runV (As := [.int (zI (S 0 3))]) (rest := []) ⟨hx, hb, hml, hown, htg⟩ (c_out_succeed l dg ck o O (S 0 3) _ ) (cwV 1 htg (gwV wq_684 wq_627 wq_628 wq_6 wq_629) rfl rfl rfl (by decide +kernel) ⟨Nat.le_of_ble_eq_true rfl, Nat.le_of_ble_eq_true rfl⟩) (wr_preV hK hPm hDm 0 8 rfl rfl) rfl rfl hl.1 rfl (lv_room (Nat.le_of_ble_eq_true rfl)) dX6_changeLimit_22 ⟨Nat.zero_le _, Nat.zero_le _⟩) (fun H locs hP hD hS => ?_)
      refine lv_aload_n hx hb dX6_changeLimit_25 rfl (lv_at hl 0 rfl) ?_
      refine lv_iload_n hx hb dX6_changeLimit_26 rfl (lv_at hl 1 rfl) ?_
      refine va_put (D := dg) (ci := 9) (v := .int (zI v)) (ty := .int) (C := RX6) (T := TX6) (N := 10) hx hb htg inG_X6 tyX6 tyX6_ok nmX6 hown hK hP hD hS 0 rfl rfl 9 (Nat.le_of_ble_eq_true rfl) (htg _ wq_78) (fun _ h9 => h9) rfl (by decide +kernel) rfl rfl (Nat.le_of_ble_eq_true rfl) dX6_changeLimit_27 (fun H locs hP hD hS => ?_)
      have hP : va_P dg vwCl (parkC ck a (upS S 0 3 v) ++ (outC o (upO (upO O 0 0) 1 (S 0 3)))) H := hP
      have hD : va_D A (parkC ck a (upS S 0 3 v) ++ (outC o (upO (upO O 0 0) 1 (S 0 3)))) := hD
      have hEq : parkC ck a (cmZ S v).2.2 ++ (outC o (outc O (cmZ S v).1 (cmZ S v).2.1)) = parkC ck a (upS S 0 3 v) ++ (outC o (upO (upO O 0 0) 1 (S 0 3))) := (by first | (have hc : cmZ S v = (0, (S 0 3), (upS S 0 3 v)) := (by unfold cmZ; repeat (first | rw [if_pos (by omega)] | rw [if_neg (by omega)])); rw [hc]; first | rfl | (show _ ++ outC o (outc O _ _) = _; rw [outc_r (by omega)])) | (exfalso; omega))
      exact W.vret hx hb hr (fun t9 ht9 hW9 => ⟨⟨(), rfl, trivial, by rw [ht9, hEq]; exact hP, by rw [hEq, hAe]; exact hD⟩, hS.F ht9⟩) hS.2.2 dX6_changeLimit_30
    · refine lv_aload_n hx hb dX6_changeLimit_10 rfl (lv_at hl 2 rfl) ?_
      refine x_callv (ws' := parkC ck a S ++ (outC o (upO O 0 2))) (parkC ck a S) (M := outC o O) (M' := outC o (upO O 0 2)) ([]) (by rw [List.append_nil]) (by rw [List.append_nil]) hP hD hS hA (fun hPm hDm => va_runV (As := []) (rest := []) ⟨hx, hb, hml, hown, htg⟩ (c_out_missNumber l dg ck o O _ ) (cwV 0 htg (gwV wq_675 wq_615 wq_616 wq_6 wq_617) rfl rfl rfl (by decide +kernel) ⟨Nat.le_of_ble_eq_true rfl, Nat.le_of_ble_eq_true rfl⟩) (wr_preV hK hPm hDm 0 8 rfl rfl) rfl rfl hl.1 rfl (lv_room (Nat.le_of_ble_eq_true rfl)) dX6_changeLimit_11 ⟨Nat.zero_le _, Nat.zero_le _⟩) (fun H locs hP hD hS => ?_)
      refine lv_goto (tgt := 30) hx hb dX6_changeLimit_14 (by decide) ?_
      have hEq : parkC ck a (cmZ S v).2.2 ++ (outC o (outc O (cmZ S v).1 (cmZ S v).2.1)) = parkC ck a S ++ (outC o (upO O 0 2)) := (by first | (have hc : cmZ S v = (-2, 0, S) := (by unfold cmZ; repeat (first | rw [if_pos (by omega)] | rw [if_neg (by omega)])); rw [hc]; first | rfl | (show _ ++ outC o (outc O _ _) = _; rw [outc_r (by omega)])) | (exfalso; omega))
      exact W.vret hx hb hr (fun t9 ht9 hW9 => ⟨⟨(), rfl, trivial, by rw [ht9, hEq]; exact hP, by rw [hEq, hAe]; exact hD⟩, hS.F ht9⟩) hS.2.2 dX6_changeLimit_30
