/-! the reference: what it answers -/
set_option maxHeartbeats 4000000 in
set_option maxRecDepth 100000 in
/-- BenchBrokerModel.in -/
theorem m_in (l : Launch) (dg : va_G) (ck : Nat → ClassId) (x y z : Int) (rg_x : -2147483648 ≤ x ∧ x < 2147483648) (rg_y : -2147483648 ≤ y ∧ y < 2147483648) (rg_z : -2147483648 ≤ z ∧ z < 2147483648) : Met l yX9_in (.code yX9_in cX9_in 3 (some .boolean) :: GW) ({ frames := 0, cells := 0, slots := 0, locals := 0 }) (va_Pc [.int (zI x), .int (zI y), .int (zI z)] (rdP dg ck ([]))) (vp_Si (fun r => r = zI (bI (y ≤ x ∧ x ≤ z)))) 0 0 (fun _ => False) := by
  refine Met.ofW (cc := cX9_in) (maxL := 3) (ret := (some .boolean)) (by decide) rfl ?_
  intro p e s m args below meth c s₁ B hml hv
  obtain ⟨rfl, hP, hK⟩ := hv
  have hx := B.exec
  have hb := B.bytes
  have hr := B.returns
  have hts := atoms_spec (ws := .code yX9_in cX9_in 3 (some .boolean) :: GW) B.pre
  have htg : ∀ w ∈ GW, w.before _ s = true := fun w h => hts w (List.mem_cons_of_mem _ h)
  have hown : s.vm.findClass RX9 = some m.cls := findClass_of_methodNamed B.named
  have hlocks := B.notSynchronized
  have hl := lv_entry ([.int (zI x), .int (zI y), .int (zI z)]) (n := 3) (Nat.le_of_ble_eq_true rfl)
  rw [lg_entry_eq]
  generalize (lg_sl ([.int (zI x), .int (zI y), .int (zI z)]) ++ List.replicate (3 - (lg_sl ([.int (zI x), .int (zI y), .int (zI z)])).length) Slot.unset).toArray = ls at hl ⊢
  have hl : lv_has ls 3 [(0, .int (zI x)), (1, .int (zI y)), (2, .int (zI z))] := hl
  refine lv_iload_n hx hb dX9_in_0 rfl (lv_at hl 0 rfl) ?_
  refine lv_iload_n hx hb dX9_in_1 rfl (lv_at hl 1 rfl) ?_
  refine x_icmp_lt (tgt := 14) hx hb dX9_in_2 (by decide) (by omega) (by omega) (fun c2 => ?_) (fun c2 => ?_)
  · refine x_iconst hx hb dX9_in_14 ?_
    exact W.zret (v := _) hx hb hr (by first | rfl | rfl) (fun t9 ht9 hW9 => ⟨_, rfl, (congrArg zI (by first | exact (bI_t (by omega)).symm | exact (bI_f (by omega)).symm)), ht9⟩) (fun _ h => by cases h) dX9_in_15
  · refine lv_iload_n hx hb dX9_in_5 rfl (lv_at hl 0 rfl) ?_
    refine lv_iload_n hx hb dX9_in_6 rfl (lv_at hl 2 rfl) ?_
    refine x_icmp_gt (tgt := 14) hx hb dX9_in_7 (by decide) (by omega) (by omega) (fun c7 => ?_) (fun c7 => ?_)
    · refine x_iconst hx hb dX9_in_14 ?_
      exact W.zret (v := _) hx hb hr (by first | rfl | rfl) (fun t9 ht9 hW9 => ⟨_, rfl, (congrArg zI (by first | exact (bI_t (by omega)).symm | exact (bI_f (by omega)).symm)), ht9⟩) (fun _ h => by cases h) dX9_in_15
    · refine x_iconst hx hb dX9_in_10 ?_
      refine lv_goto (tgt := 15) hx hb dX9_in_11 (by decide) ?_
      exact W.zret (v := _) hx hb hr (by first | rfl | rfl) (fun t9 ht9 hW9 => ⟨_, rfl, (congrArg zI (by first | exact (bI_t (by omega)).symm | exact (bI_f (by omega)).symm)), ht9⟩) (fun _ h => by cases h) dX9_in_15

set_option maxHeartbeats 4000000 in
set_option maxRecDepth 100000 in
/-- BenchBrokerModel.isCell -/
theorem m_isCell (l : Launch) (dg : va_G) (ck : Nat → ClassId) (x y : Int) (rg_x : -2147483648 ≤ x ∧ x < 2147483648) (rg_y : -2147483648 ≤ y ∧ y < 2147483648) : Met l yX9_isCell (.code yX9_isCell cX9_isCell 2 (some .boolean) :: GW) ({ frames := 1, cells := 0, slots := 0, locals := 22 }) (va_Pc [.int (zI x), .int (zI y)] (rdP dg ck ([]))) (vp_Si (fun r => r = zI (bI (isCell x y)))) 0 0 (fun _ => False) := by
  refine Met.ofW (cc := cX9_isCell) (maxL := 2) (ret := (some .boolean)) (by decide) rfl ?_
  intro p e s m args below meth c s₁ B hml hv
  obtain ⟨rfl, hP, hK⟩ := hv
  have hx := B.exec
  have hb := B.bytes
  have hr := B.returns
  have hts := atoms_spec (ws := .code yX9_isCell cX9_isCell 2 (some .boolean) :: GW) B.pre
  have htg : ∀ w ∈ GW, w.before _ s = true := fun w h => hts w (List.mem_cons_of_mem _ h)
  have hown : s.vm.findClass RX9 = some m.cls := findClass_of_methodNamed B.named
  have hlocks := B.notSynchronized
  have hl := lv_entry ([.int (zI x), .int (zI y)]) (n := 2) (Nat.le_of_ble_eq_true rfl)
  rw [lg_entry_eq]
  generalize (lg_sl ([.int (zI x), .int (zI y)]) ++ List.replicate (2 - (lg_sl ([.int (zI x), .int (zI y)])).length) Slot.unset).toArray = ls at hl ⊢
  have hl : lv_has ls 2 [(0, .int (zI x)), (1, .int (zI y))] := hl
  refine lv_iload_n hx hb dX9_isCell_0 rfl (lv_at hl 0 rfl) ?_
  refine x_iconst hx hb dX9_isCell_1 ?_
  refine x_iconst hx hb dX9_isCell_2 ?_
  refine vp_callSi (W.runS (As := [.int (zI x), .int (zI 0), .int (zI 5)]) (rest := []) ⟨hx, hb, hml, hown, htg⟩ (m_in l dg ck x 0 5 (by omega) (by omega) (by omega)) (cwS 3 htg (gwS wq_1646 wq_1647 wq_15 wq_1648) rfl rfl rfl (by decide +kernel) ⟨Nat.le_of_ble_eq_true rfl, Nat.le_of_ble_eq_true rfl⟩) (rd_preS hK va_P_nil) rfl rfl hl.1 rfl (lv_room (Nat.le_of_ble_eq_true rfl)) dX9_isCell_3 ⟨Nat.zero_le _, Nat.zero_le _⟩) (fun r3 hr3 => ?_)
  subst hr3
  refine x_bz_eq (tgt := 22) hx hb dX9_isCell_6 (by decide) (fun c6 => ?_) (fun c6 => ?_)
  · refine x_iconst hx hb dX9_isCell_22 ?_
    exact W.zret (v := _) hx hb hr (by first | rfl | rfl) (fun t9 ht9 hW9 => ⟨_, rfl, (congrArg zI (by first | exact (bI_t (by omega)).symm | exact (bI_f (by omega)).symm)), ht9⟩) (fun _ h => by cases h) dX9_isCell_23
  · refine lv_iload_n hx hb dX9_isCell_9 rfl (lv_at hl 1 rfl) ?_
    refine x_iconst hx hb dX9_isCell_10 ?_
    refine x_iconst hx hb dX9_isCell_11 ?_
    refine vp_callSi (W.runS (As := [.int (zI y), .int (zI 0), .int (zI 5)]) (rest := []) ⟨hx, hb, hml, hown, htg⟩ (m_in l dg ck y 0 5 (by omega) (by omega) (by omega)) (cwS 3 htg (gwS wq_1646 wq_1647 wq_15 wq_1648) rfl rfl rfl (by decide +kernel) ⟨Nat.le_of_ble_eq_true rfl, Nat.le_of_ble_eq_true rfl⟩) (rd_preS hK va_P_nil) rfl rfl hl.1 rfl (lv_room (Nat.le_of_ble_eq_true rfl)) dX9_isCell_12 ⟨Nat.zero_le _, Nat.zero_le _⟩) (fun r12 hr12 => ?_)
    subst hr12
    refine x_bz_eq (tgt := 22) hx hb dX9_isCell_15 (by decide) (fun c15 => ?_) (fun c15 => ?_)
    · refine x_iconst hx hb dX9_isCell_22 ?_
      exact W.zret (v := _) hx hb hr (by first | rfl | rfl) (fun t9 ht9 hW9 => ⟨_, rfl, (congrArg zI (by first | exact (bI_t (by omega)).symm | exact (bI_f (by omega)).symm)), ht9⟩) (fun _ h => by cases h) dX9_isCell_23
    · refine x_iconst hx hb dX9_isCell_18 ?_
      refine lv_goto (tgt := 23) hx hb dX9_isCell_19 (by decide) ?_
      exact W.zret (v := _) hx hb hr (by first | rfl | rfl) (fun t9 ht9 hW9 => ⟨_, rfl, (congrArg zI (by first | exact (bI_t (by omega)).symm | exact (bI_f (by omega)).symm)), ht9⟩) (fun _ h => by cases h) dX9_isCell_23

set_option maxHeartbeats 4000000 in
set_option maxRecDepth 100000 in
/-- BenchBrokerModel.size -/
theorem m_size (l : Launch) (dg : va_G) (ck : Nat → ClassId) (x : Int) (rg_x : -2147483648 < x ∧ x < 2147483648) : Met l yX9_size (.code yX9_size cX9_size 1 (some .int) :: GW) ({ frames := 0, cells := 0, slots := 0, locals := 0 }) (va_Pc [.int (zI x)] (rdP dg ck ([]))) (vp_Si (fun r => ∃ y : Int, r = zI y ∧ (0 ≤ x ∧ y = x ∨ x < 0 ∧ y = -x))) 0 0 (fun _ => False) := by
  refine Met.ofW (cc := cX9_size) (maxL := 1) (ret := (some .int)) (by decide) rfl ?_
  intro p e s m args below meth c s₁ B hml hv
  obtain ⟨rfl, hP, hK⟩ := hv
  have hx := B.exec
  have hb := B.bytes
  have hr := B.returns
  have hts := atoms_spec (ws := .code yX9_size cX9_size 1 (some .int) :: GW) B.pre
  have htg : ∀ w ∈ GW, w.before _ s = true := fun w h => hts w (List.mem_cons_of_mem _ h)
  have hown : s.vm.findClass RX9 = some m.cls := findClass_of_methodNamed B.named
  have hlocks := B.notSynchronized
  have hl := lv_entry ([.int (zI x)]) (n := 1) (Nat.le_of_ble_eq_true rfl)
  rw [lg_entry_eq]
  generalize (lg_sl ([.int (zI x)]) ++ List.replicate (1 - (lg_sl ([.int (zI x)])).length) Slot.unset).toArray = ls at hl ⊢
  have hl : lv_has ls 1 [(0, .int (zI x))] := hl
  refine lv_iload_n hx hb dX9_size_0 rfl (lv_at hl 0 rfl) ?_
  refine x_if_ge (tgt := 9) hx hb dX9_size_1 (by decide) (by omega) (fun c1 => ?_) (fun c1 => ?_)
  · refine lv_iload_n hx hb dX9_size_9 rfl (lv_at hl 0 rfl) ?_
    exact W.iret (v := _) hx hb hr (fun t9 ht9 hW9 => ⟨_, rfl, ⟨_, rfl, by omega⟩, ht9⟩) (fun _ h => by cases h) dX9_size_10
  · refine lv_iload_n hx hb dX9_size_4 rfl (lv_at hl 0 rfl) ?_
    refine x_ineg hx hb dX9_size_5 ?_
    refine lv_goto (tgt := 10) hx hb dX9_size_6 (by decide) ?_
    exact W.iret (v := _) hx hb hr (fun t9 ht9 hW9 => ⟨_, rfl, ⟨_, rfl, by omega⟩, ht9⟩) (fun _ h => by cases h) dX9_size_10

set_option maxHeartbeats 4000000 in
set_option maxRecDepth 100000 in
/-- BenchBrokerModel.bench -/
theorem m_bench (l : Launch) (dg : va_G) (ck : Nat → ClassId) (mo : Nat → Nat) (M : St) (b w : Int) (hb0 : 0 ≤ b ∧ b < 10) (hw0 : 0 ≤ w ∧ w < 6) : Met l yX9_bench (.code yX9_bench cX9_bench 3 (some .int) :: GW) ({ frames := 0, cells := 0, slots := 0, locals := 0 }) (va_Pc [.ref (mo 0), .int (zI b), .int (zI w)] (rdP dg ck (modelC ck mo M))) (vp_Si (fun r => r = zI (dec M (1 + w.toNat) b))) 0 0 (fun _ => False) := by
  refine Met.ofW (cc := cX9_bench) (maxL := 3) (ret := (some .int)) (by decide) rfl ?_
  intro p e s m args below meth c s₁ B hml hv
  obtain ⟨rfl, hP, hK⟩ := hv
  have hx := B.exec
  have hb := B.bytes
  have hr := B.returns
  have hts := atoms_spec (ws := .code yX9_bench cX9_bench 3 (some .int) :: GW) B.pre
  have htg : ∀ w ∈ GW, w.before _ s = true := fun w h => hts w (List.mem_cons_of_mem _ h)
  have hown : s.vm.findClass RX9 = some m.cls := findClass_of_methodNamed B.named
  have hlocks := B.notSynchronized
  have hl := lv_entry ([.ref (mo 0), .int (zI b), .int (zI w)]) (n := 3) (Nat.le_of_ble_eq_true rfl)
  rw [lg_entry_eq]
  generalize (lg_sl ([.ref (mo 0), .int (zI b), .int (zI w)]) ++ List.replicate (3 - (lg_sl ([.ref (mo 0), .int (zI b), .int (zI w)])).length) Slot.unset).toArray = ls at hl ⊢
  have hl : lv_has ls 3 [(0, .ref (mo 0)), (1, .int (zI b)), (2, .int (zI w))] := hl
  have d00 := dec_0 (M := M) (i := 0) (by decide)
  have d01 := dec_0 (M := M) (i := 1) (by decide)
  have d02 := dec_0 (M := M) (i := 2) (by decide)
  have d03 := dec_0 (M := M) (i := 3) (by decide)
  refine lv_aload_n hx hb dX9_bench_0 rfl (lv_at hl 0 rfl) ?_
  refine va_get (D := dg) (ci := 11) (v := .ref (mo 1)) (C := RX9) (T := TX9) (N := 23) hx hb htg inG_X9 hown hK hP 0 rfl rfl 1 (Nat.le_of_ble_eq_true rfl) (htg _ wq_1558) (fun _ h9 => h9) rfl dX9_bench_1 ?_
  refine x_bipush hx hb dX9_bench_4 (by decide) ?_
  refine x_bipush hx hb dX9_bench_6 (by decide) ?_
  refine lv_iload_n hx hb dX9_bench_8 rfl (lv_at hl 1 rfl) ?_
  refine x_imul hx hb dX9_bench_9 ?_
  refine x_iadd hx hb dX9_bench_10 ?_
  refine lv_iload_n hx hb dX9_bench_11 rfl (lv_at hl 2 rfl) ?_
  refine x_iadd hx hb dX9_bench_12 ?_
  refine x_iald hx hb hK hP 1 0 (M 0) rfl rfl (fun _ => rfl) (P := fun y => True) (fun _ => trivial) (by decide) (by omega) dX9_bench_13 (fun g13 => ?_)
  exact W.iret (v := _) hx hb hr (fun t9 ht9 hW9 => ⟨_, rfl, (congrArg zI (by rw [dec_B _ hb0 (by omega)]; congr 1; omega)), ht9⟩) (fun _ h => by cases h) dX9_bench_14

set_option maxHeartbeats 4000000 in
set_option maxRecDepth 100000 in
/-- BenchBrokerModel.fountain -/
theorem m_fountain (l : Launch) (dg : va_G) (ck : Nat → ClassId) (mo : Nat → Nat) (M : St) (b w : Int) (hb0 : 0 ≤ b ∧ b < 4) (hw0 : 0 ≤ w ∧ w < 4) : Met l yX9_fountain (.code yX9_fountain cX9_fountain 3 (some .int) :: GW) ({ frames := 0, cells := 0, slots := 0, locals := 0 }) (va_Pc [.ref (mo 0), .int (zI b), .int (zI w)] (rdP dg ck (modelC ck mo M))) (vp_Si (fun r => r = zI (dec M (7 + w.toNat) b))) 0 0 (fun _ => False) := by
  refine Met.ofW (cc := cX9_fountain) (maxL := 3) (ret := (some .int)) (by decide) rfl ?_
  intro p e s m args below meth c s₁ B hml hv
  obtain ⟨rfl, hP, hK⟩ := hv
  have hx := B.exec
  have hb := B.bytes
  have hr := B.returns
  have hts := atoms_spec (ws := .code yX9_fountain cX9_fountain 3 (some .int) :: GW) B.pre
  have htg : ∀ w ∈ GW, w.before _ s = true := fun w h => hts w (List.mem_cons_of_mem _ h)
  have hown : s.vm.findClass RX9 = some m.cls := findClass_of_methodNamed B.named
  have hlocks := B.notSynchronized
  have hl := lv_entry ([.ref (mo 0), .int (zI b), .int (zI w)]) (n := 3) (Nat.le_of_ble_eq_true rfl)
  rw [lg_entry_eq]
  generalize (lg_sl ([.ref (mo 0), .int (zI b), .int (zI w)]) ++ List.replicate (3 - (lg_sl ([.ref (mo 0), .int (zI b), .int (zI w)])).length) Slot.unset).toArray = ls at hl ⊢
  have hl : lv_has ls 3 [(0, .ref (mo 0)), (1, .int (zI b)), (2, .int (zI w))] := hl
  have d00 := dec_0 (M := M) (i := 0) (by decide)
  have d01 := dec_0 (M := M) (i := 1) (by decide)
  have d02 := dec_0 (M := M) (i := 2) (by decide)
  have d03 := dec_0 (M := M) (i := 3) (by decide)
  refine lv_aload_n hx hb dX9_fountain_0 rfl (lv_at hl 0 rfl) ?_
  refine va_get (D := dg) (ci := 11) (v := .ref (mo 1)) (C := RX9) (T := TX9) (N := 23) hx hb htg inG_X9 hown hK hP 0 rfl rfl 1 (Nat.le_of_ble_eq_true rfl) (htg _ wq_1558) (fun _ h9 => h9) rfl dX9_fountain_1 ?_
  refine x_bipush hx hb dX9_fountain_4 (by decide) ?_
  refine x_iconst hx hb dX9_fountain_6 ?_
  refine lv_iload_n hx hb dX9_fountain_7 rfl (lv_at hl 1 rfl) ?_
  refine x_imul hx hb dX9_fountain_8 ?_
  refine x_iadd hx hb dX9_fountain_9 ?_
  refine lv_iload_n hx hb dX9_fountain_10 rfl (lv_at hl 2 rfl) ?_
  refine x_iadd hx hb dX9_fountain_11 ?_
  refine x_iald hx hb hK hP 1 0 (M 0) rfl rfl (fun _ => rfl) (P := fun y => True) (fun _ => trivial) (by decide) (by omega) dX9_fountain_12 (fun g12 => ?_)
  exact W.iret (v := _) hx hb hr (fun t9 ht9 hW9 => ⟨_, rfl, (congrArg zI (by rw [dec_F _ hb0 (by omega)]; congr 1; omega)), ht9⟩) (fun _ h => by cases h) dX9_fountain_13

set_option maxHeartbeats 4000000 in
set_option maxRecDepth 100000 in
/-- BenchBrokerModel.tenant -/
theorem m_tenant (l : Launch) (dg : va_G) (ck : Nat → ClassId) (mo : Nat → Nat) (M : St) (b w : Int) (hb0 : 0 ≤ b ∧ b < 8) (hw0 : 0 ≤ w ∧ w < 2) : Met l yX9_tenant (.code yX9_tenant cX9_tenant 3 (some .int) :: GW) ({ frames := 0, cells := 0, slots := 0, locals := 0 }) (va_Pc [.ref (mo 0), .int (zI b), .int (zI w)] (rdP dg ck (modelC ck mo M))) (vp_Si (fun r => r = zI (dec M (11 + w.toNat) b))) 0 0 (fun _ => False) := by
  refine Met.ofW (cc := cX9_tenant) (maxL := 3) (ret := (some .int)) (by decide) rfl ?_
  intro p e s m args below meth c s₁ B hml hv
  obtain ⟨rfl, hP, hK⟩ := hv
  have hx := B.exec
  have hb := B.bytes
  have hr := B.returns
  have hts := atoms_spec (ws := .code yX9_tenant cX9_tenant 3 (some .int) :: GW) B.pre
  have htg : ∀ w ∈ GW, w.before _ s = true := fun w h => hts w (List.mem_cons_of_mem _ h)
  have hown : s.vm.findClass RX9 = some m.cls := findClass_of_methodNamed B.named
  have hlocks := B.notSynchronized
  have hl := lv_entry ([.ref (mo 0), .int (zI b), .int (zI w)]) (n := 3) (Nat.le_of_ble_eq_true rfl)
  rw [lg_entry_eq]
  generalize (lg_sl ([.ref (mo 0), .int (zI b), .int (zI w)]) ++ List.replicate (3 - (lg_sl ([.ref (mo 0), .int (zI b), .int (zI w)])).length) Slot.unset).toArray = ls at hl ⊢
  have hl : lv_has ls 3 [(0, .ref (mo 0)), (1, .int (zI b)), (2, .int (zI w))] := hl
  have d00 := dec_0 (M := M) (i := 0) (by decide)
  have d01 := dec_0 (M := M) (i := 1) (by decide)
  have d02 := dec_0 (M := M) (i := 2) (by decide)
  have d03 := dec_0 (M := M) (i := 3) (by decide)
  refine lv_aload_n hx hb dX9_tenant_0 rfl (lv_at hl 0 rfl) ?_
  refine va_get (D := dg) (ci := 11) (v := .ref (mo 1)) (C := RX9) (T := TX9) (N := 23) hx hb htg inG_X9 hown hK hP 0 rfl rfl 1 (Nat.le_of_ble_eq_true rfl) (htg _ wq_1558) (fun _ h9 => h9) rfl dX9_tenant_1 ?_
  refine x_bipush hx hb dX9_tenant_4 (by decide) ?_
  refine x_iconst hx hb dX9_tenant_6 ?_
  refine lv_iload_n hx hb dX9_tenant_7 rfl (lv_at hl 1 rfl) ?_
  refine x_imul hx hb dX9_tenant_8 ?_
  refine x_iadd hx hb dX9_tenant_9 ?_
  refine lv_iload_n hx hb dX9_tenant_10 rfl (lv_at hl 2 rfl) ?_
  refine x_iadd hx hb dX9_tenant_11 ?_
  refine x_iald hx hb hK hP 1 0 (M 0) rfl rfl (fun _ => rfl) (P := fun y => True) (fun _ => trivial) (by decide) (by omega) dX9_tenant_12 (fun g12 => ?_)
  exact W.iret (v := _) hx hb hr (fun t9 ht9 hW9 => ⟨_, rfl, (congrArg zI (by rw [dec_T _ hb0 (by omega)]; congr 1; omega)), ht9⟩) (fun _ h => by cases h) dX9_tenant_13

set_option maxHeartbeats 4000000 in
set_option maxRecDepth 100000 in
/-- BenchBrokerModel.isBench -/
theorem m_isBench (l : Launch) (dg : va_G) (ck : Nat → ClassId) (mo : Nat → Nat) (M : St) (x : Int) (hI : Bd (dec M)) (rg_x : -2147483648 ≤ x ∧ x < 2147483648) : Met l yX9_isBench (.code yX9_isBench cX9_isBench 2 (some .boolean) :: GW) ({ frames := 1, cells := 0, slots := 0, locals := 22 }) (va_Pc [.ref (mo 0), .int (zI x)] (rdP dg ck (modelC ck mo M))) (vp_Si (fun r => r = zI (bI (isBench (dec M) x)))) 0 0 (fun _ => False) := by
  refine Met.ofW (cc := cX9_isBench) (maxL := 2) (ret := (some .boolean)) (by decide) rfl ?_
  intro p e s m args below meth c s₁ B hml hv
  obtain ⟨rfl, hP, hK⟩ := hv
  have hx := B.exec
  have hb := B.bytes
  have hr := B.returns
  have hts := atoms_spec (ws := .code yX9_isBench cX9_isBench 2 (some .boolean) :: GW) B.pre
  have htg : ∀ w ∈ GW, w.before _ s = true := fun w h => hts w (List.mem_cons_of_mem _ h)
  have hown : s.vm.findClass RX9 = some m.cls := findClass_of_methodNamed B.named
  have hlocks := B.notSynchronized
  have hl := lv_entry ([.ref (mo 0), .int (zI x)]) (n := 2) (Nat.le_of_ble_eq_true rfl)
  rw [lg_entry_eq]
  generalize (lg_sl ([.ref (mo 0), .int (zI x)]) ++ List.replicate (2 - (lg_sl ([.ref (mo 0), .int (zI x)])).length) Slot.unset).toArray = ls at hl ⊢
  have hl : lv_has ls 2 [(0, .ref (mo 0)), (1, .int (zI x))] := hl
  have d00 := dec_0 (M := M) (i := 0) (by decide)
  have d01 := dec_0 (M := M) (i := 1) (by decide)
  have d02 := dec_0 (M := M) (i := 2) (by decide)
  have d03 := dec_0 (M := M) (i := 3) (by decide)
  obtain ⟨b00, b01, b02, b03, b1, b2, b3, b4, b5, b6, b7, b8, b9, b10, b11, b12⟩ := id hI
  refine lv_iload_n hx hb dX9_isBench_0 rfl (lv_at hl 1 rfl) ?_
  refine x_iconst hx hb dX9_isBench_1 ?_
  refine lv_aload_n hx hb dX9_isBench_2 rfl (lv_at hl 0 rfl) ?_
  refine va_get (D := dg) (ci := 11) (v := .ref (mo 1)) (C := RX9) (T := TX9) (N := 23) hx hb htg inG_X9 hown hK hP 0 rfl rfl 1 (Nat.le_of_ble_eq_true rfl) (htg _ wq_1558) (fun _ h9 => h9) rfl dX9_isBench_3 ?_
  refine x_iconst hx hb dX9_isBench_6 ?_
  refine x_iald hx hb hK hP 1 0 (M 0) rfl rfl (fun _ => rfl) (P := fun y => True) (fun _ => trivial) (by decide) (by omega) dX9_isBench_7 (fun g7 => ?_)
  refine x_iconst hx hb dX9_isBench_8 ?_
  refine x_isub hx hb dX9_isBench_9 ?_
  refine vp_callSi (W.runS (As := [.int (zI x), .int (zI 0), .int (zI ((M 0 0) - 1))]) (rest := []) ⟨hx, hb, hml, hown, htg⟩ (m_in l dg ck x 0 ((M 0 0) - 1) (by omega) (by omega) (by omega)) (cwS 3 htg (gwS wq_1646 wq_1647 wq_15 wq_1648) rfl rfl rfl (by decide +kernel) ⟨Nat.le_of_ble_eq_true rfl, Nat.le_of_ble_eq_true rfl⟩) (rd_preS hK va_P_nil) rfl rfl hl.1 rfl (lv_room (Nat.le_of_ble_eq_true rfl)) dX9_isBench_10 ⟨Nat.zero_le _, Nat.zero_le _⟩) (fun r10 hr10 => ?_)
  subst hr10
  exact W.zret (v := _) hx hb hr (by first | rfl | exact nar_b _) (fun t9 ht9 hW9 => ⟨_, rfl, (congrArg zI (bI_c (by omega))), ht9⟩) (fun _ h => by cases h) dX9_isBench_13

set_option maxHeartbeats 4000000 in
set_option maxRecDepth 100000 in
/-- BenchBrokerModel.isFountain -/
theorem m_isFountain (l : Launch) (dg : va_G) (ck : Nat → ClassId) (mo : Nat → Nat) (M : St) (x : Int) (hI : Bd (dec M)) (rg_x : -2147483648 ≤ x ∧ x < 2147483648) : Met l yX9_isFountain (.code yX9_isFountain cX9_isFountain 2 (some .boolean) :: GW) ({ frames := 1, cells := 0, slots := 0, locals := 22 }) (va_Pc [.ref (mo 0), .int (zI x)] (rdP dg ck (modelC ck mo M))) (vp_Si (fun r => r = zI (bI (isFount (dec M) x)))) 0 0 (fun _ => False) := by
  refine Met.ofW (cc := cX9_isFountain) (maxL := 2) (ret := (some .boolean)) (by decide) rfl ?_
  intro p e s m args below meth c s₁ B hml hv
  obtain ⟨rfl, hP, hK⟩ := hv
  have hx := B.exec
  have hb := B.bytes
  have hr := B.returns
  have hts := atoms_spec (ws := .code yX9_isFountain cX9_isFountain 2 (some .boolean) :: GW) B.pre
  have htg : ∀ w ∈ GW, w.before _ s = true := fun w h => hts w (List.mem_cons_of_mem _ h)
  have hown : s.vm.findClass RX9 = some m.cls := findClass_of_methodNamed B.named
  have hlocks := B.notSynchronized
  have hl := lv_entry ([.ref (mo 0), .int (zI x)]) (n := 2) (Nat.le_of_ble_eq_true rfl)
  rw [lg_entry_eq]
  generalize (lg_sl ([.ref (mo 0), .int (zI x)]) ++ List.replicate (2 - (lg_sl ([.ref (mo 0), .int (zI x)])).length) Slot.unset).toArray = ls at hl ⊢
  have hl : lv_has ls 2 [(0, .ref (mo 0)), (1, .int (zI x))] := hl
  have d00 := dec_0 (M := M) (i := 0) (by decide)
  have d01 := dec_0 (M := M) (i := 1) (by decide)
  have d02 := dec_0 (M := M) (i := 2) (by decide)
  have d03 := dec_0 (M := M) (i := 3) (by decide)
  obtain ⟨b00, b01, b02, b03, b1, b2, b3, b4, b5, b6, b7, b8, b9, b10, b11, b12⟩ := id hI
  refine lv_iload_n hx hb dX9_isFountain_0 rfl (lv_at hl 1 rfl) ?_
  refine x_iconst hx hb dX9_isFountain_1 ?_
  refine lv_aload_n hx hb dX9_isFountain_2 rfl (lv_at hl 0 rfl) ?_
  refine va_get (D := dg) (ci := 11) (v := .ref (mo 1)) (C := RX9) (T := TX9) (N := 23) hx hb htg inG_X9 hown hK hP 0 rfl rfl 1 (Nat.le_of_ble_eq_true rfl) (htg _ wq_1558) (fun _ h9 => h9) rfl dX9_isFountain_3 ?_
  refine x_iconst hx hb dX9_isFountain_6 ?_
  refine x_iald hx hb hK hP 1 0 (M 0) rfl rfl (fun _ => rfl) (P := fun y => True) (fun _ => trivial) (by decide) (by omega) dX9_isFountain_7 (fun g7 => ?_)
  refine x_iconst hx hb dX9_isFountain_8 ?_
  refine x_isub hx hb dX9_isFountain_9 ?_
  refine vp_callSi (W.runS (As := [.int (zI x), .int (zI 0), .int (zI ((M 0 1) - 1))]) (rest := []) ⟨hx, hb, hml, hown, htg⟩ (m_in l dg ck x 0 ((M 0 1) - 1) (by omega) (by omega) (by omega)) (cwS 3 htg (gwS wq_1646 wq_1647 wq_15 wq_1648) rfl rfl rfl (by decide +kernel) ⟨Nat.le_of_ble_eq_true rfl, Nat.le_of_ble_eq_true rfl⟩) (rd_preS hK va_P_nil) rfl rfl hl.1 rfl (lv_room (Nat.le_of_ble_eq_true rfl)) dX9_isFountain_10 ⟨Nat.zero_le _, Nat.zero_le _⟩) (fun r10 hr10 => ?_)
  subst hr10
  exact W.zret (v := _) hx hb hr (by first | rfl | exact nar_b _) (fun t9 ht9 hW9 => ⟨_, rfl, (congrArg zI (bI_c (by omega))), ht9⟩) (fun _ h => by cases h) dX9_isFountain_13

set_option maxHeartbeats 4000000 in
set_option maxRecDepth 100000 in
/-- BenchBrokerModel.isTenant -/
theorem m_isTenant (l : Launch) (dg : va_G) (ck : Nat → ClassId) (mo : Nat → Nat) (M : St) (x : Int) (hI : Bd (dec M)) (rg_x : -2147483648 ≤ x ∧ x < 2147483648) : Met l yX9_isTenant (.code yX9_isTenant cX9_isTenant 2 (some .boolean) :: GW) ({ frames := 1, cells := 0, slots := 0, locals := 22 }) (va_Pc [.ref (mo 0), .int (zI x)] (rdP dg ck (modelC ck mo M))) (vp_Si (fun r => r = zI (bI (isTen (dec M) x)))) 0 0 (fun _ => False) := by
  refine Met.ofW (cc := cX9_isTenant) (maxL := 2) (ret := (some .boolean)) (by decide) rfl ?_
  intro p e s m args below meth c s₁ B hml hv
  obtain ⟨rfl, hP, hK⟩ := hv
  have hx := B.exec
  have hb := B.bytes
  have hr := B.returns
  have hts := atoms_spec (ws := .code yX9_isTenant cX9_isTenant 2 (some .boolean) :: GW) B.pre
  have htg : ∀ w ∈ GW, w.before _ s = true := fun w h => hts w (List.mem_cons_of_mem _ h)
  have hown : s.vm.findClass RX9 = some m.cls := findClass_of_methodNamed B.named
  have hlocks := B.notSynchronized
  have hl := lv_entry ([.ref (mo 0), .int (zI x)]) (n := 2) (Nat.le_of_ble_eq_true rfl)
  rw [lg_entry_eq]
  generalize (lg_sl ([.ref (mo 0), .int (zI x)]) ++ List.replicate (2 - (lg_sl ([.ref (mo 0), .int (zI x)])).length) Slot.unset).toArray = ls at hl ⊢
  have hl : lv_has ls 2 [(0, .ref (mo 0)), (1, .int (zI x))] := hl
  have d00 := dec_0 (M := M) (i := 0) (by decide)
  have d01 := dec_0 (M := M) (i := 1) (by decide)
  have d02 := dec_0 (M := M) (i := 2) (by decide)
  have d03 := dec_0 (M := M) (i := 3) (by decide)
  obtain ⟨b00, b01, b02, b03, b1, b2, b3, b4, b5, b6, b7, b8, b9, b10, b11, b12⟩ := id hI
  refine lv_iload_n hx hb dX9_isTenant_0 rfl (lv_at hl 1 rfl) ?_
  refine x_iconst hx hb dX9_isTenant_1 ?_
  refine lv_aload_n hx hb dX9_isTenant_2 rfl (lv_at hl 0 rfl) ?_
  refine va_get (D := dg) (ci := 11) (v := .ref (mo 1)) (C := RX9) (T := TX9) (N := 23) hx hb htg inG_X9 hown hK hP 0 rfl rfl 1 (Nat.le_of_ble_eq_true rfl) (htg _ wq_1558) (fun _ h9 => h9) rfl dX9_isTenant_3 ?_
  refine x_iconst hx hb dX9_isTenant_6 ?_
  refine x_iald hx hb hK hP 1 0 (M 0) rfl rfl (fun _ => rfl) (P := fun y => True) (fun _ => trivial) (by decide) (by omega) dX9_isTenant_7 (fun g7 => ?_)
  refine x_iconst hx hb dX9_isTenant_8 ?_
  refine x_isub hx hb dX9_isTenant_9 ?_
  refine vp_callSi (W.runS (As := [.int (zI x), .int (zI 0), .int (zI ((M 0 2) - 1))]) (rest := []) ⟨hx, hb, hml, hown, htg⟩ (m_in l dg ck x 0 ((M 0 2) - 1) (by omega) (by omega) (by omega)) (cwS 3 htg (gwS wq_1646 wq_1647 wq_15 wq_1648) rfl rfl rfl (by decide +kernel) ⟨Nat.le_of_ble_eq_true rfl, Nat.le_of_ble_eq_true rfl⟩) (rd_preS hK va_P_nil) rfl rfl hl.1 rfl (lv_room (Nat.le_of_ble_eq_true rfl)) dX9_isTenant_10 ⟨Nat.zero_le _, Nat.zero_le _⟩) (fun r10 hr10 => ?_)
  subst hr10
  exact W.zret (v := _) hx hb hr (by first | rfl | exact nar_b _) (fun t9 ht9 hW9 => ⟨_, rfl, (congrArg zI (bI_c (by omega))), ht9⟩) (fun _ h => by cases h) dX9_isTenant_13

set_option maxHeartbeats 4000000 in
set_option maxRecDepth 100000 in
/-- BenchBrokerModel.by -/
theorem m_by (l : Launch) (dg : va_G) (ck : Nat → ClassId) (mo : Nat → Nat) (M : St) (b : Int) (hI : Bd (dec M)) (hb0 : 0 ≤ b ∧ b < 10) : Met l yX9_by (.code yX9_by cX9_by 2 (some .int) :: GW) ({ frames := 1, cells := 0, slots := 0, locals := 22 }) (va_Pc [.ref (mo 0), .int (zI b)] (rdP dg ck (modelC ck mo M))) (vp_Si (fun r => r = zI (dec M 4 b - 1))) 0 0 (fun _ => False) := by
  refine Met.ofW (cc := cX9_by) (maxL := 2) (ret := (some .int)) (by decide) rfl ?_
  intro p e s m args below meth c s₁ B hml hv
  obtain ⟨rfl, hP, hK⟩ := hv
  have hx := B.exec
  have hb := B.bytes
  have hr := B.returns
  have hts := atoms_spec (ws := .code yX9_by cX9_by 2 (some .int) :: GW) B.pre
  have htg : ∀ w ∈ GW, w.before _ s = true := fun w h => hts w (List.mem_cons_of_mem _ h)
  have hown : s.vm.findClass RX9 = some m.cls := findClass_of_methodNamed B.named
  have hlocks := B.notSynchronized
  have hl := lv_entry ([.ref (mo 0), .int (zI b)]) (n := 2) (Nat.le_of_ble_eq_true rfl)
  rw [lg_entry_eq]
  generalize (lg_sl ([.ref (mo 0), .int (zI b)]) ++ List.replicate (2 - (lg_sl ([.ref (mo 0), .int (zI b)])).length) Slot.unset).toArray = ls at hl ⊢
  have hl : lv_has ls 2 [(0, .ref (mo 0)), (1, .int (zI b))] := hl
  have d00 := dec_0 (M := M) (i := 0) (by decide)
  have d01 := dec_0 (M := M) (i := 1) (by decide)
  have d02 := dec_0 (M := M) (i := 2) (by decide)
  have d03 := dec_0 (M := M) (i := 3) (by decide)
  obtain ⟨b00, b01, b02, b03, b1, b2, b3, b4, b5, b6, b7, b8, b9, b10, b11, b12⟩ := id hI
  refine lv_aload_n hx hb dX9_by_0 rfl (lv_at hl 0 rfl) ?_
  refine lv_iload_n hx hb dX9_by_1 rfl (lv_at hl 1 rfl) ?_
  refine x_iconst hx hb dX9_by_2 ?_
  refine vp_callSi (W.runV (As := [.int (zI b), .int (zI 3)]) (rest := []) ⟨hx, hb, hml, hown, htg⟩ (m_bench l dg ck mo M b 3 (by omega) (by decide)) (cwV 2 htg (gwV wq_1657 wq_1659 wp_35 wq_15 wq_1660) rfl rfl rfl (by decide +kernel) ⟨Nat.le_of_ble_eq_true rfl, Nat.le_of_ble_eq_true rfl⟩) (rd_preV hK hP 0 11 rfl rfl) rfl rfl hl.1 rfl (lv_room (Nat.le_of_ble_eq_true rfl)) dX9_by_3 ⟨Nat.zero_le _, Nat.zero_le _⟩) (fun r3 hr3 => ?_)
  subst hr3
  refine x_is (show (dec M) (1 + Int.toNat 3) b = ((dec M) 4 b) from rfl) ?_
  refine x_iconst hx hb dX9_by_6 ?_
  refine x_isub hx hb dX9_by_7 ?_
  exact W.iret (v := _) hx hb hr (fun t9 ht9 hW9 => ⟨_, rfl, rfl, ht9⟩) (fun _ h => by cases h) dX9_by_8

set_option maxHeartbeats 4000000 in
set_option maxRecDepth 100000 in
/-- BenchBrokerModel.benchBy -/
theorem m_benchBy (l : Launch) (dg : va_G) (ck : Nat → ClassId) (mo : Nat → Nat) (M : St) (t : Int) (hI : Bd (dec M)) (rg_t : -2147483648 ≤ t ∧ t < 2147483648) : Met l yX9_benchBy (.code yX9_benchBy cX9_benchBy 3 (some .int) :: GW) ({ frames := 2, cells := 0, slots := 0, locals := 43 }) (va_Pc [.ref (mo 0), .int (zI t)] (rdP dg ck (modelC ck mo M))) (vp_Si (fun r => r = zI (lb (dec M) t))) 0 0 (fun _ => False) := by
  refine Met.ofW (cc := cX9_benchBy) (maxL := 3) (ret := (some .int)) (by decide) rfl ?_
  intro p e s m args below meth c s₁ B hml hv
  obtain ⟨rfl, hP, hK⟩ := hv
  have hx := B.exec
  have hb := B.bytes
  have hr := B.returns
  have hts := atoms_spec (ws := .code yX9_benchBy cX9_benchBy 3 (some .int) :: GW) B.pre
  have htg : ∀ w ∈ GW, w.before _ s = true := fun w h => hts w (List.mem_cons_of_mem _ h)
  have hown : s.vm.findClass RX9 = some m.cls := findClass_of_methodNamed B.named
  have hlocks := B.notSynchronized
  have hl := lv_entry ([.ref (mo 0), .int (zI t)]) (n := 3) (Nat.le_of_ble_eq_true rfl)
  rw [lg_entry_eq]
  generalize (lg_sl ([.ref (mo 0), .int (zI t)]) ++ List.replicate (3 - (lg_sl ([.ref (mo 0), .int (zI t)])).length) Slot.unset).toArray = ls at hl ⊢
  have hl : lv_has ls 3 [(0, .ref (mo 0)), (1, .int (zI t))] := hl
  have d00 := dec_0 (M := M) (i := 0) (by decide)
  have d01 := dec_0 (M := M) (i := 1) (by decide)
  have d02 := dec_0 (M := M) (i := 2) (by decide)
  have d03 := dec_0 (M := M) (i := 3) (by decide)
  obtain ⟨b00, b01, b02, b03, b1, b2, b3, b4, b5, b6, b7, b8, b9, b10, b11, b12⟩ := id hI
  refine x_iconst hx hb dX9_benchBy_0 ?_
  refine lv_istore_n (lv' := [(2, .int (zI 0)), (0, .ref (mo 0)), (1, .int (zI t))]) hx hb dX9_benchBy_1 rfl hl (by decide) rfl (fun ls hl => ?_)
  refine x_loop (ι := Int) (fun v => (0 ≤ v ∧ v ≤ dec M 0 0) ∧ lb (dec M) t = scan (fun j => dec M 4 j - 1 = t) (dec M 0 0 - v).toNat v) (fun v => (dec M 0 0 - v).toNat) (fun v => [(0, .ref (mo 0)), (1, .int (zI t)), (2, .int (zI v))]) (0) (show (0 ≤ (0 : Int) ∧ (0 : Int) ≤ dec M 0 0) ∧ lb (dec M) t = scan (fun j => dec M 4 j - 1 = t) (dec M 0 0 - (0 : Int)).toNat (0 : Int) from ⟨by omega, rfl⟩) (lv_sub hl [1, 2, 0] rfl) ?_
  intro v hv ih_2 ls hl
  obtain ⟨i, rfl⟩ : ∃ z : Int, z = v := ⟨_, rfl⟩
  have hl : lv_has ls 3 [(0, .ref (mo 0)), (1, .int (zI t)), (2, .int (zI i))] := hl
  have hv : (0 ≤ i ∧ i ≤ dec M 0 0) ∧ lb (dec M) t = scan (fun j => dec M 4 j - 1 = t) (dec M 0 0 - i).toNat i := hv
  obtain ⟨hi, hB⟩ := hv
  refine lv_iload_n hx hb dX9_benchBy_2 rfl (lv_at hl 2 rfl) ?_
  refine lv_aload_n hx hb dX9_benchBy_3 rfl (lv_at hl 0 rfl) ?_
  refine va_get (D := dg) (ci := 11) (v := .ref (mo 1)) (C := RX9) (T := TX9) (N := 23) hx hb htg inG_X9 hown hK hP 0 rfl rfl 1 (Nat.le_of_ble_eq_true rfl) (htg _ wq_1558) (fun _ h9 => h9) rfl dX9_benchBy_4 ?_
  refine x_iconst hx hb dX9_benchBy_7 ?_
  refine x_iald hx hb hK hP 1 0 (M 0) rfl rfl (fun _ => rfl) (P := fun y => True) (fun _ => trivial) (by decide) (by omega) dX9_benchBy_8 (fun g8 => ?_)
  refine x_icmp_ge (tgt := 29) hx hb dX9_benchBy_9 (by decide) (by omega) (by omega) (fun c9 => ?_) (fun c9 => ?_)
  · refine x_iconst hx hb dX9_benchBy_29 ?_
    exact W.iret (v := _) hx hb hr (fun t9 ht9 hW9 => ⟨_, rfl, (congrArg zI (by rw [hB]; exact (scan_e (by omega)).symm)), ht9⟩) (fun _ h => by cases h) dX9_benchBy_30
  · refine lv_aload_n hx hb dX9_benchBy_12 rfl (lv_at hl 0 rfl) ?_
    refine lv_iload_n hx hb dX9_benchBy_13 rfl (lv_at hl 2 rfl) ?_
    have h4i := b4 i
    refine vp_callSi (W.runV (As := [.int (zI i)]) (rest := []) ⟨hx, hb, hml, hown, htg⟩ (m_by l dg ck mo M i hI (by omega)) (cwV 1 htg (gwV wq_1853 wq_1855 wp_59 wq_15 wq_1856) rfl rfl rfl (by decide +kernel) ⟨Nat.le_of_ble_eq_true rfl, Nat.le_of_ble_eq_true rfl⟩) (rd_preV hK hP 0 11 rfl rfl) rfl rfl hl.1 rfl (lv_room (Nat.le_of_ble_eq_true rfl)) dX9_benchBy_14 ⟨Nat.zero_le _, Nat.zero_le _⟩) (fun r14 hr14 => ?_)
    subst hr14
    refine x_is (show (dec M) 4 i - 1 = (((dec M) 4 i) - 1) from congrArg (fun q : Int => q - 1) (rfl)) ?_
    refine lv_iload_n hx hb dX9_benchBy_17 rfl (lv_at hl 1 rfl) ?_
    refine x_icmp_ne (tgt := 23) hx hb dX9_benchBy_18 (by decide) (by omega) (by omega) (fun c18 => ?_) (fun c18 => ?_)
    · obtain ⟨v23, e_v23⟩ : ∃ y : Int, y = i + 1 := ⟨_, rfl⟩
      refine lv_iinc (v := zI v23) (lv' := [(2, .int (zI v23)), (0, .ref (mo 0)), (1, .int (zI t))]) hx hb dX9_benchBy_23 hl (k := 2) rfl (by rw [e_v23]; exact zI_add _ _) (by decide) rfl (fun ls hl => ?_)
      refine lv_goto (tgt := 2) hx hb dX9_benchBy_26 (by decide) ?_
      exact ih_2 (v23) (show (0 ≤ v23 ∧ v23 ≤ dec M 0 0) ∧ lb (dec M) t = scan (fun j => dec M 4 j - 1 = t) (dec M 0 0 - v23).toNat v23 from ⟨by omega, by rw [hB, scan_s (by omega), if_neg (by omega), e_v23]⟩) (show (dec M 0 0 - v23).toNat < (dec M 0 0 - i).toNat from by omega) ls (lv_sub hl [1, 2, 0] rfl)
    · refine lv_iload_n hx hb dX9_benchBy_21 rfl (lv_at hl 2 rfl) ?_
      exact W.iret (v := _) hx hb hr (fun t9 ht9 hW9 => ⟨_, rfl, (congrArg zI (by rw [hB, scan_s (by omega), if_pos (by omega)])), ht9⟩) (fun _ h => by cases h) dX9_benchBy_22

set_option maxHeartbeats 4000000 in
set_option maxRecDepth 100000 in
/-- BenchBrokerModel.holder -/
theorem m_holder (l : Launch) (dg : va_G) (ck : Nat → ClassId) (mo : Nat → Nat) (M : St) (x y : Int) (hI : Bd (dec M)) (rg_x : -2147483648 ≤ x ∧ x < 2147483648) (rg_y : -2147483648 ≤ y ∧ y < 2147483648) : Met l yX9_holder (.code yX9_holder cX9_holder 4 (some .int) :: GW) ({ frames := 1, cells := 0, slots := 0, locals := 22 }) (va_Pc [.ref (mo 0), .int (zI x), .int (zI y)] (rdP dg ck (modelC ck mo M))) (vp_Si (fun r => r = zI (holder (dec M) x y))) 0 0 (fun _ => False) := by
  refine Met.ofW (cc := cX9_holder) (maxL := 4) (ret := (some .int)) (by decide) rfl ?_
  intro p e s m args below meth c s₁ B hml hv
  obtain ⟨rfl, hP, hK⟩ := hv
  have hx := B.exec
  have hb := B.bytes
  have hr := B.returns
  have hts := atoms_spec (ws := .code yX9_holder cX9_holder 4 (some .int) :: GW) B.pre
  have htg : ∀ w ∈ GW, w.before _ s = true := fun w h => hts w (List.mem_cons_of_mem _ h)
  have hown : s.vm.findClass RX9 = some m.cls := findClass_of_methodNamed B.named
  have hlocks := B.notSynchronized
  have hl := lv_entry ([.ref (mo 0), .int (zI x), .int (zI y)]) (n := 4) (Nat.le_of_ble_eq_true rfl)
  rw [lg_entry_eq]
  generalize (lg_sl ([.ref (mo 0), .int (zI x), .int (zI y)]) ++ List.replicate (4 - (lg_sl ([.ref (mo 0), .int (zI x), .int (zI y)])).length) Slot.unset).toArray = ls at hl ⊢
  have hl : lv_has ls 4 [(0, .ref (mo 0)), (1, .int (zI x)), (2, .int (zI y))] := hl
  have d00 := dec_0 (M := M) (i := 0) (by decide)
  have d01 := dec_0 (M := M) (i := 1) (by decide)
  have d02 := dec_0 (M := M) (i := 2) (by decide)
  have d03 := dec_0 (M := M) (i := 3) (by decide)
  obtain ⟨b00, b01, b02, b03, b1, b2, b3, b4, b5, b6, b7, b8, b9, b10, b11, b12⟩ := id hI
  refine x_iconst hx hb dX9_holder_0 ?_
  refine lv_istore_n (lv' := [(3, .int (zI 0)), (0, .ref (mo 0)), (1, .int (zI x)), (2, .int (zI y))]) hx hb dX9_holder_1 rfl hl (by decide) rfl (fun ls hl => ?_)
  refine x_loop (ι := Int) (fun v => (0 ≤ v ∧ v ≤ dec M 0 0) ∧ hBench (dec M) x y = scan (fun j => dec M 1 j = x ∧ dec M 2 j = y) (dec M 0 0 - v).toNat v) (fun v => (dec M 0 0 - v).toNat) (fun v => [(0, .ref (mo 0)), (1, .int (zI x)), (2, .int (zI y)), (3, .int (zI v))]) (0) (show (0 ≤ (0 : Int) ∧ (0 : Int) ≤ dec M 0 0) ∧ hBench (dec M) x y = scan (fun j => dec M 1 j = x ∧ dec M 2 j = y) (dec M 0 0 - (0 : Int)).toNat (0 : Int) from ⟨by omega, rfl⟩) (lv_sub hl [1, 2, 3, 0] rfl) ?_
  intro v hv ih_2 ls hl
  obtain ⟨i, rfl⟩ : ∃ z : Int, z = v := ⟨_, rfl⟩
  have hl : lv_has ls 4 [(0, .ref (mo 0)), (1, .int (zI x)), (2, .int (zI y)), (3, .int (zI i))] := hl
  have hv : (0 ≤ i ∧ i ≤ dec M 0 0) ∧ hBench (dec M) x y = scan (fun j => dec M 1 j = x ∧ dec M 2 j = y) (dec M 0 0 - i).toNat i := hv
  obtain ⟨hi, hB⟩ := hv
  refine lv_iload_n hx hb dX9_holder_2 rfl (lv_at hl 3 rfl) ?_
  refine lv_aload_n hx hb dX9_holder_3 rfl (lv_at hl 0 rfl) ?_
  refine va_get (D := dg) (ci := 11) (v := .ref (mo 1)) (C := RX9) (T := TX9) (N := 23) hx hb htg inG_X9 hown hK hP 0 rfl rfl 1 (Nat.le_of_ble_eq_true rfl) (htg _ wq_1558) (fun _ h9 => h9) rfl dX9_holder_4 ?_
  refine x_iconst hx hb dX9_holder_7 ?_
  refine x_iald hx hb hK hP 1 0 (M 0) rfl rfl (fun _ => rfl) (P := fun y => True) (fun _ => trivial) (by decide) (by omega) dX9_holder_8 (fun g8 => ?_)
  refine x_icmp_ge (tgt := 40) hx hb dX9_holder_9 (by decide) (by omega) (by omega) (fun c9 => ?_) (fun c9 => ?_)
  · have hBm : hBench (dec M) x y = -1 := by rw [hB]; exact scan_e (by omega)
    refine x_iconst hx hb dX9_holder_40 ?_
    refine lv_istore_n (lv' := [(3, .int (zI 0)), (0, .ref (mo 0)), (1, .int (zI x)), (2, .int (zI y))]) hx hb dX9_holder_41 rfl hl (by decide) rfl (fun ls hl => ?_)
    refine x_loop (ι := Int) (fun v => (0 ≤ v ∧ v ≤ dec M 0 1) ∧ hFount (dec M) x y = scan (fun j => dec M 7 j = x ∧ dec M 8 j = y) (dec M 0 1 - v).toNat v) (fun v => (dec M 0 1 - v).toNat) (fun v => [(0, .ref (mo 0)), (1, .int (zI x)), (2, .int (zI y)), (3, .int (zI v))]) (0) (show (0 ≤ (0 : Int) ∧ (0 : Int) ≤ dec M 0 1) ∧ hFount (dec M) x y = scan (fun j => dec M 7 j = x ∧ dec M 8 j = y) (dec M 0 1 - (0 : Int)).toNat (0 : Int) from ⟨by omega, rfl⟩) (lv_sub hl [1, 2, 3, 0] rfl) ?_
    intro v hv ih_42 ls hl
    obtain ⟨i, rfl⟩ : ∃ z : Int, z = v := ⟨_, rfl⟩
    have hl : lv_has ls 4 [(0, .ref (mo 0)), (1, .int (zI x)), (2, .int (zI y)), (3, .int (zI i))] := hl
    have hv : (0 ≤ i ∧ i ≤ dec M 0 1) ∧ hFount (dec M) x y = scan (fun j => dec M 7 j = x ∧ dec M 8 j = y) (dec M 0 1 - i).toNat i := hv
    obtain ⟨hi2, hF⟩ := hv
    refine lv_iload_n hx hb dX9_holder_42 rfl (lv_at hl 3 rfl) ?_
    refine lv_aload_n hx hb dX9_holder_43 rfl (lv_at hl 0 rfl) ?_
    refine va_get (D := dg) (ci := 11) (v := .ref (mo 1)) (C := RX9) (T := TX9) (N := 23) hx hb htg inG_X9 hown hK hP 0 rfl rfl 1 (Nat.le_of_ble_eq_true rfl) (htg _ wq_1558) (fun _ h9 => h9) rfl dX9_holder_44 ?_
    refine x_iconst hx hb dX9_holder_47 ?_
    refine x_iald hx hb hK hP 1 0 (M 0) rfl rfl (fun _ => rfl) (P := fun y => True) (fun _ => trivial) (by decide) (by omega) dX9_holder_48 (fun g48 => ?_)
    refine x_icmp_ge (tgt := 83) hx hb dX9_holder_49 (by decide) (by omega) (by omega) (fun c49 => ?_) (fun c49 => ?_)
    · refine x_iconst hx hb dX9_holder_83 ?_
      exact W.iret (v := _) hx hb hr (fun t9 ht9 hW9 => ⟨_, rfl, (congrArg zI (by first | (have h1 : hBench (dec M) x y = i := (by rw [hB, scan_s (by omega), if_pos (by omega)]); unfold holder; rw [h1, if_pos (by omega)]) | (have h1 : hFount (dec M) x y = i := (by rw [hF, scan_s (by omega), if_pos (by omega)]); unfold holder; rw [hBm, h1, if_neg (by omega), if_pos (by omega)]) | (have h1 : hFount (dec M) x y = -1 := (by rw [hF]; exact scan_e (by omega)); unfold holder; rw [hBm, h1, if_neg (by omega), if_neg (by omega)]))), ht9⟩) (fun _ h => by cases h) dX9_holder_84
    · have q7i := b7 i
      have q8i := b8 i
      refine lv_aload_n hx hb dX9_holder_52 rfl (lv_at hl 0 rfl) ?_
      refine lv_iload_n hx hb dX9_holder_53 rfl (lv_at hl 3 rfl) ?_
      refine x_iconst hx hb dX9_holder_54 ?_
      refine vp_callSi (W.runV (As := [.int (zI i), .int (zI 0)]) (rest := []) ⟨hx, hb, hml, hown, htg⟩ (m_fountain l dg ck mo M i 0 (by omega) (by decide)) (cwV 2 htg (gwV wq_1661 wq_1663 wp_36 wq_15 wq_1664) rfl rfl rfl (by decide +kernel) ⟨Nat.le_of_ble_eq_true rfl, Nat.le_of_ble_eq_true rfl⟩) (rd_preV hK hP 0 11 rfl rfl) rfl rfl hl.1 rfl (lv_room (Nat.le_of_ble_eq_true rfl)) dX9_holder_55 ⟨Nat.zero_le _, Nat.zero_le _⟩) (fun r55 hr55 => ?_)
      subst hr55
      refine x_is (show (dec M) (7 + Int.toNat 0) i = ((dec M) 7 i) from rfl) ?_
      refine lv_iload_n hx hb dX9_holder_58 rfl (lv_at hl 1 rfl) ?_
      refine x_icmp_ne (tgt := 77) hx hb dX9_holder_59 (by decide) (by omega) (by omega) (fun c59 => ?_) (fun c59 => ?_)
      · obtain ⟨v77, e_v77⟩ : ∃ y : Int, y = i + 1 := ⟨_, rfl⟩
        refine lv_iinc (v := zI v77) (lv' := [(3, .int (zI v77)), (0, .ref (mo 0)), (1, .int (zI x)), (2, .int (zI y))]) hx hb dX9_holder_77 hl (k := 3) rfl (by rw [e_v77]; exact zI_add _ _) (by decide) rfl (fun ls hl => ?_)
        refine lv_goto (tgt := 42) hx hb dX9_holder_80 (by decide) ?_
        exact ih_42 (v77) (show (0 ≤ v77 ∧ v77 ≤ dec M 0 1) ∧ hFount (dec M) x y = scan (fun j => dec M 7 j = x ∧ dec M 8 j = y) (dec M 0 1 - v77).toNat v77 from ⟨by omega, by rw [hF, scan_s (by omega), if_neg (by omega), e_v77]⟩) (show (dec M 0 1 - v77).toNat < (dec M 0 1 - i).toNat from by omega) ls (lv_sub hl [1, 2, 3, 0] rfl)
      · refine lv_aload_n hx hb dX9_holder_62 rfl (lv_at hl 0 rfl) ?_
        refine lv_iload_n hx hb dX9_holder_63 rfl (lv_at hl 3 rfl) ?_
        refine x_iconst hx hb dX9_holder_64 ?_
        refine vp_callSi (W.runV (As := [.int (zI i), .int (zI 1)]) (rest := []) ⟨hx, hb, hml, hown, htg⟩ (m_fountain l dg ck mo M i 1 (by omega) (by decide)) (cwV 2 htg (gwV wq_1661 wq_1663 wp_36 wq_15 wq_1664) rfl rfl rfl (by decide +kernel) ⟨Nat.le_of_ble_eq_true rfl, Nat.le_of_ble_eq_true rfl⟩) (rd_preV hK hP 0 11 rfl rfl) rfl rfl hl.1 rfl (lv_room (Nat.le_of_ble_eq_true rfl)) dX9_holder_65 ⟨Nat.zero_le _, Nat.zero_le _⟩) (fun r65 hr65 => ?_)
        subst hr65
        refine x_is (show (dec M) (7 + Int.toNat 1) i = ((dec M) 8 i) from rfl) ?_
        refine lv_iload_n hx hb dX9_holder_68 rfl (lv_at hl 2 rfl) ?_
        refine x_icmp_ne (tgt := 77) hx hb dX9_holder_69 (by decide) (by omega) (by omega) (fun c69 => ?_) (fun c69 => ?_)
        · obtain ⟨v77, e_v77⟩ : ∃ y : Int, y = i + 1 := ⟨_, rfl⟩
          refine lv_iinc (v := zI v77) (lv' := [(3, .int (zI v77)), (0, .ref (mo 0)), (1, .int (zI x)), (2, .int (zI y))]) hx hb dX9_holder_77 hl (k := 3) rfl (by rw [e_v77]; exact zI_add _ _) (by decide) rfl (fun ls hl => ?_)
          refine lv_goto (tgt := 42) hx hb dX9_holder_80 (by decide) ?_
          exact ih_42 (v77) (show (0 ≤ v77 ∧ v77 ≤ dec M 0 1) ∧ hFount (dec M) x y = scan (fun j => dec M 7 j = x ∧ dec M 8 j = y) (dec M 0 1 - v77).toNat v77 from ⟨by omega, by rw [hF, scan_s (by omega), if_neg (by omega), e_v77]⟩) (show (dec M 0 1 - v77).toNat < (dec M 0 1 - i).toNat from by omega) ls (lv_sub hl [1, 2, 3, 0] rfl)
        · refine x_bipush hx hb dX9_holder_72 (by decide) ?_
          refine lv_iload_n hx hb dX9_holder_74 rfl (lv_at hl 3 rfl) ?_
          refine x_iadd hx hb dX9_holder_75 ?_
          exact W.iret (v := _) hx hb hr (fun t9 ht9 hW9 => ⟨_, rfl, (congrArg zI (by first | (have h1 : hBench (dec M) x y = i := (by rw [hB, scan_s (by omega), if_pos (by omega)]); unfold holder; rw [h1, if_pos (by omega)]) | (have h1 : hFount (dec M) x y = i := (by rw [hF, scan_s (by omega), if_pos (by omega)]); unfold holder; rw [hBm, h1, if_neg (by omega), if_pos (by omega)]) | (have h1 : hFount (dec M) x y = -1 := (by rw [hF]; exact scan_e (by omega)); unfold holder; rw [hBm, h1, if_neg (by omega), if_neg (by omega)]))), ht9⟩) (fun _ h => by cases h) dX9_holder_76
  · have q1i := b1 i
    have q2i := b2 i
    refine lv_aload_n hx hb dX9_holder_12 rfl (lv_at hl 0 rfl) ?_
    refine lv_iload_n hx hb dX9_holder_13 rfl (lv_at hl 3 rfl) ?_
    refine x_iconst hx hb dX9_holder_14 ?_
    refine vp_callSi (W.runV (As := [.int (zI i), .int (zI 0)]) (rest := []) ⟨hx, hb, hml, hown, htg⟩ (m_bench l dg ck mo M i 0 (by omega) (by decide)) (cwV 2 htg (gwV wq_1657 wq_1659 wp_35 wq_15 wq_1660) rfl rfl rfl (by decide +kernel) ⟨Nat.le_of_ble_eq_true rfl, Nat.le_of_ble_eq_true rfl⟩) (rd_preV hK hP 0 11 rfl rfl) rfl rfl hl.1 rfl (lv_room (Nat.le_of_ble_eq_true rfl)) dX9_holder_15 ⟨Nat.zero_le _, Nat.zero_le _⟩) (fun r15 hr15 => ?_)
    subst hr15
    refine x_is (show (dec M) (1 + Int.toNat 0) i = ((dec M) 1 i) from rfl) ?_
    refine lv_iload_n hx hb dX9_holder_18 rfl (lv_at hl 1 rfl) ?_
    refine x_icmp_ne (tgt := 34) hx hb dX9_holder_19 (by decide) (by omega) (by omega) (fun c19 => ?_) (fun c19 => ?_)
    · obtain ⟨v34, e_v34⟩ : ∃ y : Int, y = i + 1 := ⟨_, rfl⟩
      refine lv_iinc (v := zI v34) (lv' := [(3, .int (zI v34)), (0, .ref (mo 0)), (1, .int (zI x)), (2, .int (zI y))]) hx hb dX9_holder_34 hl (k := 3) rfl (by rw [e_v34]; exact zI_add _ _) (by decide) rfl (fun ls hl => ?_)
      refine lv_goto (tgt := 2) hx hb dX9_holder_37 (by decide) ?_
      exact ih_2 (v34) (show (0 ≤ v34 ∧ v34 ≤ dec M 0 0) ∧ hBench (dec M) x y = scan (fun j => dec M 1 j = x ∧ dec M 2 j = y) (dec M 0 0 - v34).toNat v34 from ⟨by omega, by rw [hB, scan_s (by omega), if_neg (by omega), e_v34]⟩) (show (dec M 0 0 - v34).toNat < (dec M 0 0 - i).toNat from by omega) ls (lv_sub hl [1, 2, 3, 0] rfl)
    · refine lv_aload_n hx hb dX9_holder_22 rfl (lv_at hl 0 rfl) ?_
      refine lv_iload_n hx hb dX9_holder_23 rfl (lv_at hl 3 rfl) ?_
      refine x_iconst hx hb dX9_holder_24 ?_
      refine vp_callSi (W.runV (As := [.int (zI i), .int (zI 1)]) (rest := []) ⟨hx, hb, hml, hown, htg⟩ (m_bench l dg ck mo M i 1 (by omega) (by decide)) (cwV 2 htg (gwV wq_1657 wq_1659 wp_35 wq_15 wq_1660) rfl rfl rfl (by decide +kernel) ⟨Nat.le_of_ble_eq_true rfl, Nat.le_of_ble_eq_true rfl⟩) (rd_preV hK hP 0 11 rfl rfl) rfl rfl hl.1 rfl (lv_room (Nat.le_of_ble_eq_true rfl)) dX9_holder_25 ⟨Nat.zero_le _, Nat.zero_le _⟩) (fun r25 hr25 => ?_)
      subst hr25
      refine x_is (show (dec M) (1 + Int.toNat 1) i = ((dec M) 2 i) from rfl) ?_
      refine lv_iload_n hx hb dX9_holder_28 rfl (lv_at hl 2 rfl) ?_
      refine x_icmp_ne (tgt := 34) hx hb dX9_holder_29 (by decide) (by omega) (by omega) (fun c29 => ?_) (fun c29 => ?_)
      · obtain ⟨v34, e_v34⟩ : ∃ y : Int, y = i + 1 := ⟨_, rfl⟩
        refine lv_iinc (v := zI v34) (lv' := [(3, .int (zI v34)), (0, .ref (mo 0)), (1, .int (zI x)), (2, .int (zI y))]) hx hb dX9_holder_34 hl (k := 3) rfl (by rw [e_v34]; exact zI_add _ _) (by decide) rfl (fun ls hl => ?_)
        refine lv_goto (tgt := 2) hx hb dX9_holder_37 (by decide) ?_
        exact ih_2 (v34) (show (0 ≤ v34 ∧ v34 ≤ dec M 0 0) ∧ hBench (dec M) x y = scan (fun j => dec M 1 j = x ∧ dec M 2 j = y) (dec M 0 0 - v34).toNat v34 from ⟨by omega, by rw [hB, scan_s (by omega), if_neg (by omega), e_v34]⟩) (show (dec M 0 0 - v34).toNat < (dec M 0 0 - i).toNat from by omega) ls (lv_sub hl [1, 2, 3, 0] rfl)
      · refine lv_iload_n hx hb dX9_holder_32 rfl (lv_at hl 3 rfl) ?_
        exact W.iret (v := _) hx hb hr (fun t9 ht9 hW9 => ⟨_, rfl, (congrArg zI (by first | (have h1 : hBench (dec M) x y = i := (by rw [hB, scan_s (by omega), if_pos (by omega)]); unfold holder; rw [h1, if_pos (by omega)]) | (have h1 : hFount (dec M) x y = i := (by rw [hF, scan_s (by omega), if_pos (by omega)]); unfold holder; rw [hBm, h1, if_neg (by omega), if_pos (by omega)]) | (have h1 : hFount (dec M) x y = -1 := (by rw [hF]; exact scan_e (by omega)); unfold holder; rw [hBm, h1, if_neg (by omega), if_neg (by omega)]))), ht9⟩) (fun _ h => by cases h) dX9_holder_33
