/-! the reference: what it answers -/
theorem nzN_c {S S' : St} (h7 : S' 7 = S 7) (h8 : S' 8 = S 8) (h9 : S' 9 = S 9) (h10 : S' 10 = S 10) (r c : Int) : ∀ n : Nat, nzN S' r c n = nzN S r c n
  | 0 => rfl
  | n + 1 => by
    show nzN S' r c n + nzT S' r c n = nzN S r c n + nzT S r c n
    rw [nzN_c h7 h8 h9 h10 r c n]
    unfold nzT
    rw [h7, h8, h9, h10]
theorem noise_c {S S' : St} (h0 : S' 0 1 = S 0 1) (h7 : S' 7 = S 7) (h8 : S' 8 = S 8) (h9 : S' 9 = S 9) (h10 : S' 10 = S 10) (r c : Int) : noise S' r c = noise S r c := by
  unfold noise
  rw [h0]
  exact nzN_c h7 h8 h9 h10 r c _
theorem noiseB_c {S S' : St} (h0 : S' 0 1 = S 0 1) (h1 : S' 1 = S 1) (h2 : S' 2 = S 2) (h7 : S' 7 = S 7) (h8 : S' 8 = S 8) (h9 : S' 9 = S 9) (h10 : S' 10 = S 10) (b : Int) : noiseB S' b = noiseB S b := by
  unfold noiseB
  rw [h1, h2]
  exact noise_c h0 h7 h8 h9 h10 _ _
theorem rent_c {S S' : St} (h0 : S' 0 1 = S 0 1) (h1 : S' 1 = S 1) (h2 : S' 2 = S 2) (h3 : S' 3 = S 3) (h7 : S' 7 = S 7) (h8 : S' 8 = S 8) (h9 : S' 9 = S 9) (h10 : S' 10 = S 10) (b : Int) : rent S' b = rent S b := by
  unfold rent
  rw [h3, noiseB_c h0 h1 h2 h7 h8 h9 h10 b]

set_option maxHeartbeats 4000000 in
set_option maxRecDepth 100000 in
/-- BenchBrokerModel.in -/
theorem m_in (l : Launch) (dg : va_G) (ck : Nat → ClassId) (x y z : Int) (rg_x : -2147483648 ≤ x ∧ x < 2147483648) (rg_y : -2147483648 ≤ y ∧ y < 2147483648) (rg_z : -2147483648 ≤ z ∧ z < 2147483648) : Met l yX9_in (.code yX9_in cX9_in 3 (some .boolean) :: GW) ({ frames := 0, cells := 0, slots := 0, locals := 0 }) (va_Pc [.int (zI x), .int (zI y), .int (zI z)] (rdP dg ck ([]))) (vp_Si (fun r => r = zI (bI (y ≤ x ∧ x ≤ z)))) 0 0 (fun _ => False) := by
  refine Met.ofW (cc := cX9_in) (maxL := 3) (ret := (some .boolean)) (by decide) rfl ?_
  intro p e s m args below meth c s₁ B hml hv
  obtain ⟨rfl, hP, hK⟩ := hv
  have hx := B.exec
  have hb := B.bytes
  have hr := B.returns
  have hts := atoms_spec (ws := .code yX9_in cX9_in 3 (some .boolean) :: GW) B.pre
  have htg : ∀ w ∈ GW, w.before _ s = true := fun w h => hts w (List.mem_cons_of_mem _ h)
  have hown : s.vm.findClass RX9 = some m.cls := findClass_of_methodNamed B.named
  have hlocks := B.notSynchronized
  have hl := lv_entry ([.int (zI x), .int (zI y), .int (zI z)]) (n := 3) (Nat.le_of_ble_eq_true rfl)
  rw [lg_entry_eq]
  generalize (lg_sl ([.int (zI x), .int (zI y), .int (zI z)]) ++ List.replicate (3 - (lg_sl ([.int (zI x), .int (zI y), .int (zI z)])).length) Slot.unset).toArray = ls at hl ⊢
  have hl : lv_has ls 3 [(0, .int (zI x)), (1, .int (zI y)), (2, .int (zI z))] := hl
  refine lv_iload_n hx hb dX9_in_0 rfl (lv_at hl 0 rfl) ?_
  refine lv_iload_n hx hb dX9_in_1 rfl (lv_at hl 1 rfl) ?_
  refine x_icmp_lt (tgt := 14) hx hb dX9_in_2 (by decide) (by omega) (by omega) (fun c2 => ?_) (fun c2 => ?_)
  · refine x_iconst hx hb dX9_in_14 ?_
    exact W.zret (v := _) hx hb hr (by first | rfl | rfl) (fun t9 ht9 hW9 => ⟨_, rfl, (congrArg zI (by first | exact (bI_t (by omega)).symm | exact (bI_f (by omega)).symm)), ht9⟩) (fun _ h => by cases h) dX9_in_15
  · refine lv_iload_n hx hb dX9_in_5 rfl (lv_at hl 0 rfl) ?_
    refine lv_iload_n hx hb dX9_in_6 rfl (lv_at hl 2 rfl) ?_
    refine x_icmp_gt (tgt := 14) hx hb dX9_in_7 (by decide) (by omega) (by omega) (fun c7 => ?_) (fun c7 => ?_)
    · refine x_iconst hx hb dX9_in_14 ?_
      exact W.zret (v := _) hx hb hr (by first | rfl | rfl) (fun t9 ht9 hW9 => ⟨_, rfl, (congrArg zI (by first | exact (bI_t (by omega)).symm | exact (bI_f (by omega)).symm)), ht9⟩) (fun _ h => by cases h) dX9_in_15
    · refine x_iconst hx hb dX9_in_10 ?_
      refine lv_goto (tgt := 15) hx hb dX9_in_11 (by decide) ?_
      exact W.zret (v := _) hx hb hr (by first | rfl | rfl) (fun t9 ht9 hW9 => ⟨_, rfl, (congrArg zI (by first | exact (bI_t (by omega)).symm | exact (bI_f (by omega)).symm)), ht9⟩) (fun _ h => by cases h) dX9_in_15

set_option maxHeartbeats 4000000 in
set_option maxRecDepth 100000 in
/-- BenchBrokerModel.isCell -/
theorem m_isCell (l : Launch) (dg : va_G) (ck : Nat → ClassId) (x y : Int) (rg_x : -2147483648 ≤ x ∧ x < 2147483648) (rg_y : -2147483648 ≤ y ∧ y < 2147483648) : Met l yX9_isCell (.code yX9_isCell cX9_isCell 2 (some .boolean) :: GW) ({ frames := 1, cells := 0, slots := 0, locals := 22 }) (va_Pc [.int (zI x), .int (zI y)] (rdP dg ck ([]))) (vp_Si (fun r => r = zI (bI (isCell x y)))) 0 0 (fun _ => False) := by
  refine Met.ofW (cc := cX9_isCell) (maxL := 2) (ret := (some .boolean)) (by decide) rfl ?_
  intro p e s m args below meth c s₁ B hml hv
  obtain ⟨rfl, hP, hK⟩ := hv
  have hx := B.exec
  have hb := B.bytes
  have hr := B.returns
  have hts := atoms_spec (ws := .code yX9_isCell cX9_isCell 2 (some .boolean) :: GW) B.pre
  have htg : ∀ w ∈ GW, w.before _ s = true := fun w h => hts w (List.mem_cons_of_mem _ h)
  have hown : s.vm.findClass RX9 = some m.cls := findClass_of_methodNamed B.named
  have hlocks := B.notSynchronized
  have hl := lv_entry ([.int (zI x), .int (zI y)]) (n := 2) (Nat.le_of_ble_eq_true rfl)
  rw [lg_entry_eq]
  generalize (lg_sl ([.int (zI x), .int (zI y)]) ++ List.replicate (2 - (lg_sl ([.int (zI x), .int (zI y)])).length) Slot.unset).toArray = ls at hl ⊢
  have hl : lv_has ls 2 [(0, .int (zI x)), (1, .int (zI y))] := hl
  refine lv_iload_n hx hb dX9_isCell_0 rfl (lv_at hl 0 rfl) ?_
  refine x_iconst hx hb dX9_isCell_1 ?_
  refine x_iconst hx hb dX9_isCell_2 ?_
  refine vp_callSi (W.runS (As := [.int (zI x), .int (zI 0), .int (zI 5)]) (rest := []) ⟨hx, hb, hml, hown, htg⟩ (m_in l dg ck x 0 5 (by omega) (by omega) (by omega)) (cwS 3 htg (gwS wq_1646 wq_1647 wq_15 wq_1648) rfl rfl rfl (by decide +kernel) ⟨Nat.le_of_ble_eq_true rfl, Nat.le_of_ble_eq_true rfl⟩) (rd_preS hK va_P_nil) rfl rfl hl.1 rfl (lv_room (Nat.le_of_ble_eq_true rfl)) dX9_isCell_3 ⟨Nat.zero_le _, Nat.zero_le _⟩) (fun r3 hr3 => ?_)
  subst hr3
  refine x_bz_eq (tgt := 22) hx hb dX9_isCell_6 (by decide) (fun c6 => ?_) (fun c6 => ?_)
  · refine x_iconst hx hb dX9_isCell_22 ?_
    exact W.zret (v := _) hx hb hr (by first | rfl | rfl) (fun t9 ht9 hW9 => ⟨_, rfl, (congrArg zI (by first | exact (bI_t (by omega)).symm | exact (bI_f (by omega)).symm)), ht9⟩) (fun _ h => by cases h) dX9_isCell_23
  · refine lv_iload_n hx hb dX9_isCell_9 rfl (lv_at hl 1 rfl) ?_
    refine x_iconst hx hb dX9_isCell_10 ?_
    refine x_iconst hx hb dX9_isCell_11 ?_
    refine vp_callSi (W.runS (As := [.int (zI y), .int (zI 0), .int (zI 5)]) (rest := []) ⟨hx, hb, hml, hown, htg⟩ (m_in l dg ck y 0 5 (by omega) (by omega) (by omega)) (cwS 3 htg (gwS wq_1646 wq_1647 wq_15 wq_1648) rfl rfl rfl (by decide +kernel) ⟨Nat.le_of_ble_eq_true rfl, Nat.le_of_ble_eq_true rfl⟩) (rd_preS hK va_P_nil) rfl rfl hl.1 rfl (lv_room (Nat.le_of_ble_eq_true rfl)) dX9_isCell_12 ⟨Nat.zero_le _, Nat.zero_le _⟩) (fun r12 hr12 => ?_)
    subst hr12
    refine x_bz_eq (tgt := 22) hx hb dX9_isCell_15 (by decide) (fun c15 => ?_) (fun c15 => ?_)
    · refine x_iconst hx hb dX9_isCell_22 ?_
      exact W.zret (v := _) hx hb hr (by first | rfl | rfl) (fun t9 ht9 hW9 => ⟨_, rfl, (congrArg zI (by first | exact (bI_t (by omega)).symm | exact (bI_f (by omega)).symm)), ht9⟩) (fun _ h => by cases h) dX9_isCell_23
    · refine x_iconst hx hb dX9_isCell_18 ?_
      refine lv_goto (tgt := 23) hx hb dX9_isCell_19 (by decide) ?_
      exact W.zret (v := _) hx hb hr (by first | rfl | rfl) (fun t9 ht9 hW9 => ⟨_, rfl, (congrArg zI (by first | exact (bI_t (by omega)).symm | exact (bI_f (by omega)).symm)), ht9⟩) (fun _ h => by cases h) dX9_isCell_23

set_option maxHeartbeats 4000000 in
set_option maxRecDepth 100000 in
/-- BenchBrokerModel.size -/
theorem m_size (l : Launch) (dg : va_G) (ck : Nat → ClassId) (x : Int) (rg_x : -2147483648 < x ∧ x < 2147483648) : Met l yX9_size (.code yX9_size cX9_size 1 (some .int) :: GW) ({ frames := 0, cells := 0, slots := 0, locals := 0 }) (va_Pc [.int (zI x)] (rdP dg ck ([]))) (vp_Si (fun r => ∃ y : Int, r = zI y ∧ (0 ≤ x ∧ y = x ∨ x < 0 ∧ y = -x))) 0 0 (fun _ => False) := by
  refine Met.ofW (cc := cX9_size) (maxL := 1) (ret := (some .int)) (by decide) rfl ?_
  intro p e s m args below meth c s₁ B hml hv
  obtain ⟨rfl, hP, hK⟩ := hv
  have hx := B.exec
  have hb := B.bytes
  have hr := B.returns
  have hts := atoms_spec (ws := .code yX9_size cX9_size 1 (some .int) :: GW) B.pre
  have htg : ∀ w ∈ GW, w.before _ s = true := fun w h => hts w (List.mem_cons_of_mem _ h)
  have hown : s.vm.findClass RX9 = some m.cls := findClass_of_methodNamed B.named
  have hlocks := B.notSynchronized
  have hl := lv_entry ([.int (zI x)]) (n := 1) (Nat.le_of_ble_eq_true rfl)
  rw [lg_entry_eq]
  generalize (lg_sl ([.int (zI x)]) ++ List.replicate (1 - (lg_sl ([.int (zI x)])).length) Slot.unset).toArray = ls at hl ⊢
  have hl : lv_has ls 1 [(0, .int (zI x))] := hl
  refine lv_iload_n hx hb dX9_size_0 rfl (lv_at hl 0 rfl) ?_
  refine x_if_ge (tgt := 9) hx hb dX9_size_1 (by decide) (by omega) (fun c1 => ?_) (fun c1 => ?_)
  · refine lv_iload_n hx hb dX9_size_9 rfl (lv_at hl 0 rfl) ?_
    exact W.iret (v := _) hx hb hr (fun t9 ht9 hW9 => ⟨_, rfl, ⟨_, rfl, by omega⟩, ht9⟩) (fun _ h => by cases h) dX9_size_10
  · refine lv_iload_n hx hb dX9_size_4 rfl (lv_at hl 0 rfl) ?_
    refine x_ineg hx hb dX9_size_5 ?_
    refine lv_goto (tgt := 10) hx hb dX9_size_6 (by decide) ?_
    exact W.iret (v := _) hx hb hr (fun t9 ht9 hW9 => ⟨_, rfl, ⟨_, rfl, by omega⟩, ht9⟩) (fun _ h => by cases h) dX9_size_10

set_option maxHeartbeats 4000000 in
set_option maxRecDepth 100000 in
/-- BenchBrokerModel.bench -/
theorem m_bench (l : Launch) (dg : va_G) (ck : Nat → ClassId) (mo : Nat → Nat) (S : St) (F1 F2 F3 F4 : Int → Int) (M : St) (b w : Int) (hb0 : 0 ≤ b ∧ b < 10) (hw0 : 0 ≤ w ∧ w < 6) : Met l yX9_bench (.code yX9_bench cX9_bench 3 (some .int) :: GW) ({ frames := 0, cells := 0, slots := 0, locals := 0 }) (va_Pc [.ref (mo 0), .int (zI b), .int (zI w)] (rdP dg ck (modelC ck mo (encZ S) F1 F2 F3 F4 M))) (vp_Si (fun r => r = zI (S (1 + w.toNat) b))) 0 0 (fun _ => False) := by
  refine Met.ofW (cc := cX9_bench) (maxL := 3) (ret := (some .int)) (by decide) rfl ?_
  intro p e s m args below meth c s₁ B hml hv
  obtain ⟨rfl, hP, hK⟩ := hv
  have hx := B.exec
  have hb := B.bytes
  have hr := B.returns
  have hts := atoms_spec (ws := .code yX9_bench cX9_bench 3 (some .int) :: GW) B.pre
  have htg : ∀ w ∈ GW, w.before _ s = true := fun w h => hts w (List.mem_cons_of_mem _ h)
  have hown : s.vm.findClass RX9 = some m.cls := findClass_of_methodNamed B.named
  have hlocks := B.notSynchronized
  have hl := lv_entry ([.ref (mo 0), .int (zI b), .int (zI w)]) (n := 3) (Nat.le_of_ble_eq_true rfl)
  rw [lg_entry_eq]
  generalize (lg_sl ([.ref (mo 0), .int (zI b), .int (zI w)]) ++ List.replicate (3 - (lg_sl ([.ref (mo 0), .int (zI b), .int (zI w)])).length) Slot.unset).toArray = ls at hl ⊢
  have hl : lv_has ls 3 [(0, .ref (mo 0)), (1, .int (zI b)), (2, .int (zI w))] := hl
  refine lv_aload_n hx hb dX9_bench_0 rfl (lv_at hl 0 rfl) ?_
  refine va_get (D := dg) (ci := 11) (v := .ref (mo 1)) (C := RX9) (T := TX9) (N := 23) hx hb htg inG_X9 hown hK hP 0 rfl rfl 1 (Nat.le_of_ble_eq_true rfl) (htg _ wq_1558) (fun _ h9 => h9) rfl dX9_bench_1 ?_
  refine x_bipush hx hb dX9_bench_4 (by decide) ?_
  refine x_bipush hx hb dX9_bench_6 (by decide) ?_
  refine lv_iload_n hx hb dX9_bench_8 rfl (lv_at hl 1 rfl) ?_
  refine x_imul hx hb dX9_bench_9 ?_
  refine x_iadd hx hb dX9_bench_10 ?_
  refine lv_iload_n hx hb dX9_bench_11 rfl (lv_at hl 2 rfl) ?_
  refine x_iadd hx hb dX9_bench_12 ?_
  refine x_iald hx hb hK hP 1 0 (encZ S) rfl rfl (fun _ => rfl) (P := fun _ => True) (fun _ => trivial) (by decide) (by omega) dX9_bench_13 (fun _ => ?_)
  exact W.iret (v := _) hx hb hr (fun t9 ht9 hW9 => ⟨_, rfl, (congrArg zI (encV (by unfold encP; omega))), ht9⟩) (fun _ h => by cases h) dX9_bench_14

set_option maxHeartbeats 4000000 in
set_option maxRecDepth 100000 in
/-- BenchBrokerModel.fountain -/
theorem m_fountain (l : Launch) (dg : va_G) (ck : Nat → ClassId) (mo : Nat → Nat) (S : St) (F1 F2 F3 F4 : Int → Int) (M : St) (b w : Int) (hb0 : 0 ≤ b ∧ b < 4) (hw0 : 0 ≤ w ∧ w < 4) : Met l yX9_fountain (.code yX9_fountain cX9_fountain 3 (some .int) :: GW) ({ frames := 0, cells := 0, slots := 0, locals := 0 }) (va_Pc [.ref (mo 0), .int (zI b), .int (zI w)] (rdP dg ck (modelC ck mo (encZ S) F1 F2 F3 F4 M))) (vp_Si (fun r => r = zI (S (7 + w.toNat) b))) 0 0 (fun _ => False) := by
  refine Met.ofW (cc := cX9_fountain) (maxL := 3) (ret := (some .int)) (by decide) rfl ?_
  intro p e s m args below meth c s₁ B hml hv
  obtain ⟨rfl, hP, hK⟩ := hv
  have hx := B.exec
  have hb := B.bytes
  have hr := B.returns
  have hts := atoms_spec (ws := .code yX9_fountain cX9_fountain 3 (some .int) :: GW) B.pre
  have htg : ∀ w ∈ GW, w.before _ s = true := fun w h => hts w (List.mem_cons_of_mem _ h)
  have hown : s.vm.findClass RX9 = some m.cls := findClass_of_methodNamed B.named
  have hlocks := B.notSynchronized
  have hl := lv_entry ([.ref (mo 0), .int (zI b), .int (zI w)]) (n := 3) (Nat.le_of_ble_eq_true rfl)
  rw [lg_entry_eq]
  generalize (lg_sl ([.ref (mo 0), .int (zI b), .int (zI w)]) ++ List.replicate (3 - (lg_sl ([.ref (mo 0), .int (zI b), .int (zI w)])).length) Slot.unset).toArray = ls at hl ⊢
  have hl : lv_has ls 3 [(0, .ref (mo 0)), (1, .int (zI b)), (2, .int (zI w))] := hl
  refine lv_aload_n hx hb dX9_fountain_0 rfl (lv_at hl 0 rfl) ?_
  refine va_get (D := dg) (ci := 11) (v := .ref (mo 1)) (C := RX9) (T := TX9) (N := 23) hx hb htg inG_X9 hown hK hP 0 rfl rfl 1 (Nat.le_of_ble_eq_true rfl) (htg _ wq_1558) (fun _ h9 => h9) rfl dX9_fountain_1 ?_
  refine x_bipush hx hb dX9_fountain_4 (by decide) ?_
  refine x_iconst hx hb dX9_fountain_6 ?_
  refine lv_iload_n hx hb dX9_fountain_7 rfl (lv_at hl 1 rfl) ?_
  refine x_imul hx hb dX9_fountain_8 ?_
  refine x_iadd hx hb dX9_fountain_9 ?_
  refine lv_iload_n hx hb dX9_fountain_10 rfl (lv_at hl 2 rfl) ?_
  refine x_iadd hx hb dX9_fountain_11 ?_
  refine x_iald hx hb hK hP 1 0 (encZ S) rfl rfl (fun _ => rfl) (P := fun _ => True) (fun _ => trivial) (by decide) (by omega) dX9_fountain_12 (fun _ => ?_)
  exact W.iret (v := _) hx hb hr (fun t9 ht9 hW9 => ⟨_, rfl, (congrArg zI (encV (by unfold encP; omega))), ht9⟩) (fun _ h => by cases h) dX9_fountain_13

set_option maxHeartbeats 4000000 in
set_option maxRecDepth 100000 in
/-- BenchBrokerModel.tenant -/
theorem m_tenant (l : Launch) (dg : va_G) (ck : Nat → ClassId) (mo : Nat → Nat) (S : St) (F1 F2 F3 F4 : Int → Int) (M : St) (b w : Int) (hb0 : 0 ≤ b ∧ b < 8) (hw0 : 0 ≤ w ∧ w < 2) : Met l yX9_tenant (.code yX9_tenant cX9_tenant 3 (some .int) :: GW) ({ frames := 0, cells := 0, slots := 0, locals := 0 }) (va_Pc [.ref (mo 0), .int (zI b), .int (zI w)] (rdP dg ck (modelC ck mo (encZ S) F1 F2 F3 F4 M))) (vp_Si (fun r => r = zI (S (11 + w.toNat) b))) 0 0 (fun _ => False) := by
  refine Met.ofW (cc := cX9_tenant) (maxL := 3) (ret := (some .int)) (by decide) rfl ?_
  intro p e s m args below meth c s₁ B hml hv
  obtain ⟨rfl, hP, hK⟩ := hv
  have hx := B.exec
  have hb := B.bytes
  have hr := B.returns
  have hts := atoms_spec (ws := .code yX9_tenant cX9_tenant 3 (some .int) :: GW) B.pre
  have htg : ∀ w ∈ GW, w.before _ s = true := fun w h => hts w (List.mem_cons_of_mem _ h)
  have hown : s.vm.findClass RX9 = some m.cls := findClass_of_methodNamed B.named
  have hlocks := B.notSynchronized
  have hl := lv_entry ([.ref (mo 0), .int (zI b), .int (zI w)]) (n := 3) (Nat.le_of_ble_eq_true rfl)
  rw [lg_entry_eq]
  generalize (lg_sl ([.ref (mo 0), .int (zI b), .int (zI w)]) ++ List.replicate (3 - (lg_sl ([.ref (mo 0), .int (zI b), .int (zI w)])).length) Slot.unset).toArray = ls at hl ⊢
  have hl : lv_has ls 3 [(0, .ref (mo 0)), (1, .int (zI b)), (2, .int (zI w))] := hl
  refine lv_aload_n hx hb dX9_tenant_0 rfl (lv_at hl 0 rfl) ?_
  refine va_get (D := dg) (ci := 11) (v := .ref (mo 1)) (C := RX9) (T := TX9) (N := 23) hx hb htg inG_X9 hown hK hP 0 rfl rfl 1 (Nat.le_of_ble_eq_true rfl) (htg _ wq_1558) (fun _ h9 => h9) rfl dX9_tenant_1 ?_
  refine x_bipush hx hb dX9_tenant_4 (by decide) ?_
  refine x_iconst hx hb dX9_tenant_6 ?_
  refine lv_iload_n hx hb dX9_tenant_7 rfl (lv_at hl 1 rfl) ?_
  refine x_imul hx hb dX9_tenant_8 ?_
  refine x_iadd hx hb dX9_tenant_9 ?_
  refine lv_iload_n hx hb dX9_tenant_10 rfl (lv_at hl 2 rfl) ?_
  refine x_iadd hx hb dX9_tenant_11 ?_
  refine x_iald hx hb hK hP 1 0 (encZ S) rfl rfl (fun _ => rfl) (P := fun _ => True) (fun _ => trivial) (by decide) (by omega) dX9_tenant_12 (fun _ => ?_)
  exact W.iret (v := _) hx hb hr (fun t9 ht9 hW9 => ⟨_, rfl, (congrArg zI (encV (by unfold encP; omega))), ht9⟩) (fun _ h => by cases h) dX9_tenant_13

set_option maxHeartbeats 4000000 in
set_option maxRecDepth 100000 in
/-- BenchBrokerModel.isBench -/
theorem m_isBench (l : Launch) (dg : va_G) (ck : Nat → ClassId) (mo : Nat → Nat) (S : St) (F1 F2 F3 F4 : Int → Int) (M : St) (x : Int) (hI : Bd S) (rg_x : -2147483648 ≤ x ∧ x < 2147483648) : Met l yX9_isBench (.code yX9_isBench cX9_isBench 2 (some .boolean) :: GW) ({ frames := 1, cells := 0, slots := 0, locals := 22 }) (va_Pc [.ref (mo 0), .int (zI x)] (rdP dg ck (modelC ck mo (encZ S) F1 F2 F3 F4 M))) (vp_Si (fun r => r = zI (bI (isBench S x)))) 0 0 (fun _ => False) := by
  refine Met.ofW (cc := cX9_isBench) (maxL := 2) (ret := (some .boolean)) (by decide) rfl ?_
  intro p e s m args below meth c s₁ B hml hv
  obtain ⟨rfl, hP, hK⟩ := hv
  have hx := B.exec
  have hb := B.bytes
  have hr := B.returns
  have hts := atoms_spec (ws := .code yX9_isBench cX9_isBench 2 (some .boolean) :: GW) B.pre
  have htg : ∀ w ∈ GW, w.before _ s = true := fun w h => hts w (List.mem_cons_of_mem _ h)
  have hown : s.vm.findClass RX9 = some m.cls := findClass_of_methodNamed B.named
  have hlocks := B.notSynchronized
  have hl := lv_entry ([.ref (mo 0), .int (zI x)]) (n := 2) (Nat.le_of_ble_eq_true rfl)
  rw [lg_entry_eq]
  generalize (lg_sl ([.ref (mo 0), .int (zI x)]) ++ List.replicate (2 - (lg_sl ([.ref (mo 0), .int (zI x)])).length) Slot.unset).toArray = ls at hl ⊢
  have hl : lv_has ls 2 [(0, .ref (mo 0)), (1, .int (zI x))] := hl
  obtain ⟨b00, b01, b02, b03, b1, b2, b3, b4, b5, b6, b7, b8, b9, b10, b11, b12⟩ := id hI
  refine lv_iload_n hx hb dX9_isBench_0 rfl (lv_at hl 1 rfl) ?_
  refine x_iconst hx hb dX9_isBench_1 ?_
  refine lv_aload_n hx hb dX9_isBench_2 rfl (lv_at hl 0 rfl) ?_
  refine va_get (D := dg) (ci := 11) (v := .ref (mo 1)) (C := RX9) (T := TX9) (N := 23) hx hb htg inG_X9 hown hK hP 0 rfl rfl 1 (Nat.le_of_ble_eq_true rfl) (htg _ wq_1558) (fun _ h9 => h9) rfl dX9_isBench_3 ?_
  refine x_iconst hx hb dX9_isBench_6 ?_
  refine x_iald hx hb hK hP 1 0 (encZ S) rfl rfl (fun _ => rfl) (P := fun _ => True) (fun _ => trivial) (by decide) (by omega) dX9_isBench_7 (fun _ => ?_)
  refine x_is (show (encZ S) 0 = (S 0 0) from (encV (k := 0) (i := 0) (Or.inl ⟨rfl, by decide, by decide, rfl⟩)).trans (rfl)) ?_
  refine x_iconst hx hb dX9_isBench_8 ?_
  refine x_isub hx hb dX9_isBench_9 ?_
  refine vp_callSi (W.runS (As := [.int (zI x), .int (zI 0), .int (zI ((S 0 0) - 1))]) (rest := []) ⟨hx, hb, hml, hown, htg⟩ (m_in l dg ck x 0 ((S 0 0) - 1) (by omega) (by omega) (by omega)) (cwS 3 htg (gwS wq_1646 wq_1647 wq_15 wq_1648) rfl rfl rfl (by decide +kernel) ⟨Nat.le_of_ble_eq_true rfl, Nat.le_of_ble_eq_true rfl⟩) (rd_preS hK va_P_nil) rfl rfl hl.1 rfl (lv_room (Nat.le_of_ble_eq_true rfl)) dX9_isBench_10 ⟨Nat.zero_le _, Nat.zero_le _⟩) (fun r10 hr10 => ?_)
  subst hr10
  exact W.zret (v := _) hx hb hr (by first | rfl | exact nar_b _) (fun t9 ht9 hW9 => ⟨_, rfl, (congrArg zI (bI_c (by omega))), ht9⟩) (fun _ h => by cases h) dX9_isBench_13

set_option maxHeartbeats 4000000 in
set_option maxRecDepth 100000 in
/-- BenchBrokerModel.isFountain -/
theorem m_isFountain (l : Launch) (dg : va_G) (ck : Nat → ClassId) (mo : Nat → Nat) (S : St) (F1 F2 F3 F4 : Int → Int) (M : St) (x : Int) (hI : Bd S) (rg_x : -2147483648 ≤ x ∧ x < 2147483648) : Met l yX9_isFountain (.code yX9_isFountain cX9_isFountain 2 (some .boolean) :: GW) ({ frames := 1, cells := 0, slots := 0, locals := 22 }) (va_Pc [.ref (mo 0), .int (zI x)] (rdP dg ck (modelC ck mo (encZ S) F1 F2 F3 F4 M))) (vp_Si (fun r => r = zI (bI (isFount S x)))) 0 0 (fun _ => False) := by
  refine Met.ofW (cc := cX9_isFountain) (maxL := 2) (ret := (some .boolean)) (by decide) rfl ?_
  intro p e s m args below meth c s₁ B hml hv
  obtain ⟨rfl, hP, hK⟩ := hv
  have hx := B.exec
  have hb := B.bytes
  have hr := B.returns
  have hts := atoms_spec (ws := .code yX9_isFountain cX9_isFountain 2 (some .boolean) :: GW) B.pre
  have htg : ∀ w ∈ GW, w.before _ s = true := fun w h => hts w (List.mem_cons_of_mem _ h)
  have hown : s.vm.findClass RX9 = some m.cls := findClass_of_methodNamed B.named
  have hlocks := B.notSynchronized
  have hl := lv_entry ([.ref (mo 0), .int (zI x)]) (n := 2) (Nat.le_of_ble_eq_true rfl)
  rw [lg_entry_eq]
  generalize (lg_sl ([.ref (mo 0), .int (zI x)]) ++ List.replicate (2 - (lg_sl ([.ref (mo 0), .int (zI x)])).length) Slot.unset).toArray = ls at hl ⊢
  have hl : lv_has ls 2 [(0, .ref (mo 0)), (1, .int (zI x))] := hl
  obtain ⟨b00, b01, b02, b03, b1, b2, b3, b4, b5, b6, b7, b8, b9, b10, b11, b12⟩ := id hI
  refine lv_iload_n hx hb dX9_isFountain_0 rfl (lv_at hl 1 rfl) ?_
  refine x_iconst hx hb dX9_isFountain_1 ?_
  refine lv_aload_n hx hb dX9_isFountain_2 rfl (lv_at hl 0 rfl) ?_
  refine va_get (D := dg) (ci := 11) (v := .ref (mo 1)) (C := RX9) (T := TX9) (N := 23) hx hb htg inG_X9 hown hK hP 0 rfl rfl 1 (Nat.le_of_ble_eq_true rfl) (htg _ wq_1558) (fun _ h9 => h9) rfl dX9_isFountain_3 ?_
  refine x_iconst hx hb dX9_isFountain_6 ?_
  refine x_iald hx hb hK hP 1 0 (encZ S) rfl rfl (fun _ => rfl) (P := fun _ => True) (fun _ => trivial) (by decide) (by omega) dX9_isFountain_7 (fun _ => ?_)
  refine x_is (show (encZ S) 1 = (S 0 1) from (encV (k := 0) (i := 1) (Or.inl ⟨rfl, by decide, by decide, rfl⟩)).trans (rfl)) ?_
  refine x_iconst hx hb dX9_isFountain_8 ?_
  refine x_isub hx hb dX9_isFountain_9 ?_
  refine vp_callSi (W.runS (As := [.int (zI x), .int (zI 0), .int (zI ((S 0 1) - 1))]) (rest := []) ⟨hx, hb, hml, hown, htg⟩ (m_in l dg ck x 0 ((S 0 1) - 1) (by omega) (by omega) (by omega)) (cwS 3 htg (gwS wq_1646 wq_1647 wq_15 wq_1648) rfl rfl rfl (by decide +kernel) ⟨Nat.le_of_ble_eq_true rfl, Nat.le_of_ble_eq_true rfl⟩) (rd_preS hK va_P_nil) rfl rfl hl.1 rfl (lv_room (Nat.le_of_ble_eq_true rfl)) dX9_isFountain_10 ⟨Nat.zero_le _, Nat.zero_le _⟩) (fun r10 hr10 => ?_)
  subst hr10
  exact W.zret (v := _) hx hb hr (by first | rfl | exact nar_b _) (fun t9 ht9 hW9 => ⟨_, rfl, (congrArg zI (bI_c (by omega))), ht9⟩) (fun _ h => by cases h) dX9_isFountain_13

set_option maxHeartbeats 4000000 in
set_option maxRecDepth 100000 in
/-- BenchBrokerModel.isTenant -/
theorem m_isTenant (l : Launch) (dg : va_G) (ck : Nat → ClassId) (mo : Nat → Nat) (S : St) (F1 F2 F3 F4 : Int → Int) (M : St) (x : Int) (hI : Bd S) (rg_x : -2147483648 ≤ x ∧ x < 2147483648) : Met l yX9_isTenant (.code yX9_isTenant cX9_isTenant 2 (some .boolean) :: GW) ({ frames := 1, cells := 0, slots := 0, locals := 22 }) (va_Pc [.ref (mo 0), .int (zI x)] (rdP dg ck (modelC ck mo (encZ S) F1 F2 F3 F4 M))) (vp_Si (fun r => r = zI (bI (isTen S x)))) 0 0 (fun _ => False) := by
  refine Met.ofW (cc := cX9_isTenant) (maxL := 2) (ret := (some .boolean)) (by decide) rfl ?_
  intro p e s m args below meth c s₁ B hml hv
  obtain ⟨rfl, hP, hK⟩ := hv
  have hx := B.exec
  have hb := B.bytes
  have hr := B.returns
  have hts := atoms_spec (ws := .code yX9_isTenant cX9_isTenant 2 (some .boolean) :: GW) B.pre
  have htg : ∀ w ∈ GW, w.before _ s = true := fun w h => hts w (List.mem_cons_of_mem _ h)
  have hown : s.vm.findClass RX9 = some m.cls := findClass_of_methodNamed B.named
  have hlocks := B.notSynchronized
  have hl := lv_entry ([.ref (mo 0), .int (zI x)]) (n := 2) (Nat.le_of_ble_eq_true rfl)
  rw [lg_entry_eq]
  generalize (lg_sl ([.ref (mo 0), .int (zI x)]) ++ List.replicate (2 - (lg_sl ([.ref (mo 0), .int (zI x)])).length) Slot.unset).toArray = ls at hl ⊢
  have hl : lv_has ls 2 [(0, .ref (mo 0)), (1, .int (zI x))] := hl
  obtain ⟨b00, b01, b02, b03, b1, b2, b3, b4, b5, b6, b7, b8, b9, b10, b11, b12⟩ := id hI
  refine lv_iload_n hx hb dX9_isTenant_0 rfl (lv_at hl 1 rfl) ?_
  refine x_iconst hx hb dX9_isTenant_1 ?_
  refine lv_aload_n hx hb dX9_isTenant_2 rfl (lv_at hl 0 rfl) ?_
  refine va_get (D := dg) (ci := 11) (v := .ref (mo 1)) (C := RX9) (T := TX9) (N := 23) hx hb htg inG_X9 hown hK hP 0 rfl rfl 1 (Nat.le_of_ble_eq_true rfl) (htg _ wq_1558) (fun _ h9 => h9) rfl dX9_isTenant_3 ?_
  refine x_iconst hx hb dX9_isTenant_6 ?_
  refine x_iald hx hb hK hP 1 0 (encZ S) rfl rfl (fun _ => rfl) (P := fun _ => True) (fun _ => trivial) (by decide) (by omega) dX9_isTenant_7 (fun _ => ?_)
  refine x_is (show (encZ S) 2 = (S 0 2) from (encV (k := 0) (i := 2) (Or.inl ⟨rfl, by decide, by decide, rfl⟩)).trans (rfl)) ?_
  refine x_iconst hx hb dX9_isTenant_8 ?_
  refine x_isub hx hb dX9_isTenant_9 ?_
  refine vp_callSi (W.runS (As := [.int (zI x), .int (zI 0), .int (zI ((S 0 2) - 1))]) (rest := []) ⟨hx, hb, hml, hown, htg⟩ (m_in l dg ck x 0 ((S 0 2) - 1) (by omega) (by omega) (by omega)) (cwS 3 htg (gwS wq_1646 wq_1647 wq_15 wq_1648) rfl rfl rfl (by decide +kernel) ⟨Nat.le_of_ble_eq_true rfl, Nat.le_of_ble_eq_true rfl⟩) (rd_preS hK va_P_nil) rfl rfl hl.1 rfl (lv_room (Nat.le_of_ble_eq_true rfl)) dX9_isTenant_10 ⟨Nat.zero_le _, Nat.zero_le _⟩) (fun r10 hr10 => ?_)
  subst hr10
  exact W.zret (v := _) hx hb hr (by first | rfl | exact nar_b _) (fun t9 ht9 hW9 => ⟨_, rfl, (congrArg zI (bI_c (by omega))), ht9⟩) (fun _ h => by cases h) dX9_isTenant_13

set_option maxHeartbeats 4000000 in
set_option maxRecDepth 100000 in
/-- BenchBrokerModel.by -/
theorem m_by (l : Launch) (dg : va_G) (ck : Nat → ClassId) (mo : Nat → Nat) (S : St) (F1 F2 F3 F4 : Int → Int) (M : St) (b : Int) (hb0 : 0 ≤ b ∧ b < 10) : Met l yX9_by (.code yX9_by cX9_by 2 (some .int) :: GW) ({ frames := 1, cells := 0, slots := 0, locals := 22 }) (va_Pc [.ref (mo 0), .int (zI b)] (rdP dg ck (modelC ck mo (encZ S) F1 F2 F3 F4 M))) (vp_Si (fun r => r = zI (S 4 b - 1))) 0 0 (fun _ => False) := by
  refine Met.ofW (cc := cX9_by) (maxL := 2) (ret := (some .int)) (by decide) rfl ?_
  intro p e s m args below meth c s₁ B hml hv
  obtain ⟨rfl, hP, hK⟩ := hv
  have hx := B.exec
  have hb := B.bytes
  have hr := B.returns
  have hts := atoms_spec (ws := .code yX9_by cX9_by 2 (some .int) :: GW) B.pre
  have htg : ∀ w ∈ GW, w.before _ s = true := fun w h => hts w (List.mem_cons_of_mem _ h)
  have hown : s.vm.findClass RX9 = some m.cls := findClass_of_methodNamed B.named
  have hlocks := B.notSynchronized
  have hl := lv_entry ([.ref (mo 0), .int (zI b)]) (n := 2) (Nat.le_of_ble_eq_true rfl)
  rw [lg_entry_eq]
  generalize (lg_sl ([.ref (mo 0), .int (zI b)]) ++ List.replicate (2 - (lg_sl ([.ref (mo 0), .int (zI b)])).length) Slot.unset).toArray = ls at hl ⊢
  have hl : lv_has ls 2 [(0, .ref (mo 0)), (1, .int (zI b))] := hl
  refine lv_aload_n hx hb dX9_by_0 rfl (lv_at hl 0 rfl) ?_
  refine lv_iload_n hx hb dX9_by_1 rfl (lv_at hl 1 rfl) ?_
  refine x_iconst hx hb dX9_by_2 ?_
  refine vp_callSi (W.runV (As := [.int (zI b), .int (zI 3)]) (rest := []) ⟨hx, hb, hml, hown, htg⟩ (m_bench l dg ck mo S F1 F2 F3 F4 M b 3 (by omega) (by decide)) (cwV 2 htg (gwV wq_1657 wq_1659 wp_35 wq_15 wq_1660) rfl rfl rfl (by decide +kernel) ⟨Nat.le_of_ble_eq_true rfl, Nat.le_of_ble_eq_true rfl⟩) (rd_preV hK hP 0 11 rfl rfl) rfl rfl hl.1 rfl (lv_room (Nat.le_of_ble_eq_true rfl)) dX9_by_3 ⟨Nat.zero_le _, Nat.zero_le _⟩) (fun r3 hr3 => ?_)
  subst hr3
  refine x_is (show (S (1 + Int.toNat 3) b) = (S 4 b) from rfl) ?_
  refine x_iconst hx hb dX9_by_6 ?_
  refine x_isub hx hb dX9_by_7 ?_
  exact W.iret (v := _) hx hb hr (fun t9 ht9 hW9 => ⟨_, rfl, rfl, ht9⟩) (fun _ h => by cases h) dX9_by_8

set_option maxHeartbeats 4000000 in
set_option maxRecDepth 100000 in
/-- BenchBrokerModel.benchBy -/
theorem m_benchBy (l : Launch) (dg : va_G) (ck : Nat → ClassId) (mo : Nat → Nat) (S : St) (F1 F2 F3 F4 : Int → Int) (M : St) (t : Int) (hI : Bd S) (rg_t : -2147483648 ≤ t ∧ t < 2147483648) : Met l yX9_benchBy (.code yX9_benchBy cX9_benchBy 3 (some .int) :: GW) ({ frames := 2, cells := 0, slots := 0, locals := 43 }) (va_Pc [.ref (mo 0), .int (zI t)] (rdP dg ck (modelC ck mo (encZ S) F1 F2 F3 F4 M))) (vp_Si (fun r => r = zI (lb S t))) 0 0 (fun _ => False) := by
  refine Met.ofW (cc := cX9_benchBy) (maxL := 3) (ret := (some .int)) (by decide) rfl ?_
  intro p e s m args below meth c s₁ B hml hv
  obtain ⟨rfl, hP, hK⟩ := hv
  have hx := B.exec
  have hb := B.bytes
  have hr := B.returns
  have hts := atoms_spec (ws := .code yX9_benchBy cX9_benchBy 3 (some .int) :: GW) B.pre
  have htg : ∀ w ∈ GW, w.before _ s = true := fun w h => hts w (List.mem_cons_of_mem _ h)
  have hown : s.vm.findClass RX9 = some m.cls := findClass_of_methodNamed B.named
  have hlocks := B.notSynchronized
  have hl := lv_entry ([.ref (mo 0), .int (zI t)]) (n := 3) (Nat.le_of_ble_eq_true rfl)
  rw [lg_entry_eq]
  generalize (lg_sl ([.ref (mo 0), .int (zI t)]) ++ List.replicate (3 - (lg_sl ([.ref (mo 0), .int (zI t)])).length) Slot.unset).toArray = ls at hl ⊢
  have hl : lv_has ls 3 [(0, .ref (mo 0)), (1, .int (zI t))] := hl
  obtain ⟨b00, b01, b02, b03, b1, b2, b3, b4, b5, b6, b7, b8, b9, b10, b11, b12⟩ := id hI
  refine x_iconst hx hb dX9_benchBy_0 ?_
  refine lv_istore_n (lv' := [(2, .int (zI 0)), (0, .ref (mo 0)), (1, .int (zI t))]) hx hb dX9_benchBy_1 rfl hl (by decide) rfl (fun ls hl => ?_)
  refine x_loop (ι := Int) (fun v => (0 ≤ v ∧ v ≤ S 0 0) ∧ lb S t = scan (fun j => S 4 j - 1 = t) (S 0 0 - v).toNat v) (fun v => (S 0 0 - v).toNat) (fun v => [(0, .ref (mo 0)), (1, .int (zI t)), (2, .int (zI v))]) (0) (show (0 ≤ (0 : Int) ∧ (0 : Int) ≤ S 0 0) ∧ lb S t = scan (fun j => S 4 j - 1 = t) (S 0 0 - (0 : Int)).toNat (0 : Int) from ⟨by omega, rfl⟩) (lv_sub hl [1, 2, 0] rfl) ?_
  intro v hv ih_2 ls hl
  obtain ⟨i, rfl⟩ : ∃ z : Int, z = v := ⟨_, rfl⟩
  have hl : lv_has ls 3 [(0, .ref (mo 0)), (1, .int (zI t)), (2, .int (zI i))] := hl
  have hv : (0 ≤ i ∧ i ≤ S 0 0) ∧ lb S t = scan (fun j => S 4 j - 1 = t) (S 0 0 - i).toNat i := hv
  obtain ⟨hi, hB⟩ := hv
  refine lv_iload_n hx hb dX9_benchBy_2 rfl (lv_at hl 2 rfl) ?_
  refine lv_aload_n hx hb dX9_benchBy_3 rfl (lv_at hl 0 rfl) ?_
  refine va_get (D := dg) (ci := 11) (v := .ref (mo 1)) (C := RX9) (T := TX9) (N := 23) hx hb htg inG_X9 hown hK hP 0 rfl rfl 1 (Nat.le_of_ble_eq_true rfl) (htg _ wq_1558) (fun _ h9 => h9) rfl dX9_benchBy_4 ?_
  refine x_iconst hx hb dX9_benchBy_7 ?_
  refine x_iald hx hb hK hP 1 0 (encZ S) rfl rfl (fun _ => rfl) (P := fun _ => True) (fun _ => trivial) (by decide) (by omega) dX9_benchBy_8 (fun _ => ?_)
  refine x_is (show (encZ S) 0 = (S 0 0) from (encV (k := 0) (i := 0) (Or.inl ⟨rfl, by decide, by decide, rfl⟩)).trans (rfl)) ?_
  refine x_icmp_ge (tgt := 29) hx hb dX9_benchBy_9 (by decide) (by omega) (by omega) (fun c9 => ?_) (fun c9 => ?_)
  · refine x_iconst hx hb dX9_benchBy_29 ?_
    exact W.iret (v := _) hx hb hr (fun t9 ht9 hW9 => ⟨_, rfl, (congrArg zI (by rw [hB]; exact (scan_e (by omega)).symm)), ht9⟩) (fun _ h => by cases h) dX9_benchBy_30
  · refine lv_aload_n hx hb dX9_benchBy_12 rfl (lv_at hl 0 rfl) ?_
    refine lv_iload_n hx hb dX9_benchBy_13 rfl (lv_at hl 2 rfl) ?_
    refine vp_callSi (W.runV (As := [.int (zI i)]) (rest := []) ⟨hx, hb, hml, hown, htg⟩ (m_by l dg ck mo S F1 F2 F3 F4 M i (by omega)) (cwV 1 htg (gwV wq_1853 wq_1855 wp_59 wq_15 wq_1856) rfl rfl rfl (by decide +kernel) ⟨Nat.le_of_ble_eq_true rfl, Nat.le_of_ble_eq_true rfl⟩) (rd_preV hK hP 0 11 rfl rfl) rfl rfl hl.1 rfl (lv_room (Nat.le_of_ble_eq_true rfl)) dX9_benchBy_14 ⟨Nat.zero_le _, Nat.zero_le _⟩) (fun r14 hr14 => ?_)
    subst hr14
    have q14 := b4 i
    refine x_is (show (S 4 i - 1) = ((S 4 i) - 1) from rfl) ?_
    refine lv_iload_n hx hb dX9_benchBy_17 rfl (lv_at hl 1 rfl) ?_
    refine x_icmp_ne (tgt := 23) hx hb dX9_benchBy_18 (by decide) (by omega) (by omega) (fun c18 => ?_) (fun c18 => ?_)
    · obtain ⟨v23, e_v23⟩ : ∃ y : Int, y = i + 1 := ⟨_, rfl⟩
      refine lv_iinc (v := zI v23) (lv' := [(2, .int (zI v23)), (0, .ref (mo 0)), (1, .int (zI t))]) hx hb dX9_benchBy_23 hl (k := 2) rfl (by rw [e_v23]; exact zI_add _ _) (by decide) rfl (fun ls hl => ?_)
      refine lv_goto (tgt := 2) hx hb dX9_benchBy_26 (by decide) ?_
      exact ih_2 (v23) (show (0 ≤ v23 ∧ v23 ≤ S 0 0) ∧ lb S t = scan (fun j => S 4 j - 1 = t) (S 0 0 - v23).toNat v23 from ⟨by omega, by rw [hB, scan_s (by omega), if_neg (by omega), e_v23]⟩) (show (S 0 0 - v23).toNat < (S 0 0 - i).toNat from by omega) ls (lv_sub hl [1, 2, 0] rfl)
    · refine lv_iload_n hx hb dX9_benchBy_21 rfl (lv_at hl 2 rfl) ?_
      exact W.iret (v := _) hx hb hr (fun t9 ht9 hW9 => ⟨_, rfl, (congrArg zI (by rw [hB, scan_s (by omega), if_pos (by omega)])), ht9⟩) (fun _ h => by cases h) dX9_benchBy_22

set_option maxHeartbeats 4000000 in
set_option maxRecDepth 100000 in
/-- BenchBrokerModel.holder -/
theorem m_holder (l : Launch) (dg : va_G) (ck : Nat → ClassId) (mo : Nat → Nat) (S : St) (F1 F2 F3 F4 : Int → Int) (M : St) (x y : Int) (hI : Bd S) (rg_x : -2147483648 ≤ x ∧ x < 2147483648) (rg_y : -2147483648 ≤ y ∧ y < 2147483648) : Met l yX9_holder (.code yX9_holder cX9_holder 4 (some .int) :: GW) ({ frames := 1, cells := 0, slots := 0, locals := 22 }) (va_Pc [.ref (mo 0), .int (zI x), .int (zI y)] (rdP dg ck (modelC ck mo (encZ S) F1 F2 F3 F4 M))) (vp_Si (fun r => r = zI (holder S x y))) 0 0 (fun _ => False) := by
  refine Met.ofW (cc := cX9_holder) (maxL := 4) (ret := (some .int)) (by decide) rfl ?_
  intro p e s m args below meth c s₁ B hml hv
  obtain ⟨rfl, hP, hK⟩ := hv
  have hx := B.exec
  have hb := B.bytes
  have hr := B.returns
  have hts := atoms_spec (ws := .code yX9_holder cX9_holder 4 (some .int) :: GW) B.pre
  have htg : ∀ w ∈ GW, w.before _ s = true := fun w h => hts w (List.mem_cons_of_mem _ h)
  have hown : s.vm.findClass RX9 = some m.cls := findClass_of_methodNamed B.named
  have hlocks := B.notSynchronized
  have hl := lv_entry ([.ref (mo 0), .int (zI x), .int (zI y)]) (n := 4) (Nat.le_of_ble_eq_true rfl)
  rw [lg_entry_eq]
  generalize (lg_sl ([.ref (mo 0), .int (zI x), .int (zI y)]) ++ List.replicate (4 - (lg_sl ([.ref (mo 0), .int (zI x), .int (zI y)])).length) Slot.unset).toArray = ls at hl ⊢
  have hl : lv_has ls 4 [(0, .ref (mo 0)), (1, .int (zI x)), (2, .int (zI y))] := hl
  obtain ⟨b00, b01, b02, b03, b1, b2, b3, b4, b5, b6, b7, b8, b9, b10, b11, b12⟩ := id hI
  refine x_iconst hx hb dX9_holder_0 ?_
  refine lv_istore_n (lv' := [(3, .int (zI 0)), (0, .ref (mo 0)), (1, .int (zI x)), (2, .int (zI y))]) hx hb dX9_holder_1 rfl hl (by decide) rfl (fun ls hl => ?_)
  refine x_loop (ι := Int) (fun v => (0 ≤ v ∧ v ≤ S 0 0) ∧ hBench S x y = scan (fun j => S 1 j = x ∧ S 2 j = y) (S 0 0 - v).toNat v) (fun v => (S 0 0 - v).toNat) (fun v => [(0, .ref (mo 0)), (1, .int (zI x)), (2, .int (zI y)), (3, .int (zI v))]) (0) (show (0 ≤ (0 : Int) ∧ (0 : Int) ≤ S 0 0) ∧ hBench S x y = scan (fun j => S 1 j = x ∧ S 2 j = y) (S 0 0 - (0 : Int)).toNat (0 : Int) from ⟨by omega, rfl⟩) (lv_sub hl [1, 2, 3, 0] rfl) ?_
  intro v hv ih_2 ls hl
  obtain ⟨i, rfl⟩ : ∃ z : Int, z = v := ⟨_, rfl⟩
  have hl : lv_has ls 4 [(0, .ref (mo 0)), (1, .int (zI x)), (2, .int (zI y)), (3, .int (zI i))] := hl
  have hv : (0 ≤ i ∧ i ≤ S 0 0) ∧ hBench S x y = scan (fun j => S 1 j = x ∧ S 2 j = y) (S 0 0 - i).toNat i := hv
  obtain ⟨hi, hB⟩ := hv
  refine lv_iload_n hx hb dX9_holder_2 rfl (lv_at hl 3 rfl) ?_
  refine lv_aload_n hx hb dX9_holder_3 rfl (lv_at hl 0 rfl) ?_
  refine va_get (D := dg) (ci := 11) (v := .ref (mo 1)) (C := RX9) (T := TX9) (N := 23) hx hb htg inG_X9 hown hK hP 0 rfl rfl 1 (Nat.le_of_ble_eq_true rfl) (htg _ wq_1558) (fun _ h9 => h9) rfl dX9_holder_4 ?_
  refine x_iconst hx hb dX9_holder_7 ?_
  refine x_iald hx hb hK hP 1 0 (encZ S) rfl rfl (fun _ => rfl) (P := fun _ => True) (fun _ => trivial) (by decide) (by omega) dX9_holder_8 (fun _ => ?_)
  refine x_is (show (encZ S) 0 = (S 0 0) from (encV (k := 0) (i := 0) (Or.inl ⟨rfl, by decide, by decide, rfl⟩)).trans (rfl)) ?_
  refine x_icmp_ge (tgt := 40) hx hb dX9_holder_9 (by decide) (by omega) (by omega) (fun c9 => ?_) (fun c9 => ?_)
  · have hBm : hBench S x y = -1 := by rw [hB]; exact scan_e (by omega)
    refine x_iconst hx hb dX9_holder_40 ?_
    refine lv_istore_n (lv' := [(3, .int (zI 0)), (0, .ref (mo 0)), (1, .int (zI x)), (2, .int (zI y))]) hx hb dX9_holder_41 rfl hl (by decide) rfl (fun ls hl => ?_)
    refine x_loop (ι := Int) (fun v => (0 ≤ v ∧ v ≤ S 0 1) ∧ hFount S x y = scan (fun j => S 7 j = x ∧ S 8 j = y) (S 0 1 - v).toNat v) (fun v => (S 0 1 - v).toNat) (fun v => [(0, .ref (mo 0)), (1, .int (zI x)), (2, .int (zI y)), (3, .int (zI v))]) (0) (show (0 ≤ (0 : Int) ∧ (0 : Int) ≤ S 0 1) ∧ hFount S x y = scan (fun j => S 7 j = x ∧ S 8 j = y) (S 0 1 - (0 : Int)).toNat (0 : Int) from ⟨by omega, rfl⟩) (lv_sub hl [1, 2, 3, 0] rfl) ?_
    intro v hv ih_42 ls hl
    obtain ⟨i, rfl⟩ : ∃ z : Int, z = v := ⟨_, rfl⟩
    have hl : lv_has ls 4 [(0, .ref (mo 0)), (1, .int (zI x)), (2, .int (zI y)), (3, .int (zI i))] := hl
    have hv : (0 ≤ i ∧ i ≤ S 0 1) ∧ hFount S x y = scan (fun j => S 7 j = x ∧ S 8 j = y) (S 0 1 - i).toNat i := hv
    obtain ⟨hi2, hF⟩ := hv
    refine lv_iload_n hx hb dX9_holder_42 rfl (lv_at hl 3 rfl) ?_
    refine lv_aload_n hx hb dX9_holder_43 rfl (lv_at hl 0 rfl) ?_
    refine va_get (D := dg) (ci := 11) (v := .ref (mo 1)) (C := RX9) (T := TX9) (N := 23) hx hb htg inG_X9 hown hK hP 0 rfl rfl 1 (Nat.le_of_ble_eq_true rfl) (htg _ wq_1558) (fun _ h9 => h9) rfl dX9_holder_44 ?_
    refine x_iconst hx hb dX9_holder_47 ?_
    refine x_iald hx hb hK hP 1 0 (encZ S) rfl rfl (fun _ => rfl) (P := fun _ => True) (fun _ => trivial) (by decide) (by omega) dX9_holder_48 (fun _ => ?_)
    refine x_is (show (encZ S) 1 = (S 0 1) from (encV (k := 0) (i := 1) (Or.inl ⟨rfl, by decide, by decide, rfl⟩)).trans (rfl)) ?_
    refine x_icmp_ge (tgt := 83) hx hb dX9_holder_49 (by decide) (by omega) (by omega) (fun c49 => ?_) (fun c49 => ?_)
    · refine x_iconst hx hb dX9_holder_83 ?_
      exact W.iret (v := _) hx hb hr (fun t9 ht9 hW9 => ⟨_, rfl, (congrArg zI (by first | (have h1 : hBench S x y = i := (by rw [hB, scan_s (by omega), if_pos (by omega)]); unfold holder; rw [h1, if_pos (by omega)]) | (have h1 : hFount S x y = i := (by rw [hF, scan_s (by omega), if_pos (by omega)]); unfold holder; rw [hBm, h1, if_neg (by omega), if_pos (by omega)]) | (have h1 : hFount S x y = -1 := (by rw [hF]; exact scan_e (by omega)); unfold holder; rw [hBm, h1, if_neg (by omega), if_neg (by omega)]))), ht9⟩) (fun _ h => by cases h) dX9_holder_84
    · refine lv_aload_n hx hb dX9_holder_52 rfl (lv_at hl 0 rfl) ?_
      refine lv_iload_n hx hb dX9_holder_53 rfl (lv_at hl 3 rfl) ?_
      refine x_iconst hx hb dX9_holder_54 ?_
      refine vp_callSi (W.runV (As := [.int (zI i), .int (zI 0)]) (rest := []) ⟨hx, hb, hml, hown, htg⟩ (m_fountain l dg ck mo S F1 F2 F3 F4 M i 0 (by omega) (by decide)) (cwV 2 htg (gwV wq_1661 wq_1663 wp_36 wq_15 wq_1664) rfl rfl rfl (by decide +kernel) ⟨Nat.le_of_ble_eq_true rfl, Nat.le_of_ble_eq_true rfl⟩) (rd_preV hK hP 0 11 rfl rfl) rfl rfl hl.1 rfl (lv_room (Nat.le_of_ble_eq_true rfl)) dX9_holder_55 ⟨Nat.zero_le _, Nat.zero_le _⟩) (fun r55 hr55 => ?_)
      subst hr55
      have q55 := b7 i
      refine x_is (show (S (7 + Int.toNat 0) i) = (S 7 i) from rfl) ?_
      refine lv_iload_n hx hb dX9_holder_58 rfl (lv_at hl 1 rfl) ?_
      refine x_icmp_ne (tgt := 77) hx hb dX9_holder_59 (by decide) (by omega) (by omega) (fun c59 => ?_) (fun c59 => ?_)
      · obtain ⟨v77, e_v77⟩ : ∃ y : Int, y = i + 1 := ⟨_, rfl⟩
        refine lv_iinc (v := zI v77) (lv' := [(3, .int (zI v77)), (0, .ref (mo 0)), (1, .int (zI x)), (2, .int (zI y))]) hx hb dX9_holder_77 hl (k := 3) rfl (by rw [e_v77]; exact zI_add _ _) (by decide) rfl (fun ls hl => ?_)
        refine lv_goto (tgt := 42) hx hb dX9_holder_80 (by decide) ?_
        exact ih_42 (v77) (show (0 ≤ v77 ∧ v77 ≤ S 0 1) ∧ hFount S x y = scan (fun j => S 7 j = x ∧ S 8 j = y) (S 0 1 - v77).toNat v77 from ⟨by omega, by rw [hF, scan_s (by omega), if_neg (by omega), e_v77]⟩) (show (S 0 1 - v77).toNat < (S 0 1 - i).toNat from by omega) ls (lv_sub hl [1, 2, 3, 0] rfl)
      · refine lv_aload_n hx hb dX9_holder_62 rfl (lv_at hl 0 rfl) ?_
        refine lv_iload_n hx hb dX9_holder_63 rfl (lv_at hl 3 rfl) ?_
        refine x_iconst hx hb dX9_holder_64 ?_
        refine vp_callSi (W.runV (As := [.int (zI i), .int (zI 1)]) (rest := []) ⟨hx, hb, hml, hown, htg⟩ (m_fountain l dg ck mo S F1 F2 F3 F4 M i 1 (by omega) (by decide)) (cwV 2 htg (gwV wq_1661 wq_1663 wp_36 wq_15 wq_1664) rfl rfl rfl (by decide +kernel) ⟨Nat.le_of_ble_eq_true rfl, Nat.le_of_ble_eq_true rfl⟩) (rd_preV hK hP 0 11 rfl rfl) rfl rfl hl.1 rfl (lv_room (Nat.le_of_ble_eq_true rfl)) dX9_holder_65 ⟨Nat.zero_le _, Nat.zero_le _⟩) (fun r65 hr65 => ?_)
        subst hr65
        have q65 := b8 i
        refine x_is (show (S (7 + Int.toNat 1) i) = (S 8 i) from rfl) ?_
        refine lv_iload_n hx hb dX9_holder_68 rfl (lv_at hl 2 rfl) ?_
        refine x_icmp_ne (tgt := 77) hx hb dX9_holder_69 (by decide) (by omega) (by omega) (fun c69 => ?_) (fun c69 => ?_)
        · obtain ⟨v77, e_v77⟩ : ∃ y : Int, y = i + 1 := ⟨_, rfl⟩
          refine lv_iinc (v := zI v77) (lv' := [(3, .int (zI v77)), (0, .ref (mo 0)), (1, .int (zI x)), (2, .int (zI y))]) hx hb dX9_holder_77 hl (k := 3) rfl (by rw [e_v77]; exact zI_add _ _) (by decide) rfl (fun ls hl => ?_)
          refine lv_goto (tgt := 42) hx hb dX9_holder_80 (by decide) ?_
          exact ih_42 (v77) (show (0 ≤ v77 ∧ v77 ≤ S 0 1) ∧ hFount S x y = scan (fun j => S 7 j = x ∧ S 8 j = y) (S 0 1 - v77).toNat v77 from ⟨by omega, by rw [hF, scan_s (by omega), if_neg (by omega), e_v77]⟩) (show (S 0 1 - v77).toNat < (S 0 1 - i).toNat from by omega) ls (lv_sub hl [1, 2, 3, 0] rfl)
        · refine x_bipush hx hb dX9_holder_72 (by decide) ?_
          refine lv_iload_n hx hb dX9_holder_74 rfl (lv_at hl 3 rfl) ?_
          refine x_iadd hx hb dX9_holder_75 ?_
          exact W.iret (v := _) hx hb hr (fun t9 ht9 hW9 => ⟨_, rfl, (congrArg zI (by first | (have h1 : hBench S x y = i := (by rw [hB, scan_s (by omega), if_pos (by omega)]); unfold holder; rw [h1, if_pos (by omega)]) | (have h1 : hFount S x y = i := (by rw [hF, scan_s (by omega), if_pos (by omega)]); unfold holder; rw [hBm, h1, if_neg (by omega), if_pos (by omega)]) | (have h1 : hFount S x y = -1 := (by rw [hF]; exact scan_e (by omega)); unfold holder; rw [hBm, h1, if_neg (by omega), if_neg (by omega)]))), ht9⟩) (fun _ h => by cases h) dX9_holder_76
  · refine lv_aload_n hx hb dX9_holder_12 rfl (lv_at hl 0 rfl) ?_
    refine lv_iload_n hx hb dX9_holder_13 rfl (lv_at hl 3 rfl) ?_
    refine x_iconst hx hb dX9_holder_14 ?_
    refine vp_callSi (W.runV (As := [.int (zI i), .int (zI 0)]) (rest := []) ⟨hx, hb, hml, hown, htg⟩ (m_bench l dg ck mo S F1 F2 F3 F4 M i 0 (by omega) (by decide)) (cwV 2 htg (gwV wq_1657 wq_1659 wp_35 wq_15 wq_1660) rfl rfl rfl (by decide +kernel) ⟨Nat.le_of_ble_eq_true rfl, Nat.le_of_ble_eq_true rfl⟩) (rd_preV hK hP 0 11 rfl rfl) rfl rfl hl.1 rfl (lv_room (Nat.le_of_ble_eq_true rfl)) dX9_holder_15 ⟨Nat.zero_le _, Nat.zero_le _⟩) (fun r15 hr15 => ?_)
    subst hr15
    have q15 := b1 i
    refine x_is (show (S (1 + Int.toNat 0) i) = (S 1 i) from rfl) ?_
    refine lv_iload_n hx hb dX9_holder_18 rfl (lv_at hl 1 rfl) ?_
    refine x_icmp_ne (tgt := 34) hx hb dX9_holder_19 (by decide) (by omega) (by omega) (fun c19 => ?_) (fun c19 => ?_)
    · obtain ⟨v34, e_v34⟩ : ∃ y : Int, y = i + 1 := ⟨_, rfl⟩
      refine lv_iinc (v := zI v34) (lv' := [(3, .int (zI v34)), (0, .ref (mo 0)), (1, .int (zI x)), (2, .int (zI y))]) hx hb dX9_holder_34 hl (k := 3) rfl (by rw [e_v34]; exact zI_add _ _) (by decide) rfl (fun ls hl => ?_)
      refine lv_goto (tgt := 2) hx hb dX9_holder_37 (by decide) ?_
      exact ih_2 (v34) (show (0 ≤ v34 ∧ v34 ≤ S 0 0) ∧ hBench S x y = scan (fun j => S 1 j = x ∧ S 2 j = y) (S 0 0 - v34).toNat v34 from ⟨by omega, by rw [hB, scan_s (by omega), if_neg (by omega), e_v34]⟩) (show (S 0 0 - v34).toNat < (S 0 0 - i).toNat from by omega) ls (lv_sub hl [1, 2, 3, 0] rfl)
    · refine lv_aload_n hx hb dX9_holder_22 rfl (lv_at hl 0 rfl) ?_
      refine lv_iload_n hx hb dX9_holder_23 rfl (lv_at hl 3 rfl) ?_
      refine x_iconst hx hb dX9_holder_24 ?_
      refine vp_callSi (W.runV (As := [.int (zI i), .int (zI 1)]) (rest := []) ⟨hx, hb, hml, hown, htg⟩ (m_bench l dg ck mo S F1 F2 F3 F4 M i 1 (by omega) (by decide)) (cwV 2 htg (gwV wq_1657 wq_1659 wp_35 wq_15 wq_1660) rfl rfl rfl (by decide +kernel) ⟨Nat.le_of_ble_eq_true rfl, Nat.le_of_ble_eq_true rfl⟩) (rd_preV hK hP 0 11 rfl rfl) rfl rfl hl.1 rfl (lv_room (Nat.le_of_ble_eq_true rfl)) dX9_holder_25 ⟨Nat.zero_le _, Nat.zero_le _⟩) (fun r25 hr25 => ?_)
      subst hr25
      have q25 := b2 i
      refine x_is (show (S (1 + Int.toNat 1) i) = (S 2 i) from rfl) ?_
      refine lv_iload_n hx hb dX9_holder_28 rfl (lv_at hl 2 rfl) ?_
      refine x_icmp_ne (tgt := 34) hx hb dX9_holder_29 (by decide) (by omega) (by omega) (fun c29 => ?_) (fun c29 => ?_)
      · obtain ⟨v34, e_v34⟩ : ∃ y : Int, y = i + 1 := ⟨_, rfl⟩
        refine lv_iinc (v := zI v34) (lv' := [(3, .int (zI v34)), (0, .ref (mo 0)), (1, .int (zI x)), (2, .int (zI y))]) hx hb dX9_holder_34 hl (k := 3) rfl (by rw [e_v34]; exact zI_add _ _) (by decide) rfl (fun ls hl => ?_)
        refine lv_goto (tgt := 2) hx hb dX9_holder_37 (by decide) ?_
        exact ih_2 (v34) (show (0 ≤ v34 ∧ v34 ≤ S 0 0) ∧ hBench S x y = scan (fun j => S 1 j = x ∧ S 2 j = y) (S 0 0 - v34).toNat v34 from ⟨by omega, by rw [hB, scan_s (by omega), if_neg (by omega), e_v34]⟩) (show (S 0 0 - v34).toNat < (S 0 0 - i).toNat from by omega) ls (lv_sub hl [1, 2, 3, 0] rfl)
      · refine lv_iload_n hx hb dX9_holder_32 rfl (lv_at hl 3 rfl) ?_
        exact W.iret (v := _) hx hb hr (fun t9 ht9 hW9 => ⟨_, rfl, (congrArg zI (by first | (have h1 : hBench S x y = i := (by rw [hB, scan_s (by omega), if_pos (by omega)]); unfold holder; rw [h1, if_pos (by omega)]) | (have h1 : hFount S x y = i := (by rw [hF, scan_s (by omega), if_pos (by omega)]); unfold holder; rw [hBm, h1, if_neg (by omega), if_pos (by omega)]) | (have h1 : hFount S x y = -1 := (by rw [hF]; exact scan_e (by omega)); unfold holder; rw [hBm, h1, if_neg (by omega), if_neg (by omega)]))), ht9⟩) (fun _ h => by cases h) dX9_holder_33

set_option maxHeartbeats 4000000 in
set_option maxRecDepth 100000 in
/-- BenchBrokerModel.noise -/
theorem m_noise (l : Launch) (dg : va_G) (ck : Nat → ClassId) (mo : Nat → Nat) (S : St) (F1 F2 F3 F4 : Int → Int) (M : St) (x y : Int) (hI : Bd S) (hx : 0 ≤ x ∧ x ≤ 5) (hy : 0 ≤ y ∧ y ≤ 5) : Met l yX9_noise (.code yX9_noise cX9_noise 7 (some .int) :: GW) ({ frames := 1, cells := 0, slots := 0, locals := 22 }) (va_Pc [.ref (mo 0), .int (zI x), .int (zI y)] (rdP dg ck (modelC ck mo (encZ S) F1 F2 F3 F4 M))) (vp_Si (fun r => r = zI (noise S x y))) 0 0 (fun _ => False) := by
  refine Met.ofW (cc := cX9_noise) (maxL := 7) (ret := (some .int)) (by decide) rfl ?_
  intro p e s m args below meth c s₁ B hml hv
  obtain ⟨rfl, hP, hK⟩ := hv
  have hx := B.exec
  have hb := B.bytes
  have hr := B.returns
  have hts := atoms_spec (ws := .code yX9_noise cX9_noise 7 (some .int) :: GW) B.pre
  have htg : ∀ w ∈ GW, w.before _ s = true := fun w h => hts w (List.mem_cons_of_mem _ h)
  have hown : s.vm.findClass RX9 = some m.cls := findClass_of_methodNamed B.named
  have hlocks := B.notSynchronized
  have hl := lv_entry ([.ref (mo 0), .int (zI x), .int (zI y)]) (n := 7) (Nat.le_of_ble_eq_true rfl)
  rw [lg_entry_eq]
  generalize (lg_sl ([.ref (mo 0), .int (zI x), .int (zI y)]) ++ List.replicate (7 - (lg_sl ([.ref (mo 0), .int (zI x), .int (zI y)])).length) Slot.unset).toArray = ls at hl ⊢
  have hl : lv_has ls 7 [(0, .ref (mo 0)), (1, .int (zI x)), (2, .int (zI y))] := hl
  obtain ⟨b00, b01, b02, b03, b1, b2, b3, b4, b5, b6, b7, b8, b9, b10, b11, b12⟩ := id hI
  refine x_iconst hx hb dX9_noise_0 ?_
  refine lv_istore_n (lv' := [(3, .int (zI 0)), (0, .ref (mo 0)), (1, .int (zI x)), (2, .int (zI y))]) hx hb dX9_noise_1 rfl hl (by decide) rfl (fun ls hl => ?_)
  refine x_iconst hx hb dX9_noise_2 ?_
  refine lv_istore (lv' := [(4, .int (zI 0)), (3, .int (zI 0)), (0, .ref (mo 0)), (1, .int (zI x)), (2, .int (zI y))]) hx hb dX9_noise_3 hl (by decide) rfl (fun ls hl => ?_)
  refine x_loop (ι := Int × Int) (fun v => (0 ≤ v.2 ∧ v.2 ≤ S 0 1) ∧ v.1 = nzN S x y v.2.toNat) (fun v => (S 0 1 - v.2).toNat) (fun v => [(0, .ref (mo 0)), (1, .int (zI x)), (2, .int (zI y)), (3, .int (zI v.1)), (4, .int (zI v.2))]) (0, 0) (show (0 ≤ (0 : Int) ∧ (0 : Int) ≤ S 0 1) ∧ (0 : Int) = nzN S x y (0 : Int).toNat from ⟨by omega, rfl⟩) (lv_sub hl [2, 3, 4, 1, 0] rfl) ?_
  intro v hv ih_5 ls hl
  obtain ⟨u, i⟩ := v
  have hl : lv_has ls 7 [(0, .ref (mo 0)), (1, .int (zI x)), (2, .int (zI y)), (3, .int (zI u)), (4, .int (zI i))] := hl
  have hv : (0 ≤ i ∧ i ≤ S 0 1) ∧ u = nzN S x y i.toNat := hv
  obtain ⟨hi, hu⟩ := hv
  refine lv_iload hx hb dX9_noise_5 (lv_at hl 4 rfl) ?_
  refine lv_aload_n hx hb dX9_noise_7 rfl (lv_at hl 0 rfl) ?_
  refine va_get (D := dg) (ci := 11) (v := .ref (mo 1)) (C := RX9) (T := TX9) (N := 23) hx hb htg inG_X9 hown hK hP 0 rfl rfl 1 (Nat.le_of_ble_eq_true rfl) (htg _ wq_1558) (fun _ h9 => h9) rfl dX9_noise_8 ?_
  refine x_iconst hx hb dX9_noise_11 ?_
  refine x_iald hx hb hK hP 1 0 (encZ S) rfl rfl (fun _ => rfl) (P := fun _ => True) (fun _ => trivial) (by decide) (by omega) dX9_noise_12 (fun _ => ?_)
  refine x_is (show (encZ S) 1 = (S 0 1) from (encV (k := 0) (i := 1) (Or.inl ⟨rfl, by decide, by decide, rfl⟩)).trans (rfl)) ?_
  refine x_icmp_ge (tgt := 88) hx hb dX9_noise_13 (by decide) (by omega) (by omega) (fun c13 => ?_) (fun c13 => ?_)
  · refine lv_iload_n hx hb dX9_noise_88 rfl (lv_at hl 3 rfl) ?_
    exact W.iret (v := _) hx hb hr (fun t9 ht9 hW9 => ⟨_, rfl, (by rw [hu, show i = S 0 1 by omega]; rfl), ht9⟩) (fun _ h => by cases h) dX9_noise_89
  · refine lv_aload_n hx hb dX9_noise_16 rfl (lv_at hl 0 rfl) ?_
    refine lv_iload hx hb dX9_noise_17 (lv_at hl 4 rfl) ?_
    refine x_iconst hx hb dX9_noise_19 ?_
    refine vp_callSi (W.runV (As := [.int (zI i), .int (zI 0)]) (rest := []) ⟨hx, hb, hml, hown, htg⟩ (m_fountain l dg ck mo S F1 F2 F3 F4 M i 0 (by omega) (by decide)) (cwV 2 htg (gwV wq_1661 wq_1663 wp_36 wq_15 wq_1664) rfl rfl rfl (by decide +kernel) ⟨Nat.le_of_ble_eq_true rfl, Nat.le_of_ble_eq_true rfl⟩) (rd_preV hK hP 0 11 rfl rfl) rfl rfl hl.1 rfl (lv_room (Nat.le_of_ble_eq_true rfl)) dX9_noise_20 ⟨Nat.zero_le _, Nat.zero_le _⟩) (fun r20 hr20 => ?_)
    subst hr20
    have q20 := b7 i
    refine x_is (show (S (7 + Int.toNat 0) i) = (S 7 i) from rfl) ?_
    refine lv_iload_n hx hb dX9_noise_23 rfl (lv_at hl 1 rfl) ?_
    refine x_isub hx hb dX9_noise_24 ?_
    refine vp_callSi (W.runS (As := [.int (zI ((S 7 i) - x))]) (rest := []) ⟨hx, hb, hml, hown, htg⟩ (m_size l dg ck ((S 7 i) - x) (by omega)) (cwS 1 htg (gwS wq_1765 wq_1766 wq_15 wq_1767) rfl rfl rfl (by decide +kernel) ⟨Nat.le_of_ble_eq_true rfl, Nat.le_of_ble_eq_true rfl⟩) (rd_preS hK va_P_nil) rfl rfl hl.1 rfl (lv_room (Nat.le_of_ble_eq_true rfl)) dX9_noise_25 ⟨Nat.zero_le _, Nat.zero_le _⟩) (fun r25 hr25 => ?_)
    obtain ⟨m25, rfl, hm25⟩ := hr25
    refine lv_aload_n hx hb dX9_noise_28 rfl (lv_at hl 0 rfl) ?_
    refine lv_iload hx hb dX9_noise_29 (lv_at hl 4 rfl) ?_
    refine x_iconst hx hb dX9_noise_31 ?_
    refine vp_callSi (W.runV (As := [.int (zI i), .int (zI 1)]) (rest := [.int (zI m25)]) ⟨hx, hb, hml, hown, htg⟩ (m_fountain l dg ck mo S F1 F2 F3 F4 M i 1 (by omega) (by decide)) (cwV 2 htg (gwV wq_1661 wq_1663 wp_36 wq_15 wq_1664) rfl rfl rfl (by decide +kernel) ⟨Nat.le_of_ble_eq_true rfl, Nat.le_of_ble_eq_true rfl⟩) (rd_preV hK hP 0 11 rfl rfl) rfl rfl hl.1 rfl (lv_room (Nat.le_of_ble_eq_true rfl)) dX9_noise_32 ⟨Nat.zero_le _, Nat.zero_le _⟩) (fun r32 hr32 => ?_)
    subst hr32
    have q32 := b8 i
    refine x_is (show (S (7 + Int.toNat 1) i) = (S 8 i) from rfl) ?_
    refine lv_iload_n hx hb dX9_noise_35 rfl (lv_at hl 2 rfl) ?_
    refine x_isub hx hb dX9_noise_36 ?_
    refine vp_callSi (W.runS (As := [.int (zI ((S 8 i) - y))]) (rest := [.int (zI m25)]) ⟨hx, hb, hml, hown, htg⟩ (m_size l dg ck ((S 8 i) - y) (by omega)) (cwS 1 htg (gwS wq_1765 wq_1766 wq_15 wq_1767) rfl rfl rfl (by decide +kernel) ⟨Nat.le_of_ble_eq_true rfl, Nat.le_of_ble_eq_true rfl⟩) (rd_preS hK va_P_nil) rfl rfl hl.1 rfl (lv_room (Nat.le_of_ble_eq_true rfl)) dX9_noise_37 ⟨Nat.zero_le _, Nat.zero_le _⟩) (fun r37 hr37 => ?_)
    obtain ⟨m37, rfl, hm37⟩ := hr37
    refine x_iadd hx hb dX9_noise_40 ?_
    refine x_top _ (fun v41 e_v41 => ?_)
    refine lv_istore (lv' := [(5, .int (zI v41)), (0, .ref (mo 0)), (1, .int (zI x)), (2, .int (zI y)), (3, .int (zI u)), (4, .int (zI i))]) hx hb dX9_noise_41 hl (by decide) rfl (fun ls hl => ?_)
    refine lv_aload_n hx hb dX9_noise_43 rfl (lv_at hl 1 rfl) ?_
    refine lv_iload hx hb dX9_noise_44 (lv_at hl 5 rfl) ?_
    refine x_iconst hx hb dX9_noise_46 ?_
    refine vp_callSi (W.runV (As := [.int (zI i), .int (zI 2)]) (rest := []) ⟨hx, hb, hml, hown, htg⟩ (m_fountain l dg ck mo S F1 F2 F3 F4 M i 2 (by omega) (by decide)) (cwV 2 htg (gwV wq_1661 wq_1663 wp_36 wq_15 wq_1664) rfl rfl rfl (by decide +kernel) ⟨Nat.le_of_ble_eq_true rfl, Nat.le_of_ble_eq_true rfl⟩) (rd_preV hK hP 0 11 rfl rfl) rfl rfl hl.1 rfl (lv_room (Nat.le_of_ble_eq_true rfl)) dX9_noise_47 ⟨Nat.zero_le _, Nat.zero_le _⟩) (fun r47 hr47 => ?_)
    subst hr47
    have q47 := b9 i
    refine x_is (show (S (7 + Int.toNat 2) i) = (S 9 i) from rfl) ?_
    refine x_iconst hx hb dX9_noise_50 ?_
    refine lv_iload hx hb dX9_noise_51 (lv_at hl 0 rfl) ?_
    refine x_imul hx hb dX9_noise_53 ?_
    refine x_isub hx hb dX9_noise_54 ?_
    refine x_top _ (fun v55 e_v55 => ?_)
    refine lv_istore (lv' := [(6, .int (zI v55)), (5, .int (zI v41)), (0, .ref (mo 0)), (1, .int (zI x)), (2, .int (zI y)), (3, .int (zI u)), (4, .int (zI i))]) hx hb dX9_noise_55 hl (by decide) rfl (fun ls hl => ?_)
    have hT := nzT_eq (S := S) (r := x) (c := y) hm25 hm37 e_v41 e_v55
    have hur := nzN_r hI x y i.toNat
    refine lv_iload_n hx hb dX9_noise_57 rfl (lv_at hl 5 rfl) ?_
    refine lv_aload_n hx hb dX9_noise_58 rfl (lv_at hl 2 rfl) ?_
    refine lv_iload hx hb dX9_noise_59 (lv_at hl 6 rfl) ?_
    refine x_iconst hx hb dX9_noise_61 ?_
    refine vp_callSi (W.runV (As := [.int (zI i), .int (zI 3)]) (rest := [.int (zI u)]) ⟨hx, hb, hml, hown, htg⟩ (m_fountain l dg ck mo S F1 F2 F3 F4 M i 3 (by omega) (by decide)) (cwV 2 htg (gwV wq_1661 wq_1663 wp_36 wq_15 wq_1664) rfl rfl rfl (by decide +kernel) ⟨Nat.le_of_ble_eq_true rfl, Nat.le_of_ble_eq_true rfl⟩) (rd_preV hK hP 0 11 rfl rfl) rfl rfl hl.1 rfl (lv_room (Nat.le_of_ble_eq_true rfl)) dX9_noise_62 ⟨Nat.zero_le _, Nat.zero_le _⟩) (fun r62 hr62 => ?_)
    subst hr62
    have q62 := b10 i
    refine x_is (show (S (7 + Int.toNat 3) i) = (S 10 i) from rfl) ?_
    refine x_iconst hx hb dX9_noise_65 ?_
    refine x_icmp_ne (tgt := 79) hx hb dX9_noise_66 (by decide) (by omega) (by omega) (fun c66 => ?_) (fun c66 => ?_)
    · refine x_iconst hx hb dX9_noise_79 ?_
      refine x_iadd hx hb dX9_noise_80 ?_
      refine x_top _ (fun v81 e_v81 => ?_)
      refine lv_istore_n (lv' := [(3, .int (zI v81)), (6, .int (zI v55)), (5, .int (zI v41)), (0, .ref (mo 0)), (1, .int (zI x)), (2, .int (zI y)), (4, .int (zI i))]) hx hb dX9_noise_81 rfl hl (by decide) rfl (fun ls hl => ?_)
      obtain ⟨v82, e_v82⟩ : ∃ y : Int, y = i + 1 := ⟨_, rfl⟩
      refine lv_iinc (v := zI v82) (lv' := [(4, .int (zI v82)), (3, .int (zI v81)), (6, .int (zI v55)), (5, .int (zI v41)), (0, .ref (mo 0)), (1, .int (zI x)), (2, .int (zI y))]) hx hb dX9_noise_82 hl (k := 6) rfl (by rw [e_v82]; exact zI_add _ _) (by decide) rfl (fun ls hl => ?_)
      refine lv_goto (tgt := 5) hx hb dX9_noise_85 (by decide) ?_
      exact ih_5 (v81, v82) (show (0 ≤ v82 ∧ v82 ≤ S 0 1) ∧ v81 = nzN S x y v82.toNat from ⟨by omega, by rw [e_v82, nzN_s hi.1, hT]; split <;> omega⟩) (show (S 0 1 - v82).toNat < (S 0 1 - i).toNat from by omega) ls (lv_sub hl [4, 5, 6, 1, 0] rfl)
    · refine lv_iload hx hb dX9_noise_69 (lv_at hl 0 rfl) ?_
      refine x_if_le (tgt := 79) hx hb dX9_noise_71 (by decide) (by omega) (fun c71 => ?_) (fun c71 => ?_)
      · refine x_iconst hx hb dX9_noise_79 ?_
        refine x_iadd hx hb dX9_noise_80 ?_
        refine x_top _ (fun v81 e_v81 => ?_)
        refine lv_istore_n (lv' := [(3, .int (zI v81)), (6, .int (zI v55)), (5, .int (zI v41)), (0, .ref (mo 0)), (1, .int (zI x)), (2, .int (zI y)), (4, .int (zI i))]) hx hb dX9_noise_81 rfl hl (by decide) rfl (fun ls hl => ?_)
        obtain ⟨v82, e_v82⟩ : ∃ y : Int, y = i + 1 := ⟨_, rfl⟩
        refine lv_iinc (v := zI v82) (lv' := [(4, .int (zI v82)), (3, .int (zI v81)), (6, .int (zI v55)), (5, .int (zI v41)), (0, .ref (mo 0)), (1, .int (zI x)), (2, .int (zI y))]) hx hb dX9_noise_82 hl (k := 6) rfl (by rw [e_v82]; exact zI_add _ _) (by decide) rfl (fun ls hl => ?_)
        refine lv_goto (tgt := 5) hx hb dX9_noise_85 (by decide) ?_
        exact ih_5 (v81, v82) (show (0 ≤ v82 ∧ v82 ≤ S 0 1) ∧ v81 = nzN S x y v82.toNat from ⟨by omega, by rw [e_v82, nzN_s hi.1, hT]; split <;> omega⟩) (show (S 0 1 - v82).toNat < (S 0 1 - i).toNat from by omega) ls (lv_sub hl [4, 5, 6, 1, 0] rfl)
      · refine lv_iload hx hb dX9_noise_74 (lv_at hl 0 rfl) ?_
        refine lv_goto (tgt := 80) hx hb dX9_noise_76 (by decide) ?_
        refine x_iadd hx hb dX9_noise_80 ?_
        refine x_top _ (fun v81 e_v81 => ?_)
        refine lv_istore_n (lv' := [(3, .int (zI v81)), (6, .int (zI v55)), (5, .int (zI v41)), (0, .ref (mo 0)), (1, .int (zI x)), (2, .int (zI y)), (4, .int (zI i))]) hx hb dX9_noise_81 rfl hl (by decide) rfl (fun ls hl => ?_)
        obtain ⟨v82, e_v82⟩ : ∃ y : Int, y = i + 1 := ⟨_, rfl⟩
        refine lv_iinc (v := zI v82) (lv' := [(4, .int (zI v82)), (3, .int (zI v81)), (6, .int (zI v55)), (5, .int (zI v41)), (0, .ref (mo 0)), (1, .int (zI x)), (2, .int (zI y))]) hx hb dX9_noise_82 hl (k := 6) rfl (by rw [e_v82]; exact zI_add _ _) (by decide) rfl (fun ls hl => ?_)
        refine lv_goto (tgt := 5) hx hb dX9_noise_85 (by decide) ?_
        exact ih_5 (v81, v82) (show (0 ≤ v82 ∧ v82 ≤ S 0 1) ∧ v81 = nzN S x y v82.toNat from ⟨by omega, by rw [e_v82, nzN_s hi.1, hT]; split <;> omega⟩) (show (S 0 1 - v82).toNat < (S 0 1 - i).toNat from by omega) ls (lv_sub hl [4, 5, 6, 1, 0] rfl)

set_option maxHeartbeats 4000000 in
set_option maxRecDepth 100000 in
/-- BenchBrokerModel.noiseOf -/
theorem m_noiseOf (l : Launch) (dg : va_G) (ck : Nat → ClassId) (mo : Nat → Nat) (S : St) (F1 F2 F3 F4 : Int → Int) (M : St) (b : Int) (hI : Bd S) (hb0 : 0 ≤ b ∧ b < 10) : Met l yX9_noiseOf (.code yX9_noiseOf cX9_noiseOf 2 (some .int) :: GW) ({ frames := 2, cells := 0, slots := 0, locals := 48 }) (va_Pc [.ref (mo 0), .int (zI b)] (rdP dg ck (modelC ck mo (encZ S) F1 F2 F3 F4 M))) (vp_Si (fun r => r = zI (noiseB S b))) 0 0 (fun _ => False) := by
  refine Met.ofW (cc := cX9_noiseOf) (maxL := 2) (ret := (some .int)) (by decide) rfl ?_
  intro p e s m args below meth c s₁ B hml hv
  obtain ⟨rfl, hP, hK⟩ := hv
  have hx := B.exec
  have hb := B.bytes
  have hr := B.returns
  have hts := atoms_spec (ws := .code yX9_noiseOf cX9_noiseOf 2 (some .int) :: GW) B.pre
  have htg : ∀ w ∈ GW, w.before _ s = true := fun w h => hts w (List.mem_cons_of_mem _ h)
  have hown : s.vm.findClass RX9 = some m.cls := findClass_of_methodNamed B.named
  have hlocks := B.notSynchronized
  have hl := lv_entry ([.ref (mo 0), .int (zI b)]) (n := 2) (Nat.le_of_ble_eq_true rfl)
  rw [lg_entry_eq]
  generalize (lg_sl ([.ref (mo 0), .int (zI b)]) ++ List.replicate (2 - (lg_sl ([.ref (mo 0), .int (zI b)])).length) Slot.unset).toArray = ls at hl ⊢
  have hl : lv_has ls 2 [(0, .ref (mo 0)), (1, .int (zI b))] := hl
  obtain ⟨b00, b01, b02, b03, b1, b2, b3, b4, b5, b6, b7, b8, b9, b10, b11, b12⟩ := id hI
  refine lv_aload_n hx hb dX9_noiseOf_0 rfl (lv_at hl 0 rfl) ?_
  refine lv_aload_n hx hb dX9_noiseOf_1 rfl (lv_at hl 0 rfl) ?_
  refine lv_iload_n hx hb dX9_noiseOf_2 rfl (lv_at hl 1 rfl) ?_
  refine x_iconst hx hb dX9_noiseOf_3 ?_
  refine vp_callSi (W.runV (As := [.int (zI b), .int (zI 0)]) (rest := [.ref (mo 0)]) ⟨hx, hb, hml, hown, htg⟩ (m_bench l dg ck mo S F1 F2 F3 F4 M b 0 (by omega) (by decide)) (cwV 2 htg (gwV wq_1657 wq_1659 wp_35 wq_15 wq_1660) rfl rfl rfl (by decide +kernel) ⟨Nat.le_of_ble_eq_true rfl, Nat.le_of_ble_eq_true rfl⟩) (rd_preV hK hP 0 11 rfl rfl) rfl rfl hl.1 rfl (lv_room (Nat.le_of_ble_eq_true rfl)) dX9_noiseOf_4 ⟨Nat.zero_le _, Nat.zero_le _⟩) (fun r4 hr4 => ?_)
  subst hr4
  have q4 := b1 b
  refine x_is (show (S (1 + Int.toNat 0) b) = (S 1 b) from rfl) ?_
  refine lv_aload_n hx hb dX9_noiseOf_7 rfl (lv_at hl 0 rfl) ?_
  refine lv_iload_n hx hb dX9_noiseOf_8 rfl (lv_at hl 1 rfl) ?_
  refine x_iconst hx hb dX9_noiseOf_9 ?_
  refine vp_callSi (W.runV (As := [.int (zI b), .int (zI 1)]) (rest := [.int (zI (S 1 b)), .ref (mo 0)]) ⟨hx, hb, hml, hown, htg⟩ (m_bench l dg ck mo S F1 F2 F3 F4 M b 1 (by omega) (by decide)) (cwV 2 htg (gwV wq_1657 wq_1659 wp_35 wq_15 wq_1660) rfl rfl rfl (by decide +kernel) ⟨Nat.le_of_ble_eq_true rfl, Nat.le_of_ble_eq_true rfl⟩) (rd_preV hK hP 0 11 rfl rfl) rfl rfl hl.1 rfl (lv_room (Nat.le_of_ble_eq_true rfl)) dX9_noiseOf_10 ⟨Nat.zero_le _, Nat.zero_le _⟩) (fun r10 hr10 => ?_)
  subst hr10
  have q10 := b2 b
  refine x_is (show (S (1 + Int.toNat 1) b) = (S 2 b) from rfl) ?_
  refine vp_callSi (W.runV (As := [.int (zI (S 1 b)), .int (zI (S 2 b))]) (rest := []) ⟨hx, hb, hml, hown, htg⟩ (m_noise l dg ck mo S F1 F2 F3 F4 M (S 1 b) (S 2 b) hI (by omega) (by omega)) (cwV 2 htg (gwV wq_1761 wq_1763 wp_51 wq_15 wq_1764) rfl rfl rfl (by decide +kernel) ⟨Nat.le_of_ble_eq_true rfl, Nat.le_of_ble_eq_true rfl⟩) (rd_preV hK hP 0 11 rfl rfl) rfl rfl hl.1 rfl (lv_room (Nat.le_of_ble_eq_true rfl)) dX9_noiseOf_13 ⟨Nat.zero_le _, Nat.zero_le _⟩) (fun r13 hr13 => ?_)
  subst hr13
  exact W.iret (v := _) hx hb hr (fun t9 ht9 hW9 => ⟨_, rfl, rfl, ht9⟩) (fun _ h => by cases h) dX9_noiseOf_16

set_option maxHeartbeats 4000000 in
set_option maxRecDepth 100000 in
/-- BenchBrokerModel.quiet -/
theorem m_quiet (l : Launch) (dg : va_G) (ck : Nat → ClassId) (mo : Nat → Nat) (S : St) (F1 F2 F3 F4 : Int → Int) (M : St) (b : Int) (hI : Bd S) (hb0 : 0 ≤ b ∧ b < 10) : Met l yX9_quiet (.code yX9_quiet cX9_quiet 2 (some .boolean) :: GW) ({ frames := 3, cells := 0, slots := 0, locals := 69 }) (va_Pc [.ref (mo 0), .int (zI b)] (rdP dg ck (modelC ck mo (encZ S) F1 F2 F3 F4 M))) (vp_Si (fun r => r = zI (bI (quietB S b)))) 0 0 (fun _ => False) := by
  refine Met.ofW (cc := cX9_quiet) (maxL := 2) (ret := (some .boolean)) (by decide) rfl ?_
  intro p e s m args below meth c s₁ B hml hv
  obtain ⟨rfl, hP, hK⟩ := hv
  have hx := B.exec
  have hb := B.bytes
  have hr := B.returns
  have hts := atoms_spec (ws := .code yX9_quiet cX9_quiet 2 (some .boolean) :: GW) B.pre
  have htg : ∀ w ∈ GW, w.before _ s = true := fun w h => hts w (List.mem_cons_of_mem _ h)
  have hown : s.vm.findClass RX9 = some m.cls := findClass_of_methodNamed B.named
  have hlocks := B.notSynchronized
  have hl := lv_entry ([.ref (mo 0), .int (zI b)]) (n := 2) (Nat.le_of_ble_eq_true rfl)
  rw [lg_entry_eq]
  generalize (lg_sl ([.ref (mo 0), .int (zI b)]) ++ List.replicate (2 - (lg_sl ([.ref (mo 0), .int (zI b)])).length) Slot.unset).toArray = ls at hl ⊢
  have hl : lv_has ls 2 [(0, .ref (mo 0)), (1, .int (zI b))] := hl
  obtain ⟨b00, b01, b02, b03, b1, b2, b3, b4, b5, b6, b7, b8, b9, b10, b11, b12⟩ := id hI
  have hno := noiseB_r hI b
  refine lv_aload_n hx hb dX9_quiet_0 rfl (lv_at hl 0 rfl) ?_
  refine lv_iload_n hx hb dX9_quiet_1 rfl (lv_at hl 1 rfl) ?_
  refine vp_callSi (W.runV (As := [.int (zI b)]) (rest := []) ⟨hx, hb, hml, hown, htg⟩ (m_noiseOf l dg ck mo S F1 F2 F3 F4 M b hI (by omega)) (cwV 1 htg (gwV wq_1757 wq_1759 wp_50 wq_15 wq_1760) rfl rfl rfl (by decide +kernel) ⟨Nat.le_of_ble_eq_true rfl, Nat.le_of_ble_eq_true rfl⟩) (rd_preV hK hP 0 11 rfl rfl) rfl rfl hl.1 rfl (lv_room (Nat.le_of_ble_eq_true rfl)) dX9_quiet_2 ⟨Nat.zero_le _, Nat.zero_le _⟩) (fun r2 hr2 => ?_)
  subst hr2
  refine lv_aload_n hx hb dX9_quiet_5 rfl (lv_at hl 0 rfl) ?_
  refine va_get (D := dg) (ci := 11) (v := .ref (mo 1)) (C := RX9) (T := TX9) (N := 23) hx hb htg inG_X9 hown hK hP 0 rfl rfl 1 (Nat.le_of_ble_eq_true rfl) (htg _ wq_1558) (fun _ h9 => h9) rfl dX9_quiet_6 ?_
  refine x_iconst hx hb dX9_quiet_9 ?_
  refine x_iald hx hb hK hP 1 0 (encZ S) rfl rfl (fun _ => rfl) (P := fun _ => True) (fun _ => trivial) (by decide) (by omega) dX9_quiet_10 (fun _ => ?_)
  refine x_is (show (encZ S) 3 = (S 0 3) from (encV (k := 0) (i := 3) (Or.inl ⟨rfl, by decide, by decide, rfl⟩)).trans (rfl)) ?_
  refine x_icmp_gt (tgt := 18) hx hb dX9_quiet_11 (by decide) (by omega) (by omega) (fun c11 => ?_) (fun c11 => ?_)
  · refine x_iconst hx hb dX9_quiet_18 ?_
    exact W.zret (v := _) hx hb hr (by first | rfl | rfl) (fun t9 ht9 hW9 => ⟨_, rfl, (congrArg zI (by first | exact (bI_t (show noiseB S b ≤ S 0 3 by omega)).symm | exact (bI_f (show ¬ noiseB S b ≤ S 0 3 by omega)).symm)), ht9⟩) (fun _ h => by cases h) dX9_quiet_19
  · refine x_iconst hx hb dX9_quiet_14 ?_
    refine lv_goto (tgt := 19) hx hb dX9_quiet_15 (by decide) ?_
    exact W.zret (v := _) hx hb hr (by first | rfl | rfl) (fun t9 ht9 hW9 => ⟨_, rfl, (congrArg zI (by first | exact (bI_t (show noiseB S b ≤ S 0 3 by omega)).symm | exact (bI_f (show ¬ noiseB S b ≤ S 0 3 by omega)).symm)), ht9⟩) (fun _ h => by cases h) dX9_quiet_19

set_option maxHeartbeats 4000000 in
set_option maxRecDepth 100000 in
/-- BenchBrokerModel.rent -/
theorem m_rent (l : Launch) (dg : va_G) (ck : Nat → ClassId) (mo : Nat → Nat) (S : St) (F1 F2 F3 F4 : Int → Int) (M : St) (b : Int) (hI : Bd S) (hb0 : 0 ≤ b ∧ b < 10) : Met l yX9_rent (.code yX9_rent cX9_rent 3 (some .int) :: GW) ({ frames := 3, cells := 0, slots := 0, locals := 69 }) (va_Pc [.ref (mo 0), .int (zI b)] (rdP dg ck (modelC ck mo (encZ S) F1 F2 F3 F4 M))) (vp_Si (fun r => r = zI (rent S b))) 0 0 (fun _ => False) := by
  refine Met.ofW (cc := cX9_rent) (maxL := 3) (ret := (some .int)) (by decide) rfl ?_
  intro p e s m args below meth c s₁ B hml hv
  obtain ⟨rfl, hP, hK⟩ := hv
  have hx := B.exec
  have hb := B.bytes
  have hr := B.returns
  have hts := atoms_spec (ws := .code yX9_rent cX9_rent 3 (some .int) :: GW) B.pre
  have htg : ∀ w ∈ GW, w.before _ s = true := fun w h => hts w (List.mem_cons_of_mem _ h)
  have hown : s.vm.findClass RX9 = some m.cls := findClass_of_methodNamed B.named
  have hlocks := B.notSynchronized
  have hl := lv_entry ([.ref (mo 0), .int (zI b)]) (n := 3) (Nat.le_of_ble_eq_true rfl)
  rw [lg_entry_eq]
  generalize (lg_sl ([.ref (mo 0), .int (zI b)]) ++ List.replicate (3 - (lg_sl ([.ref (mo 0), .int (zI b)])).length) Slot.unset).toArray = ls at hl ⊢
  have hl : lv_has ls 3 [(0, .ref (mo 0)), (1, .int (zI b))] := hl
  obtain ⟨b00, b01, b02, b03, b1, b2, b3, b4, b5, b6, b7, b8, b9, b10, b11, b12⟩ := id hI
  have hno := noiseB_r hI b
  refine lv_aload_n hx hb dX9_rent_0 rfl (lv_at hl 0 rfl) ?_
  refine lv_iload_n hx hb dX9_rent_1 rfl (lv_at hl 1 rfl) ?_
  refine x_iconst hx hb dX9_rent_2 ?_
  refine vp_callSi (W.runV (As := [.int (zI b), .int (zI 2)]) (rest := []) ⟨hx, hb, hml, hown, htg⟩ (m_bench l dg ck mo S F1 F2 F3 F4 M b 2 (by omega) (by decide)) (cwV 2 htg (gwV wq_1657 wq_1659 wp_35 wq_15 wq_1660) rfl rfl rfl (by decide +kernel) ⟨Nat.le_of_ble_eq_true rfl, Nat.le_of_ble_eq_true rfl⟩) (rd_preV hK hP 0 11 rfl rfl) rfl rfl hl.1 rfl (lv_room (Nat.le_of_ble_eq_true rfl)) dX9_rent_3 ⟨Nat.zero_le _, Nat.zero_le _⟩) (fun r3 hr3 => ?_)
  subst hr3
  have q3 := b3 b
  refine x_is (show (S (1 + Int.toNat 2) b) = (S 3 b) from rfl) ?_
  refine lv_aload_n hx hb dX9_rent_6 rfl (lv_at hl 0 rfl) ?_
  refine lv_iload_n hx hb dX9_rent_7 rfl (lv_at hl 1 rfl) ?_
  refine vp_callSi (W.runV (As := [.int (zI b)]) (rest := [.int (zI (S 3 b))]) ⟨hx, hb, hml, hown, htg⟩ (m_noiseOf l dg ck mo S F1 F2 F3 F4 M b hI (by omega)) (cwV 1 htg (gwV wq_1757 wq_1759 wp_50 wq_15 wq_1760) rfl rfl rfl (by decide +kernel) ⟨Nat.le_of_ble_eq_true rfl, Nat.le_of_ble_eq_true rfl⟩) (rd_preV hK hP 0 11 rfl rfl) rfl rfl hl.1 rfl (lv_room (Nat.le_of_ble_eq_true rfl)) dX9_rent_8 ⟨Nat.zero_le _, Nat.zero_le _⟩) (fun r8 hr8 => ?_)
  subst hr8
  refine x_isub hx hb dX9_rent_11 ?_
  refine x_top _ (fun v12 e_v12 => ?_)
  refine lv_istore_n (lv' := [(2, .int (zI v12)), (0, .ref (mo 0)), (1, .int (zI b))]) hx hb dX9_rent_12 rfl hl (by decide) rfl (fun ls hl => ?_)
  refine lv_iload_n hx hb dX9_rent_13 rfl (lv_at hl 0 rfl) ?_
  refine x_iconst hx hb dX9_rent_14 ?_
  refine x_icmp_ge (tgt := 22) hx hb dX9_rent_15 (by decide) (by omega) (by omega) (fun c15 => ?_) (fun c15 => ?_)
  · refine lv_iload_n hx hb dX9_rent_22 rfl (lv_at hl 0 rfl) ?_
    exact W.iret (v := _) hx hb hr (fun t9 ht9 hW9 => ⟨_, rfl, (congrArg zI (by unfold rent; split <;> omega)), ht9⟩) (fun _ h => by cases h) dX9_rent_23
  · refine x_iconst hx hb dX9_rent_18 ?_
    refine lv_goto (tgt := 23) hx hb dX9_rent_19 (by decide) ?_
    exact W.iret (v := _) hx hb hr (fun t9 ht9 hW9 => ⟨_, rfl, (congrArg zI (by unfold rent; split <;> omega)), ht9⟩) (fun _ h => by cases h) dX9_rent_23
