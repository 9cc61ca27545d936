/-! the law: its own methods that ask -/

theorem wqL_rowOf : (Jvm.Cond.codeWith ({ cls := "BenchBrokerLaw", name := "rowOf", desc := "(LBenchBroker;I[J)I" } : Jvm.MethodName) method_9_code (4 : Nat) (Option.some Jvm.ClassFile.FieldType.int) [((0 : Nat), (9 : Nat), (12 : Nat), (13 : Nat))]) ∈ GW := tq_4 37 rfl rfl
set_option maxHeartbeats 4000000 in
set_option maxRecDepth 100000 in
/-- the law's rowOf -/
theorem w_rowOf (l : Launch) (dg : va_G) (ck : Nat → ClassId) (ka : Nat → Nat) (ad ra : Nat → Nat → Nat) (Z O U X : Nat → Int) (S T P I : St) (V N Y : Int → Int) (Q : Nat → St) (oa : Nat) (D : Nat → Int64) (x : Int) (sz : Nat) (hI : Bd S) (rg_x : -2147483648 ≤ x ∧ x < 2147483648) (hst : l.stackTraces = false) : Met l yL_rowOf (.codeWith yL_rowOf cL_rowOf 4 (some .int) [(0, 9, 12, 13)] :: GW) ({ frames := 8, cells := 1, slots := 6, locals := 137 }) (va_Pc [.ref ((ad 7) 0), .int (zI x), .ref oa] (wrK dg ck ka sz (brkW ck ka ad ra Z O U X S T P I V N Y Q ++ lngC ck oa D))) (va_Qi (fun r (u : BU × (Nat → Int64)) => (r = zI 0 ∧ ∃ r1 : Int32, (r1 = zI (S 1 x) ∧ isBench S x) ∧ u.1 = (Z, O, U, X, S, T, P, I, V, N, Y, Q) ∧ u.2 0 = r1.toInt64) ∨ (r = zI 1 ∧ (¬ (isBench S x)) ∧ u.1 = (Z, O, U, X, S, T, P, I, V, N, Y, Q))) (fun u t9 => wrQ dg sz (brkW ck ka ad ra Z O U X S T P I V N Y Q ++ lngC ck oa D) (brkU ck ka ad ra u.1 ++ lngC ck oa u.2) t9) (va_A (brkW ck ka ad ra Z O U X S T P I V N Y Q ++ lngC ck oa D) sz)) 1 6 (va_A (brkW ck ka ad ra Z O U X S T P I V N Y Q ++ lngC ck oa D) sz) := by
  refine x_ofWH (cc := cL_rowOf) (maxL := 4) (ret := (some .int)) (by decide) rfl ?_
  intro p e s m args below meth c s₁ B hml htab hv
  obtain ⟨rfl, ⟨hsz, hP, hK, hD0⟩, hC⟩ := hv
  have hx := B.exec
  have hb := B.bytes
  have hr := B.returns
  have hts := atoms_spec (ws := .codeWith yL_rowOf cL_rowOf 4 (some .int) [(0, 9, 12, 13)] :: GW) B.pre
  have htg : ∀ w ∈ GW, w.before _ s = true := fun w h => hts w (List.mem_cons_of_mem _ h)
  have hown : s.vm.findClass RL = some m.cls := findClass_of_methodNamed B.named
  have hlocks := B.notSynchronized
  subst hsz
  have hD := hD0.self (sz := s.heap.size)
  generalize hAe : va_A (brkW ck ka ad ra Z O U X S T P I V N Y Q ++ lngC ck oa D) s.heap.size = A at hD hC ⊢
  have hA : ∀ q : Nat, s.heap.size ≤ q → A q := fun q h => by rw [← hAe]; exact Or.inr h
  have hS : va_S A s.heap s.heap [] := va_S.rf
  have hP : va_P dg vwCl (brkW ck ka ad ra Z O U X S T P I V N Y Q ++ lngC ck oa D) s.heap := hP
  have hl := lv_entry ([.ref ((ad 7) 0), .int (zI x), .ref oa]) (n := 4) (Nat.le_of_ble_eq_true rfl)
  rw [lg_entry_eq]
  generalize (lg_sl ([.ref ((ad 7) 0), .int (zI x), .ref oa]) ++ List.replicate (4 - (lg_sl ([.ref ((ad 7) 0), .int (zI x), .ref oa])).length) Slot.unset).toArray = ls at hl ⊢
  have hl : lv_has ls 4 [(0, .ref ((ad 7) 0)), (1, .int (zI x)), (2, .ref oa)] := hl
  refine lv_aload_n hx hb dL_rowOf_0 rfl (lv_at hl 2 rfl) ?_
  refine x_iconst hx hb dL_rowOf_1 ?_
  refine lv_aload_n hx hb dL_rowOf_2 rfl (lv_at hl 0 rfl) ?_
  refine lv_iload_n hx hb dL_rowOf_3 rfl (lv_at hl 1 rfl) ?_
  refine xl_calli (M := brkW ck ka ad ra Z O U X S T P I V N Y Q) (N := lngC ck oa D) (Mf := fun u : Unit => brkW ck ka ad ra Z O U X S T P I V N Y Q) (MX := fun u : Unit => brkW ck ka ad ra Z O U X S T P I V N Y Q) hP hD hS hA (fun hPm hDm => vx_runV (As := [.int (zI x)]) (rest := [.int (zI 0), .ref oa]) ⟨hx, hb, hml, hown, htg⟩ (x_rowOf l dg ck ka ad ra Z O U X S T P I V N Y Q x _ hI rg_x hst) (cwV 1 htg (gwV wq_758 wq_759 wq_760 wq_1 wq_761) rfl rfl rfl (by decide +kernel) ⟨Nat.le_of_ble_eq_true rfl, Nat.le_of_ble_eq_true rfl⟩) (wrK_preV hK hPm hDm hC hS hA 0 10 rfl rfl) rfl rfl hl.1 rfl (lv_room (Nat.le_of_ble_eq_true rfl)) dL_rowOf_4 ⟨Nat.le_of_ble_eq_true rfl, Nat.le_of_ble_eq_true rfl⟩) (fun E9 ce9 q9 u9 H locs hE9 hP hD hS g1 g2 g3 => ?_) (fun r9 u9 H locs hn9 hP hD hS => ?_)
  · obtain ⟨rfl, hc⟩ := hE9
    refine vx_catch (own := RL) (name := "java/lang/IndexOutOfBoundsException") hown [] ⟨0, 9, 12, 13⟩ [] (by rw [htab]; rfl) (fun z hz => absurd hz List.not_mem_nil) (by decide) (by decide) (htg _ wq_514) (va_Nw.use rfl (hC.nw (w := .castable "java/lang/IndexOutOfBoundsException" "java/lang/IndexOutOfBoundsException") (by decide +kernel))) g1 g2 g3 ?_
    refine W.eq (g2 := F0 m 12 ls [.ref q9]) rfl ?_
    refine lv_astore_n (lv' := [(3, .ref q9), (0, .ref ((ad 7) 0)), (1, .int (zI x)), (2, .ref oa)]) hx hb dL_rowOf_12 rfl hl (by decide) rfl (fun ls hl => ?_)
    refine x_iconst hx hb dL_rowOf_13 ?_
    exact W.widen (k := 1) (n := 6) (Nat.le_of_ble_eq_true rfl) (Nat.le_of_ble_eq_true rfl) (W.iret (v := _) hx hb hr (fun t9 ht9 hW9 => ⟨⟨_, ((Z, O, U, X, S, T, P, I, V, N, Y, Q), D), rfl, (Or.inr ⟨rfl, hc, rfl⟩), by rw [ht9]; exact hP, by rw [hAe]; exact hD⟩, hS.F ht9⟩) hS.2.2 dL_rowOf_14)
  have hP : va_P dg vwCl (brkW ck ka ad ra Z O U X S T P I V N Y Q ++ lngC ck oa D) H := hP
  have hD : va_D A (brkW ck ka ad ra Z O U X S T P I V N Y Q ++ lngC ck oa D) := hD
  refine lv_i2l hx hb dL_rowOf_7 rfl ?_
  refine va_last hx hb hK hP hD hS 166 5 rfl rfl (zI_in (z := 0) (by decide) (by decide)) dL_rowOf_8 (fun H locs hP hD hS => ?_)
  have hP : va_P dg vwCl (brkW ck ka ad ra Z O U X S T P I V N Y Q ++ lngC ck oa (vp_updL D (zI 0).toNatClampNeg r9.toInt64)) H := hP
  have hD : va_D A (brkW ck ka ad ra Z O U X S T P I V N Y Q ++ lngC ck oa (vp_updL D (zI 0).toNatClampNeg r9.toInt64)) := hD
  refine lv_goto (tgt := 15) hx hb dL_rowOf_9 (by decide) ?_
  refine x_iconst hx hb dL_rowOf_15 ?_
  exact W.widen (k := 1) (n := 6) (Nat.le_of_ble_eq_true rfl) (Nat.le_of_ble_eq_true rfl) (W.iret (v := _) hx hb hr (fun t9 ht9 hW9 => ⟨⟨_, ((Z, O, U, X, S, T, P, I, V, N, Y, Q), (vp_updL D (zI 0).toNatClampNeg r9.toInt64)), rfl, (Or.inl ⟨rfl, r9, hn9, rfl, rfl⟩), by rw [ht9]; exact hP, by rw [hAe]; exact hD⟩, hS.F ht9⟩) hS.2.2 dL_rowOf_16)

theorem wqL_columnOf : (Jvm.Cond.codeWith ({ cls := "BenchBrokerLaw", name := "columnOf", desc := "(LBenchBroker;I[J)I" } : Jvm.MethodName) method_10_code (4 : Nat) (Option.some Jvm.ClassFile.FieldType.int) [((0 : Nat), (9 : Nat), (12 : Nat), (13 : Nat))]) ∈ GW := tq_4 49 rfl rfl
set_option maxHeartbeats 4000000 in
set_option maxRecDepth 100000 in
/-- the law's columnOf -/
theorem w_columnOf (l : Launch) (dg : va_G) (ck : Nat → ClassId) (ka : Nat → Nat) (ad ra : Nat → Nat → Nat) (Z O U X : Nat → Int) (S T P I : St) (V N Y : Int → Int) (Q : Nat → St) (oa : Nat) (D : Nat → Int64) (x : Int) (sz : Nat) (hI : Bd S) (rg_x : -2147483648 ≤ x ∧ x < 2147483648) (hst : l.stackTraces = false) : Met l yL_columnOf (.codeWith yL_columnOf cL_columnOf 4 (some .int) [(0, 9, 12, 13)] :: GW) ({ frames := 8, cells := 1, slots := 6, locals := 137 }) (va_Pc [.ref ((ad 7) 0), .int (zI x), .ref oa] (wrK dg ck ka sz (brkW ck ka ad ra Z O U X S T P I V N Y Q ++ lngC ck oa D))) (va_Qi (fun r (u : BU × (Nat → Int64)) => (r = zI 0 ∧ ∃ r1 : Int32, (r1 = zI (S 2 x) ∧ isBench S x) ∧ u.1 = (Z, O, U, X, S, T, P, I, V, N, Y, Q) ∧ u.2 0 = r1.toInt64) ∨ (r = zI 1 ∧ (¬ (isBench S x)) ∧ u.1 = (Z, O, U, X, S, T, P, I, V, N, Y, Q))) (fun u t9 => wrQ dg sz (brkW ck ka ad ra Z O U X S T P I V N Y Q ++ lngC ck oa D) (brkU ck ka ad ra u.1 ++ lngC ck oa u.2) t9) (va_A (brkW ck ka ad ra Z O U X S T P I V N Y Q ++ lngC ck oa D) sz)) 1 6 (va_A (brkW ck ka ad ra Z O U X S T P I V N Y Q ++ lngC ck oa D) sz) := by
  refine x_ofWH (cc := cL_columnOf) (maxL := 4) (ret := (some .int)) (by decide) rfl ?_
  intro p e s m args below meth c s₁ B hml htab hv
  obtain ⟨rfl, ⟨hsz, hP, hK, hD0⟩, hC⟩ := hv
  have hx := B.exec
  have hb := B.bytes
  have hr := B.returns
  have hts := atoms_spec (ws := .codeWith yL_columnOf cL_columnOf 4 (some .int) [(0, 9, 12, 13)] :: GW) B.pre
  have htg : ∀ w ∈ GW, w.before _ s = true := fun w h => hts w (List.mem_cons_of_mem _ h)
  have hown : s.vm.findClass RL = some m.cls := findClass_of_methodNamed B.named
  have hlocks := B.notSynchronized
  subst hsz
  have hD := hD0.self (sz := s.heap.size)
  generalize hAe : va_A (brkW ck ka ad ra Z O U X S T P I V N Y Q ++ lngC ck oa D) s.heap.size = A at hD hC ⊢
  have hA : ∀ q : Nat, s.heap.size ≤ q → A q := fun q h => by rw [← hAe]; exact Or.inr h
  have hS : va_S A s.heap s.heap [] := va_S.rf
  have hP : va_P dg vwCl (brkW ck ka ad ra Z O U X S T P I V N Y Q ++ lngC ck oa D) s.heap := hP
  have hl := lv_entry ([.ref ((ad 7) 0), .int (zI x), .ref oa]) (n := 4) (Nat.le_of_ble_eq_true rfl)
  rw [lg_entry_eq]
  generalize (lg_sl ([.ref ((ad 7) 0), .int (zI x), .ref oa]) ++ List.replicate (4 - (lg_sl ([.ref ((ad 7) 0), .int (zI x), .ref oa])).length) Slot.unset).toArray = ls at hl ⊢
  have hl : lv_has ls 4 [(0, .ref ((ad 7) 0)), (1, .int (zI x)), (2, .ref oa)] := hl
  refine lv_aload_n hx hb dL_columnOf_0 rfl (lv_at hl 2 rfl) ?_
  refine x_iconst hx hb dL_columnOf_1 ?_
  refine lv_aload_n hx hb dL_columnOf_2 rfl (lv_at hl 0 rfl) ?_
  refine lv_iload_n hx hb dL_columnOf_3 rfl (lv_at hl 1 rfl) ?_
  refine xl_calli (M := brkW ck ka ad ra Z O U X S T P I V N Y Q) (N := lngC ck oa D) (Mf := fun u : Unit => brkW ck ka ad ra Z O U X S T P I V N Y Q) (MX := fun u : Unit => brkW ck ka ad ra Z O U X S T P I V N Y Q) hP hD hS hA (fun hPm hDm => vx_runV (As := [.int (zI x)]) (rest := [.int (zI 0), .ref oa]) ⟨hx, hb, hml, hown, htg⟩ (x_columnOf l dg ck ka ad ra Z O U X S T P I V N Y Q x _ hI rg_x hst) (cwV 1 htg (gwV wq_770 wq_771 wq_772 wq_1 wq_773) rfl rfl rfl (by decide +kernel) ⟨Nat.le_of_ble_eq_true rfl, Nat.le_of_ble_eq_true rfl⟩) (wrK_preV hK hPm hDm hC hS hA 0 10 rfl rfl) rfl rfl hl.1 rfl (lv_room (Nat.le_of_ble_eq_true rfl)) dL_columnOf_4 ⟨Nat.le_of_ble_eq_true rfl, Nat.le_of_ble_eq_true rfl⟩) (fun E9 ce9 q9 u9 H locs hE9 hP hD hS g1 g2 g3 => ?_) (fun r9 u9 H locs hn9 hP hD hS => ?_)
  · obtain ⟨rfl, hc⟩ := hE9
    refine vx_catch (own := RL) (name := "java/lang/IndexOutOfBoundsException") hown [] ⟨0, 9, 12, 13⟩ [] (by rw [htab]; rfl) (fun z hz => absurd hz List.not_mem_nil) (by decide) (by decide) (htg _ wq_514) (va_Nw.use rfl (hC.nw (w := .castable "java/lang/IndexOutOfBoundsException" "java/lang/IndexOutOfBoundsException") (by decide +kernel))) g1 g2 g3 ?_
    refine W.eq (g2 := F0 m 12 ls [.ref q9]) rfl ?_
    refine lv_astore_n (lv' := [(3, .ref q9), (0, .ref ((ad 7) 0)), (1, .int (zI x)), (2, .ref oa)]) hx hb dL_columnOf_12 rfl hl (by decide) rfl (fun ls hl => ?_)
    refine x_iconst hx hb dL_columnOf_13 ?_
    exact W.widen (k := 1) (n := 6) (Nat.le_of_ble_eq_true rfl) (Nat.le_of_ble_eq_true rfl) (W.iret (v := _) hx hb hr (fun t9 ht9 hW9 => ⟨⟨_, ((Z, O, U, X, S, T, P, I, V, N, Y, Q), D), rfl, (Or.inr ⟨rfl, hc, rfl⟩), by rw [ht9]; exact hP, by rw [hAe]; exact hD⟩, hS.F ht9⟩) hS.2.2 dL_columnOf_14)
  have hP : va_P dg vwCl (brkW ck ka ad ra Z O U X S T P I V N Y Q ++ lngC ck oa D) H := hP
  have hD : va_D A (brkW ck ka ad ra Z O U X S T P I V N Y Q ++ lngC ck oa D) := hD
  refine lv_i2l hx hb dL_columnOf_7 rfl ?_
  refine va_last hx hb hK hP hD hS 166 5 rfl rfl (zI_in (z := 0) (by decide) (by decide)) dL_columnOf_8 (fun H locs hP hD hS => ?_)
  have hP : va_P dg vwCl (brkW ck ka ad ra Z O U X S T P I V N Y Q ++ lngC ck oa (vp_updL D (zI 0).toNatClampNeg r9.toInt64)) H := hP
  have hD : va_D A (brkW ck ka ad ra Z O U X S T P I V N Y Q ++ lngC ck oa (vp_updL D (zI 0).toNatClampNeg r9.toInt64)) := hD
  refine lv_goto (tgt := 15) hx hb dL_columnOf_9 (by decide) ?_
  refine x_iconst hx hb dL_columnOf_15 ?_
  exact W.widen (k := 1) (n := 6) (Nat.le_of_ble_eq_true rfl) (Nat.le_of_ble_eq_true rfl) (W.iret (v := _) hx hb hr (fun t9 ht9 hW9 => ⟨⟨_, ((Z, O, U, X, S, T, P, I, V, N, Y, Q), (vp_updL D (zI 0).toNatClampNeg r9.toInt64)), rfl, (Or.inl ⟨rfl, r9, hn9, rfl, rfl⟩), by rw [ht9]; exact hP, by rw [hAe]; exact hD⟩, hS.F ht9⟩) hS.2.2 dL_columnOf_16)

theorem wqL_baseRent : (Jvm.Cond.codeWith ({ cls := "BenchBrokerLaw", name := "baseRent", desc := "(LBenchBroker;I[J)I" } : Jvm.MethodName) method_11_code (4 : Nat) (Option.some Jvm.ClassFile.FieldType.int) [((0 : Nat), (9 : Nat), (12 : Nat), (13 : Nat))]) ∈ GW := tq_4 56 rfl rfl
set_option maxHeartbeats 4000000 in
set_option maxRecDepth 100000 in
/-- the law's baseRent -/
theorem w_baseRent (l : Launch) (dg : va_G) (ck : Nat → ClassId) (ka : Nat → Nat) (ad ra : Nat → Nat → Nat) (Z O U X : Nat → Int) (S T P I : St) (V N Y : Int → Int) (Q : Nat → St) (oa : Nat) (D : Nat → Int64) (x : Int) (sz : Nat) (hI : Bd S) (rg_x : -2147483648 ≤ x ∧ x < 2147483648) (hst : l.stackTraces = false) : Met l yL_baseRent (.codeWith yL_baseRent cL_baseRent 4 (some .int) [(0, 9, 12, 13)] :: GW) ({ frames := 8, cells := 1, slots := 6, locals := 137 }) (va_Pc [.ref ((ad 7) 0), .int (zI x), .ref oa] (wrK dg ck ka sz (brkW ck ka ad ra Z O U X S T P I V N Y Q ++ lngC ck oa D))) (va_Qi (fun r (u : BU × (Nat → Int64)) => (r = zI 0 ∧ ∃ r1 : Int32, (r1 = zI (S 3 x) ∧ isBench S x) ∧ u.1 = (Z, O, U, X, S, T, P, I, V, N, Y, Q) ∧ u.2 0 = r1.toInt64) ∨ (r = zI 1 ∧ (¬ (isBench S x)) ∧ u.1 = (Z, O, U, X, S, T, P, I, V, N, Y, Q))) (fun u t9 => wrQ dg sz (brkW ck ka ad ra Z O U X S T P I V N Y Q ++ lngC ck oa D) (brkU ck ka ad ra u.1 ++ lngC ck oa u.2) t9) (va_A (brkW ck ka ad ra Z O U X S T P I V N Y Q ++ lngC ck oa D) sz)) 1 6 (va_A (brkW ck ka ad ra Z O U X S T P I V N Y Q ++ lngC ck oa D) sz) := by
  refine x_ofWH (cc := cL_baseRent) (maxL := 4) (ret := (some .int)) (by decide) rfl ?_
  intro p e s m args below meth c s₁ B hml htab hv
  obtain ⟨rfl, ⟨hsz, hP, hK, hD0⟩, hC⟩ := hv
  have hx := B.exec
  have hb := B.bytes
  have hr := B.returns
  have hts := atoms_spec (ws := .codeWith yL_baseRent cL_baseRent 4 (some .int) [(0, 9, 12, 13)] :: GW) B.pre
  have htg : ∀ w ∈ GW, w.before _ s = true := fun w h => hts w (List.mem_cons_of_mem _ h)
  have hown : s.vm.findClass RL = some m.cls := findClass_of_methodNamed B.named
  have hlocks := B.notSynchronized
  subst hsz
  have hD := hD0.self (sz := s.heap.size)
  generalize hAe : va_A (brkW ck ka ad ra Z O U X S T P I V N Y Q ++ lngC ck oa D) s.heap.size = A at hD hC ⊢
  have hA : ∀ q : Nat, s.heap.size ≤ q → A q := fun q h => by rw [← hAe]; exact Or.inr h
  have hS : va_S A s.heap s.heap [] := va_S.rf
  have hP : va_P dg vwCl (brkW ck ka ad ra Z O U X S T P I V N Y Q ++ lngC ck oa D) s.heap := hP
  have hl := lv_entry ([.ref ((ad 7) 0), .int (zI x), .ref oa]) (n := 4) (Nat.le_of_ble_eq_true rfl)
  rw [lg_entry_eq]
  generalize (lg_sl ([.ref ((ad 7) 0), .int (zI x), .ref oa]) ++ List.replicate (4 - (lg_sl ([.ref ((ad 7) 0), .int (zI x), .ref oa])).length) Slot.unset).toArray = ls at hl ⊢
  have hl : lv_has ls 4 [(0, .ref ((ad 7) 0)), (1, .int (zI x)), (2, .ref oa)] := hl
  refine lv_aload_n hx hb dL_baseRent_0 rfl (lv_at hl 2 rfl) ?_
  refine x_iconst hx hb dL_baseRent_1 ?_
  refine lv_aload_n hx hb dL_baseRent_2 rfl (lv_at hl 0 rfl) ?_
  refine lv_iload_n hx hb dL_baseRent_3 rfl (lv_at hl 1 rfl) ?_
  refine xl_calli (M := brkW ck ka ad ra Z O U X S T P I V N Y Q) (N := lngC ck oa D) (Mf := fun u : Unit => brkW ck ka ad ra Z O U X S T P I V N Y Q) (MX := fun u : Unit => brkW ck ka ad ra Z O U X S T P I V N Y Q) hP hD hS hA (fun hPm hDm => vx_runV (As := [.int (zI x)]) (rest := [.int (zI 0), .ref oa]) ⟨hx, hb, hml, hown, htg⟩ (x_baseRent l dg ck ka ad ra Z O U X S T P I V N Y Q x _ hI rg_x hst) (cwV 1 htg (gwV wq_777 wq_778 wq_779 wq_1 wq_780) rfl rfl rfl (by decide +kernel) ⟨Nat.le_of_ble_eq_true rfl, Nat.le_of_ble_eq_true rfl⟩) (wrK_preV hK hPm hDm hC hS hA 0 10 rfl rfl) rfl rfl hl.1 rfl (lv_room (Nat.le_of_ble_eq_true rfl)) dL_baseRent_4 ⟨Nat.le_of_ble_eq_true rfl, Nat.le_of_ble_eq_true rfl⟩) (fun E9 ce9 q9 u9 H locs hE9 hP hD hS g1 g2 g3 => ?_) (fun r9 u9 H locs hn9 hP hD hS => ?_)
  · obtain ⟨rfl, hc⟩ := hE9
    refine vx_catch (own := RL) (name := "java/lang/IndexOutOfBoundsException") hown [] ⟨0, 9, 12, 13⟩ [] (by rw [htab]; rfl) (fun z hz => absurd hz List.not_mem_nil) (by decide) (by decide) (htg _ wq_514) (va_Nw.use rfl (hC.nw (w := .castable "java/lang/IndexOutOfBoundsException" "java/lang/IndexOutOfBoundsException") (by decide +kernel))) g1 g2 g3 ?_
    refine W.eq (g2 := F0 m 12 ls [.ref q9]) rfl ?_
    refine lv_astore_n (lv' := [(3, .ref q9), (0, .ref ((ad 7) 0)), (1, .int (zI x)), (2, .ref oa)]) hx hb dL_baseRent_12 rfl hl (by decide) rfl (fun ls hl => ?_)
    refine x_iconst hx hb dL_baseRent_13 ?_
    exact W.widen (k := 1) (n := 6) (Nat.le_of_ble_eq_true rfl) (Nat.le_of_ble_eq_true rfl) (W.iret (v := _) hx hb hr (fun t9 ht9 hW9 => ⟨⟨_, ((Z, O, U, X, S, T, P, I, V, N, Y, Q), D), rfl, (Or.inr ⟨rfl, hc, rfl⟩), by rw [ht9]; exact hP, by rw [hAe]; exact hD⟩, hS.F ht9⟩) hS.2.2 dL_baseRent_14)
  have hP : va_P dg vwCl (brkW ck ka ad ra Z O U X S T P I V N Y Q ++ lngC ck oa D) H := hP
  have hD : va_D A (brkW ck ka ad ra Z O U X S T P I V N Y Q ++ lngC ck oa D) := hD
  refine lv_i2l hx hb dL_baseRent_7 rfl ?_
  refine va_last hx hb hK hP hD hS 166 5 rfl rfl (zI_in (z := 0) (by decide) (by decide)) dL_baseRent_8 (fun H locs hP hD hS => ?_)
  have hP : va_P dg vwCl (brkW ck ka ad ra Z O U X S T P I V N Y Q ++ lngC ck oa (vp_updL D (zI 0).toNatClampNeg r9.toInt64)) H := hP
  have hD : va_D A (brkW ck ka ad ra Z O U X S T P I V N Y Q ++ lngC ck oa (vp_updL D (zI 0).toNatClampNeg r9.toInt64)) := hD
  refine lv_goto (tgt := 15) hx hb dL_baseRent_9 (by decide) ?_
  refine x_iconst hx hb dL_baseRent_15 ?_
  exact W.widen (k := 1) (n := 6) (Nat.le_of_ble_eq_true rfl) (Nat.le_of_ble_eq_true rfl) (W.iret (v := _) hx hb hr (fun t9 ht9 hW9 => ⟨⟨_, ((Z, O, U, X, S, T, P, I, V, N, Y, Q), (vp_updL D (zI 0).toNatClampNeg r9.toInt64)), rfl, (Or.inl ⟨rfl, r9, hn9, rfl, rfl⟩), by rw [ht9]; exact hP, by rw [hAe]; exact hD⟩, hS.F ht9⟩) hS.2.2 dL_baseRent_16)

theorem wqL_rentOf : (Jvm.Cond.codeWith ({ cls := "BenchBrokerLaw", name := "rentOf", desc := "(LBenchBroker;I[J)I" } : Jvm.MethodName) method_12_code (4 : Nat) (Option.some Jvm.ClassFile.FieldType.int) [((0 : Nat), (9 : Nat), (12 : Nat), (13 : Nat))]) ∈ GW := tq_4 63 rfl rfl
set_option maxHeartbeats 4000000 in
set_option maxRecDepth 100000 in
/-- the law's rentOf -/
theorem w_rentOf (l : Launch) (dg : va_G) (ck : Nat → ClassId) (ka : Nat → Nat) (ad ra : Nat → Nat → Nat) (Z O U X : Nat → Int) (S T P I : St) (V N Y : Int → Int) (Q : Nat → St) (oa : Nat) (D : Nat → Int64) (x : Int) (sz : Nat) (hI : Bd S) (rg_x : -2147483648 ≤ x ∧ x < 2147483648) (hst : l.stackTraces = false) : Met l yL_rentOf (.codeWith yL_rentOf cL_rentOf 4 (some .int) [(0, 9, 12, 13)] :: GW) ({ frames := 8, cells := 1, slots := 6, locals := 137 }) (va_Pc [.ref ((ad 7) 0), .int (zI x), .ref oa] (wrK dg ck ka sz (brkW ck ka ad ra Z O U X S T P I V N Y Q ++ lngC ck oa D))) (va_Qi (fun r (u : BU × (Nat → Int64)) => (r = zI 0 ∧ ∃ r1 : Int32, (r1 = zI (rent S x) ∧ isBench S x) ∧ u.1 = (Z, O, U, X, S, T, P, I, V, N, Y, Q) ∧ u.2 0 = r1.toInt64) ∨ (r = zI 1 ∧ (¬ (isBench S x)) ∧ u.1 = (Z, O, U, X, S, T, P, I, V, N, Y, Q))) (fun u t9 => wrQ dg sz (brkW ck ka ad ra Z O U X S T P I V N Y Q ++ lngC ck oa D) (brkU ck ka ad ra u.1 ++ lngC ck oa u.2) t9) (va_A (brkW ck ka ad ra Z O U X S T P I V N Y Q ++ lngC ck oa D) sz)) 1 6 (va_A (brkW ck ka ad ra Z O U X S T P I V N Y Q ++ lngC ck oa D) sz) := by
  refine x_ofWH (cc := cL_rentOf) (maxL := 4) (ret := (some .int)) (by decide) rfl ?_
  intro p e s m args below meth c s₁ B hml htab hv
  obtain ⟨rfl, ⟨hsz, hP, hK, hD0⟩, hC⟩ := hv
  have hx := B.exec
  have hb := B.bytes
  have hr := B.returns
  have hts := atoms_spec (ws := .codeWith yL_rentOf cL_rentOf 4 (some .int) [(0, 9, 12, 13)] :: GW) B.pre
  have htg : ∀ w ∈ GW, w.before _ s = true := fun w h => hts w (List.mem_cons_of_mem _ h)
  have hown : s.vm.findClass RL = some m.cls := findClass_of_methodNamed B.named
  have hlocks := B.notSynchronized
  subst hsz
  have hD := hD0.self (sz := s.heap.size)
  generalize hAe : va_A (brkW ck ka ad ra Z O U X S T P I V N Y Q ++ lngC ck oa D) s.heap.size = A at hD hC ⊢
  have hA : ∀ q : Nat, s.heap.size ≤ q → A q := fun q h => by rw [← hAe]; exact Or.inr h
  have hS : va_S A s.heap s.heap [] := va_S.rf
  have hP : va_P dg vwCl (brkW ck ka ad ra Z O U X S T P I V N Y Q ++ lngC ck oa D) s.heap := hP
  have hl := lv_entry ([.ref ((ad 7) 0), .int (zI x), .ref oa]) (n := 4) (Nat.le_of_ble_eq_true rfl)
  rw [lg_entry_eq]
  generalize (lg_sl ([.ref ((ad 7) 0), .int (zI x), .ref oa]) ++ List.replicate (4 - (lg_sl ([.ref ((ad 7) 0), .int (zI x), .ref oa])).length) Slot.unset).toArray = ls at hl ⊢
  have hl : lv_has ls 4 [(0, .ref ((ad 7) 0)), (1, .int (zI x)), (2, .ref oa)] := hl
  refine lv_aload_n hx hb dL_rentOf_0 rfl (lv_at hl 2 rfl) ?_
  refine x_iconst hx hb dL_rentOf_1 ?_
  refine lv_aload_n hx hb dL_rentOf_2 rfl (lv_at hl 0 rfl) ?_
  refine lv_iload_n hx hb dL_rentOf_3 rfl (lv_at hl 1 rfl) ?_
  refine xl_calli (M := brkW ck ka ad ra Z O U X S T P I V N Y Q) (N := lngC ck oa D) (Mf := fun u : Unit => brkW ck ka ad ra Z O U X S T P I V N Y Q) (MX := fun u : Unit => brkW ck ka ad ra Z O U X S T P I V N Y Q) hP hD hS hA (fun hPm hDm => vx_runV (As := [.int (zI x)]) (rest := [.int (zI 0), .ref oa]) ⟨hx, hb, hml, hown, htg⟩ (x_rentOf l dg ck ka ad ra Z O U X S T P I V N Y Q x _ hI rg_x hst) (cwV 1 htg (gwV wq_784 wq_785 wq_786 wq_1 wq_787) rfl rfl rfl (by decide +kernel) ⟨Nat.le_of_ble_eq_true rfl, Nat.le_of_ble_eq_true rfl⟩) (wrK_preV hK hPm hDm hC hS hA 0 10 rfl rfl) rfl rfl hl.1 rfl (lv_room (Nat.le_of_ble_eq_true rfl)) dL_rentOf_4 ⟨Nat.le_of_ble_eq_true rfl, Nat.le_of_ble_eq_true rfl⟩) (fun E9 ce9 q9 u9 H locs hE9 hP hD hS g1 g2 g3 => ?_) (fun r9 u9 H locs hn9 hP hD hS => ?_)
  · obtain ⟨rfl, hc⟩ := hE9
    refine vx_catch (own := RL) (name := "java/lang/IndexOutOfBoundsException") hown [] ⟨0, 9, 12, 13⟩ [] (by rw [htab]; rfl) (fun z hz => absurd hz List.not_mem_nil) (by decide) (by decide) (htg _ wq_514) (va_Nw.use rfl (hC.nw (w := .castable "java/lang/IndexOutOfBoundsException" "java/lang/IndexOutOfBoundsException") (by decide +kernel))) g1 g2 g3 ?_
    refine W.eq (g2 := F0 m 12 ls [.ref q9]) rfl ?_
    refine lv_astore_n (lv' := [(3, .ref q9), (0, .ref ((ad 7) 0)), (1, .int (zI x)), (2, .ref oa)]) hx hb dL_rentOf_12 rfl hl (by decide) rfl (fun ls hl => ?_)
    refine x_iconst hx hb dL_rentOf_13 ?_
    exact W.widen (k := 1) (n := 6) (Nat.le_of_ble_eq_true rfl) (Nat.le_of_ble_eq_true rfl) (W.iret (v := _) hx hb hr (fun t9 ht9 hW9 => ⟨⟨_, ((Z, O, U, X, S, T, P, I, V, N, Y, Q), D), rfl, (Or.inr ⟨rfl, hc, rfl⟩), by rw [ht9]; exact hP, by rw [hAe]; exact hD⟩, hS.F ht9⟩) hS.2.2 dL_rentOf_14)
  have hP : va_P dg vwCl (brkW ck ka ad ra Z O U X S T P I V N Y Q ++ lngC ck oa D) H := hP
  have hD : va_D A (brkW ck ka ad ra Z O U X S T P I V N Y Q ++ lngC ck oa D) := hD
  refine lv_i2l hx hb dL_rentOf_7 rfl ?_
  refine va_last hx hb hK hP hD hS 166 5 rfl rfl (zI_in (z := 0) (by decide) (by decide)) dL_rentOf_8 (fun H locs hP hD hS => ?_)
  have hP : va_P dg vwCl (brkW ck ka ad ra Z O U X S T P I V N Y Q ++ lngC ck oa (vp_updL D (zI 0).toNatClampNeg r9.toInt64)) H := hP
  have hD : va_D A (brkW ck ka ad ra Z O U X S T P I V N Y Q ++ lngC ck oa (vp_updL D (zI 0).toNatClampNeg r9.toInt64)) := hD
  refine lv_goto (tgt := 15) hx hb dL_rentOf_9 (by decide) ?_
  refine x_iconst hx hb dL_rentOf_15 ?_
  exact W.widen (k := 1) (n := 6) (Nat.le_of_ble_eq_true rfl) (Nat.le_of_ble_eq_true rfl) (W.iret (v := _) hx hb hr (fun t9 ht9 hW9 => ⟨⟨_, ((Z, O, U, X, S, T, P, I, V, N, Y, Q), (vp_updL D (zI 0).toNatClampNeg r9.toInt64)), rfl, (Or.inl ⟨rfl, r9, hn9, rfl, rfl⟩), by rw [ht9]; exact hP, by rw [hAe]; exact hD⟩, hS.F ht9⟩) hS.2.2 dL_rentOf_16)

theorem wqL_loudnessOf : (Jvm.Cond.codeWith ({ cls := "BenchBrokerLaw", name := "loudnessOf", desc := "(LBenchBroker;I[J)I" } : Jvm.MethodName) method_13_code (4 : Nat) (Option.some Jvm.ClassFile.FieldType.int) [((0 : Nat), (9 : Nat), (12 : Nat), (13 : Nat))]) ∈ GW := tq_4 71 rfl rfl
set_option maxHeartbeats 4000000 in
set_option maxRecDepth 100000 in
/-- the law's loudnessOf -/
theorem w_loudnessOf (l : Launch) (dg : va_G) (ck : Nat → ClassId) (ka : Nat → Nat) (ad ra : Nat → Nat → Nat) (Z O U X : Nat → Int) (S T P I : St) (V N Y : Int → Int) (Q : Nat → St) (oa : Nat) (D : Nat → Int64) (x : Int) (sz : Nat) (hI : Bd S) (rg_x : -2147483648 ≤ x ∧ x < 2147483648) (hst : l.stackTraces = false) : Met l yL_loudnessOf (.codeWith yL_loudnessOf cL_loudnessOf 4 (some .int) [(0, 9, 12, 13)] :: GW) ({ frames := 8, cells := 1, slots := 6, locals := 137 }) (va_Pc [.ref ((ad 7) 0), .int (zI x), .ref oa] (wrK dg ck ka sz (brkW ck ka ad ra Z O U X S T P I V N Y Q ++ lngC ck oa D))) (va_Qi (fun r (u : BU × (Nat → Int64)) => (r = zI 0 ∧ ∃ r1 : Int32, (r1 = zI (S 9 x) ∧ isFount S x) ∧ u.1 = (Z, O, U, X, S, T, P, I, V, N, Y, Q) ∧ u.2 0 = r1.toInt64) ∨ (r = zI 1 ∧ (¬ (isFount S x)) ∧ u.1 = (Z, O, U, X, S, T, P, I, V, N, Y, Q))) (fun u t9 => wrQ dg sz (brkW ck ka ad ra Z O U X S T P I V N Y Q ++ lngC ck oa D) (brkU ck ka ad ra u.1 ++ lngC ck oa u.2) t9) (va_A (brkW ck ka ad ra Z O U X S T P I V N Y Q ++ lngC ck oa D) sz)) 1 6 (va_A (brkW ck ka ad ra Z O U X S T P I V N Y Q ++ lngC ck oa D) sz) := by
  refine x_ofWH (cc := cL_loudnessOf) (maxL := 4) (ret := (some .int)) (by decide) rfl ?_
  intro p e s m args below meth c s₁ B hml htab hv
  obtain ⟨rfl, ⟨hsz, hP, hK, hD0⟩, hC⟩ := hv
  have hx := B.exec
  have hb := B.bytes
  have hr := B.returns
  have hts := atoms_spec (ws := .codeWith yL_loudnessOf cL_loudnessOf 4 (some .int) [(0, 9, 12, 13)] :: GW) B.pre
  have htg : ∀ w ∈ GW, w.before _ s = true := fun w h => hts w (List.mem_cons_of_mem _ h)
  have hown : s.vm.findClass RL = some m.cls := findClass_of_methodNamed B.named
  have hlocks := B.notSynchronized
  subst hsz
  have hD := hD0.self (sz := s.heap.size)
  generalize hAe : va_A (brkW ck ka ad ra Z O U X S T P I V N Y Q ++ lngC ck oa D) s.heap.size = A at hD hC ⊢
  have hA : ∀ q : Nat, s.heap.size ≤ q → A q := fun q h => by rw [← hAe]; exact Or.inr h
  have hS : va_S A s.heap s.heap [] := va_S.rf
  have hP : va_P dg vwCl (brkW ck ka ad ra Z O U X S T P I V N Y Q ++ lngC ck oa D) s.heap := hP
  have hl := lv_entry ([.ref ((ad 7) 0), .int (zI x), .ref oa]) (n := 4) (Nat.le_of_ble_eq_true rfl)
  rw [lg_entry_eq]
  generalize (lg_sl ([.ref ((ad 7) 0), .int (zI x), .ref oa]) ++ List.replicate (4 - (lg_sl ([.ref ((ad 7) 0), .int (zI x), .ref oa])).length) Slot.unset).toArray = ls at hl ⊢
  have hl : lv_has ls 4 [(0, .ref ((ad 7) 0)), (1, .int (zI x)), (2, .ref oa)] := hl
  refine lv_aload_n hx hb dL_loudnessOf_0 rfl (lv_at hl 2 rfl) ?_
  refine x_iconst hx hb dL_loudnessOf_1 ?_
  refine lv_aload_n hx hb dL_loudnessOf_2 rfl (lv_at hl 0 rfl) ?_
  refine lv_iload_n hx hb dL_loudnessOf_3 rfl (lv_at hl 1 rfl) ?_
  refine xl_calli (M := brkW ck ka ad ra Z O U X S T P I V N Y Q) (N := lngC ck oa D) (Mf := fun u : Unit => brkW ck ka ad ra Z O U X S T P I V N Y Q) (MX := fun u : Unit => brkW ck ka ad ra Z O U X S T P I V N Y Q) hP hD hS hA (fun hPm hDm => vx_runV (As := [.int (zI x)]) (rest := [.int (zI 0), .ref oa]) ⟨hx, hb, hml, hown, htg⟩ (x_loudnessOf l dg ck ka ad ra Z O U X S T P I V N Y Q x _ hI rg_x hst) (cwV 1 htg (gwV wq_792 wq_793 wq_794 wq_1 wq_795) rfl rfl rfl (by decide +kernel) ⟨Nat.le_of_ble_eq_true rfl, Nat.le_of_ble_eq_true rfl⟩) (wrK_preV hK hPm hDm hC hS hA 0 10 rfl rfl) rfl rfl hl.1 rfl (lv_room (Nat.le_of_ble_eq_true rfl)) dL_loudnessOf_4 ⟨Nat.le_of_ble_eq_true rfl, Nat.le_of_ble_eq_true rfl⟩) (fun E9 ce9 q9 u9 H locs hE9 hP hD hS g1 g2 g3 => ?_) (fun r9 u9 H locs hn9 hP hD hS => ?_)
  · obtain ⟨rfl, hc⟩ := hE9
    refine vx_catch (own := RL) (name := "java/lang/IndexOutOfBoundsException") hown [] ⟨0, 9, 12, 13⟩ [] (by rw [htab]; rfl) (fun z hz => absurd hz List.not_mem_nil) (by decide) (by decide) (htg _ wq_514) (va_Nw.use rfl (hC.nw (w := .castable "java/lang/IndexOutOfBoundsException" "java/lang/IndexOutOfBoundsException") (by decide +kernel))) g1 g2 g3 ?_
    refine W.eq (g2 := F0 m 12 ls [.ref q9]) rfl ?_
    refine lv_astore_n (lv' := [(3, .ref q9), (0, .ref ((ad 7) 0)), (1, .int (zI x)), (2, .ref oa)]) hx hb dL_loudnessOf_12 rfl hl (by decide) rfl (fun ls hl => ?_)
    refine x_iconst hx hb dL_loudnessOf_13 ?_
    exact W.widen (k := 1) (n := 6) (Nat.le_of_ble_eq_true rfl) (Nat.le_of_ble_eq_true rfl) (W.iret (v := _) hx hb hr (fun t9 ht9 hW9 => ⟨⟨_, ((Z, O, U, X, S, T, P, I, V, N, Y, Q), D), rfl, (Or.inr ⟨rfl, hc, rfl⟩), by rw [ht9]; exact hP, by rw [hAe]; exact hD⟩, hS.F ht9⟩) hS.2.2 dL_loudnessOf_14)
  have hP : va_P dg vwCl (brkW ck ka ad ra Z O U X S T P I V N Y Q ++ lngC ck oa D) H := hP
  have hD : va_D A (brkW ck ka ad ra Z O U X S T P I V N Y Q ++ lngC ck oa D) := hD
  refine lv_i2l hx hb dL_loudnessOf_7 rfl ?_
  refine va_last hx hb hK hP hD hS 166 5 rfl rfl (zI_in (z := 0) (by decide) (by decide)) dL_loudnessOf_8 (fun H locs hP hD hS => ?_)
  have hP : va_P dg vwCl (brkW ck ka ad ra Z O U X S T P I V N Y Q ++ lngC ck oa (vp_updL D (zI 0).toNatClampNeg r9.toInt64)) H := hP
  have hD : va_D A (brkW ck ka ad ra Z O U X S T P I V N Y Q ++ lngC ck oa (vp_updL D (zI 0).toNatClampNeg r9.toInt64)) := hD
  refine lv_goto (tgt := 15) hx hb dL_loudnessOf_9 (by decide) ?_
  refine x_iconst hx hb dL_loudnessOf_15 ?_
  exact W.widen (k := 1) (n := 6) (Nat.le_of_ble_eq_true rfl) (Nat.le_of_ble_eq_true rfl) (W.iret (v := _) hx hb hr (fun t9 ht9 hW9 => ⟨⟨_, ((Z, O, U, X, S, T, P, I, V, N, Y, Q), (vp_updL D (zI 0).toNatClampNeg r9.toInt64)), rfl, (Or.inl ⟨rfl, r9, hn9, rfl, rfl⟩), by rw [ht9]; exact hP, by rw [hAe]; exact hD⟩, hS.F ht9⟩) hS.2.2 dL_loudnessOf_16)

theorem wqL_isRunning : (Jvm.Cond.codeWith ({ cls := "BenchBrokerLaw", name := "isRunning", desc := "(LBenchBroker;I[J)I" } : Jvm.MethodName) method_14_code (4 : Nat) (Option.some Jvm.ClassFile.FieldType.int) [((0 : Nat), (16 : Nat), (19 : Nat), (13 : Nat))]) ∈ GW := tq_4 83 rfl rfl
set_option maxHeartbeats 4000000 in
set_option maxRecDepth 100000 in
/-- the law's isRunning -/
theorem w_isRunning (l : Launch) (dg : va_G) (ck : Nat → ClassId) (ka : Nat → Nat) (ad ra : Nat → Nat → Nat) (Z O U X : Nat → Int) (S T P I : St) (V N Y : Int → Int) (Q : Nat → St) (oa : Nat) (D : Nat → Int64) (x : Int) (sz : Nat) (hI : Bd S) (rg_x : -2147483648 ≤ x ∧ x < 2147483648) (hst : l.stackTraces = false) : Met l yL_isRunning (.codeWith yL_isRunning cL_isRunning 4 (some .int) [(0, 16, 19, 13)] :: GW) ({ frames := 8, cells := 1, slots := 6, locals := 137 }) (va_Pc [.ref ((ad 7) 0), .int (zI x), .ref oa] (wrK dg ck ka sz (brkW ck ka ad ra Z O U X S T P I V N Y Q ++ lngC ck oa D))) (va_Qi (fun r (u : BU × (Nat → Int64)) => (r = zI 0 ∧ ∃ r1 : Int32, (r1 = zI (S 10 x) ∧ isFount S x) ∧ u.1 = (Z, O, U, X, S, T, P, I, V, N, Y, Q) ∧ u.2 0 = r1.toInt64) ∨ (r = zI 1 ∧ (¬ (isFount S x)) ∧ u.1 = (Z, O, U, X, S, T, P, I, V, N, Y, Q))) (fun u t9 => wrQ dg sz (brkW ck ka ad ra Z O U X S T P I V N Y Q ++ lngC ck oa D) (brkU ck ka ad ra u.1 ++ lngC ck oa u.2) t9) (va_A (brkW ck ka ad ra Z O U X S T P I V N Y Q ++ lngC ck oa D) sz)) 1 6 (va_A (brkW ck ka ad ra Z O U X S T P I V N Y Q ++ lngC ck oa D) sz) := by
  refine x_ofWH (cc := cL_isRunning) (maxL := 4) (ret := (some .int)) (by decide) rfl ?_
  intro p e s m args below meth c s₁ B hml htab hv
  obtain ⟨rfl, ⟨hsz, hP, hK, hD0⟩, hC⟩ := hv
  have hx := B.exec
  have hb := B.bytes
  have hr := B.returns
  have hts := atoms_spec (ws := .codeWith yL_isRunning cL_isRunning 4 (some .int) [(0, 16, 19, 13)] :: GW) B.pre
  have htg : ∀ w ∈ GW, w.before _ s = true := fun w h => hts w (List.mem_cons_of_mem _ h)
  have hown : s.vm.findClass RL = some m.cls := findClass_of_methodNamed B.named
  have hlocks := B.notSynchronized
  subst hsz
  have hD := hD0.self (sz := s.heap.size)
  generalize hAe : va_A (brkW ck ka ad ra Z O U X S T P I V N Y Q ++ lngC ck oa D) s.heap.size = A at hD hC ⊢
  have hA : ∀ q : Nat, s.heap.size ≤ q → A q := fun q h => by rw [← hAe]; exact Or.inr h
  have hS : va_S A s.heap s.heap [] := va_S.rf
  have hP : va_P dg vwCl (brkW ck ka ad ra Z O U X S T P I V N Y Q ++ lngC ck oa D) s.heap := hP
  have hl := lv_entry ([.ref ((ad 7) 0), .int (zI x), .ref oa]) (n := 4) (Nat.le_of_ble_eq_true rfl)
  rw [lg_entry_eq]
  generalize (lg_sl ([.ref ((ad 7) 0), .int (zI x), .ref oa]) ++ List.replicate (4 - (lg_sl ([.ref ((ad 7) 0), .int (zI x), .ref oa])).length) Slot.unset).toArray = ls at hl ⊢
  have hl : lv_has ls 4 [(0, .ref ((ad 7) 0)), (1, .int (zI x)), (2, .ref oa)] := hl
  refine lv_aload_n hx hb dL_isRunning_0 rfl (lv_at hl 2 rfl) ?_
  refine x_iconst hx hb dL_isRunning_1 ?_
  refine lv_aload_n hx hb dL_isRunning_2 rfl (lv_at hl 0 rfl) ?_
  refine lv_iload_n hx hb dL_isRunning_3 rfl (lv_at hl 1 rfl) ?_
  refine xl_calli (M := brkW ck ka ad ra Z O U X S T P I V N Y Q) (N := lngC ck oa D) (Mf := fun u : Unit => brkW ck ka ad ra Z O U X S T P I V N Y Q) (MX := fun u : Unit => brkW ck ka ad ra Z O U X S T P I V N Y Q) hP hD hS hA (fun hPm hDm => vx_runV (As := [.int (zI x)]) (rest := [.int (zI 0), .ref oa]) ⟨hx, hb, hml, hown, htg⟩ (x_isRunning l dg ck ka ad ra Z O U X S T P I V N Y Q x _ hI rg_x hst) (cwV 1 htg (gwV wq_804 wq_805 wq_806 wq_1 wq_807) rfl rfl rfl (by decide +kernel) ⟨Nat.le_of_ble_eq_true rfl, Nat.le_of_ble_eq_true rfl⟩) (wrK_preV hK hPm hDm hC hS hA 0 10 rfl rfl) rfl rfl hl.1 rfl (lv_room (Nat.le_of_ble_eq_true rfl)) dL_isRunning_4 ⟨Nat.le_of_ble_eq_true rfl, Nat.le_of_ble_eq_true rfl⟩) (fun E9 ce9 q9 u9 H locs hE9 hP hD hS g1 g2 g3 => ?_) (fun r9 u9 H locs hn9 hP hD hS => ?_)
  · obtain ⟨rfl, hc⟩ := hE9
    refine vx_catch (own := RL) (name := "java/lang/IndexOutOfBoundsException") hown [] ⟨0, 16, 19, 13⟩ [] (by rw [htab]; rfl) (fun z hz => absurd hz List.not_mem_nil) (by decide) (by decide) (htg _ wq_514) (va_Nw.use rfl (hC.nw (w := .castable "java/lang/IndexOutOfBoundsException" "java/lang/IndexOutOfBoundsException") (by decide +kernel))) g1 g2 g3 ?_
    refine W.eq (g2 := F0 m 19 ls [.ref q9]) rfl ?_
    refine lv_astore_n (lv' := [(3, .ref q9), (0, .ref ((ad 7) 0)), (1, .int (zI x)), (2, .ref oa)]) hx hb dL_isRunning_19 rfl hl (by decide) rfl (fun ls hl => ?_)
    refine x_iconst hx hb dL_isRunning_20 ?_
    exact W.widen (k := 1) (n := 6) (Nat.le_of_ble_eq_true rfl) (Nat.le_of_ble_eq_true rfl) (W.iret (v := _) hx hb hr (fun t9 ht9 hW9 => ⟨⟨_, ((Z, O, U, X, S, T, P, I, V, N, Y, Q), D), rfl, (Or.inr ⟨rfl, hc, rfl⟩), by rw [ht9]; exact hP, by rw [hAe]; exact hD⟩, hS.F ht9⟩) hS.2.2 dL_isRunning_21)
  have hP : va_P dg vwCl (brkW ck ka ad ra Z O U X S T P I V N Y Q ++ lngC ck oa D) H := hP
  have hD : va_D A (brkW ck ka ad ra Z O U X S T P I V N Y Q ++ lngC ck oa D) := hD
  have hn0 := hn9
  obtain ⟨rfl, -⟩ := hn9
  have hv9 := hI.2.2.2.2.2.2.2.2.2.2.2.2.2.1 x
  rcases (show (S 10 x) = 1 ∨ (S 10 x) = 0 by omega) with h9 | h9
  · refine x_is h9 ?_
    refine x_if_eq (tgt := 14) hx hb dL_isRunning_7 (by decide) (by omega) (fun c => absurd c (by decide)) (fun _ => ?_)
    refine lv_lconst (v := 1) hx hb dL_isRunning_10 (by decide) ?_
    refine lv_goto (tgt := 15) hx hb dL_isRunning_11 (by decide) ?_
    refine va_last hx hb hK hP hD hS 166 5 rfl rfl (zI_in (z := 0) (by decide) (by decide)) dL_isRunning_15 (fun H locs hP hD hS => ?_)
    have hP : va_P dg vwCl (brkW ck ka ad ra Z O U X S T P I V N Y Q ++ lngC ck oa (vp_updL D (zI 0).toNatClampNeg 1)) H := hP
    have hD : va_D A (brkW ck ka ad ra Z O U X S T P I V N Y Q ++ lngC ck oa (vp_updL D (zI 0).toNatClampNeg 1)) := hD
    refine lv_goto (tgt := 22) hx hb dL_isRunning_16 (by decide) ?_
    refine x_iconst hx hb dL_isRunning_22 ?_
    exact W.widen (k := 1) (n := 6) (Nat.le_of_ble_eq_true rfl) (Nat.le_of_ble_eq_true rfl) (W.iret (v := _) hx hb hr (fun t9 ht9 hW9 => ⟨⟨_, ((Z, O, U, X, S, T, P, I, V, N, Y, Q), (vp_updL D (zI 0).toNatClampNeg 1)), rfl, (Or.inl ⟨rfl, _, hn0, rfl, by rw [h9]; rfl⟩), by rw [ht9]; exact hP, by rw [hAe]; exact hD⟩, hS.F ht9⟩) hS.2.2 dL_isRunning_23)
  · refine x_is h9 ?_
    refine x_if_eq (tgt := 14) hx hb dL_isRunning_7 (by decide) (by omega) (fun _ => ?_) (fun c => absurd c (by decide))
    refine lv_lconst (v := 0) hx hb dL_isRunning_14 (by decide) ?_
    refine va_last hx hb hK hP hD hS 166 5 rfl rfl (zI_in (z := 0) (by decide) (by decide)) dL_isRunning_15 (fun H locs hP hD hS => ?_)
    have hP : va_P dg vwCl (brkW ck ka ad ra Z O U X S T P I V N Y Q ++ lngC ck oa (vp_updL D (zI 0).toNatClampNeg 0)) H := hP
    have hD : va_D A (brkW ck ka ad ra Z O U X S T P I V N Y Q ++ lngC ck oa (vp_updL D (zI 0).toNatClampNeg 0)) := hD
    refine lv_goto (tgt := 22) hx hb dL_isRunning_16 (by decide) ?_
    refine x_iconst hx hb dL_isRunning_22 ?_
    exact W.widen (k := 1) (n := 6) (Nat.le_of_ble_eq_true rfl) (Nat.le_of_ble_eq_true rfl) (W.iret (v := _) hx hb hr (fun t9 ht9 hW9 => ⟨⟨_, ((Z, O, U, X, S, T, P, I, V, N, Y, Q), (vp_updL D (zI 0).toNatClampNeg 0)), rfl, (Or.inl ⟨rfl, _, hn0, rfl, by rw [h9]; rfl⟩), by rw [ht9]; exact hP, by rw [hAe]; exact hD⟩, hS.F ht9⟩) hS.2.2 dL_isRunning_23)

theorem wqL_noiseAt : (Jvm.Cond.codeWith ({ cls := "BenchBrokerLaw", name := "noiseAt", desc := "(LBenchBroker;II[J)I" } : Jvm.MethodName) method_15_code (5 : Nat) (Option.some Jvm.ClassFile.FieldType.int) [((0 : Nat), (10 : Nat), (13 : Nat), (13 : Nat))]) ∈ GW := tq_4 90 rfl rfl
set_option maxHeartbeats 4000000 in
set_option maxRecDepth 100000 in
/-- the law's noiseAt -/
theorem w_noiseAt (l : Launch) (dg : va_G) (ck : Nat → ClassId) (ka : Nat → Nat) (ad ra : Nat → Nat → Nat) (Z O U X : Nat → Int) (S T P I : St) (V N Y : Int → Int) (Q : Nat → St) (oa : Nat) (D : Nat → Int64) (x y : Int) (sz : Nat) (hI : Bd S) (rg_x : -2147483648 ≤ x ∧ x < 2147483648) (rg_y : -2147483648 ≤ y ∧ y < 2147483648) (hst : l.stackTraces = false) : Met l yL_noiseAt (.codeWith yL_noiseAt cL_noiseAt 5 (some .int) [(0, 10, 13, 13)] :: GW) ({ frames := 8, cells := 1, slots := 6, locals := 139 }) (va_Pc [.ref ((ad 7) 0), .int (zI x), .int (zI y), .ref oa] (wrK dg ck ka sz (brkW ck ka ad ra Z O U X S T P I V N Y Q ++ lngC ck oa D))) (va_Qi (fun r (u : BU × (Nat → Int64)) => (r = zI 0 ∧ ∃ r1 : Int32, (r1 = zI (noise S x y) ∧ isCell x y) ∧ u.1 = (Z, O, U, X, S, T, P, I, V, N, Y, Q) ∧ u.2 0 = r1.toInt64) ∨ (r = zI 1 ∧ (¬ isCell x y) ∧ u.1 = (Z, O, U, X, S, T, P, I, V, N, Y, Q))) (fun u t9 => wrQ dg sz (brkW ck ka ad ra Z O U X S T P I V N Y Q ++ lngC ck oa D) (brkU ck ka ad ra u.1 ++ lngC ck oa u.2) t9) (va_A (brkW ck ka ad ra Z O U X S T P I V N Y Q ++ lngC ck oa D) sz)) 1 6 (va_A (brkW ck ka ad ra Z O U X S T P I V N Y Q ++ lngC ck oa D) sz) := by
  refine x_ofWH (cc := cL_noiseAt) (maxL := 5) (ret := (some .int)) (by decide) rfl ?_
  intro p e s m args below meth c s₁ B hml htab hv
  obtain ⟨rfl, ⟨hsz, hP, hK, hD0⟩, hC⟩ := hv
  have hx := B.exec
  have hb := B.bytes
  have hr := B.returns
  have hts := atoms_spec (ws := .codeWith yL_noiseAt cL_noiseAt 5 (some .int) [(0, 10, 13, 13)] :: GW) B.pre
  have htg : ∀ w ∈ GW, w.before _ s = true := fun w h => hts w (List.mem_cons_of_mem _ h)
  have hown : s.vm.findClass RL = some m.cls := findClass_of_methodNamed B.named
  have hlocks := B.notSynchronized
  subst hsz
  have hD := hD0.self (sz := s.heap.size)
  generalize hAe : va_A (brkW ck ka ad ra Z O U X S T P I V N Y Q ++ lngC ck oa D) s.heap.size = A at hD hC ⊢
  have hA : ∀ q : Nat, s.heap.size ≤ q → A q := fun q h => by rw [← hAe]; exact Or.inr h
  have hS : va_S A s.heap s.heap [] := va_S.rf
  have hP : va_P dg vwCl (brkW ck ka ad ra Z O U X S T P I V N Y Q ++ lngC ck oa D) s.heap := hP
  have hl := lv_entry ([.ref ((ad 7) 0), .int (zI x), .int (zI y), .ref oa]) (n := 5) (Nat.le_of_ble_eq_true rfl)
  rw [lg_entry_eq]
  generalize (lg_sl ([.ref ((ad 7) 0), .int (zI x), .int (zI y), .ref oa]) ++ List.replicate (5 - (lg_sl ([.ref ((ad 7) 0), .int (zI x), .int (zI y), .ref oa])).length) Slot.unset).toArray = ls at hl ⊢
  have hl : lv_has ls 5 [(0, .ref ((ad 7) 0)), (1, .int (zI x)), (2, .int (zI y)), (3, .ref oa)] := hl
  refine lv_aload_n hx hb dL_noiseAt_0 rfl (lv_at hl 3 rfl) ?_
  refine x_iconst hx hb dL_noiseAt_1 ?_
  refine lv_aload_n hx hb dL_noiseAt_2 rfl (lv_at hl 0 rfl) ?_
  refine lv_iload_n hx hb dL_noiseAt_3 rfl (lv_at hl 1 rfl) ?_
  refine lv_iload_n hx hb dL_noiseAt_4 rfl (lv_at hl 2 rfl) ?_
  refine xl_calli (M := brkW ck ka ad ra Z O U X S T P I V N Y Q) (N := lngC ck oa D) (Mf := fun u : Unit => brkW ck ka ad ra Z O U X S T P I V N Y Q) (MX := fun u : Unit => brkW ck ka ad ra Z O U X S T P I V N Y Q) hP hD hS hA (fun hPm hDm => vx_runV (As := [.int (zI x), .int (zI y)]) (rest := [.int (zI 0), .ref oa]) ⟨hx, hb, hml, hown, htg⟩ (x_noiseAt l dg ck ka ad ra Z O U X S T P I V N Y Q x y _ hI rg_x rg_y hst) (cwV 2 htg (gwV wq_811 wq_812 wq_813 wq_1 wq_814) rfl rfl rfl (by decide +kernel) ⟨Nat.le_of_ble_eq_true rfl, Nat.le_of_ble_eq_true rfl⟩) (wrK_preV hK hPm hDm hC hS hA 0 10 rfl rfl) rfl rfl hl.1 rfl (lv_room (Nat.le_of_ble_eq_true rfl)) dL_noiseAt_5 ⟨Nat.le_of_ble_eq_true rfl, Nat.le_of_ble_eq_true rfl⟩) (fun E9 ce9 q9 u9 H locs hE9 hP hD hS g1 g2 g3 => ?_) (fun r9 u9 H locs hn9 hP hD hS => ?_)
  · obtain ⟨rfl, hc⟩ := hE9
    refine vx_catch (own := RL) (name := "java/lang/IndexOutOfBoundsException") hown [] ⟨0, 10, 13, 13⟩ [] (by rw [htab]; rfl) (fun z hz => absurd hz List.not_mem_nil) (by decide) (by decide) (htg _ wq_514) (va_Nw.use rfl (hC.nw (w := .castable "java/lang/IndexOutOfBoundsException" "java/lang/IndexOutOfBoundsException") (by decide +kernel))) g1 g2 g3 ?_
    refine W.eq (g2 := F0 m 13 ls [.ref q9]) rfl ?_
    refine lv_astore (lv' := [(4, .ref q9), (0, .ref ((ad 7) 0)), (1, .int (zI x)), (2, .int (zI y)), (3, .ref oa)]) hx hb dL_noiseAt_13 hl (by decide) rfl (fun ls hl => ?_)
    refine x_iconst hx hb dL_noiseAt_15 ?_
    exact W.widen (k := 1) (n := 6) (Nat.le_of_ble_eq_true rfl) (Nat.le_of_ble_eq_true rfl) (W.iret (v := _) hx hb hr (fun t9 ht9 hW9 => ⟨⟨_, ((Z, O, U, X, S, T, P, I, V, N, Y, Q), D), rfl, (Or.inr ⟨rfl, hc, rfl⟩), by rw [ht9]; exact hP, by rw [hAe]; exact hD⟩, hS.F ht9⟩) hS.2.2 dL_noiseAt_16)
  have hP : va_P dg vwCl (brkW ck ka ad ra Z O U X S T P I V N Y Q ++ lngC ck oa D) H := hP
  have hD : va_D A (brkW ck ka ad ra Z O U X S T P I V N Y Q ++ lngC ck oa D) := hD
  refine lv_i2l hx hb dL_noiseAt_8 rfl ?_
  refine va_last hx hb hK hP hD hS 166 5 rfl rfl (zI_in (z := 0) (by decide) (by decide)) dL_noiseAt_9 (fun H locs hP hD hS => ?_)
  have hP : va_P dg vwCl (brkW ck ka ad ra Z O U X S T P I V N Y Q ++ lngC ck oa (vp_updL D (zI 0).toNatClampNeg r9.toInt64)) H := hP
  have hD : va_D A (brkW ck ka ad ra Z O U X S T P I V N Y Q ++ lngC ck oa (vp_updL D (zI 0).toNatClampNeg r9.toInt64)) := hD
  refine lv_goto (tgt := 17) hx hb dL_noiseAt_10 (by decide) ?_
  refine x_iconst hx hb dL_noiseAt_17 ?_
  exact W.widen (k := 1) (n := 6) (Nat.le_of_ble_eq_true rfl) (Nat.le_of_ble_eq_true rfl) (W.iret (v := _) hx hb hr (fun t9 ht9 hW9 => ⟨⟨_, ((Z, O, U, X, S, T, P, I, V, N, Y, Q), (vp_updL D (zI 0).toNatClampNeg r9.toInt64)), rfl, (Or.inl ⟨rfl, r9, hn9, rfl, rfl⟩), by rw [ht9]; exact hP, by rw [hAe]; exact hD⟩, hS.F ht9⟩) hS.2.2 dL_noiseAt_18)

theorem wqL_noiseBySpreading : (Jvm.Cond.codeWith ({ cls := "BenchBrokerLaw", name := "noiseBySpreading", desc := "(LBenchBroker;II[J)I" } : Jvm.MethodName) method_16_code (5 : Nat) (Option.some Jvm.ClassFile.FieldType.int) [((0 : Nat), (10 : Nat), (13 : Nat), (13 : Nat))]) ∈ GW := tq_4 102 rfl rfl
set_option maxHeartbeats 4000000 in
set_option maxRecDepth 100000 in
/-- the law's noiseBySpreading -/
theorem w_noiseBySpreading (l : Launch) (dg : va_G) (ck : Nat → ClassId) (ka : Nat → Nat) (ad ra : Nat → Nat → Nat) (Z O U X : Nat → Int) (S T P I : St) (V N Y : Int → Int) (Q : Nat → St) (oa : Nat) (D : Nat → Int64) (x y : Int) (sz : Nat) (hI : Bd S) (rg_x : -2147483648 ≤ x ∧ x < 2147483648) (rg_y : -2147483648 ≤ y ∧ y < 2147483648) (hst : l.stackTraces = false) : Met l yL_noiseBySpreading (.codeWith yL_noiseBySpreading cL_noiseBySpreading 5 (some .int) [(0, 10, 13, 13)] :: GW) ({ frames := 8, cells := 1, slots := 6, locals := 139 }) (va_Pc [.ref ((ad 7) 0), .int (zI x), .int (zI y), .ref oa] (wrK dg ck ka sz (brkW ck ka ad ra Z O U X S T P I V N Y Q ++ lngC ck oa D))) (va_Qi (fun r (u : BU × (Nat → Int64)) => (r = zI 0 ∧ ∃ r1 : Int32, (r1 = zI (noise S x y) ∧ isCell x y) ∧ u.1 = (Z, O, U, X, S, T, P, I, (nsF S), (slZ S N (S 0 1).toNat), Y, Q) ∧ u.2 0 = r1.toInt64) ∨ (r = zI 1 ∧ (¬ isCell x y) ∧ u.1 = (Z, O, U, X, S, T, P, I, V, N, Y, Q))) (fun u t9 => wrQ dg sz (brkW ck ka ad ra Z O U X S T P I V N Y Q ++ lngC ck oa D) (brkU ck ka ad ra u.1 ++ lngC ck oa u.2) t9) (va_A (brkW ck ka ad ra Z O U X S T P I V N Y Q ++ lngC ck oa D) sz)) 1 6 (va_A (brkW ck ka ad ra Z O U X S T P I V N Y Q ++ lngC ck oa D) sz) := by
  refine x_ofWH (cc := cL_noiseBySpreading) (maxL := 5) (ret := (some .int)) (by decide) rfl ?_
  intro p e s m args below meth c s₁ B hml htab hv
  obtain ⟨rfl, ⟨hsz, hP, hK, hD0⟩, hC⟩ := hv
  have hx := B.exec
  have hb := B.bytes
  have hr := B.returns
  have hts := atoms_spec (ws := .codeWith yL_noiseBySpreading cL_noiseBySpreading 5 (some .int) [(0, 10, 13, 13)] :: GW) B.pre
  have htg : ∀ w ∈ GW, w.before _ s = true := fun w h => hts w (List.mem_cons_of_mem _ h)
  have hown : s.vm.findClass RL = some m.cls := findClass_of_methodNamed B.named
  have hlocks := B.notSynchronized
  subst hsz
  have hD := hD0.self (sz := s.heap.size)
  generalize hAe : va_A (brkW ck ka ad ra Z O U X S T P I V N Y Q ++ lngC ck oa D) s.heap.size = A at hD hC ⊢
  have hA : ∀ q : Nat, s.heap.size ≤ q → A q := fun q h => by rw [← hAe]; exact Or.inr h
  have hS : va_S A s.heap s.heap [] := va_S.rf
  have hP : va_P dg vwCl (brkW ck ka ad ra Z O U X S T P I V N Y Q ++ lngC ck oa D) s.heap := hP
  have hl := lv_entry ([.ref ((ad 7) 0), .int (zI x), .int (zI y), .ref oa]) (n := 5) (Nat.le_of_ble_eq_true rfl)
  rw [lg_entry_eq]
  generalize (lg_sl ([.ref ((ad 7) 0), .int (zI x), .int (zI y), .ref oa]) ++ List.replicate (5 - (lg_sl ([.ref ((ad 7) 0), .int (zI x), .int (zI y), .ref oa])).length) Slot.unset).toArray = ls at hl ⊢
  have hl : lv_has ls 5 [(0, .ref ((ad 7) 0)), (1, .int (zI x)), (2, .int (zI y)), (3, .ref oa)] := hl
  refine lv_aload_n hx hb dL_noiseBySpreading_0 rfl (lv_at hl 3 rfl) ?_
  refine x_iconst hx hb dL_noiseBySpreading_1 ?_
  refine lv_aload_n hx hb dL_noiseBySpreading_2 rfl (lv_at hl 0 rfl) ?_
  refine lv_iload_n hx hb dL_noiseBySpreading_3 rfl (lv_at hl 1 rfl) ?_
  refine lv_iload_n hx hb dL_noiseBySpreading_4 rfl (lv_at hl 2 rfl) ?_
  refine xl_calli (M := brkW ck ka ad ra Z O U X S T P I V N Y Q) (N := lngC ck oa D) (Mf := fun u : Unit => brkW ck ka ad ra Z O U X S T P I (nsF S) (slZ S N (S 0 1).toNat) Y Q) (MX := fun u : Unit => brkW ck ka ad ra Z O U X S T P I V N Y Q) hP hD hS hA (fun hPm hDm => vx_runV (As := [.int (zI x), .int (zI y)]) (rest := [.int (zI 0), .ref oa]) ⟨hx, hb, hml, hown, htg⟩ (x_noiseBySpreading l dg ck ka ad ra Z O U X S T P I V N Y Q x y _ hI rg_x rg_y hst) (cwV 2 htg (gwV wq_823 wq_824 wq_825 wq_1 wq_826) rfl rfl rfl (by decide +kernel) ⟨Nat.le_of_ble_eq_true rfl, Nat.le_of_ble_eq_true rfl⟩) (wrK_preV hK hPm hDm hC hS hA 0 10 rfl rfl) rfl rfl hl.1 rfl (lv_room (Nat.le_of_ble_eq_true rfl)) dL_noiseBySpreading_5 ⟨Nat.le_of_ble_eq_true rfl, Nat.le_of_ble_eq_true rfl⟩) (fun E9 ce9 q9 u9 H locs hE9 hP hD hS g1 g2 g3 => ?_) (fun r9 u9 H locs hn9 hP hD hS => ?_)
  · obtain ⟨rfl, hc⟩ := hE9
    refine vx_catch (own := RL) (name := "java/lang/IndexOutOfBoundsException") hown [] ⟨0, 10, 13, 13⟩ [] (by rw [htab]; rfl) (fun z hz => absurd hz List.not_mem_nil) (by decide) (by decide) (htg _ wq_514) (va_Nw.use rfl (hC.nw (w := .castable "java/lang/IndexOutOfBoundsException" "java/lang/IndexOutOfBoundsException") (by decide +kernel))) g1 g2 g3 ?_
    refine W.eq (g2 := F0 m 13 ls [.ref q9]) rfl ?_
    refine lv_astore (lv' := [(4, .ref q9), (0, .ref ((ad 7) 0)), (1, .int (zI x)), (2, .int (zI y)), (3, .ref oa)]) hx hb dL_noiseBySpreading_13 hl (by decide) rfl (fun ls hl => ?_)
    refine x_iconst hx hb dL_noiseBySpreading_15 ?_
    exact W.widen (k := 1) (n := 6) (Nat.le_of_ble_eq_true rfl) (Nat.le_of_ble_eq_true rfl) (W.iret (v := _) hx hb hr (fun t9 ht9 hW9 => ⟨⟨_, ((Z, O, U, X, S, T, P, I, V, N, Y, Q), D), rfl, (Or.inr ⟨rfl, hc, rfl⟩), by rw [ht9]; exact hP, by rw [hAe]; exact hD⟩, hS.F ht9⟩) hS.2.2 dL_noiseBySpreading_16)
  have hP : va_P dg vwCl (brkW ck ka ad ra Z O U X S T P I (nsF S) (slZ S N (S 0 1).toNat) Y Q ++ lngC ck oa D) H := hP
  have hD : va_D A (brkW ck ka ad ra Z O U X S T P I (nsF S) (slZ S N (S 0 1).toNat) Y Q ++ lngC ck oa D) := hD
  refine lv_i2l hx hb dL_noiseBySpreading_8 rfl ?_
  refine va_last hx hb hK hP hD hS 166 5 rfl rfl (zI_in (z := 0) (by decide) (by decide)) dL_noiseBySpreading_9 (fun H locs hP hD hS => ?_)
  have hP : va_P dg vwCl (brkW ck ka ad ra Z O U X S T P I (nsF S) (slZ S N (S 0 1).toNat) Y Q ++ lngC ck oa (vp_updL D (zI 0).toNatClampNeg r9.toInt64)) H := hP
  have hD : va_D A (brkW ck ka ad ra Z O U X S T P I (nsF S) (slZ S N (S 0 1).toNat) Y Q ++ lngC ck oa (vp_updL D (zI 0).toNatClampNeg r9.toInt64)) := hD
  refine lv_goto (tgt := 17) hx hb dL_noiseBySpreading_10 (by decide) ?_
  refine x_iconst hx hb dL_noiseBySpreading_17 ?_
  exact W.widen (k := 1) (n := 6) (Nat.le_of_ble_eq_true rfl) (Nat.le_of_ble_eq_true rfl) (W.iret (v := _) hx hb hr (fun t9 ht9 hW9 => ⟨⟨_, ((Z, O, U, X, S, T, P, I, (nsF S), (slZ S N (S 0 1).toNat), Y, Q), (vp_updL D (zI 0).toNatClampNeg r9.toInt64)), rfl, (Or.inl ⟨rfl, r9, hn9, rfl, rfl⟩), by rw [ht9]; exact hP, by rw [hAe]; exact hD⟩, hS.F ht9⟩) hS.2.2 dL_noiseBySpreading_18)

theorem wqL_isQuiet : (Jvm.Cond.codeWith ({ cls := "BenchBrokerLaw", name := "isQuiet", desc := "(LBenchBroker;I[J)I" } : Jvm.MethodName) method_17_code (4 : Nat) (Option.some Jvm.ClassFile.FieldType.int) [((0 : Nat), (16 : Nat), (19 : Nat), (13 : Nat))]) ∈ GW := tq_4 109 rfl rfl
set_option maxHeartbeats 4000000 in
set_option maxRecDepth 100000 in
/-- the law's isQuiet -/
theorem w_isQuiet (l : Launch) (dg : va_G) (ck : Nat → ClassId) (ka : Nat → Nat) (ad ra : Nat → Nat → Nat) (Z O U X : Nat → Int) (S T P I : St) (V N Y : Int → Int) (Q : Nat → St) (oa : Nat) (D : Nat → Int64) (x : Int) (sz : Nat) (hI : Bd S) (rg_x : -2147483648 ≤ x ∧ x < 2147483648) (hst : l.stackTraces = false) : Met l yL_isQuiet (.codeWith yL_isQuiet cL_isQuiet 4 (some .int) [(0, 16, 19, 13)] :: GW) ({ frames := 8, cells := 1, slots := 6, locals := 137 }) (va_Pc [.ref ((ad 7) 0), .int (zI x), .ref oa] (wrK dg ck ka sz (brkW ck ka ad ra Z O U X S T P I V N Y Q ++ lngC ck oa D))) (va_Qi (fun r (u : BU × (Nat → Int64)) => (r = zI 0 ∧ ∃ r1 : Int32, (r1 = zI (bI (quietB S x)) ∧ isBench S x) ∧ u.1 = (Z, O, U, X, S, T, P, I, V, N, Y, Q) ∧ u.2 0 = r1.toInt64) ∨ (r = zI 1 ∧ (¬ (isBench S x)) ∧ u.1 = (Z, O, U, X, S, T, P, I, V, N, Y, Q))) (fun u t9 => wrQ dg sz (brkW ck ka ad ra Z O U X S T P I V N Y Q ++ lngC ck oa D) (brkU ck ka ad ra u.1 ++ lngC ck oa u.2) t9) (va_A (brkW ck ka ad ra Z O U X S T P I V N Y Q ++ lngC ck oa D) sz)) 1 6 (va_A (brkW ck ka ad ra Z O U X S T P I V N Y Q ++ lngC ck oa D) sz) := by
  refine x_ofWH (cc := cL_isQuiet) (maxL := 4) (ret := (some .int)) (by decide) rfl ?_
  intro p e s m args below meth c s₁ B hml htab hv
  obtain ⟨rfl, ⟨hsz, hP, hK, hD0⟩, hC⟩ := hv
  have hx := B.exec
  have hb := B.bytes
  have hr := B.returns
  have hts := atoms_spec (ws := .codeWith yL_isQuiet cL_isQuiet 4 (some .int) [(0, 16, 19, 13)] :: GW) B.pre
  have htg : ∀ w ∈ GW, w.before _ s = true := fun w h => hts w (List.mem_cons_of_mem _ h)
  have hown : s.vm.findClass RL = some m.cls := findClass_of_methodNamed B.named
  have hlocks := B.notSynchronized
  subst hsz
  have hD := hD0.self (sz := s.heap.size)
  generalize hAe : va_A (brkW ck ka ad ra Z O U X S T P I V N Y Q ++ lngC ck oa D) s.heap.size = A at hD hC ⊢
  have hA : ∀ q : Nat, s.heap.size ≤ q → A q := fun q h => by rw [← hAe]; exact Or.inr h
  have hS : va_S A s.heap s.heap [] := va_S.rf
  have hP : va_P dg vwCl (brkW ck ka ad ra Z O U X S T P I V N Y Q ++ lngC ck oa D) s.heap := hP
  have hl := lv_entry ([.ref ((ad 7) 0), .int (zI x), .ref oa]) (n := 4) (Nat.le_of_ble_eq_true rfl)
  rw [lg_entry_eq]
  generalize (lg_sl ([.ref ((ad 7) 0), .int (zI x), .ref oa]) ++ List.replicate (4 - (lg_sl ([.ref ((ad 7) 0), .int (zI x), .ref oa])).length) Slot.unset).toArray = ls at hl ⊢
  have hl : lv_has ls 4 [(0, .ref ((ad 7) 0)), (1, .int (zI x)), (2, .ref oa)] := hl
  refine lv_aload_n hx hb dL_isQuiet_0 rfl (lv_at hl 2 rfl) ?_
  refine x_iconst hx hb dL_isQuiet_1 ?_
  refine lv_aload_n hx hb dL_isQuiet_2 rfl (lv_at hl 0 rfl) ?_
  refine lv_iload_n hx hb dL_isQuiet_3 rfl (lv_at hl 1 rfl) ?_
  refine xl_calli (M := brkW ck ka ad ra Z O U X S T P I V N Y Q) (N := lngC ck oa D) (Mf := fun u : Unit => brkW ck ka ad ra Z O U X S T P I V N Y Q) (MX := fun u : Unit => brkW ck ka ad ra Z O U X S T P I V N Y Q) hP hD hS hA (fun hPm hDm => vx_runV (As := [.int (zI x)]) (rest := [.int (zI 0), .ref oa]) ⟨hx, hb, hml, hown, htg⟩ (x_isQuiet l dg ck ka ad ra Z O U X S T P I V N Y Q x _ hI rg_x hst) (cwV 1 htg (gwV wq_830 wq_831 wq_832 wq_1 wq_833) rfl rfl rfl (by decide +kernel) ⟨Nat.le_of_ble_eq_true rfl, Nat.le_of_ble_eq_true rfl⟩) (wrK_preV hK hPm hDm hC hS hA 0 10 rfl rfl) rfl rfl hl.1 rfl (lv_room (Nat.le_of_ble_eq_true rfl)) dL_isQuiet_4 ⟨Nat.le_of_ble_eq_true rfl, Nat.le_of_ble_eq_true rfl⟩) (fun E9 ce9 q9 u9 H locs hE9 hP hD hS g1 g2 g3 => ?_) (fun r9 u9 H locs hn9 hP hD hS => ?_)
  · obtain ⟨rfl, hc⟩ := hE9
    refine vx_catch (own := RL) (name := "java/lang/IndexOutOfBoundsException") hown [] ⟨0, 16, 19, 13⟩ [] (by rw [htab]; rfl) (fun z hz => absurd hz List.not_mem_nil) (by decide) (by decide) (htg _ wq_514) (va_Nw.use rfl (hC.nw (w := .castable "java/lang/IndexOutOfBoundsException" "java/lang/IndexOutOfBoundsException") (by decide +kernel))) g1 g2 g3 ?_
    refine W.eq (g2 := F0 m 19 ls [.ref q9]) rfl ?_
    refine lv_astore_n (lv' := [(3, .ref q9), (0, .ref ((ad 7) 0)), (1, .int (zI x)), (2, .ref oa)]) hx hb dL_isQuiet_19 rfl hl (by decide) rfl (fun ls hl => ?_)
    refine x_iconst hx hb dL_isQuiet_20 ?_
    exact W.widen (k := 1) (n := 6) (Nat.le_of_ble_eq_true rfl) (Nat.le_of_ble_eq_true rfl) (W.iret (v := _) hx hb hr (fun t9 ht9 hW9 => ⟨⟨_, ((Z, O, U, X, S, T, P, I, V, N, Y, Q), D), rfl, (Or.inr ⟨rfl, hc, rfl⟩), by rw [ht9]; exact hP, by rw [hAe]; exact hD⟩, hS.F ht9⟩) hS.2.2 dL_isQuiet_21)
  have hP : va_P dg vwCl (brkW ck ka ad ra Z O U X S T P I V N Y Q ++ lngC ck oa D) H := hP
  have hD : va_D A (brkW ck ka ad ra Z O U X S T P I V N Y Q ++ lngC ck oa D) := hD
  have hn0 := hn9
  obtain ⟨rfl, -⟩ := hn9
  have hv9 := bI_r (quietB S x)
  rcases (show (bI (quietB S x)) = 1 ∨ (bI (quietB S x)) = 0 by omega) with h9 | h9
  · refine x_is h9 ?_
    refine x_if_eq (tgt := 14) hx hb dL_isQuiet_7 (by decide) (by omega) (fun c => absurd c (by decide)) (fun _ => ?_)
    refine lv_lconst (v := 1) hx hb dL_isQuiet_10 (by decide) ?_
    refine lv_goto (tgt := 15) hx hb dL_isQuiet_11 (by decide) ?_
    refine va_last hx hb hK hP hD hS 166 5 rfl rfl (zI_in (z := 0) (by decide) (by decide)) dL_isQuiet_15 (fun H locs hP hD hS => ?_)
    have hP : va_P dg vwCl (brkW ck ka ad ra Z O U X S T P I V N Y Q ++ lngC ck oa (vp_updL D (zI 0).toNatClampNeg 1)) H := hP
    have hD : va_D A (brkW ck ka ad ra Z O U X S T P I V N Y Q ++ lngC ck oa (vp_updL D (zI 0).toNatClampNeg 1)) := hD
    refine lv_goto (tgt := 22) hx hb dL_isQuiet_16 (by decide) ?_
    refine x_iconst hx hb dL_isQuiet_22 ?_
    exact W.widen (k := 1) (n := 6) (Nat.le_of_ble_eq_true rfl) (Nat.le_of_ble_eq_true rfl) (W.iret (v := _) hx hb hr (fun t9 ht9 hW9 => ⟨⟨_, ((Z, O, U, X, S, T, P, I, V, N, Y, Q), (vp_updL D (zI 0).toNatClampNeg 1)), rfl, (Or.inl ⟨rfl, _, hn0, rfl, by rw [h9]; rfl⟩), by rw [ht9]; exact hP, by rw [hAe]; exact hD⟩, hS.F ht9⟩) hS.2.2 dL_isQuiet_23)
  · refine x_is h9 ?_
    refine x_if_eq (tgt := 14) hx hb dL_isQuiet_7 (by decide) (by omega) (fun _ => ?_) (fun c => absurd c (by decide))
    refine lv_lconst (v := 0) hx hb dL_isQuiet_14 (by decide) ?_
    refine va_last hx hb hK hP hD hS 166 5 rfl rfl (zI_in (z := 0) (by decide) (by decide)) dL_isQuiet_15 (fun H locs hP hD hS => ?_)
    have hP : va_P dg vwCl (brkW ck ka ad ra Z O U X S T P I V N Y Q ++ lngC ck oa (vp_updL D (zI 0).toNatClampNeg 0)) H := hP
    have hD : va_D A (brkW ck ka ad ra Z O U X S T P I V N Y Q ++ lngC ck oa (vp_updL D (zI 0).toNatClampNeg 0)) := hD
    refine lv_goto (tgt := 22) hx hb dL_isQuiet_16 (by decide) ?_
    refine x_iconst hx hb dL_isQuiet_22 ?_
    exact W.widen (k := 1) (n := 6) (Nat.le_of_ble_eq_true rfl) (Nat.le_of_ble_eq_true rfl) (W.iret (v := _) hx hb hr (fun t9 ht9 hW9 => ⟨⟨_, ((Z, O, U, X, S, T, P, I, V, N, Y, Q), (vp_updL D (zI 0).toNatClampNeg 0)), rfl, (Or.inl ⟨rfl, _, hn0, rfl, by rw [h9]; rfl⟩), by rw [ht9]; exact hP, by rw [hAe]; exact hD⟩, hS.F ht9⟩) hS.2.2 dL_isQuiet_23)

theorem wqL_coinsOf : (Jvm.Cond.codeWith ({ cls := "BenchBrokerLaw", name := "coinsOf", desc := "(LBenchBroker;I[J)I" } : Jvm.MethodName) method_20_code (4 : Nat) (Option.some Jvm.ClassFile.FieldType.int) [((0 : Nat), (9 : Nat), (12 : Nat), (13 : Nat))]) ∈ GW := tq_4 140 rfl rfl
set_option maxHeartbeats 4000000 in
set_option maxRecDepth 100000 in
/-- the law's coinsOf -/
theorem w_coinsOf (l : Launch) (dg : va_G) (ck : Nat → ClassId) (ka : Nat → Nat) (ad ra : Nat → Nat → Nat) (Z O U X : Nat → Int) (S T P I : St) (V N Y : Int → Int) (Q : Nat → St) (oa : Nat) (D : Nat → Int64) (x : Int) (sz : Nat) (hI : Bd S) (rg_x : -2147483648 ≤ x ∧ x < 2147483648) (hst : l.stackTraces = false) : Met l yL_coinsOf (.codeWith yL_coinsOf cL_coinsOf 4 (some .int) [(0, 9, 12, 13)] :: GW) ({ frames := 8, cells := 1, slots := 6, locals := 137 }) (va_Pc [.ref ((ad 7) 0), .int (zI x), .ref oa] (wrK dg ck ka sz (brkW ck ka ad ra Z O U X S T P I V N Y Q ++ lngC ck oa D))) (va_Qi (fun r (u : BU × (Nat → Int64)) => (r = zI 0 ∧ ∃ r1 : Int32, (r1 = zI (S 11 x) ∧ isTen S x) ∧ u.1 = (Z, O, U, X, S, T, P, I, V, N, Y, Q) ∧ u.2 0 = r1.toInt64) ∨ (r = zI 1 ∧ (¬ (isTen S x)) ∧ u.1 = (Z, O, U, X, S, T, P, I, V, N, Y, Q))) (fun u t9 => wrQ dg sz (brkW ck ka ad ra Z O U X S T P I V N Y Q ++ lngC ck oa D) (brkU ck ka ad ra u.1 ++ lngC ck oa u.2) t9) (va_A (brkW ck ka ad ra Z O U X S T P I V N Y Q ++ lngC ck oa D) sz)) 1 6 (va_A (brkW ck ka ad ra Z O U X S T P I V N Y Q ++ lngC ck oa D) sz) := by
  refine x_ofWH (cc := cL_coinsOf) (maxL := 4) (ret := (some .int)) (by decide) rfl ?_
  intro p e s m args below meth c s₁ B hml htab hv
  obtain ⟨rfl, ⟨hsz, hP, hK, hD0⟩, hC⟩ := hv
  have hx := B.exec
  have hb := B.bytes
  have hr := B.returns
  have hts := atoms_spec (ws := .codeWith yL_coinsOf cL_coinsOf 4 (some .int) [(0, 9, 12, 13)] :: GW) B.pre
  have htg : ∀ w ∈ GW, w.before _ s = true := fun w h => hts w (List.mem_cons_of_mem _ h)
  have hown : s.vm.findClass RL = some m.cls := findClass_of_methodNamed B.named
  have hlocks := B.notSynchronized
  subst hsz
  have hD := hD0.self (sz := s.heap.size)
  generalize hAe : va_A (brkW ck ka ad ra Z O U X S T P I V N Y Q ++ lngC ck oa D) s.heap.size = A at hD hC ⊢
  have hA : ∀ q : Nat, s.heap.size ≤ q → A q := fun q h => by rw [← hAe]; exact Or.inr h
  have hS : va_S A s.heap s.heap [] := va_S.rf
  have hP : va_P dg vwCl (brkW ck ka ad ra Z O U X S T P I V N Y Q ++ lngC ck oa D) s.heap := hP
  have hl := lv_entry ([.ref ((ad 7) 0), .int (zI x), .ref oa]) (n := 4) (Nat.le_of_ble_eq_true rfl)
  rw [lg_entry_eq]
  generalize (lg_sl ([.ref ((ad 7) 0), .int (zI x), .ref oa]) ++ List.replicate (4 - (lg_sl ([.ref ((ad 7) 0), .int (zI x), .ref oa])).length) Slot.unset).toArray = ls at hl ⊢
  have hl : lv_has ls 4 [(0, .ref ((ad 7) 0)), (1, .int (zI x)), (2, .ref oa)] := hl
  refine lv_aload_n hx hb dL_coinsOf_0 rfl (lv_at hl 2 rfl) ?_
  refine x_iconst hx hb dL_coinsOf_1 ?_
  refine lv_aload_n hx hb dL_coinsOf_2 rfl (lv_at hl 0 rfl) ?_
  refine lv_iload_n hx hb dL_coinsOf_3 rfl (lv_at hl 1 rfl) ?_
  refine xl_calli (M := brkW ck ka ad ra Z O U X S T P I V N Y Q) (N := lngC ck oa D) (Mf := fun u : Unit => brkW ck ka ad ra Z O U X S T P I V N Y Q) (MX := fun u : Unit => brkW ck ka ad ra Z O U X S T P I V N Y Q) hP hD hS hA (fun hPm hDm => vx_runV (As := [.int (zI x)]) (rest := [.int (zI 0), .ref oa]) ⟨hx, hb, hml, hown, htg⟩ (x_coinsOf l dg ck ka ad ra Z O U X S T P I V N Y Q x _ hI rg_x hst) (cwV 1 htg (gwV wq_861 wq_862 wq_863 wq_1 wq_864) rfl rfl rfl (by decide +kernel) ⟨Nat.le_of_ble_eq_true rfl, Nat.le_of_ble_eq_true rfl⟩) (wrK_preV hK hPm hDm hC hS hA 0 10 rfl rfl) rfl rfl hl.1 rfl (lv_room (Nat.le_of_ble_eq_true rfl)) dL_coinsOf_4 ⟨Nat.le_of_ble_eq_true rfl, Nat.le_of_ble_eq_true rfl⟩) (fun E9 ce9 q9 u9 H locs hE9 hP hD hS g1 g2 g3 => ?_) (fun r9 u9 H locs hn9 hP hD hS => ?_)
  · obtain ⟨rfl, hc⟩ := hE9
    refine vx_catch (own := RL) (name := "java/lang/IndexOutOfBoundsException") hown [] ⟨0, 9, 12, 13⟩ [] (by rw [htab]; rfl) (fun z hz => absurd hz List.not_mem_nil) (by decide) (by decide) (htg _ wq_514) (va_Nw.use rfl (hC.nw (w := .castable "java/lang/IndexOutOfBoundsException" "java/lang/IndexOutOfBoundsException") (by decide +kernel))) g1 g2 g3 ?_
    refine W.eq (g2 := F0 m 12 ls [.ref q9]) rfl ?_
    refine lv_astore_n (lv' := [(3, .ref q9), (0, .ref ((ad 7) 0)), (1, .int (zI x)), (2, .ref oa)]) hx hb dL_coinsOf_12 rfl hl (by decide) rfl (fun ls hl => ?_)
    refine x_iconst hx hb dL_coinsOf_13 ?_
    exact W.widen (k := 1) (n := 6) (Nat.le_of_ble_eq_true rfl) (Nat.le_of_ble_eq_true rfl) (W.iret (v := _) hx hb hr (fun t9 ht9 hW9 => ⟨⟨_, ((Z, O, U, X, S, T, P, I, V, N, Y, Q), D), rfl, (Or.inr ⟨rfl, hc, rfl⟩), by rw [ht9]; exact hP, by rw [hAe]; exact hD⟩, hS.F ht9⟩) hS.2.2 dL_coinsOf_14)
  have hP : va_P dg vwCl (brkW ck ka ad ra Z O U X S T P I V N Y Q ++ lngC ck oa D) H := hP
  have hD : va_D A (brkW ck ka ad ra Z O U X S T P I V N Y Q ++ lngC ck oa D) := hD
  refine lv_i2l hx hb dL_coinsOf_7 rfl ?_
  refine va_last hx hb hK hP hD hS 166 5 rfl rfl (zI_in (z := 0) (by decide) (by decide)) dL_coinsOf_8 (fun H locs hP hD hS => ?_)
  have hP : va_P dg vwCl (brkW ck ka ad ra Z O U X S T P I V N Y Q ++ lngC ck oa (vp_updL D (zI 0).toNatClampNeg r9.toInt64)) H := hP
  have hD : va_D A (brkW ck ka ad ra Z O U X S T P I V N Y Q ++ lngC ck oa (vp_updL D (zI 0).toNatClampNeg r9.toInt64)) := hD
  refine lv_goto (tgt := 15) hx hb dL_coinsOf_9 (by decide) ?_
  refine x_iconst hx hb dL_coinsOf_15 ?_
  exact W.widen (k := 1) (n := 6) (Nat.le_of_ble_eq_true rfl) (Nat.le_of_ble_eq_true rfl) (W.iret (v := _) hx hb hr (fun t9 ht9 hW9 => ⟨⟨_, ((Z, O, U, X, S, T, P, I, V, N, Y, Q), (vp_updL D (zI 0).toNatClampNeg r9.toInt64)), rfl, (Or.inl ⟨rfl, r9, hn9, rfl, rfl⟩), by rw [ht9]; exact hP, by rw [hAe]; exact hD⟩, hS.F ht9⟩) hS.2.2 dL_coinsOf_16)

theorem wqL_defaultsOf : (Jvm.Cond.codeWith ({ cls := "BenchBrokerLaw", name := "defaultsOf", desc := "(LBenchBroker;I[J)I" } : Jvm.MethodName) method_21_code (4 : Nat) (Option.some Jvm.ClassFile.FieldType.int) [((0 : Nat), (9 : Nat), (12 : Nat), (13 : Nat))]) ∈ GW := tq_4 152 rfl rfl
set_option maxHeartbeats 4000000 in
set_option maxRecDepth 100000 in
/-- the law's defaultsOf -/
theorem w_defaultsOf (l : Launch) (dg : va_G) (ck : Nat → ClassId) (ka : Nat → Nat) (ad ra : Nat → Nat → Nat) (Z O U X : Nat → Int) (S T P I : St) (V N Y : Int → Int) (Q : Nat → St) (oa : Nat) (D : Nat → Int64) (x : Int) (sz : Nat) (hI : Bd S) (rg_x : -2147483648 ≤ x ∧ x < 2147483648) (hst : l.stackTraces = false) : Met l yL_defaultsOf (.codeWith yL_defaultsOf cL_defaultsOf 4 (some .int) [(0, 9, 12, 13)] :: GW) ({ frames := 8, cells := 1, slots := 6, locals := 137 }) (va_Pc [.ref ((ad 7) 0), .int (zI x), .ref oa] (wrK dg ck ka sz (brkW ck ka ad ra Z O U X S T P I V N Y Q ++ lngC ck oa D))) (va_Qi (fun r (u : BU × (Nat → Int64)) => (r = zI 0 ∧ ∃ r1 : Int32, (r1 = zI (S 12 x) ∧ isTen S x) ∧ u.1 = (Z, O, U, X, S, T, P, I, V, N, Y, Q) ∧ u.2 0 = r1.toInt64) ∨ (r = zI 1 ∧ (¬ (isTen S x)) ∧ u.1 = (Z, O, U, X, S, T, P, I, V, N, Y, Q))) (fun u t9 => wrQ dg sz (brkW ck ka ad ra Z O U X S T P I V N Y Q ++ lngC ck oa D) (brkU ck ka ad ra u.1 ++ lngC ck oa u.2) t9) (va_A (brkW ck ka ad ra Z O U X S T P I V N Y Q ++ lngC ck oa D) sz)) 1 6 (va_A (brkW ck ka ad ra Z O U X S T P I V N Y Q ++ lngC ck oa D) sz) := by
  refine x_ofWH (cc := cL_defaultsOf) (maxL := 4) (ret := (some .int)) (by decide) rfl ?_
  intro p e s m args below meth c s₁ B hml htab hv
  obtain ⟨rfl, ⟨hsz, hP, hK, hD0⟩, hC⟩ := hv
  have hx := B.exec
  have hb := B.bytes
  have hr := B.returns
  have hts := atoms_spec (ws := .codeWith yL_defaultsOf cL_defaultsOf 4 (some .int) [(0, 9, 12, 13)] :: GW) B.pre
  have htg : ∀ w ∈ GW, w.before _ s = true := fun w h => hts w (List.mem_cons_of_mem _ h)
  have hown : s.vm.findClass RL = some m.cls := findClass_of_methodNamed B.named
  have hlocks := B.notSynchronized
  subst hsz
  have hD := hD0.self (sz := s.heap.size)
  generalize hAe : va_A (brkW ck ka ad ra Z O U X S T P I V N Y Q ++ lngC ck oa D) s.heap.size = A at hD hC ⊢
  have hA : ∀ q : Nat, s.heap.size ≤ q → A q := fun q h => by rw [← hAe]; exact Or.inr h
  have hS : va_S A s.heap s.heap [] := va_S.rf
  have hP : va_P dg vwCl (brkW ck ka ad ra Z O U X S T P I V N Y Q ++ lngC ck oa D) s.heap := hP
  have hl := lv_entry ([.ref ((ad 7) 0), .int (zI x), .ref oa]) (n := 4) (Nat.le_of_ble_eq_true rfl)
  rw [lg_entry_eq]
  generalize (lg_sl ([.ref ((ad 7) 0), .int (zI x), .ref oa]) ++ List.replicate (4 - (lg_sl ([.ref ((ad 7) 0), .int (zI x), .ref oa])).length) Slot.unset).toArray = ls at hl ⊢
  have hl : lv_has ls 4 [(0, .ref ((ad 7) 0)), (1, .int (zI x)), (2, .ref oa)] := hl
  refine lv_aload_n hx hb dL_defaultsOf_0 rfl (lv_at hl 2 rfl) ?_
  refine x_iconst hx hb dL_defaultsOf_1 ?_
  refine lv_aload_n hx hb dL_defaultsOf_2 rfl (lv_at hl 0 rfl) ?_
  refine lv_iload_n hx hb dL_defaultsOf_3 rfl (lv_at hl 1 rfl) ?_
  refine xl_calli (M := brkW ck ka ad ra Z O U X S T P I V N Y Q) (N := lngC ck oa D) (Mf := fun u : Unit => brkW ck ka ad ra Z O U X S T P I V N Y Q) (MX := fun u : Unit => brkW ck ka ad ra Z O U X S T P I V N Y Q) hP hD hS hA (fun hPm hDm => vx_runV (As := [.int (zI x)]) (rest := [.int (zI 0), .ref oa]) ⟨hx, hb, hml, hown, htg⟩ (x_defaultsOf l dg ck ka ad ra Z O U X S T P I V N Y Q x _ hI rg_x hst) (cwV 1 htg (gwV wq_873 wq_874 wq_875 wq_1 wq_876) rfl rfl rfl (by decide +kernel) ⟨Nat.le_of_ble_eq_true rfl, Nat.le_of_ble_eq_true rfl⟩) (wrK_preV hK hPm hDm hC hS hA 0 10 rfl rfl) rfl rfl hl.1 rfl (lv_room (Nat.le_of_ble_eq_true rfl)) dL_defaultsOf_4 ⟨Nat.le_of_ble_eq_true rfl, Nat.le_of_ble_eq_true rfl⟩) (fun E9 ce9 q9 u9 H locs hE9 hP hD hS g1 g2 g3 => ?_) (fun r9 u9 H locs hn9 hP hD hS => ?_)
  · obtain ⟨rfl, hc⟩ := hE9
    refine vx_catch (own := RL) (name := "java/lang/IndexOutOfBoundsException") hown [] ⟨0, 9, 12, 13⟩ [] (by rw [htab]; rfl) (fun z hz => absurd hz List.not_mem_nil) (by decide) (by decide) (htg _ wq_514) (va_Nw.use rfl (hC.nw (w := .castable "java/lang/IndexOutOfBoundsException" "java/lang/IndexOutOfBoundsException") (by decide +kernel))) g1 g2 g3 ?_
    refine W.eq (g2 := F0 m 12 ls [.ref q9]) rfl ?_
    refine lv_astore_n (lv' := [(3, .ref q9), (0, .ref ((ad 7) 0)), (1, .int (zI x)), (2, .ref oa)]) hx hb dL_defaultsOf_12 rfl hl (by decide) rfl (fun ls hl => ?_)
    refine x_iconst hx hb dL_defaultsOf_13 ?_
    exact W.widen (k := 1) (n := 6) (Nat.le_of_ble_eq_true rfl) (Nat.le_of_ble_eq_true rfl) (W.iret (v := _) hx hb hr (fun t9 ht9 hW9 => ⟨⟨_, ((Z, O, U, X, S, T, P, I, V, N, Y, Q), D), rfl, (Or.inr ⟨rfl, hc, rfl⟩), by rw [ht9]; exact hP, by rw [hAe]; exact hD⟩, hS.F ht9⟩) hS.2.2 dL_defaultsOf_14)
  have hP : va_P dg vwCl (brkW ck ka ad ra Z O U X S T P I V N Y Q ++ lngC ck oa D) H := hP
  have hD : va_D A (brkW ck ka ad ra Z O U X S T P I V N Y Q ++ lngC ck oa D) := hD
  refine lv_i2l hx hb dL_defaultsOf_7 rfl ?_
  refine va_last hx hb hK hP hD hS 166 5 rfl rfl (zI_in (z := 0) (by decide) (by decide)) dL_defaultsOf_8 (fun H locs hP hD hS => ?_)
  have hP : va_P dg vwCl (brkW ck ka ad ra Z O U X S T P I V N Y Q ++ lngC ck oa (vp_updL D (zI 0).toNatClampNeg r9.toInt64)) H := hP
  have hD : va_D A (brkW ck ka ad ra Z O U X S T P I V N Y Q ++ lngC ck oa (vp_updL D (zI 0).toNatClampNeg r9.toInt64)) := hD
  refine lv_goto (tgt := 15) hx hb dL_defaultsOf_9 (by decide) ?_
  refine x_iconst hx hb dL_defaultsOf_15 ?_
  exact W.widen (k := 1) (n := 6) (Nat.le_of_ble_eq_true rfl) (Nat.le_of_ble_eq_true rfl) (W.iret (v := _) hx hb hr (fun t9 ht9 hW9 => ⟨⟨_, ((Z, O, U, X, S, T, P, I, V, N, Y, Q), (vp_updL D (zI 0).toNatClampNeg r9.toInt64)), rfl, (Or.inl ⟨rfl, r9, hn9, rfl, rfl⟩), by rw [ht9]; exact hP, by rw [hAe]; exact hD⟩, hS.F ht9⟩) hS.2.2 dL_defaultsOf_16)

theorem wqL_benchOf : (Jvm.Cond.codeWith ({ cls := "BenchBrokerLaw", name := "benchOf", desc := "(LBenchBroker;I[J)I" } : Jvm.MethodName) method_22_code (4 : Nat) (Option.some Jvm.ClassFile.FieldType.int) [((0 : Nat), (9 : Nat), (12 : Nat), (13 : Nat)), ((0 : Nat), (9 : Nat), (15 : Nat), (79 : Nat))]) ∈ GW := tq_4 159 rfl rfl
set_option maxHeartbeats 4000000 in
set_option maxRecDepth 100000 in
/-- the law's benchOf -/
theorem w_benchOf (l : Launch) (dg : va_G) (ck : Nat → ClassId) (ka : Nat → Nat) (ad ra : Nat → Nat → Nat) (Z O U X : Nat → Int) (S T P I : St) (V N Y : Int → Int) (Q : Nat → St) (oa : Nat) (D : Nat → Int64) (x : Int) (sz : Nat) (hI : Bd S) (rg_x : -2147483648 ≤ x ∧ x < 2147483648) (hst : l.stackTraces = false) : Met l yL_benchOf (.codeWith yL_benchOf cL_benchOf 4 (some .int) [(0, 9, 12, 13), (0, 9, 15, 79)] :: GW) ({ frames := 8, cells := 2, slots := 12, locals := 138 }) (va_Pc [.ref ((ad 7) 0), .int (zI x), .ref oa] (wrK dg ck ka sz (brkW ck ka ad ra Z O U X S T P I V N Y Q ++ lngC ck oa D))) (va_Qi (fun r (u : BU × (Nat → Int64)) => (r = zI 0 ∧ ∃ r1 : Int32, (r1 = zI (lb S x) ∧ (isTen S x ∧ lb S x ≠ -1)) ∧ u.1 = (Z, O, U, X, S, T, P, I, V, N, Y, Q) ∧ u.2 0 = r1.toInt64) ∨ (r = zI 1 ∧ (¬ (isTen S x)) ∧ u.1 = (Z, O, U, X, S, T, P, I, V, N, Y, Q)) ∨ (r = zI 2 ∧ ((isTen S x) ∧ (lb S x = -1)) ∧ u.1 = (Z, O, U, X, S, T, P, I, V, N, Y, Q))) (fun u t9 => wrQ dg sz (brkW ck ka ad ra Z O U X S T P I V N Y Q ++ lngC ck oa D) (brkU ck ka ad ra u.1 ++ lngC ck oa u.2) t9) (va_A (brkW ck ka ad ra Z O U X S T P I V N Y Q ++ lngC ck oa D) sz)) 2 12 (va_A (brkW ck ka ad ra Z O U X S T P I V N Y Q ++ lngC ck oa D) sz) := by
  refine x_ofWH (cc := cL_benchOf) (maxL := 4) (ret := (some .int)) (by decide) rfl ?_
  intro p e s m args below meth c s₁ B hml htab hv
  obtain ⟨rfl, ⟨hsz, hP, hK, hD0⟩, hC⟩ := hv
  have hx := B.exec
  have hb := B.bytes
  have hr := B.returns
  have hts := atoms_spec (ws := .codeWith yL_benchOf cL_benchOf 4 (some .int) [(0, 9, 12, 13), (0, 9, 15, 79)] :: GW) B.pre
  have htg : ∀ w ∈ GW, w.before _ s = true := fun w h => hts w (List.mem_cons_of_mem _ h)
  have hown : s.vm.findClass RL = some m.cls := findClass_of_methodNamed B.named
  have hlocks := B.notSynchronized
  subst hsz
  have hD := hD0.self (sz := s.heap.size)
  generalize hAe : va_A (brkW ck ka ad ra Z O U X S T P I V N Y Q ++ lngC ck oa D) s.heap.size = A at hD hC ⊢
  have hA : ∀ q : Nat, s.heap.size ≤ q → A q := fun q h => by rw [← hAe]; exact Or.inr h
  have hS : va_S A s.heap s.heap [] := va_S.rf
  have hP : va_P dg vwCl (brkW ck ka ad ra Z O U X S T P I V N Y Q ++ lngC ck oa D) s.heap := hP
  have hl := lv_entry ([.ref ((ad 7) 0), .int (zI x), .ref oa]) (n := 4) (Nat.le_of_ble_eq_true rfl)
  rw [lg_entry_eq]
  generalize (lg_sl ([.ref ((ad 7) 0), .int (zI x), .ref oa]) ++ List.replicate (4 - (lg_sl ([.ref ((ad 7) 0), .int (zI x), .ref oa])).length) Slot.unset).toArray = ls at hl ⊢
  have hl : lv_has ls 4 [(0, .ref ((ad 7) 0)), (1, .int (zI x)), (2, .ref oa)] := hl
  refine lv_aload_n hx hb dL_benchOf_0 rfl (lv_at hl 2 rfl) ?_
  refine x_iconst hx hb dL_benchOf_1 ?_
  refine lv_aload_n hx hb dL_benchOf_2 rfl (lv_at hl 0 rfl) ?_
  refine lv_iload_n hx hb dL_benchOf_3 rfl (lv_at hl 1 rfl) ?_
  refine xl_calli (M := brkW ck ka ad ra Z O U X S T P I V N Y Q) (N := lngC ck oa D) (Mf := fun u : Unit => brkW ck ka ad ra Z O U X S T P I V N Y Q) (MX := fun u : Unit => brkW ck ka ad ra Z O U X S T P I V N Y Q) hP hD hS hA (fun hPm hDm => vx_runV (As := [.int (zI x)]) (rest := [.int (zI 0), .ref oa]) ⟨hx, hb, hml, hown, htg⟩ (x_benchOf l dg ck ka ad ra Z O U X S T P I V N Y Q x _ hI rg_x hst) (cwV 1 htg (gwV wq_881 wq_882 wq_883 wq_1 wq_884) rfl rfl rfl (by decide +kernel) ⟨Nat.le_of_ble_eq_true rfl, Nat.le_of_ble_eq_true rfl⟩) (wrK_preV hK hPm hDm hC hS hA 0 10 rfl rfl) rfl rfl hl.1 rfl (lv_room (Nat.le_of_ble_eq_true rfl)) dL_benchOf_4 ⟨Nat.le_of_ble_eq_true rfl, Nat.le_of_ble_eq_true rfl⟩) (fun E9 ce9 q9 u9 H locs hE9 hP hD hS g1 g2 g3 => ?_) (fun r9 u9 H locs hn9 hP hD hS => ?_)
  · rcases hE9 with ⟨rfl, hc⟩ | ⟨rfl, hc⟩
    · refine vx_catch (own := RL) (name := "java/lang/IndexOutOfBoundsException") hown [] ⟨0, 9, 12, 13⟩ [⟨0, 9, 15, 79⟩] (by rw [htab]; rfl) (fun z hz => absurd hz List.not_mem_nil) (by decide) (by decide) (htg _ wq_514) (va_Nw.use rfl (hC.nw (w := .castable "java/lang/IndexOutOfBoundsException" "java/lang/IndexOutOfBoundsException") (by decide +kernel))) g1 g2 g3 ?_
      refine W.eq (g2 := F0 m 12 ls [.ref q9]) rfl ?_
      refine lv_astore_n (lv' := [(3, .ref q9), (0, .ref ((ad 7) 0)), (1, .int (zI x)), (2, .ref oa)]) hx hb dL_benchOf_12 rfl hl (by decide) rfl (fun ls hl => ?_)
      refine x_iconst hx hb dL_benchOf_13 ?_
      exact W.widen (k := 2) (n := 12) (Nat.le_of_ble_eq_true rfl) (Nat.le_of_ble_eq_true rfl) (W.iret (v := _) hx hb hr (fun t9 ht9 hW9 => ⟨⟨_, ((Z, O, U, X, S, T, P, I, V, N, Y, Q), D), rfl, (Or.inr (Or.inl ⟨rfl, hc, rfl⟩)), by rw [ht9]; exact hP, by rw [hAe]; exact hD⟩, hS.F ht9⟩) hS.2.2 dL_benchOf_14)
    · refine vx_catch (own := RL) (name := "java/util/NoSuchElementException") hown [⟨0, 9, 12, 13⟩] ⟨0, 9, 15, 79⟩ [] (by rw [htab]; rfl) (by intro z hz; simp only [List.mem_cons, List.not_mem_nil, or_false] at hz; subst hz; exact Or.inr ⟨by decide, "java/lang/IndexOutOfBoundsException", htg _ wq_514, hC.nc (by decide +kernel)⟩) (by decide) (by decide) (htg _ wq_880) (va_Nw.use rfl (hC.nw (w := .castable "java/util/NoSuchElementException" "java/util/NoSuchElementException") (by decide +kernel))) g1 g2 g3 ?_
      refine W.eq (g2 := F0 m 15 ls [.ref q9]) rfl ?_
      refine lv_astore_n (lv' := [(3, .ref q9), (0, .ref ((ad 7) 0)), (1, .int (zI x)), (2, .ref oa)]) hx hb dL_benchOf_15 rfl hl (by decide) rfl (fun ls hl => ?_)
      refine x_iconst hx hb dL_benchOf_16 ?_
      exact W.widen (k := 2) (n := 12) (Nat.le_of_ble_eq_true rfl) (Nat.le_of_ble_eq_true rfl) (W.iret (v := _) hx hb hr (fun t9 ht9 hW9 => ⟨⟨_, ((Z, O, U, X, S, T, P, I, V, N, Y, Q), D), rfl, (Or.inr (Or.inr ⟨rfl, hc, rfl⟩)), by rw [ht9]; exact hP, by rw [hAe]; exact hD⟩, hS.F ht9⟩) hS.2.2 dL_benchOf_17)
  have hP : va_P dg vwCl (brkW ck ka ad ra Z O U X S T P I V N Y Q ++ lngC ck oa D) H := hP
  have hD : va_D A (brkW ck ka ad ra Z O U X S T P I V N Y Q ++ lngC ck oa D) := hD
  refine lv_i2l hx hb dL_benchOf_7 rfl ?_
  refine va_last hx hb hK hP hD hS 166 5 rfl rfl (zI_in (z := 0) (by decide) (by decide)) dL_benchOf_8 (fun H locs hP hD hS => ?_)
  have hP : va_P dg vwCl (brkW ck ka ad ra Z O U X S T P I V N Y Q ++ lngC ck oa (vp_updL D (zI 0).toNatClampNeg r9.toInt64)) H := hP
  have hD : va_D A (brkW ck ka ad ra Z O U X S T P I V N Y Q ++ lngC ck oa (vp_updL D (zI 0).toNatClampNeg r9.toInt64)) := hD
  refine lv_goto (tgt := 18) hx hb dL_benchOf_9 (by decide) ?_
  refine x_iconst hx hb dL_benchOf_18 ?_
  exact W.widen (k := 2) (n := 12) (Nat.le_of_ble_eq_true rfl) (Nat.le_of_ble_eq_true rfl) (W.iret (v := _) hx hb hr (fun t9 ht9 hW9 => ⟨⟨_, ((Z, O, U, X, S, T, P, I, V, N, Y, Q), (vp_updL D (zI 0).toNatClampNeg r9.toInt64)), rfl, (Or.inl ⟨rfl, r9, hn9, rfl, rfl⟩), by rw [ht9]; exact hP, by rw [hAe]; exact hD⟩, hS.F ht9⟩) hS.2.2 dL_benchOf_19)

theorem wqL_canLease : (Jvm.Cond.codeWith ({ cls := "BenchBrokerLaw", name := "canLease", desc := "(LBenchBroker;II[J)I" } : Jvm.MethodName) method_23_code (5 : Nat) (Option.some Jvm.ClassFile.FieldType.int) [((0 : Nat), (17 : Nat), (20 : Nat), (13 : Nat))]) ∈ GW := tq_4 183 rfl rfl
set_option maxHeartbeats 4000000 in
set_option maxRecDepth 100000 in
/-- the law's canLease -/
theorem w_canLease (l : Launch) (dg : va_G) (ck : Nat → ClassId) (ka : Nat → Nat) (ad ra : Nat → Nat → Nat) (Z O U X : Nat → Int) (S T P I : St) (V N Y : Int → Int) (Q : Nat → St) (oa : Nat) (D : Nat → Int64) (x y : Int) (sz : Nat) (hI : Bd S) (rg_x : -2147483648 ≤ x ∧ x < 2147483648) (rg_y : -2147483648 ≤ y ∧ y < 2147483648) (hst : l.stackTraces = false) : Met l yL_canLease (.codeWith yL_canLease cL_canLease 5 (some .int) [(0, 17, 20, 13)] :: GW) ({ frames := 8, cells := 2, slots := 12, locals := 138 }) (va_Pc [.ref ((ad 7) 0), .int (zI x), .int (zI y), .ref oa] (wrK dg ck ka sz (brkW ck ka ad ra Z O U X S T P I V N Y Q ++ lngC ck oa D))) (va_Qi (fun r (u : BU × (Nat → Int64)) => (r = zI 0 ∧ ∃ r1 : Int32, (r1 = zI (bI (obst S x y = 0)) ∧ (isTen S x ∧ isBench S y)) ∧ u.1 = (Z, O, U, X, S, T, P, I, V, N, Y, Q) ∧ u.2 0 = r1.toInt64) ∨ (r = zI 1 ∧ (¬ (isTen S x ∧ isBench S y)) ∧ u.1 = (Z, O, U, X, S, T, P, I, V, N, Y, Q))) (fun u t9 => wrQ dg sz (brkW ck ka ad ra Z O U X S T P I V N Y Q ++ lngC ck oa D) (brkU ck ka ad ra u.1 ++ lngC ck oa u.2) t9) (va_A (brkW ck ka ad ra Z O U X S T P I V N Y Q ++ lngC ck oa D) sz)) 2 12 (va_A (brkW ck ka ad ra Z O U X S T P I V N Y Q ++ lngC ck oa D) sz) := by
  refine x_ofWH (cc := cL_canLease) (maxL := 5) (ret := (some .int)) (by decide) rfl ?_
  intro p e s m args below meth c s₁ B hml htab hv
  obtain ⟨rfl, ⟨hsz, hP, hK, hD0⟩, hC⟩ := hv
  have hx := B.exec
  have hb := B.bytes
  have hr := B.returns
  have hts := atoms_spec (ws := .codeWith yL_canLease cL_canLease 5 (some .int) [(0, 17, 20, 13)] :: GW) B.pre
  have htg : ∀ w ∈ GW, w.before _ s = true := fun w h => hts w (List.mem_cons_of_mem _ h)
  have hown : s.vm.findClass RL = some m.cls := findClass_of_methodNamed B.named
  have hlocks := B.notSynchronized
  subst hsz
  have hD := hD0.self (sz := s.heap.size)
  generalize hAe : va_A (brkW ck ka ad ra Z O U X S T P I V N Y Q ++ lngC ck oa D) s.heap.size = A at hD hC ⊢
  have hA : ∀ q : Nat, s.heap.size ≤ q → A q := fun q h => by rw [← hAe]; exact Or.inr h
  have hS : va_S A s.heap s.heap [] := va_S.rf
  have hP : va_P dg vwCl (brkW ck ka ad ra Z O U X S T P I V N Y Q ++ lngC ck oa D) s.heap := hP
  have hl := lv_entry ([.ref ((ad 7) 0), .int (zI x), .int (zI y), .ref oa]) (n := 5) (Nat.le_of_ble_eq_true rfl)
  rw [lg_entry_eq]
  generalize (lg_sl ([.ref ((ad 7) 0), .int (zI x), .int (zI y), .ref oa]) ++ List.replicate (5 - (lg_sl ([.ref ((ad 7) 0), .int (zI x), .int (zI y), .ref oa])).length) Slot.unset).toArray = ls at hl ⊢
  have hl : lv_has ls 5 [(0, .ref ((ad 7) 0)), (1, .int (zI x)), (2, .int (zI y)), (3, .ref oa)] := hl
  refine lv_aload_n hx hb dL_canLease_0 rfl (lv_at hl 3 rfl) ?_
  refine x_iconst hx hb dL_canLease_1 ?_
  refine lv_aload_n hx hb dL_canLease_2 rfl (lv_at hl 0 rfl) ?_
  refine lv_iload_n hx hb dL_canLease_3 rfl (lv_at hl 1 rfl) ?_
  refine lv_iload_n hx hb dL_canLease_4 rfl (lv_at hl 2 rfl) ?_
  refine xl_calli (M := brkW ck ka ad ra Z O U X S T P I V N Y Q) (N := lngC ck oa D) (Mf := fun u : Unit => brkW ck ka ad ra Z O U X S T P I V N Y Q) (MX := fun u : Unit => brkW ck ka ad ra Z O U X S T P I V N Y Q) hP hD hS hA (fun hPm hDm => vx_runV (As := [.int (zI x), .int (zI y)]) (rest := [.int (zI 0), .ref oa]) ⟨hx, hb, hml, hown, htg⟩ (x_canLease l dg ck ka ad ra Z O U X S T P I V N Y Q x y _ hI rg_x rg_y hst) (cwV 2 htg (gwV wq_904 wq_905 wq_906 wq_1 wq_907) rfl rfl rfl (by decide +kernel) ⟨Nat.le_of_ble_eq_true rfl, Nat.le_of_ble_eq_true rfl⟩) (wrK_preV hK hPm hDm hC hS hA 0 10 rfl rfl) rfl rfl hl.1 rfl (lv_room (Nat.le_of_ble_eq_true rfl)) dL_canLease_5 ⟨Nat.le_of_ble_eq_true rfl, Nat.le_of_ble_eq_true rfl⟩) (fun E9 ce9 q9 u9 H locs hE9 hP hD hS g1 g2 g3 => ?_) (fun r9 u9 H locs hn9 hP hD hS => ?_)
  · obtain ⟨rfl, hc⟩ := hE9
    refine vx_catch (own := RL) (name := "java/lang/IndexOutOfBoundsException") hown [] ⟨0, 17, 20, 13⟩ [] (by rw [htab]; rfl) (fun z hz => absurd hz List.not_mem_nil) (by decide) (by decide) (htg _ wq_514) (va_Nw.use rfl (hC.nw (w := .castable "java/lang/IndexOutOfBoundsException" "java/lang/IndexOutOfBoundsException") (by decide +kernel))) g1 g2 g3 ?_
    refine W.eq (g2 := F0 m 20 ls [.ref q9]) rfl ?_
    refine lv_astore (lv' := [(4, .ref q9), (0, .ref ((ad 7) 0)), (1, .int (zI x)), (2, .int (zI y)), (3, .ref oa)]) hx hb dL_canLease_20 hl (by decide) rfl (fun ls hl => ?_)
    refine x_iconst hx hb dL_canLease_22 ?_
    exact W.widen (k := 2) (n := 12) (Nat.le_of_ble_eq_true rfl) (Nat.le_of_ble_eq_true rfl) (W.iret (v := _) hx hb hr (fun t9 ht9 hW9 => ⟨⟨_, ((Z, O, U, X, S, T, P, I, V, N, Y, Q), D), rfl, (Or.inr ⟨rfl, hc, rfl⟩), by rw [ht9]; exact hP, by rw [hAe]; exact hD⟩, hS.F ht9⟩) hS.2.2 dL_canLease_23)
  have hP : va_P dg vwCl (brkW ck ka ad ra Z O U X S T P I V N Y Q ++ lngC ck oa D) H := hP
  have hD : va_D A (brkW ck ka ad ra Z O U X S T P I V N Y Q ++ lngC ck oa D) := hD
  have hn0 := hn9
  obtain ⟨rfl, -⟩ := hn9
  have hv9 := bI_r (obst S x y = 0)
  rcases (show (bI (obst S x y = 0)) = 1 ∨ (bI (obst S x y = 0)) = 0 by omega) with h9 | h9
  · refine x_is h9 ?_
    refine x_if_eq (tgt := 15) hx hb dL_canLease_8 (by decide) (by omega) (fun c => absurd c (by decide)) (fun _ => ?_)
    refine lv_lconst (v := 1) hx hb dL_canLease_11 (by decide) ?_
    refine lv_goto (tgt := 16) hx hb dL_canLease_12 (by decide) ?_
    refine va_last hx hb hK hP hD hS 166 5 rfl rfl (zI_in (z := 0) (by decide) (by decide)) dL_canLease_16 (fun H locs hP hD hS => ?_)
    have hP : va_P dg vwCl (brkW ck ka ad ra Z O U X S T P I V N Y Q ++ lngC ck oa (vp_updL D (zI 0).toNatClampNeg 1)) H := hP
    have hD : va_D A (brkW ck ka ad ra Z O U X S T P I V N Y Q ++ lngC ck oa (vp_updL D (zI 0).toNatClampNeg 1)) := hD
    refine lv_goto (tgt := 24) hx hb dL_canLease_17 (by decide) ?_
    refine x_iconst hx hb dL_canLease_24 ?_
    exact W.widen (k := 2) (n := 12) (Nat.le_of_ble_eq_true rfl) (Nat.le_of_ble_eq_true rfl) (W.iret (v := _) hx hb hr (fun t9 ht9 hW9 => ⟨⟨_, ((Z, O, U, X, S, T, P, I, V, N, Y, Q), (vp_updL D (zI 0).toNatClampNeg 1)), rfl, (Or.inl ⟨rfl, _, hn0, rfl, by rw [h9]; rfl⟩), by rw [ht9]; exact hP, by rw [hAe]; exact hD⟩, hS.F ht9⟩) hS.2.2 dL_canLease_25)
  · refine x_is h9 ?_
    refine x_if_eq (tgt := 15) hx hb dL_canLease_8 (by decide) (by omega) (fun _ => ?_) (fun c => absurd c (by decide))
    refine lv_lconst (v := 0) hx hb dL_canLease_15 (by decide) ?_
    refine va_last hx hb hK hP hD hS 166 5 rfl rfl (zI_in (z := 0) (by decide) (by decide)) dL_canLease_16 (fun H locs hP hD hS => ?_)
    have hP : va_P dg vwCl (brkW ck ka ad ra Z O U X S T P I V N Y Q ++ lngC ck oa (vp_updL D (zI 0).toNatClampNeg 0)) H := hP
    have hD : va_D A (brkW ck ka ad ra Z O U X S T P I V N Y Q ++ lngC ck oa (vp_updL D (zI 0).toNatClampNeg 0)) := hD
    refine lv_goto (tgt := 24) hx hb dL_canLease_17 (by decide) ?_
    refine x_iconst hx hb dL_canLease_24 ?_
    exact W.widen (k := 2) (n := 12) (Nat.le_of_ble_eq_true rfl) (Nat.le_of_ble_eq_true rfl) (W.iret (v := _) hx hb hr (fun t9 ht9 hW9 => ⟨⟨_, ((Z, O, U, X, S, T, P, I, V, N, Y, Q), (vp_updL D (zI 0).toNatClampNeg 0)), rfl, (Or.inl ⟨rfl, _, hn0, rfl, by rw [h9]; rfl⟩), by rw [ht9]; exact hP, by rw [hAe]; exact hD⟩, hS.F ht9⟩) hS.2.2 dL_canLease_25)

theorem wqL_cheapestFor : (Jvm.Cond.codeWith ({ cls := "BenchBrokerLaw", name := "cheapestFor", desc := "(LBenchBroker;I[J)I" } : Jvm.MethodName) method_24_code (4 : Nat) (Option.some Jvm.ClassFile.FieldType.int) [((0 : Nat), (9 : Nat), (12 : Nat), (13 : Nat)), ((0 : Nat), (9 : Nat), (15 : Nat), (79 : Nat))]) ∈ GW := tq_4 194 rfl rfl
set_option maxHeartbeats 4000000 in
set_option maxRecDepth 100000 in
/-- the law's cheapestFor -/
theorem w_cheapestFor (l : Launch) (dg : va_G) (ck : Nat → ClassId) (ka : Nat → Nat) (ad ra : Nat → Nat → Nat) (Z O U X : Nat → Int) (S T P I : St) (V N Y : Int → Int) (Q : Nat → St) (oa : Nat) (D : Nat → Int64) (x : Int) (sz : Nat) (hI : Bd S) (rg_x : -2147483648 ≤ x ∧ x < 2147483648) (hst : l.stackTraces = false) : Met l yL_cheapestFor (.codeWith yL_cheapestFor cL_cheapestFor 4 (some .int) [(0, 9, 12, 13), (0, 9, 15, 79)] :: GW) ({ frames := 8, cells := 2, slots := 12, locals := 138 }) (va_Pc [.ref ((ad 7) 0), .int (zI x), .ref oa] (wrK dg ck ka sz (brkW ck ka ad ra Z O U X S T P I V N Y Q ++ lngC ck oa D))) (va_Qi (fun r (u : BU × (Nat → Int64)) => (r = zI 0 ∧ ∃ r1 : Int32, (r1 = zI (chB S x (S 0 0).toNat) ∧ (isTen S x ∧ chB S x (S 0 0).toNat ≠ -1)) ∧ u.1 = (Z, O, U, X, S, T, P, I, V, N, Y, Q) ∧ u.2 0 = r1.toInt64) ∨ (r = zI 1 ∧ (¬ (isTen S x)) ∧ u.1 = (Z, O, U, X, S, T, P, I, V, N, Y, Q)) ∨ (r = zI 2 ∧ ((isTen S x) ∧ (chB S x (S 0 0).toNat = -1)) ∧ u.1 = (Z, O, U, X, S, T, P, I, V, N, Y, Q))) (fun u t9 => wrQ dg sz (brkW ck ka ad ra Z O U X S T P I V N Y Q ++ lngC ck oa D) (brkU ck ka ad ra u.1 ++ lngC ck oa u.2) t9) (va_A (brkW ck ka ad ra Z O U X S T P I V N Y Q ++ lngC ck oa D) sz)) 2 12 (va_A (brkW ck ka ad ra Z O U X S T P I V N Y Q ++ lngC ck oa D) sz) := by
  refine x_ofWH (cc := cL_cheapestFor) (maxL := 4) (ret := (some .int)) (by decide) rfl ?_
  intro p e s m args below meth c s₁ B hml htab hv
  obtain ⟨rfl, ⟨hsz, hP, hK, hD0⟩, hC⟩ := hv
  have hx := B.exec
  have hb := B.bytes
  have hr := B.returns
  have hts := atoms_spec (ws := .codeWith yL_cheapestFor cL_cheapestFor 4 (some .int) [(0, 9, 12, 13), (0, 9, 15, 79)] :: GW) B.pre
  have htg : ∀ w ∈ GW, w.before _ s = true := fun w h => hts w (List.mem_cons_of_mem _ h)
  have hown : s.vm.findClass RL = some m.cls := findClass_of_methodNamed B.named
  have hlocks := B.notSynchronized
  subst hsz
  have hD := hD0.self (sz := s.heap.size)
  generalize hAe : va_A (brkW ck ka ad ra Z O U X S T P I V N Y Q ++ lngC ck oa D) s.heap.size = A at hD hC ⊢
  have hA : ∀ q : Nat, s.heap.size ≤ q → A q := fun q h => by rw [← hAe]; exact Or.inr h
  have hS : va_S A s.heap s.heap [] := va_S.rf
  have hP : va_P dg vwCl (brkW ck ka ad ra Z O U X S T P I V N Y Q ++ lngC ck oa D) s.heap := hP
  have hl := lv_entry ([.ref ((ad 7) 0), .int (zI x), .ref oa]) (n := 4) (Nat.le_of_ble_eq_true rfl)
  rw [lg_entry_eq]
  generalize (lg_sl ([.ref ((ad 7) 0), .int (zI x), .ref oa]) ++ List.replicate (4 - (lg_sl ([.ref ((ad 7) 0), .int (zI x), .ref oa])).length) Slot.unset).toArray = ls at hl ⊢
  have hl : lv_has ls 4 [(0, .ref ((ad 7) 0)), (1, .int (zI x)), (2, .ref oa)] := hl
  refine lv_aload_n hx hb dL_cheapestFor_0 rfl (lv_at hl 2 rfl) ?_
  refine x_iconst hx hb dL_cheapestFor_1 ?_
  refine lv_aload_n hx hb dL_cheapestFor_2 rfl (lv_at hl 0 rfl) ?_
  refine lv_iload_n hx hb dL_cheapestFor_3 rfl (lv_at hl 1 rfl) ?_
  refine xl_calli (M := brkW ck ka ad ra Z O U X S T P I V N Y Q) (N := lngC ck oa D) (Mf := fun u : Unit => brkW ck ka ad ra Z O U X S T P I V N Y Q) (MX := fun u : Unit => brkW ck ka ad ra Z O U X S T P I V N Y Q) hP hD hS hA (fun hPm hDm => vx_runV (As := [.int (zI x)]) (rest := [.int (zI 0), .ref oa]) ⟨hx, hb, hml, hown, htg⟩ (x_cheapestFor l dg ck ka ad ra Z O U X S T P I V N Y Q x _ hI rg_x hst) (cwV 1 htg (gwV wq_915 wq_916 wq_917 wq_1 wq_918) rfl rfl rfl (by decide +kernel) ⟨Nat.le_of_ble_eq_true rfl, Nat.le_of_ble_eq_true rfl⟩) (wrK_preV hK hPm hDm hC hS hA 0 10 rfl rfl) rfl rfl hl.1 rfl (lv_room (Nat.le_of_ble_eq_true rfl)) dL_cheapestFor_4 ⟨Nat.le_of_ble_eq_true rfl, Nat.le_of_ble_eq_true rfl⟩) (fun E9 ce9 q9 u9 H locs hE9 hP hD hS g1 g2 g3 => ?_) (fun r9 u9 H locs hn9 hP hD hS => ?_)
  · rcases hE9 with ⟨rfl, hc⟩ | ⟨rfl, hc⟩
    · refine vx_catch (own := RL) (name := "java/lang/IndexOutOfBoundsException") hown [] ⟨0, 9, 12, 13⟩ [⟨0, 9, 15, 79⟩] (by rw [htab]; rfl) (fun z hz => absurd hz List.not_mem_nil) (by decide) (by decide) (htg _ wq_514) (va_Nw.use rfl (hC.nw (w := .castable "java/lang/IndexOutOfBoundsException" "java/lang/IndexOutOfBoundsException") (by decide +kernel))) g1 g2 g3 ?_
      refine W.eq (g2 := F0 m 12 ls [.ref q9]) rfl ?_
      refine lv_astore_n (lv' := [(3, .ref q9), (0, .ref ((ad 7) 0)), (1, .int (zI x)), (2, .ref oa)]) hx hb dL_cheapestFor_12 rfl hl (by decide) rfl (fun ls hl => ?_)
      refine x_iconst hx hb dL_cheapestFor_13 ?_
      exact W.widen (k := 2) (n := 12) (Nat.le_of_ble_eq_true rfl) (Nat.le_of_ble_eq_true rfl) (W.iret (v := _) hx hb hr (fun t9 ht9 hW9 => ⟨⟨_, ((Z, O, U, X, S, T, P, I, V, N, Y, Q), D), rfl, (Or.inr (Or.inl ⟨rfl, hc, rfl⟩)), by rw [ht9]; exact hP, by rw [hAe]; exact hD⟩, hS.F ht9⟩) hS.2.2 dL_cheapestFor_14)
    · refine vx_catch (own := RL) (name := "java/util/NoSuchElementException") hown [⟨0, 9, 12, 13⟩] ⟨0, 9, 15, 79⟩ [] (by rw [htab]; rfl) (by intro z hz; simp only [List.mem_cons, List.not_mem_nil, or_false] at hz; subst hz; exact Or.inr ⟨by decide, "java/lang/IndexOutOfBoundsException", htg _ wq_514, hC.nc (by decide +kernel)⟩) (by decide) (by decide) (htg _ wq_880) (va_Nw.use rfl (hC.nw (w := .castable "java/util/NoSuchElementException" "java/util/NoSuchElementException") (by decide +kernel))) g1 g2 g3 ?_
      refine W.eq (g2 := F0 m 15 ls [.ref q9]) rfl ?_
      refine lv_astore_n (lv' := [(3, .ref q9), (0, .ref ((ad 7) 0)), (1, .int (zI x)), (2, .ref oa)]) hx hb dL_cheapestFor_15 rfl hl (by decide) rfl (fun ls hl => ?_)
      refine x_iconst hx hb dL_cheapestFor_16 ?_
      exact W.widen (k := 2) (n := 12) (Nat.le_of_ble_eq_true rfl) (Nat.le_of_ble_eq_true rfl) (W.iret (v := _) hx hb hr (fun t9 ht9 hW9 => ⟨⟨_, ((Z, O, U, X, S, T, P, I, V, N, Y, Q), D), rfl, (Or.inr (Or.inr ⟨rfl, hc, rfl⟩)), by rw [ht9]; exact hP, by rw [hAe]; exact hD⟩, hS.F ht9⟩) hS.2.2 dL_cheapestFor_17)
  have hP : va_P dg vwCl (brkW ck ka ad ra Z O U X S T P I V N Y Q ++ lngC ck oa D) H := hP
  have hD : va_D A (brkW ck ka ad ra Z O U X S T P I V N Y Q ++ lngC ck oa D) := hD
  refine lv_i2l hx hb dL_cheapestFor_7 rfl ?_
  refine va_last hx hb hK hP hD hS 166 5 rfl rfl (zI_in (z := 0) (by decide) (by decide)) dL_cheapestFor_8 (fun H locs hP hD hS => ?_)
  have hP : va_P dg vwCl (brkW ck ka ad ra Z O U X S T P I V N Y Q ++ lngC ck oa (vp_updL D (zI 0).toNatClampNeg r9.toInt64)) H := hP
  have hD : va_D A (brkW ck ka ad ra Z O U X S T P I V N Y Q ++ lngC ck oa (vp_updL D (zI 0).toNatClampNeg r9.toInt64)) := hD
  refine lv_goto (tgt := 18) hx hb dL_cheapestFor_9 (by decide) ?_
  refine x_iconst hx hb dL_cheapestFor_18 ?_
  exact W.widen (k := 2) (n := 12) (Nat.le_of_ble_eq_true rfl) (Nat.le_of_ble_eq_true rfl) (W.iret (v := _) hx hb hr (fun t9 ht9 hW9 => ⟨⟨_, ((Z, O, U, X, S, T, P, I, V, N, Y, Q), (vp_updL D (zI 0).toNatClampNeg r9.toInt64)), rfl, (Or.inl ⟨rfl, r9, hn9, rfl, rfl⟩), by rw [ht9]; exact hP, by rw [hAe]; exact hD⟩, hS.F ht9⟩) hS.2.2 dL_cheapestFor_19)

theorem wqL_isLet : (Jvm.Cond.codeWith ({ cls := "BenchBrokerLaw", name := "isLet", desc := "(LBenchBroker;I[J)I" } : Jvm.MethodName) method_28_code (4 : Nat) (Option.some Jvm.ClassFile.FieldType.int) [((0 : Nat), (16 : Nat), (19 : Nat), (13 : Nat))]) ∈ GW := tq_5 5 rfl rfl
set_option maxHeartbeats 4000000 in
set_option maxRecDepth 100000 in
/-- the law's isLet -/
theorem w_isLet (l : Launch) (dg : va_G) (ck : Nat → ClassId) (ka : Nat → Nat) (ad ra : Nat → Nat → Nat) (Z O U X : Nat → Int) (S T P I : St) (V N Y : Int → Int) (Q : Nat → St) (oa : Nat) (D : Nat → Int64) (x : Int) (sz : Nat) (hI : Bd S) (rg_x : -2147483648 ≤ x ∧ x < 2147483648) (hst : l.stackTraces = false) : Met l yL_isLet (.codeWith yL_isLet cL_isLet 4 (some .int) [(0, 16, 19, 13)] :: GW) ({ frames := 8, cells := 1, slots := 6, locals := 137 }) (va_Pc [.ref ((ad 7) 0), .int (zI x), .ref oa] (wrK dg ck ka sz (brkW ck ka ad ra Z O U X S T P I V N Y Q ++ lngC ck oa D))) (va_Qi (fun r (u : BU × (Nat → Int64)) => (r = zI 0 ∧ ∃ r1 : Int32, (r1 = zI (bI (S 4 x ≠ 0)) ∧ isBench S x) ∧ u.1 = (Z, O, U, X, S, T, P, I, V, N, Y, Q) ∧ u.2 0 = r1.toInt64) ∨ (r = zI 1 ∧ (¬ (isBench S x)) ∧ u.1 = (Z, O, U, X, S, T, P, I, V, N, Y, Q))) (fun u t9 => wrQ dg sz (brkW ck ka ad ra Z O U X S T P I V N Y Q ++ lngC ck oa D) (brkU ck ka ad ra u.1 ++ lngC ck oa u.2) t9) (va_A (brkW ck ka ad ra Z O U X S T P I V N Y Q ++ lngC ck oa D) sz)) 1 6 (va_A (brkW ck ka ad ra Z O U X S T P I V N Y Q ++ lngC ck oa D) sz) := by
  refine x_ofWH (cc := cL_isLet) (maxL := 4) (ret := (some .int)) (by decide) rfl ?_
  intro p e s m args below meth c s₁ B hml htab hv
  obtain ⟨rfl, ⟨hsz, hP, hK, hD0⟩, hC⟩ := hv
  have hx := B.exec
  have hb := B.bytes
  have hr := B.returns
  have hts := atoms_spec (ws := .codeWith yL_isLet cL_isLet 4 (some .int) [(0, 16, 19, 13)] :: GW) B.pre
  have htg : ∀ w ∈ GW, w.before _ s = true := fun w h => hts w (List.mem_cons_of_mem _ h)
  have hown : s.vm.findClass RL = some m.cls := findClass_of_methodNamed B.named
  have hlocks := B.notSynchronized
  subst hsz
  have hD := hD0.self (sz := s.heap.size)
  generalize hAe : va_A (brkW ck ka ad ra Z O U X S T P I V N Y Q ++ lngC ck oa D) s.heap.size = A at hD hC ⊢
  have hA : ∀ q : Nat, s.heap.size ≤ q → A q := fun q h => by rw [← hAe]; exact Or.inr h
  have hS : va_S A s.heap s.heap [] := va_S.rf
  have hP : va_P dg vwCl (brkW ck ka ad ra Z O U X S T P I V N Y Q ++ lngC ck oa D) s.heap := hP
  have hl := lv_entry ([.ref ((ad 7) 0), .int (zI x), .ref oa]) (n := 4) (Nat.le_of_ble_eq_true rfl)
  rw [lg_entry_eq]
  generalize (lg_sl ([.ref ((ad 7) 0), .int (zI x), .ref oa]) ++ List.replicate (4 - (lg_sl ([.ref ((ad 7) 0), .int (zI x), .ref oa])).length) Slot.unset).toArray = ls at hl ⊢
  have hl : lv_has ls 4 [(0, .ref ((ad 7) 0)), (1, .int (zI x)), (2, .ref oa)] := hl
  refine lv_aload_n hx hb dL_isLet_0 rfl (lv_at hl 2 rfl) ?_
  refine x_iconst hx hb dL_isLet_1 ?_
  refine lv_aload_n hx hb dL_isLet_2 rfl (lv_at hl 0 rfl) ?_
  refine lv_iload_n hx hb dL_isLet_3 rfl (lv_at hl 1 rfl) ?_
  refine xl_calli (M := brkW ck ka ad ra Z O U X S T P I V N Y Q) (N := lngC ck oa D) (Mf := fun u : Unit => brkW ck ka ad ra Z O U X S T P I V N Y Q) (MX := fun u : Unit => brkW ck ka ad ra Z O U X S T P I V N Y Q) hP hD hS hA (fun hPm hDm => vx_runV (As := [.int (zI x)]) (rest := [.int (zI 0), .ref oa]) ⟨hx, hb, hml, hown, htg⟩ (x_isLet l dg ck ka ad ra Z O U X S T P I V N Y Q x _ hI rg_x hst) (cwV 1 htg (gwV wq_966 wq_967 wq_968 wq_1 wq_969) rfl rfl rfl (by decide +kernel) ⟨Nat.le_of_ble_eq_true rfl, Nat.le_of_ble_eq_true rfl⟩) (wrK_preV hK hPm hDm hC hS hA 0 10 rfl rfl) rfl rfl hl.1 rfl (lv_room (Nat.le_of_ble_eq_true rfl)) dL_isLet_4 ⟨Nat.le_of_ble_eq_true rfl, Nat.le_of_ble_eq_true rfl⟩) (fun E9 ce9 q9 u9 H locs hE9 hP hD hS g1 g2 g3 => ?_) (fun r9 u9 H locs hn9 hP hD hS => ?_)
  · obtain ⟨rfl, hc⟩ := hE9
    refine vx_catch (own := RL) (name := "java/lang/IndexOutOfBoundsException") hown [] ⟨0, 16, 19, 13⟩ [] (by rw [htab]; rfl) (fun z hz => absurd hz List.not_mem_nil) (by decide) (by decide) (htg _ wq_514) (va_Nw.use rfl (hC.nw (w := .castable "java/lang/IndexOutOfBoundsException" "java/lang/IndexOutOfBoundsException") (by decide +kernel))) g1 g2 g3 ?_
    refine W.eq (g2 := F0 m 19 ls [.ref q9]) rfl ?_
    refine lv_astore_n (lv' := [(3, .ref q9), (0, .ref ((ad 7) 0)), (1, .int (zI x)), (2, .ref oa)]) hx hb dL_isLet_19 rfl hl (by decide) rfl (fun ls hl => ?_)
    refine x_iconst hx hb dL_isLet_20 ?_
    exact W.widen (k := 1) (n := 6) (Nat.le_of_ble_eq_true rfl) (Nat.le_of_ble_eq_true rfl) (W.iret (v := _) hx hb hr (fun t9 ht9 hW9 => ⟨⟨_, ((Z, O, U, X, S, T, P, I, V, N, Y, Q), D), rfl, (Or.inr ⟨rfl, hc, rfl⟩), by rw [ht9]; exact hP, by rw [hAe]; exact hD⟩, hS.F ht9⟩) hS.2.2 dL_isLet_21)
  have hP : va_P dg vwCl (brkW ck ka ad ra Z O U X S T P I V N Y Q ++ lngC ck oa D) H := hP
  have hD : va_D A (brkW ck ka ad ra Z O U X S T P I V N Y Q ++ lngC ck oa D) := hD
  have hn0 := hn9
  obtain ⟨rfl, -⟩ := hn9
  have hv9 := bI_r (S 4 x ≠ 0)
  rcases (show (bI (S 4 x ≠ 0)) = 1 ∨ (bI (S 4 x ≠ 0)) = 0 by omega) with h9 | h9
  · refine x_is h9 ?_
    refine x_if_eq (tgt := 14) hx hb dL_isLet_7 (by decide) (by omega) (fun c => absurd c (by decide)) (fun _ => ?_)
    refine lv_lconst (v := 1) hx hb dL_isLet_10 (by decide) ?_
    refine lv_goto (tgt := 15) hx hb dL_isLet_11 (by decide) ?_
    refine va_last hx hb hK hP hD hS 166 5 rfl rfl (zI_in (z := 0) (by decide) (by decide)) dL_isLet_15 (fun H locs hP hD hS => ?_)
    have hP : va_P dg vwCl (brkW ck ka ad ra Z O U X S T P I V N Y Q ++ lngC ck oa (vp_updL D (zI 0).toNatClampNeg 1)) H := hP
    have hD : va_D A (brkW ck ka ad ra Z O U X S T P I V N Y Q ++ lngC ck oa (vp_updL D (zI 0).toNatClampNeg 1)) := hD
    refine lv_goto (tgt := 22) hx hb dL_isLet_16 (by decide) ?_
    refine x_iconst hx hb dL_isLet_22 ?_
    exact W.widen (k := 1) (n := 6) (Nat.le_of_ble_eq_true rfl) (Nat.le_of_ble_eq_true rfl) (W.iret (v := _) hx hb hr (fun t9 ht9 hW9 => ⟨⟨_, ((Z, O, U, X, S, T, P, I, V, N, Y, Q), (vp_updL D (zI 0).toNatClampNeg 1)), rfl, (Or.inl ⟨rfl, _, hn0, rfl, by rw [h9]; rfl⟩), by rw [ht9]; exact hP, by rw [hAe]; exact hD⟩, hS.F ht9⟩) hS.2.2 dL_isLet_23)
  · refine x_is h9 ?_
    refine x_if_eq (tgt := 14) hx hb dL_isLet_7 (by decide) (by omega) (fun _ => ?_) (fun c => absurd c (by decide))
    refine lv_lconst (v := 0) hx hb dL_isLet_14 (by decide) ?_
    refine va_last hx hb hK hP hD hS 166 5 rfl rfl (zI_in (z := 0) (by decide) (by decide)) dL_isLet_15 (fun H locs hP hD hS => ?_)
    have hP : va_P dg vwCl (brkW ck ka ad ra Z O U X S T P I V N Y Q ++ lngC ck oa (vp_updL D (zI 0).toNatClampNeg 0)) H := hP
    have hD : va_D A (brkW ck ka ad ra Z O U X S T P I V N Y Q ++ lngC ck oa (vp_updL D (zI 0).toNatClampNeg 0)) := hD
    refine lv_goto (tgt := 22) hx hb dL_isLet_16 (by decide) ?_
    refine x_iconst hx hb dL_isLet_22 ?_
    exact W.widen (k := 1) (n := 6) (Nat.le_of_ble_eq_true rfl) (Nat.le_of_ble_eq_true rfl) (W.iret (v := _) hx hb hr (fun t9 ht9 hW9 => ⟨⟨_, ((Z, O, U, X, S, T, P, I, V, N, Y, Q), (vp_updL D (zI 0).toNatClampNeg 0)), rfl, (Or.inl ⟨rfl, _, hn0, rfl, by rw [h9]; rfl⟩), by rw [ht9]; exact hP, by rw [hAe]; exact hD⟩, hS.F ht9⟩) hS.2.2 dL_isLet_23)

theorem wqL_tenantOf : (Jvm.Cond.codeWith ({ cls := "BenchBrokerLaw", name := "tenantOf", desc := "(LBenchBroker;I[J)I" } : Jvm.MethodName) method_29_code (4 : Nat) (Option.some Jvm.ClassFile.FieldType.int) [((0 : Nat), (9 : Nat), (12 : Nat), (13 : Nat)), ((0 : Nat), (9 : Nat), (15 : Nat), (79 : Nat))]) ∈ GW := tq_5 13 rfl rfl
set_option maxHeartbeats 4000000 in
set_option maxRecDepth 100000 in
/-- the law's tenantOf -/
theorem w_tenantOf (l : Launch) (dg : va_G) (ck : Nat → ClassId) (ka : Nat → Nat) (ad ra : Nat → Nat → Nat) (Z O U X : Nat → Int) (S T P I : St) (V N Y : Int → Int) (Q : Nat → St) (oa : Nat) (D : Nat → Int64) (x : Int) (sz : Nat) (hI : Bd S) (rg_x : -2147483648 ≤ x ∧ x < 2147483648) (hst : l.stackTraces = false) : Met l yL_tenantOf (.codeWith yL_tenantOf cL_tenantOf 4 (some .int) [(0, 9, 12, 13), (0, 9, 15, 79)] :: GW) ({ frames := 9, cells := 2, slots := 12, locals := 158 }) (va_Pc [.ref ((ad 7) 0), .int (zI x), .ref oa] (wrK dg ck ka sz (brkW ck ka ad ra Z O U X S T P I V N Y Q ++ lngC ck oa D))) (va_Qi (fun r (u : BU × (Nat → Int64)) => (r = zI 0 ∧ ∃ r1 : Int32, (r1 = zI (S 4 x - 1) ∧ isBench S x ∧ S 4 x ≠ 0) ∧ u.1 = (Z, O, U, X, S, T, P, I, V, N, Y, Q) ∧ u.2 0 = r1.toInt64) ∨ (r = zI 1 ∧ (¬ (isBench S x)) ∧ u.1 = (Z, O, U, X, S, T, P, I, V, N, Y, Q)) ∨ (r = zI 2 ∧ ((isBench S x) ∧ (S 4 x = 0)) ∧ u.1 = (Z, O, U, X, S, T, P, I, V, N, Y, Q))) (fun u t9 => wrQ dg sz (brkW ck ka ad ra Z O U X S T P I V N Y Q ++ lngC ck oa D) (brkU ck ka ad ra u.1 ++ lngC ck oa u.2) t9) (va_A (brkW ck ka ad ra Z O U X S T P I V N Y Q ++ lngC ck oa D) sz)) 2 12 (va_A (brkW ck ka ad ra Z O U X S T P I V N Y Q ++ lngC ck oa D) sz) := by
  refine x_ofWH (cc := cL_tenantOf) (maxL := 4) (ret := (some .int)) (by decide) rfl ?_
  intro p e s m args below meth c s₁ B hml htab hv
  obtain ⟨rfl, ⟨hsz, hP, hK, hD0⟩, hC⟩ := hv
  have hx := B.exec
  have hb := B.bytes
  have hr := B.returns
  have hts := atoms_spec (ws := .codeWith yL_tenantOf cL_tenantOf 4 (some .int) [(0, 9, 12, 13), (0, 9, 15, 79)] :: GW) B.pre
  have htg : ∀ w ∈ GW, w.before _ s = true := fun w h => hts w (List.mem_cons_of_mem _ h)
  have hown : s.vm.findClass RL = some m.cls := findClass_of_methodNamed B.named
  have hlocks := B.notSynchronized
  subst hsz
  have hD := hD0.self (sz := s.heap.size)
  generalize hAe : va_A (brkW ck ka ad ra Z O U X S T P I V N Y Q ++ lngC ck oa D) s.heap.size = A at hD hC ⊢
  have hA : ∀ q : Nat, s.heap.size ≤ q → A q := fun q h => by rw [← hAe]; exact Or.inr h
  have hS : va_S A s.heap s.heap [] := va_S.rf
  have hP : va_P dg vwCl (brkW ck ka ad ra Z O U X S T P I V N Y Q ++ lngC ck oa D) s.heap := hP
  have hl := lv_entry ([.ref ((ad 7) 0), .int (zI x), .ref oa]) (n := 4) (Nat.le_of_ble_eq_true rfl)
  rw [lg_entry_eq]
  generalize (lg_sl ([.ref ((ad 7) 0), .int (zI x), .ref oa]) ++ List.replicate (4 - (lg_sl ([.ref ((ad 7) 0), .int (zI x), .ref oa])).length) Slot.unset).toArray = ls at hl ⊢
  have hl : lv_has ls 4 [(0, .ref ((ad 7) 0)), (1, .int (zI x)), (2, .ref oa)] := hl
  refine lv_aload_n hx hb dL_tenantOf_0 rfl (lv_at hl 2 rfl) ?_
  refine x_iconst hx hb dL_tenantOf_1 ?_
  refine lv_aload_n hx hb dL_tenantOf_2 rfl (lv_at hl 0 rfl) ?_
  refine lv_iload_n hx hb dL_tenantOf_3 rfl (lv_at hl 1 rfl) ?_
  refine xl_calli (M := brkW ck ka ad ra Z O U X S T P I V N Y Q) (N := lngC ck oa D) (Mf := fun u : Unit => brkW ck ka ad ra Z O U X S T P I V N Y Q) (MX := fun u : Unit => brkW ck ka ad ra Z O U X S T P I V N Y Q) hP hD hS hA (fun hPm hDm => vx_runV (As := [.int (zI x)]) (rest := [.int (zI 0), .ref oa]) ⟨hx, hb, hml, hown, htg⟩ (x_tenantOf l dg ck ka ad ra Z O U X S T P I V N Y Q x _ hI rg_x hst) (cwV 1 htg (gwV wq_974 wq_975 wq_976 wq_1 wq_977) rfl rfl rfl (by decide +kernel) ⟨Nat.le_of_ble_eq_true rfl, Nat.le_of_ble_eq_true rfl⟩) (wrK_preV hK hPm hDm hC hS hA 0 10 rfl rfl) rfl rfl hl.1 rfl (lv_room (Nat.le_of_ble_eq_true rfl)) dL_tenantOf_4 ⟨Nat.le_of_ble_eq_true rfl, Nat.le_of_ble_eq_true rfl⟩) (fun E9 ce9 q9 u9 H locs hE9 hP hD hS g1 g2 g3 => ?_) (fun r9 u9 H locs hn9 hP hD hS => ?_)
  · rcases hE9 with ⟨rfl, hc⟩ | ⟨rfl, hc⟩
    · refine vx_catch (own := RL) (name := "java/lang/IndexOutOfBoundsException") hown [] ⟨0, 9, 12, 13⟩ [⟨0, 9, 15, 79⟩] (by rw [htab]; rfl) (fun z hz => absurd hz List.not_mem_nil) (by decide) (by decide) (htg _ wq_514) (va_Nw.use rfl (hC.nw (w := .castable "java/lang/IndexOutOfBoundsException" "java/lang/IndexOutOfBoundsException") (by decide +kernel))) g1 g2 g3 ?_
      refine W.eq (g2 := F0 m 12 ls [.ref q9]) rfl ?_
      refine lv_astore_n (lv' := [(3, .ref q9), (0, .ref ((ad 7) 0)), (1, .int (zI x)), (2, .ref oa)]) hx hb dL_tenantOf_12 rfl hl (by decide) rfl (fun ls hl => ?_)
      refine x_iconst hx hb dL_tenantOf_13 ?_
      exact W.widen (k := 2) (n := 12) (Nat.le_of_ble_eq_true rfl) (Nat.le_of_ble_eq_true rfl) (W.iret (v := _) hx hb hr (fun t9 ht9 hW9 => ⟨⟨_, ((Z, O, U, X, S, T, P, I, V, N, Y, Q), D), rfl, (Or.inr (Or.inl ⟨rfl, hc, rfl⟩)), by rw [ht9]; exact hP, by rw [hAe]; exact hD⟩, hS.F ht9⟩) hS.2.2 dL_tenantOf_14)
    · refine vx_catch (own := RL) (name := "java/util/NoSuchElementException") hown [⟨0, 9, 12, 13⟩] ⟨0, 9, 15, 79⟩ [] (by rw [htab]; rfl) (by intro z hz; simp only [List.mem_cons, List.not_mem_nil, or_false] at hz; subst hz; exact Or.inr ⟨by decide, "java/lang/IndexOutOfBoundsException", htg _ wq_514, hC.nc (by decide +kernel)⟩) (by decide) (by decide) (htg _ wq_880) (va_Nw.use rfl (hC.nw (w := .castable "java/util/NoSuchElementException" "java/util/NoSuchElementException") (by decide +kernel))) g1 g2 g3 ?_
      refine W.eq (g2 := F0 m 15 ls [.ref q9]) rfl ?_
      refine lv_astore_n (lv' := [(3, .ref q9), (0, .ref ((ad 7) 0)), (1, .int (zI x)), (2, .ref oa)]) hx hb dL_tenantOf_15 rfl hl (by decide) rfl (fun ls hl => ?_)
      refine x_iconst hx hb dL_tenantOf_16 ?_
      exact W.widen (k := 2) (n := 12) (Nat.le_of_ble_eq_true rfl) (Nat.le_of_ble_eq_true rfl) (W.iret (v := _) hx hb hr (fun t9 ht9 hW9 => ⟨⟨_, ((Z, O, U, X, S, T, P, I, V, N, Y, Q), D), rfl, (Or.inr (Or.inr ⟨rfl, hc, rfl⟩)), by rw [ht9]; exact hP, by rw [hAe]; exact hD⟩, hS.F ht9⟩) hS.2.2 dL_tenantOf_17)
  have hP : va_P dg vwCl (brkW ck ka ad ra Z O U X S T P I V N Y Q ++ lngC ck oa D) H := hP
  have hD : va_D A (brkW ck ka ad ra Z O U X S T P I V N Y Q ++ lngC ck oa D) := hD
  refine lv_i2l hx hb dL_tenantOf_7 rfl ?_
  refine va_last hx hb hK hP hD hS 166 5 rfl rfl (zI_in (z := 0) (by decide) (by decide)) dL_tenantOf_8 (fun H locs hP hD hS => ?_)
  have hP : va_P dg vwCl (brkW ck ka ad ra Z O U X S T P I V N Y Q ++ lngC ck oa (vp_updL D (zI 0).toNatClampNeg r9.toInt64)) H := hP
  have hD : va_D A (brkW ck ka ad ra Z O U X S T P I V N Y Q ++ lngC ck oa (vp_updL D (zI 0).toNatClampNeg r9.toInt64)) := hD
  refine lv_goto (tgt := 18) hx hb dL_tenantOf_9 (by decide) ?_
  refine x_iconst hx hb dL_tenantOf_18 ?_
  exact W.widen (k := 2) (n := 12) (Nat.le_of_ble_eq_true rfl) (Nat.le_of_ble_eq_true rfl) (W.iret (v := _) hx hb hr (fun t9 ht9 hW9 => ⟨⟨_, ((Z, O, U, X, S, T, P, I, V, N, Y, Q), (vp_updL D (zI 0).toNatClampNeg r9.toInt64)), rfl, (Or.inl ⟨rfl, r9, hn9, rfl, rfl⟩), by rw [ht9]; exact hP, by rw [hAe]; exact hD⟩, hS.F ht9⟩) hS.2.2 dL_tenantOf_19)

theorem wqL_depositOf : (Jvm.Cond.codeWith ({ cls := "BenchBrokerLaw", name := "depositOf", desc := "(LBenchBroker;I[J)I" } : Jvm.MethodName) method_30_code (4 : Nat) (Option.some Jvm.ClassFile.FieldType.int) [((0 : Nat), (9 : Nat), (12 : Nat), (13 : Nat)), ((0 : Nat), (9 : Nat), (15 : Nat), (79 : Nat))]) ∈ GW := tq_5 24 rfl rfl
set_option maxHeartbeats 4000000 in
set_option maxRecDepth 100000 in
/-- the law's depositOf -/
theorem w_depositOf (l : Launch) (dg : va_G) (ck : Nat → ClassId) (ka : Nat → Nat) (ad ra : Nat → Nat → Nat) (Z O U X : Nat → Int) (S T P I : St) (V N Y : Int → Int) (Q : Nat → St) (oa : Nat) (D : Nat → Int64) (x : Int) (sz : Nat) (hI : Bd S) (rg_x : -2147483648 ≤ x ∧ x < 2147483648) (hst : l.stackTraces = false) : Met l yL_depositOf (.codeWith yL_depositOf cL_depositOf 4 (some .int) [(0, 9, 12, 13), (0, 9, 15, 79)] :: GW) ({ frames := 9, cells := 2, slots := 12, locals := 158 }) (va_Pc [.ref ((ad 7) 0), .int (zI x), .ref oa] (wrK dg ck ka sz (brkW ck ka ad ra Z O U X S T P I V N Y Q ++ lngC ck oa D))) (va_Qi (fun r (u : BU × (Nat → Int64)) => (r = zI 0 ∧ ∃ r1 : Int32, (r1 = zI (S 5 x) ∧ isBench S x ∧ S 4 x ≠ 0) ∧ u.1 = (Z, O, U, X, S, T, P, I, V, N, Y, Q) ∧ u.2 0 = r1.toInt64) ∨ (r = zI 1 ∧ (¬ (isBench S x)) ∧ u.1 = (Z, O, U, X, S, T, P, I, V, N, Y, Q)) ∨ (r = zI 2 ∧ ((isBench S x) ∧ (S 4 x = 0)) ∧ u.1 = (Z, O, U, X, S, T, P, I, V, N, Y, Q))) (fun u t9 => wrQ dg sz (brkW ck ka ad ra Z O U X S T P I V N Y Q ++ lngC ck oa D) (brkU ck ka ad ra u.1 ++ lngC ck oa u.2) t9) (va_A (brkW ck ka ad ra Z O U X S T P I V N Y Q ++ lngC ck oa D) sz)) 2 12 (va_A (brkW ck ka ad ra Z O U X S T P I V N Y Q ++ lngC ck oa D) sz) := by
  refine x_ofWH (cc := cL_depositOf) (maxL := 4) (ret := (some .int)) (by decide) rfl ?_
  intro p e s m args below meth c s₁ B hml htab hv
  obtain ⟨rfl, ⟨hsz, hP, hK, hD0⟩, hC⟩ := hv
  have hx := B.exec
  have hb := B.bytes
  have hr := B.returns
  have hts := atoms_spec (ws := .codeWith yL_depositOf cL_depositOf 4 (some .int) [(0, 9, 12, 13), (0, 9, 15, 79)] :: GW) B.pre
  have htg : ∀ w ∈ GW, w.before _ s = true := fun w h => hts w (List.mem_cons_of_mem _ h)
  have hown : s.vm.findClass RL = some m.cls := findClass_of_methodNamed B.named
  have hlocks := B.notSynchronized
  subst hsz
  have hD := hD0.self (sz := s.heap.size)
  generalize hAe : va_A (brkW ck ka ad ra Z O U X S T P I V N Y Q ++ lngC ck oa D) s.heap.size = A at hD hC ⊢
  have hA : ∀ q : Nat, s.heap.size ≤ q → A q := fun q h => by rw [← hAe]; exact Or.inr h
  have hS : va_S A s.heap s.heap [] := va_S.rf
  have hP : va_P dg vwCl (brkW ck ka ad ra Z O U X S T P I V N Y Q ++ lngC ck oa D) s.heap := hP
  have hl := lv_entry ([.ref ((ad 7) 0), .int (zI x), .ref oa]) (n := 4) (Nat.le_of_ble_eq_true rfl)
  rw [lg_entry_eq]
  generalize (lg_sl ([.ref ((ad 7) 0), .int (zI x), .ref oa]) ++ List.replicate (4 - (lg_sl ([.ref ((ad 7) 0), .int (zI x), .ref oa])).length) Slot.unset).toArray = ls at hl ⊢
  have hl : lv_has ls 4 [(0, .ref ((ad 7) 0)), (1, .int (zI x)), (2, .ref oa)] := hl
  refine lv_aload_n hx hb dL_depositOf_0 rfl (lv_at hl 2 rfl) ?_
  refine x_iconst hx hb dL_depositOf_1 ?_
  refine lv_aload_n hx hb dL_depositOf_2 rfl (lv_at hl 0 rfl) ?_
  refine lv_iload_n hx hb dL_depositOf_3 rfl (lv_at hl 1 rfl) ?_
  refine xl_calli (M := brkW ck ka ad ra Z O U X S T P I V N Y Q) (N := lngC ck oa D) (Mf := fun u : Unit => brkW ck ka ad ra Z O U X S T P I V N Y Q) (MX := fun u : Unit => brkW ck ka ad ra Z O U X S T P I V N Y Q) hP hD hS hA (fun hPm hDm => vx_runV (As := [.int (zI x)]) (rest := [.int (zI 0), .ref oa]) ⟨hx, hb, hml, hown, htg⟩ (x_depositOf l dg ck ka ad ra Z O U X S T P I V N Y Q x _ hI rg_x hst) (cwV 1 htg (gwV wq_985 wq_986 wq_987 wq_1 wq_988) rfl rfl rfl (by decide +kernel) ⟨Nat.le_of_ble_eq_true rfl, Nat.le_of_ble_eq_true rfl⟩) (wrK_preV hK hPm hDm hC hS hA 0 10 rfl rfl) rfl rfl hl.1 rfl (lv_room (Nat.le_of_ble_eq_true rfl)) dL_depositOf_4 ⟨Nat.le_of_ble_eq_true rfl, Nat.le_of_ble_eq_true rfl⟩) (fun E9 ce9 q9 u9 H locs hE9 hP hD hS g1 g2 g3 => ?_) (fun r9 u9 H locs hn9 hP hD hS => ?_)
  · rcases hE9 with ⟨rfl, hc⟩ | ⟨rfl, hc⟩
    · refine vx_catch (own := RL) (name := "java/lang/IndexOutOfBoundsException") hown [] ⟨0, 9, 12, 13⟩ [⟨0, 9, 15, 79⟩] (by rw [htab]; rfl) (fun z hz => absurd hz List.not_mem_nil) (by decide) (by decide) (htg _ wq_514) (va_Nw.use rfl (hC.nw (w := .castable "java/lang/IndexOutOfBoundsException" "java/lang/IndexOutOfBoundsException") (by decide +kernel))) g1 g2 g3 ?_
      refine W.eq (g2 := F0 m 12 ls [.ref q9]) rfl ?_
      refine lv_astore_n (lv' := [(3, .ref q9), (0, .ref ((ad 7) 0)), (1, .int (zI x)), (2, .ref oa)]) hx hb dL_depositOf_12 rfl hl (by decide) rfl (fun ls hl => ?_)
      refine x_iconst hx hb dL_depositOf_13 ?_
      exact W.widen (k := 2) (n := 12) (Nat.le_of_ble_eq_true rfl) (Nat.le_of_ble_eq_true rfl) (W.iret (v := _) hx hb hr (fun t9 ht9 hW9 => ⟨⟨_, ((Z, O, U, X, S, T, P, I, V, N, Y, Q), D), rfl, (Or.inr (Or.inl ⟨rfl, hc, rfl⟩)), by rw [ht9]; exact hP, by rw [hAe]; exact hD⟩, hS.F ht9⟩) hS.2.2 dL_depositOf_14)
    · refine vx_catch (own := RL) (name := "java/util/NoSuchElementException") hown [⟨0, 9, 12, 13⟩] ⟨0, 9, 15, 79⟩ [] (by rw [htab]; rfl) (by intro z hz; simp only [List.mem_cons, List.not_mem_nil, or_false] at hz; subst hz; exact Or.inr ⟨by decide, "java/lang/IndexOutOfBoundsException", htg _ wq_514, hC.nc (by decide +kernel)⟩) (by decide) (by decide) (htg _ wq_880) (va_Nw.use rfl (hC.nw (w := .castable "java/util/NoSuchElementException" "java/util/NoSuchElementException") (by decide +kernel))) g1 g2 g3 ?_
      refine W.eq (g2 := F0 m 15 ls [.ref q9]) rfl ?_
      refine lv_astore_n (lv' := [(3, .ref q9), (0, .ref ((ad 7) 0)), (1, .int (zI x)), (2, .ref oa)]) hx hb dL_depositOf_15 rfl hl (by decide) rfl (fun ls hl => ?_)
      refine x_iconst hx hb dL_depositOf_16 ?_
      exact W.widen (k := 2) (n := 12) (Nat.le_of_ble_eq_true rfl) (Nat.le_of_ble_eq_true rfl) (W.iret (v := _) hx hb hr (fun t9 ht9 hW9 => ⟨⟨_, ((Z, O, U, X, S, T, P, I, V, N, Y, Q), D), rfl, (Or.inr (Or.inr ⟨rfl, hc, rfl⟩)), by rw [ht9]; exact hP, by rw [hAe]; exact hD⟩, hS.F ht9⟩) hS.2.2 dL_depositOf_17)
  have hP : va_P dg vwCl (brkW ck ka ad ra Z O U X S T P I V N Y Q ++ lngC ck oa D) H := hP
  have hD : va_D A (brkW ck ka ad ra Z O U X S T P I V N Y Q ++ lngC ck oa D) := hD
  refine lv_i2l hx hb dL_depositOf_7 rfl ?_
  refine va_last hx hb hK hP hD hS 166 5 rfl rfl (zI_in (z := 0) (by decide) (by decide)) dL_depositOf_8 (fun H locs hP hD hS => ?_)
  have hP : va_P dg vwCl (brkW ck ka ad ra Z O U X S T P I V N Y Q ++ lngC ck oa (vp_updL D (zI 0).toNatClampNeg r9.toInt64)) H := hP
  have hD : va_D A (brkW ck ka ad ra Z O U X S T P I V N Y Q ++ lngC ck oa (vp_updL D (zI 0).toNatClampNeg r9.toInt64)) := hD
  refine lv_goto (tgt := 18) hx hb dL_depositOf_9 (by decide) ?_
  refine x_iconst hx hb dL_depositOf_18 ?_
  exact W.widen (k := 2) (n := 12) (Nat.le_of_ble_eq_true rfl) (Nat.le_of_ble_eq_true rfl) (W.iret (v := _) hx hb hr (fun t9 ht9 hW9 => ⟨⟨_, ((Z, O, U, X, S, T, P, I, V, N, Y, Q), (vp_updL D (zI 0).toNatClampNeg r9.toInt64)), rfl, (Or.inl ⟨rfl, r9, hn9, rfl, rfl⟩), by rw [ht9]; exact hP, by rw [hAe]; exact hD⟩, hS.F ht9⟩) hS.2.2 dL_depositOf_19)

theorem wqL_monthsLeft : (Jvm.Cond.codeWith ({ cls := "BenchBrokerLaw", name := "monthsLeft", desc := "(LBenchBroker;I[J)I" } : Jvm.MethodName) method_31_code (4 : Nat) (Option.some Jvm.ClassFile.FieldType.int) [((0 : Nat), (9 : Nat), (12 : Nat), (13 : Nat)), ((0 : Nat), (9 : Nat), (15 : Nat), (79 : Nat))]) ∈ GW := tq_5 31 rfl rfl
set_option maxHeartbeats 4000000 in
set_option maxRecDepth 100000 in
/-- the law's monthsLeft -/
theorem w_monthsLeft (l : Launch) (dg : va_G) (ck : Nat → ClassId) (ka : Nat → Nat) (ad ra : Nat → Nat → Nat) (Z O U X : Nat → Int) (S T P I : St) (V N Y : Int → Int) (Q : Nat → St) (oa : Nat) (D : Nat → Int64) (x : Int) (sz : Nat) (hI : Bd S) (rg_x : -2147483648 ≤ x ∧ x < 2147483648) (hst : l.stackTraces = false) : Met l yL_monthsLeft (.codeWith yL_monthsLeft cL_monthsLeft 4 (some .int) [(0, 9, 12, 13), (0, 9, 15, 79)] :: GW) ({ frames := 9, cells := 2, slots := 12, locals := 158 }) (va_Pc [.ref ((ad 7) 0), .int (zI x), .ref oa] (wrK dg ck ka sz (brkW ck ka ad ra Z O U X S T P I V N Y Q ++ lngC ck oa D))) (va_Qi (fun r (u : BU × (Nat → Int64)) => (r = zI 0 ∧ ∃ r1 : Int32, (r1 = zI (S 6 x) ∧ isBench S x ∧ S 4 x ≠ 0) ∧ u.1 = (Z, O, U, X, S, T, P, I, V, N, Y, Q) ∧ u.2 0 = r1.toInt64) ∨ (r = zI 1 ∧ (¬ (isBench S x)) ∧ u.1 = (Z, O, U, X, S, T, P, I, V, N, Y, Q)) ∨ (r = zI 2 ∧ ((isBench S x) ∧ (S 4 x = 0)) ∧ u.1 = (Z, O, U, X, S, T, P, I, V, N, Y, Q))) (fun u t9 => wrQ dg sz (brkW ck ka ad ra Z O U X S T P I V N Y Q ++ lngC ck oa D) (brkU ck ka ad ra u.1 ++ lngC ck oa u.2) t9) (va_A (brkW ck ka ad ra Z O U X S T P I V N Y Q ++ lngC ck oa D) sz)) 2 12 (va_A (brkW ck ka ad ra Z O U X S T P I V N Y Q ++ lngC ck oa D) sz) := by
  refine x_ofWH (cc := cL_monthsLeft) (maxL := 4) (ret := (some .int)) (by decide) rfl ?_
  intro p e s m args below meth c s₁ B hml htab hv
  obtain ⟨rfl, ⟨hsz, hP, hK, hD0⟩, hC⟩ := hv
  have hx := B.exec
  have hb := B.bytes
  have hr := B.returns
  have hts := atoms_spec (ws := .codeWith yL_monthsLeft cL_monthsLeft 4 (some .int) [(0, 9, 12, 13), (0, 9, 15, 79)] :: GW) B.pre
  have htg : ∀ w ∈ GW, w.before _ s = true := fun w h => hts w (List.mem_cons_of_mem _ h)
  have hown : s.vm.findClass RL = some m.cls := findClass_of_methodNamed B.named
  have hlocks := B.notSynchronized
  subst hsz
  have hD := hD0.self (sz := s.heap.size)
  generalize hAe : va_A (brkW ck ka ad ra Z O U X S T P I V N Y Q ++ lngC ck oa D) s.heap.size = A at hD hC ⊢
  have hA : ∀ q : Nat, s.heap.size ≤ q → A q := fun q h => by rw [← hAe]; exact Or.inr h
  have hS : va_S A s.heap s.heap [] := va_S.rf
  have hP : va_P dg vwCl (brkW ck ka ad ra Z O U X S T P I V N Y Q ++ lngC ck oa D) s.heap := hP
  have hl := lv_entry ([.ref ((ad 7) 0), .int (zI x), .ref oa]) (n := 4) (Nat.le_of_ble_eq_true rfl)
  rw [lg_entry_eq]
  generalize (lg_sl ([.ref ((ad 7) 0), .int (zI x), .ref oa]) ++ List.replicate (4 - (lg_sl ([.ref ((ad 7) 0), .int (zI x), .ref oa])).length) Slot.unset).toArray = ls at hl ⊢
  have hl : lv_has ls 4 [(0, .ref ((ad 7) 0)), (1, .int (zI x)), (2, .ref oa)] := hl
  refine lv_aload_n hx hb dL_monthsLeft_0 rfl (lv_at hl 2 rfl) ?_
  refine x_iconst hx hb dL_monthsLeft_1 ?_
  refine lv_aload_n hx hb dL_monthsLeft_2 rfl (lv_at hl 0 rfl) ?_
  refine lv_iload_n hx hb dL_monthsLeft_3 rfl (lv_at hl 1 rfl) ?_
  refine xl_calli (M := brkW ck ka ad ra Z O U X S T P I V N Y Q) (N := lngC ck oa D) (Mf := fun u : Unit => brkW ck ka ad ra Z O U X S T P I V N Y Q) (MX := fun u : Unit => brkW ck ka ad ra Z O U X S T P I V N Y Q) hP hD hS hA (fun hPm hDm => vx_runV (As := [.int (zI x)]) (rest := [.int (zI 0), .ref oa]) ⟨hx, hb, hml, hown, htg⟩ (x_monthsLeft l dg ck ka ad ra Z O U X S T P I V N Y Q x _ hI rg_x hst) (cwV 1 htg (gwV wq_992 wq_993 wq_994 wq_1 wq_995) rfl rfl rfl (by decide +kernel) ⟨Nat.le_of_ble_eq_true rfl, Nat.le_of_ble_eq_true rfl⟩) (wrK_preV hK hPm hDm hC hS hA 0 10 rfl rfl) rfl rfl hl.1 rfl (lv_room (Nat.le_of_ble_eq_true rfl)) dL_monthsLeft_4 ⟨Nat.le_of_ble_eq_true rfl, Nat.le_of_ble_eq_true rfl⟩) (fun E9 ce9 q9 u9 H locs hE9 hP hD hS g1 g2 g3 => ?_) (fun r9 u9 H locs hn9 hP hD hS => ?_)
  · rcases hE9 with ⟨rfl, hc⟩ | ⟨rfl, hc⟩
    · refine vx_catch (own := RL) (name := "java/lang/IndexOutOfBoundsException") hown [] ⟨0, 9, 12, 13⟩ [⟨0, 9, 15, 79⟩] (by rw [htab]; rfl) (fun z hz => absurd hz List.not_mem_nil) (by decide) (by decide) (htg _ wq_514) (va_Nw.use rfl (hC.nw (w := .castable "java/lang/IndexOutOfBoundsException" "java/lang/IndexOutOfBoundsException") (by decide +kernel))) g1 g2 g3 ?_
      refine W.eq (g2 := F0 m 12 ls [.ref q9]) rfl ?_
      refine lv_astore_n (lv' := [(3, .ref q9), (0, .ref ((ad 7) 0)), (1, .int (zI x)), (2, .ref oa)]) hx hb dL_monthsLeft_12 rfl hl (by decide) rfl (fun ls hl => ?_)
      refine x_iconst hx hb dL_monthsLeft_13 ?_
      exact W.widen (k := 2) (n := 12) (Nat.le_of_ble_eq_true rfl) (Nat.le_of_ble_eq_true rfl) (W.iret (v := _) hx hb hr (fun t9 ht9 hW9 => ⟨⟨_, ((Z, O, U, X, S, T, P, I, V, N, Y, Q), D), rfl, (Or.inr (Or.inl ⟨rfl, hc, rfl⟩)), by rw [ht9]; exact hP, by rw [hAe]; exact hD⟩, hS.F ht9⟩) hS.2.2 dL_monthsLeft_14)
    · refine vx_catch (own := RL) (name := "java/util/NoSuchElementException") hown [⟨0, 9, 12, 13⟩] ⟨0, 9, 15, 79⟩ [] (by rw [htab]; rfl) (by intro z hz; simp only [List.mem_cons, List.not_mem_nil, or_false] at hz; subst hz; exact Or.inr ⟨by decide, "java/lang/IndexOutOfBoundsException", htg _ wq_514, hC.nc (by decide +kernel)⟩) (by decide) (by decide) (htg _ wq_880) (va_Nw.use rfl (hC.nw (w := .castable "java/util/NoSuchElementException" "java/util/NoSuchElementException") (by decide +kernel))) g1 g2 g3 ?_
      refine W.eq (g2 := F0 m 15 ls [.ref q9]) rfl ?_
      refine lv_astore_n (lv' := [(3, .ref q9), (0, .ref ((ad 7) 0)), (1, .int (zI x)), (2, .ref oa)]) hx hb dL_monthsLeft_15 rfl hl (by decide) rfl (fun ls hl => ?_)
      refine x_iconst hx hb dL_monthsLeft_16 ?_
      exact W.widen (k := 2) (n := 12) (Nat.le_of_ble_eq_true rfl) (Nat.le_of_ble_eq_true rfl) (W.iret (v := _) hx hb hr (fun t9 ht9 hW9 => ⟨⟨_, ((Z, O, U, X, S, T, P, I, V, N, Y, Q), D), rfl, (Or.inr (Or.inr ⟨rfl, hc, rfl⟩)), by rw [ht9]; exact hP, by rw [hAe]; exact hD⟩, hS.F ht9⟩) hS.2.2 dL_monthsLeft_17)
  have hP : va_P dg vwCl (brkW ck ka ad ra Z O U X S T P I V N Y Q ++ lngC ck oa D) H := hP
  have hD : va_D A (brkW ck ka ad ra Z O U X S T P I V N Y Q ++ lngC ck oa D) := hD
  refine lv_i2l hx hb dL_monthsLeft_7 rfl ?_
  refine va_last hx hb hK hP hD hS 166 5 rfl rfl (zI_in (z := 0) (by decide) (by decide)) dL_monthsLeft_8 (fun H locs hP hD hS => ?_)
  have hP : va_P dg vwCl (brkW ck ka ad ra Z O U X S T P I V N Y Q ++ lngC ck oa (vp_updL D (zI 0).toNatClampNeg r9.toInt64)) H := hP
  have hD : va_D A (brkW ck ka ad ra Z O U X S T P I V N Y Q ++ lngC ck oa (vp_updL D (zI 0).toNatClampNeg r9.toInt64)) := hD
  refine lv_goto (tgt := 18) hx hb dL_monthsLeft_9 (by decide) ?_
  refine x_iconst hx hb dL_monthsLeft_18 ?_
  exact W.widen (k := 2) (n := 12) (Nat.le_of_ble_eq_true rfl) (Nat.le_of_ble_eq_true rfl) (W.iret (v := _) hx hb hr (fun t9 ht9 hW9 => ⟨⟨_, ((Z, O, U, X, S, T, P, I, V, N, Y, Q), (vp_updL D (zI 0).toNatClampNeg r9.toInt64)), rfl, (Or.inl ⟨rfl, r9, hn9, rfl, rfl⟩), by rw [ht9]; exact hP, by rw [hAe]; exact hD⟩, hS.F ht9⟩) hS.2.2 dL_monthsLeft_19)

theorem wqL_defaultMonth : (Jvm.Cond.codeWith ({ cls := "BenchBrokerLaw", name := "defaultMonth", desc := "(LBenchBroker;I[J)I" } : Jvm.MethodName) method_32_code (4 : Nat) (Option.some Jvm.ClassFile.FieldType.int) [((0 : Nat), (9 : Nat), (12 : Nat), (13 : Nat)), ((0 : Nat), (9 : Nat), (15 : Nat), (79 : Nat))]) ∈ GW := tq_5 38 rfl rfl
set_option maxHeartbeats 4000000 in
set_option maxRecDepth 100000 in
/-- the law's defaultMonth -/
theorem w_defaultMonth (l : Launch) (dg : va_G) (ck : Nat → ClassId) (ka : Nat → Nat) (ad ra : Nat → Nat → Nat) (Z O U X : Nat → Int) (S T P I : St) (V N Y : Int → Int) (Q : Nat → St) (oa : Nat) (D : Nat → Int64) (x : Int) (sz : Nat) (hI : Bd S) (rg_x : -2147483648 ≤ x ∧ x < 2147483648) (hst : l.stackTraces = false) : Met l yL_defaultMonth (.codeWith yL_defaultMonth cL_defaultMonth 4 (some .int) [(0, 9, 12, 13), (0, 9, 15, 79)] :: GW) ({ frames := 9, cells := 3, slots := 18, locals := 159 }) (va_Pc [.ref ((ad 7) 0), .int (zI x), .ref oa] (wrK dg ck ka sz (brkW ck ka ad ra Z O U X S T P I V N Y Q ++ lngC ck oa D))) (va_Qi (fun r (u : BU × (Nat → Int64)) => (r = zI 0 ∧ ∃ r1 : Int32, (r1 = zI (payable S x + 1) ∧ (isBench S x ∧ S 4 x ≠ 0 ∧ quietB S x ∧ payable S x < S 6 x)) ∧ u.1 = (Z, O, U, X, S, T, P, I, V, N, Y, Q) ∧ u.2 0 = r1.toInt64) ∨ (r = zI 1 ∧ (¬ isBench S x) ∧ u.1 = (Z, O, U, X, S, T, P, I, V, N, Y, Q)) ∨ (r = zI 2 ∧ (isBench S x ∧ ¬ (S 4 x ≠ 0 ∧ quietB S x ∧ payable S x < S 6 x)) ∧ u.1 = (Z, O, U, X, S, T, P, I, V, N, Y, Q))) (fun u t9 => wrQ dg sz (brkW ck ka ad ra Z O U X S T P I V N Y Q ++ lngC ck oa D) (brkU ck ka ad ra u.1 ++ lngC ck oa u.2) t9) (va_A (brkW ck ka ad ra Z O U X S T P I V N Y Q ++ lngC ck oa D) sz)) 3 18 (va_A (brkW ck ka ad ra Z O U X S T P I V N Y Q ++ lngC ck oa D) sz) := by
  refine x_ofWH (cc := cL_defaultMonth) (maxL := 4) (ret := (some .int)) (by decide) rfl ?_
  intro p e s m args below meth c s₁ B hml htab hv
  obtain ⟨rfl, ⟨hsz, hP, hK, hD0⟩, hC⟩ := hv
  have hx := B.exec
  have hb := B.bytes
  have hr := B.returns
  have hts := atoms_spec (ws := .codeWith yL_defaultMonth cL_defaultMonth 4 (some .int) [(0, 9, 12, 13), (0, 9, 15, 79)] :: GW) B.pre
  have htg : ∀ w ∈ GW, w.before _ s = true := fun w h => hts w (List.mem_cons_of_mem _ h)
  have hown : s.vm.findClass RL = some m.cls := findClass_of_methodNamed B.named
  have hlocks := B.notSynchronized
  subst hsz
  have hD := hD0.self (sz := s.heap.size)
  generalize hAe : va_A (brkW ck ka ad ra Z O U X S T P I V N Y Q ++ lngC ck oa D) s.heap.size = A at hD hC ⊢
  have hA : ∀ q : Nat, s.heap.size ≤ q → A q := fun q h => by rw [← hAe]; exact Or.inr h
  have hS : va_S A s.heap s.heap [] := va_S.rf
  have hP : va_P dg vwCl (brkW ck ka ad ra Z O U X S T P I V N Y Q ++ lngC ck oa D) s.heap := hP
  have hl := lv_entry ([.ref ((ad 7) 0), .int (zI x), .ref oa]) (n := 4) (Nat.le_of_ble_eq_true rfl)
  rw [lg_entry_eq]
  generalize (lg_sl ([.ref ((ad 7) 0), .int (zI x), .ref oa]) ++ List.replicate (4 - (lg_sl ([.ref ((ad 7) 0), .int (zI x), .ref oa])).length) Slot.unset).toArray = ls at hl ⊢
  have hl : lv_has ls 4 [(0, .ref ((ad 7) 0)), (1, .int (zI x)), (2, .ref oa)] := hl
  refine lv_aload_n hx hb dL_defaultMonth_0 rfl (lv_at hl 2 rfl) ?_
  refine x_iconst hx hb dL_defaultMonth_1 ?_
  refine lv_aload_n hx hb dL_defaultMonth_2 rfl (lv_at hl 0 rfl) ?_
  refine lv_iload_n hx hb dL_defaultMonth_3 rfl (lv_at hl 1 rfl) ?_
  refine xl_calli (M := brkW ck ka ad ra Z O U X S T P I V N Y Q) (N := lngC ck oa D) (Mf := fun u : Unit => brkW ck ka ad ra Z O U X S T P I V N Y Q) (MX := fun u : Unit => brkW ck ka ad ra Z O U X S T P I V N Y Q) hP hD hS hA (fun hPm hDm => vx_runV (As := [.int (zI x)]) (rest := [.int (zI 0), .ref oa]) ⟨hx, hb, hml, hown, htg⟩ (x_defaultMonth l dg ck ka ad ra Z O U X S T P I V N Y Q x _ hI rg_x hst) (cwV 1 htg (gwV wq_999 wq_1000 wq_1001 wq_1 wq_1002) rfl rfl rfl (by decide +kernel) ⟨Nat.le_of_ble_eq_true rfl, Nat.le_of_ble_eq_true rfl⟩) (wrK_preV hK hPm hDm hC hS hA 0 10 rfl rfl) rfl rfl hl.1 rfl (lv_room (Nat.le_of_ble_eq_true rfl)) dL_defaultMonth_4 ⟨Nat.le_of_ble_eq_true rfl, Nat.le_of_ble_eq_true rfl⟩) (fun E9 ce9 q9 u9 H locs hE9 hP hD hS g1 g2 g3 => ?_) (fun r9 u9 H locs hn9 hP hD hS => ?_)
  · rcases hE9 with ⟨rfl, hc⟩ | ⟨rfl, hc⟩
    · refine vx_catch (own := RL) (name := "java/lang/IndexOutOfBoundsException") hown [] ⟨0, 9, 12, 13⟩ [⟨0, 9, 15, 79⟩] (by rw [htab]; rfl) (fun z hz => absurd hz List.not_mem_nil) (by decide) (by decide) (htg _ wq_514) (va_Nw.use rfl (hC.nw (w := .castable "java/lang/IndexOutOfBoundsException" "java/lang/IndexOutOfBoundsException") (by decide +kernel))) g1 g2 g3 ?_
      refine W.eq (g2 := F0 m 12 ls [.ref q9]) rfl ?_
      refine lv_astore_n (lv' := [(3, .ref q9), (0, .ref ((ad 7) 0)), (1, .int (zI x)), (2, .ref oa)]) hx hb dL_defaultMonth_12 rfl hl (by decide) rfl (fun ls hl => ?_)
      refine x_iconst hx hb dL_defaultMonth_13 ?_
      exact W.widen (k := 3) (n := 18) (Nat.le_of_ble_eq_true rfl) (Nat.le_of_ble_eq_true rfl) (W.iret (v := _) hx hb hr (fun t9 ht9 hW9 => ⟨⟨_, ((Z, O, U, X, S, T, P, I, V, N, Y, Q), D), rfl, (Or.inr (Or.inl ⟨rfl, hc, rfl⟩)), by rw [ht9]; exact hP, by rw [hAe]; exact hD⟩, hS.F ht9⟩) hS.2.2 dL_defaultMonth_14)
    · refine vx_catch (own := RL) (name := "java/util/NoSuchElementException") hown [⟨0, 9, 12, 13⟩] ⟨0, 9, 15, 79⟩ [] (by rw [htab]; rfl) (by intro z hz; simp only [List.mem_cons, List.not_mem_nil, or_false] at hz; subst hz; exact Or.inr ⟨by decide, "java/lang/IndexOutOfBoundsException", htg _ wq_514, hC.nc (by decide +kernel)⟩) (by decide) (by decide) (htg _ wq_880) (va_Nw.use rfl (hC.nw (w := .castable "java/util/NoSuchElementException" "java/util/NoSuchElementException") (by decide +kernel))) g1 g2 g3 ?_
      refine W.eq (g2 := F0 m 15 ls [.ref q9]) rfl ?_
      refine lv_astore_n (lv' := [(3, .ref q9), (0, .ref ((ad 7) 0)), (1, .int (zI x)), (2, .ref oa)]) hx hb dL_defaultMonth_15 rfl hl (by decide) rfl (fun ls hl => ?_)
      refine x_iconst hx hb dL_defaultMonth_16 ?_
      exact W.widen (k := 3) (n := 18) (Nat.le_of_ble_eq_true rfl) (Nat.le_of_ble_eq_true rfl) (W.iret (v := _) hx hb hr (fun t9 ht9 hW9 => ⟨⟨_, ((Z, O, U, X, S, T, P, I, V, N, Y, Q), D), rfl, (Or.inr (Or.inr ⟨rfl, hc, rfl⟩)), by rw [ht9]; exact hP, by rw [hAe]; exact hD⟩, hS.F ht9⟩) hS.2.2 dL_defaultMonth_17)
  have hP : va_P dg vwCl (brkW ck ka ad ra Z O U X S T P I V N Y Q ++ lngC ck oa D) H := hP
  have hD : va_D A (brkW ck ka ad ra Z O U X S T P I V N Y Q ++ lngC ck oa D) := hD
  refine lv_i2l hx hb dL_defaultMonth_7 rfl ?_
  refine va_last hx hb hK hP hD hS 166 5 rfl rfl (zI_in (z := 0) (by decide) (by decide)) dL_defaultMonth_8 (fun H locs hP hD hS => ?_)
  have hP : va_P dg vwCl (brkW ck ka ad ra Z O U X S T P I V N Y Q ++ lngC ck oa (vp_updL D (zI 0).toNatClampNeg r9.toInt64)) H := hP
  have hD : va_D A (brkW ck ka ad ra Z O U X S T P I V N Y Q ++ lngC ck oa (vp_updL D (zI 0).toNatClampNeg r9.toInt64)) := hD
  refine lv_goto (tgt := 18) hx hb dL_defaultMonth_9 (by decide) ?_
  refine x_iconst hx hb dL_defaultMonth_18 ?_
  exact W.widen (k := 3) (n := 18) (Nat.le_of_ble_eq_true rfl) (Nat.le_of_ble_eq_true rfl) (W.iret (v := _) hx hb hr (fun t9 ht9 hW9 => ⟨⟨_, ((Z, O, U, X, S, T, P, I, V, N, Y, Q), (vp_updL D (zI 0).toNatClampNeg r9.toInt64)), rfl, (Or.inl ⟨rfl, r9, hn9, rfl, rfl⟩), by rw [ht9]; exact hP, by rw [hAe]; exact hD⟩, hS.F ht9⟩) hS.2.2 dL_defaultMonth_19)

theorem wqL_incomeWithin : (Jvm.Cond.codeWith ({ cls := "BenchBrokerLaw", name := "incomeWithin", desc := "(LBenchBroker;I[J)I" } : Jvm.MethodName) method_34_code (4 : Nat) (Option.some Jvm.ClassFile.FieldType.int) [((0 : Nat), (9 : Nat), (12 : Nat), (15 : Nat))]) ∈ GW := tq_5 53 rfl rfl
set_option maxHeartbeats 4000000 in
set_option maxRecDepth 100000 in
/-- the law's incomeWithin -/
theorem w_incomeWithin (l : Launch) (dg : va_G) (ck : Nat → ClassId) (ka : Nat → Nat) (ad ra : Nat → Nat → Nat) (Z O U X : Nat → Int) (S T P I : St) (V N Y : Int → Int) (Q : Nat → St) (oa : Nat) (D : Nat → Int64) (x : Int) (sz : Nat) {Mx : Int} (hV : Inv Mx S) (rg_x : -2147483648 ≤ x ∧ x < 2147483648) (hst : l.stackTraces = false) : Met l yL_incomeWithin (.codeWith yL_incomeWithin cL_incomeWithin 4 (some .int) [(0, 9, 12, 15)] :: GW) ({ frames := 8, cells := 1, slots := 6, locals := 158 }) (va_Pc [.ref ((ad 7) 0), .int (zI x), .ref oa] (wrK dg ck ka sz (brkW ck ka ad ra Z O U X S T P I V N Y Q ++ lngC ck oa D))) (va_Qi (fun r (u : BU × (Nat → Int64)) => (r = zI 0 ∧ ∃ r1 : Int32, (r1 = zI ((elZ S x).2.2 0 5 - S 0 5) ∧ isTerm x) ∧ u.1 = (Z, (outc O (elZ S x).1 (elZ S x).2.1), U, X, S, (elZ S x).2.2, P, I, V, N, Y, Q) ∧ u.2 0 = r1.toInt64) ∨ (r = zI 1 ∧ (¬ isTerm x) ∧ u.1 = (Z, O, U, X, S, T, P, I, V, N, Y, Q))) (fun u t9 => wrQ dg sz (brkW ck ka ad ra Z O U X S T P I V N Y Q ++ lngC ck oa D) (brkU ck ka ad ra u.1 ++ lngC ck oa u.2) t9) (va_A (brkW ck ka ad ra Z O U X S T P I V N Y Q ++ lngC ck oa D) sz)) 1 6 (va_A (brkW ck ka ad ra Z O U X S T P I V N Y Q ++ lngC ck oa D) sz) := by
  refine x_ofWH (cc := cL_incomeWithin) (maxL := 4) (ret := (some .int)) (by decide) rfl ?_
  intro p e s m args below meth c s₁ B hml htab hv
  obtain ⟨rfl, ⟨hsz, hP, hK, hD0⟩, hC⟩ := hv
  have hx := B.exec
  have hb := B.bytes
  have hr := B.returns
  have hts := atoms_spec (ws := .codeWith yL_incomeWithin cL_incomeWithin 4 (some .int) [(0, 9, 12, 15)] :: GW) B.pre
  have htg : ∀ w ∈ GW, w.before _ s = true := fun w h => hts w (List.mem_cons_of_mem _ h)
  have hown : s.vm.findClass RL = some m.cls := findClass_of_methodNamed B.named
  have hlocks := B.notSynchronized
  subst hsz
  have hD := hD0.self (sz := s.heap.size)
  generalize hAe : va_A (brkW ck ka ad ra Z O U X S T P I V N Y Q ++ lngC ck oa D) s.heap.size = A at hD hC ⊢
  have hA : ∀ q : Nat, s.heap.size ≤ q → A q := fun q h => by rw [← hAe]; exact Or.inr h
  have hS : va_S A s.heap s.heap [] := va_S.rf
  have hP : va_P dg vwCl (brkW ck ka ad ra Z O U X S T P I V N Y Q ++ lngC ck oa D) s.heap := hP
  have hl := lv_entry ([.ref ((ad 7) 0), .int (zI x), .ref oa]) (n := 4) (Nat.le_of_ble_eq_true rfl)
  rw [lg_entry_eq]
  generalize (lg_sl ([.ref ((ad 7) 0), .int (zI x), .ref oa]) ++ List.replicate (4 - (lg_sl ([.ref ((ad 7) 0), .int (zI x), .ref oa])).length) Slot.unset).toArray = ls at hl ⊢
  have hl : lv_has ls 4 [(0, .ref ((ad 7) 0)), (1, .int (zI x)), (2, .ref oa)] := hl
  refine lv_aload_n hx hb dL_incomeWithin_0 rfl (lv_at hl 2 rfl) ?_
  refine x_iconst hx hb dL_incomeWithin_1 ?_
  refine lv_aload_n hx hb dL_incomeWithin_2 rfl (lv_at hl 0 rfl) ?_
  refine lv_iload_n hx hb dL_incomeWithin_3 rfl (lv_at hl 1 rfl) ?_
  refine xl_calli (M := brkW ck ka ad ra Z O U X S T P I V N Y Q) (N := lngC ck oa D) (Mf := fun u : Unit => brkW ck ka ad ra Z (outc O (elZ S x).1 (elZ S x).2.1) U X S (elZ S x).2.2 P I V N Y Q) (MX := fun u : Unit => brkW ck ka ad ra Z O U X S T P I V N Y Q) hP hD hS hA (fun hPm hDm => vx_runV (As := [.int (zI x)]) (rest := [.int (zI 0), .ref oa]) ⟨hx, hb, hml, hown, htg⟩ (x_incomeWithin l dg ck ka ad ra Z O U X S T P I V N Y Q x _ hV rg_x hst) (cwV 1 htg (gwV wq_1014 wq_1015 wq_1016 wq_1 wq_1017) rfl rfl rfl (by decide +kernel) ⟨Nat.le_of_ble_eq_true rfl, Nat.le_of_ble_eq_true rfl⟩) (wrK_preV hK hPm hDm hC hS hA 0 10 rfl rfl) rfl rfl hl.1 rfl (lv_room (Nat.le_of_ble_eq_true rfl)) dL_incomeWithin_4 ⟨Nat.le_of_ble_eq_true rfl, Nat.le_of_ble_eq_true rfl⟩) (fun E9 ce9 q9 u9 H locs hE9 hP hD hS g1 g2 g3 => ?_) (fun r9 u9 H locs hn9 hP hD hS => ?_)
  · obtain ⟨rfl, hc⟩ := hE9
    refine vx_catch (own := RL) (name := "java/lang/IllegalArgumentException") hown [] ⟨0, 9, 12, 15⟩ [] (by rw [htab]; rfl) (fun z hz => absurd hz List.not_mem_nil) (by decide) (by decide) (htg _ wq_594) (va_Nw.use rfl (hC.nw (w := .castable "java/lang/IllegalArgumentException" "java/lang/IllegalArgumentException") (by decide +kernel))) g1 g2 g3 ?_
    refine W.eq (g2 := F0 m 12 ls [.ref q9]) rfl ?_
    refine lv_astore_n (lv' := [(3, .ref q9), (0, .ref ((ad 7) 0)), (1, .int (zI x)), (2, .ref oa)]) hx hb dL_incomeWithin_12 rfl hl (by decide) rfl (fun ls hl => ?_)
    refine x_iconst hx hb dL_incomeWithin_13 ?_
    exact W.widen (k := 1) (n := 6) (Nat.le_of_ble_eq_true rfl) (Nat.le_of_ble_eq_true rfl) (W.iret (v := _) hx hb hr (fun t9 ht9 hW9 => ⟨⟨_, ((Z, O, U, X, S, T, P, I, V, N, Y, Q), D), rfl, (Or.inr ⟨rfl, hc, rfl⟩), by rw [ht9]; exact hP, by rw [hAe]; exact hD⟩, hS.F ht9⟩) hS.2.2 dL_incomeWithin_14)
  have hP : va_P dg vwCl (brkW ck ka ad ra Z (outc O (elZ S x).1 (elZ S x).2.1) U X S (elZ S x).2.2 P I V N Y Q ++ lngC ck oa D) H := hP
  have hD : va_D A (brkW ck ka ad ra Z (outc O (elZ S x).1 (elZ S x).2.1) U X S (elZ S x).2.2 P I V N Y Q ++ lngC ck oa D) := hD
  refine lv_i2l hx hb dL_incomeWithin_7 rfl ?_
  refine va_last hx hb hK hP hD hS 166 5 rfl rfl (zI_in (z := 0) (by decide) (by decide)) dL_incomeWithin_8 (fun H locs hP hD hS => ?_)
  have hP : va_P dg vwCl (brkW ck ka ad ra Z (outc O (elZ S x).1 (elZ S x).2.1) U X S (elZ S x).2.2 P I V N Y Q ++ lngC ck oa (vp_updL D (zI 0).toNatClampNeg r9.toInt64)) H := hP
  have hD : va_D A (brkW ck ka ad ra Z (outc O (elZ S x).1 (elZ S x).2.1) U X S (elZ S x).2.2 P I V N Y Q ++ lngC ck oa (vp_updL D (zI 0).toNatClampNeg r9.toInt64)) := hD
  refine lv_goto (tgt := 15) hx hb dL_incomeWithin_9 (by decide) ?_
  refine x_iconst hx hb dL_incomeWithin_15 ?_
  exact W.widen (k := 1) (n := 6) (Nat.le_of_ble_eq_true rfl) (Nat.le_of_ble_eq_true rfl) (W.iret (v := _) hx hb hr (fun t9 ht9 hW9 => ⟨⟨_, ((Z, (outc O (elZ S x).1 (elZ S x).2.1), U, X, S, (elZ S x).2.2, P, I, V, N, Y, Q), (vp_updL D (zI 0).toNatClampNeg r9.toInt64)), rfl, (Or.inl ⟨rfl, r9, hn9, rfl, rfl⟩), by rw [ht9]; exact hP, by rw [hAe]; exact hD⟩, hS.F ht9⟩) hS.2.2 dL_incomeWithin_16)

theorem wqL_incomeByLeases : (Jvm.Cond.codeWith ({ cls := "BenchBrokerLaw", name := "incomeByLeases", desc := "(LBenchBroker;I[J)I" } : Jvm.MethodName) method_35_code (4 : Nat) (Option.some Jvm.ClassFile.FieldType.int) [((0 : Nat), (9 : Nat), (12 : Nat), (15 : Nat))]) ∈ GW := tq_5 65 rfl rfl
set_option maxHeartbeats 4000000 in
set_option maxRecDepth 100000 in
/-- the law's incomeByLeases -/
theorem w_incomeByLeases (l : Launch) (dg : va_G) (ck : Nat → ClassId) (ka : Nat → Nat) (ad ra : Nat → Nat → Nat) (Z O U X : Nat → Int) (S T P I : St) (V N Y : Int → Int) (Q : Nat → St) (oa : Nat) (D : Nat → Int64) (x : Int) (sz : Nat) (hI : Bd S) (rg_x : -2147483648 ≤ x ∧ x < 2147483648) (hst : l.stackTraces = false) : Met l yL_incomeByLeases (.codeWith yL_incomeByLeases cL_incomeByLeases 4 (some .int) [(0, 9, 12, 15)] :: GW) ({ frames := 8, cells := 1, slots := 6, locals := 158 }) (va_Pc [.ref ((ad 7) 0), .int (zI x), .ref oa] (wrK dg ck ka sz (brkW ck ka ad ra Z O U X S T P I V N Y Q ++ lngC ck oa D))) (va_Qi (fun r (u : BU × (Nat → Int64)) => (r = zI 0 ∧ ∃ r1 : Int32, (r1 = zI (leaseInc S x) ∧ isTerm x) ∧ u.1 = (Z, O, U, X, S, T, P, I, V, N, Y, Q) ∧ u.2 0 = r1.toInt64) ∨ (r = zI 1 ∧ (¬ isTerm x) ∧ u.1 = (Z, O, U, X, S, T, P, I, V, N, Y, Q))) (fun u t9 => wrQ dg sz (brkW ck ka ad ra Z O U X S T P I V N Y Q ++ lngC ck oa D) (brkU ck ka ad ra u.1 ++ lngC ck oa u.2) t9) (va_A (brkW ck ka ad ra Z O U X S T P I V N Y Q ++ lngC ck oa D) sz)) 1 6 (va_A (brkW ck ka ad ra Z O U X S T P I V N Y Q ++ lngC ck oa D) sz) := by
  refine x_ofWH (cc := cL_incomeByLeases) (maxL := 4) (ret := (some .int)) (by decide) rfl ?_
  intro p e s m args below meth c s₁ B hml htab hv
  obtain ⟨rfl, ⟨hsz, hP, hK, hD0⟩, hC⟩ := hv
  have hx := B.exec
  have hb := B.bytes
  have hr := B.returns
  have hts := atoms_spec (ws := .codeWith yL_incomeByLeases cL_incomeByLeases 4 (some .int) [(0, 9, 12, 15)] :: GW) B.pre
  have htg : ∀ w ∈ GW, w.before _ s = true := fun w h => hts w (List.mem_cons_of_mem _ h)
  have hown : s.vm.findClass RL = some m.cls := findClass_of_methodNamed B.named
  have hlocks := B.notSynchronized
  subst hsz
  have hD := hD0.self (sz := s.heap.size)
  generalize hAe : va_A (brkW ck ka ad ra Z O U X S T P I V N Y Q ++ lngC ck oa D) s.heap.size = A at hD hC ⊢
  have hA : ∀ q : Nat, s.heap.size ≤ q → A q := fun q h => by rw [← hAe]; exact Or.inr h
  have hS : va_S A s.heap s.heap [] := va_S.rf
  have hP : va_P dg vwCl (brkW ck ka ad ra Z O U X S T P I V N Y Q ++ lngC ck oa D) s.heap := hP
  have hl := lv_entry ([.ref ((ad 7) 0), .int (zI x), .ref oa]) (n := 4) (Nat.le_of_ble_eq_true rfl)
  rw [lg_entry_eq]
  generalize (lg_sl ([.ref ((ad 7) 0), .int (zI x), .ref oa]) ++ List.replicate (4 - (lg_sl ([.ref ((ad 7) 0), .int (zI x), .ref oa])).length) Slot.unset).toArray = ls at hl ⊢
  have hl : lv_has ls 4 [(0, .ref ((ad 7) 0)), (1, .int (zI x)), (2, .ref oa)] := hl
  refine lv_aload_n hx hb dL_incomeByLeases_0 rfl (lv_at hl 2 rfl) ?_
  refine x_iconst hx hb dL_incomeByLeases_1 ?_
  refine lv_aload_n hx hb dL_incomeByLeases_2 rfl (lv_at hl 0 rfl) ?_
  refine lv_iload_n hx hb dL_incomeByLeases_3 rfl (lv_at hl 1 rfl) ?_
  refine xl_calli (M := brkW ck ka ad ra Z O U X S T P I V N Y Q) (N := lngC ck oa D) (Mf := fun u : Unit => brkW ck ka ad ra Z O U X S T P I V N Y Q) (MX := fun u : Unit => brkW ck ka ad ra Z O U X S T P I V N Y Q) hP hD hS hA (fun hPm hDm => vx_runV (As := [.int (zI x)]) (rest := [.int (zI 0), .ref oa]) ⟨hx, hb, hml, hown, htg⟩ (x_incomeByLeases l dg ck ka ad ra Z O U X S T P I V N Y Q x _ hI rg_x hst) (cwV 1 htg (gwV wq_1026 wq_1027 wq_1028 wq_1 wq_1029) rfl rfl rfl (by decide +kernel) ⟨Nat.le_of_ble_eq_true rfl, Nat.le_of_ble_eq_true rfl⟩) (wrK_preV hK hPm hDm hC hS hA 0 10 rfl rfl) rfl rfl hl.1 rfl (lv_room (Nat.le_of_ble_eq_true rfl)) dL_incomeByLeases_4 ⟨Nat.le_of_ble_eq_true rfl, Nat.le_of_ble_eq_true rfl⟩) (fun E9 ce9 q9 u9 H locs hE9 hP hD hS g1 g2 g3 => ?_) (fun r9 u9 H locs hn9 hP hD hS => ?_)
  · obtain ⟨rfl, hc⟩ := hE9
    refine vx_catch (own := RL) (name := "java/lang/IllegalArgumentException") hown [] ⟨0, 9, 12, 15⟩ [] (by rw [htab]; rfl) (fun z hz => absurd hz List.not_mem_nil) (by decide) (by decide) (htg _ wq_594) (va_Nw.use rfl (hC.nw (w := .castable "java/lang/IllegalArgumentException" "java/lang/IllegalArgumentException") (by decide +kernel))) g1 g2 g3 ?_
    refine W.eq (g2 := F0 m 12 ls [.ref q9]) rfl ?_
    refine lv_astore_n (lv' := [(3, .ref q9), (0, .ref ((ad 7) 0)), (1, .int (zI x)), (2, .ref oa)]) hx hb dL_incomeByLeases_12 rfl hl (by decide) rfl (fun ls hl => ?_)
    refine x_iconst hx hb dL_incomeByLeases_13 ?_
    exact W.widen (k := 1) (n := 6) (Nat.le_of_ble_eq_true rfl) (Nat.le_of_ble_eq_true rfl) (W.iret (v := _) hx hb hr (fun t9 ht9 hW9 => ⟨⟨_, ((Z, O, U, X, S, T, P, I, V, N, Y, Q), D), rfl, (Or.inr ⟨rfl, hc, rfl⟩), by rw [ht9]; exact hP, by rw [hAe]; exact hD⟩, hS.F ht9⟩) hS.2.2 dL_incomeByLeases_14)
  have hP : va_P dg vwCl (brkW ck ka ad ra Z O U X S T P I V N Y Q ++ lngC ck oa D) H := hP
  have hD : va_D A (brkW ck ka ad ra Z O U X S T P I V N Y Q ++ lngC ck oa D) := hD
  refine lv_i2l hx hb dL_incomeByLeases_7 rfl ?_
  refine va_last hx hb hK hP hD hS 166 5 rfl rfl (zI_in (z := 0) (by decide) (by decide)) dL_incomeByLeases_8 (fun H locs hP hD hS => ?_)
  have hP : va_P dg vwCl (brkW ck ka ad ra Z O U X S T P I V N Y Q ++ lngC ck oa (vp_updL D (zI 0).toNatClampNeg r9.toInt64)) H := hP
  have hD : va_D A (brkW ck ka ad ra Z O U X S T P I V N Y Q ++ lngC ck oa (vp_updL D (zI 0).toNatClampNeg r9.toInt64)) := hD
  refine lv_goto (tgt := 15) hx hb dL_incomeByLeases_9 (by decide) ?_
  refine x_iconst hx hb dL_incomeByLeases_15 ?_
  exact W.widen (k := 1) (n := 6) (Nat.le_of_ble_eq_true rfl) (Nat.le_of_ble_eq_true rfl) (W.iret (v := _) hx hb hr (fun t9 ht9 hW9 => ⟨⟨_, ((Z, O, U, X, S, T, P, I, V, N, Y, Q), (vp_updL D (zI 0).toNatClampNeg r9.toInt64)), rfl, (Or.inl ⟨rfl, r9, hn9, rfl, rfl⟩), by rw [ht9]; exact hP, by rw [hAe]; exact hD⟩, hS.F ht9⟩) hS.2.2 dL_incomeByLeases_16)

theorem wqL_benchByRent : (Jvm.Cond.codeWith ({ cls := "BenchBrokerLaw", name := "benchByRent", desc := "(LBenchBroker;I[J)I" } : Jvm.MethodName) method_36_code (4 : Nat) (Option.some Jvm.ClassFile.FieldType.int) [((0 : Nat), (9 : Nat), (12 : Nat), (79 : Nat))]) ∈ GW := tq_5 72 rfl rfl
set_option maxHeartbeats 4000000 in
set_option maxRecDepth 100000 in
/-- the law's benchByRent -/
theorem w_benchByRent (l : Launch) (dg : va_G) (ck : Nat → ClassId) (ka : Nat → Nat) (ad ra : Nat → Nat → Nat) (Z O U X : Nat → Int) (S T P I : St) (V N Y : Int → Int) (Q : Nat → St) (oa : Nat) (D : Nat → Int64) (x : Int) (sz : Nat) (hI : Bd S) (rg_x : -2147483648 ≤ x ∧ x < 2147483648) (hst : l.stackTraces = false) : Met l yL_benchByRent (.codeWith yL_benchByRent cL_benchByRent 4 (some .int) [(0, 9, 12, 79)] :: GW) ({ frames := 7, cells := 1, slots := 6, locals := 137 }) (va_Pc [.ref ((ad 7) 0), .int (zI x), .ref oa] (wrK dg ck ka sz (brkW ck ka ad ra Z O U X S T P I V N Y Q ++ lngC ck oa D))) (va_Qi (fun r (u : BU × (Nat → Int64)) => (r = zI 0 ∧ ∃ r1 : Int32, (r1 = zI (bbR S x) ∧ bbR S x ≠ -1) ∧ u.1 = (Z, O, U, X, S, T, P, I, V, N, Y, Q) ∧ u.2 0 = r1.toInt64) ∨ (r = zI 1 ∧ (bbR S x = -1) ∧ u.1 = (Z, O, U, X, S, T, P, I, V, N, Y, Q))) (fun u t9 => wrQ dg sz (brkW ck ka ad ra Z O U X S T P I V N Y Q ++ lngC ck oa D) (brkU ck ka ad ra u.1 ++ lngC ck oa u.2) t9) (va_A (brkW ck ka ad ra Z O U X S T P I V N Y Q ++ lngC ck oa D) sz)) 1 6 (va_A (brkW ck ka ad ra Z O U X S T P I V N Y Q ++ lngC ck oa D) sz) := by
  refine x_ofWH (cc := cL_benchByRent) (maxL := 4) (ret := (some .int)) (by decide) rfl ?_
  intro p e s m args below meth c s₁ B hml htab hv
  obtain ⟨rfl, ⟨hsz, hP, hK, hD0⟩, hC⟩ := hv
  have hx := B.exec
  have hb := B.bytes
  have hr := B.returns
  have hts := atoms_spec (ws := .codeWith yL_benchByRent cL_benchByRent 4 (some .int) [(0, 9, 12, 79)] :: GW) B.pre
  have htg : ∀ w ∈ GW, w.before _ s = true := fun w h => hts w (List.mem_cons_of_mem _ h)
  have hown : s.vm.findClass RL = some m.cls := findClass_of_methodNamed B.named
  have hlocks := B.notSynchronized
  subst hsz
  have hD := hD0.self (sz := s.heap.size)
  generalize hAe : va_A (brkW ck ka ad ra Z O U X S T P I V N Y Q ++ lngC ck oa D) s.heap.size = A at hD hC ⊢
  have hA : ∀ q : Nat, s.heap.size ≤ q → A q := fun q h => by rw [← hAe]; exact Or.inr h
  have hS : va_S A s.heap s.heap [] := va_S.rf
  have hP : va_P dg vwCl (brkW ck ka ad ra Z O U X S T P I V N Y Q ++ lngC ck oa D) s.heap := hP
  have hl := lv_entry ([.ref ((ad 7) 0), .int (zI x), .ref oa]) (n := 4) (Nat.le_of_ble_eq_true rfl)
  rw [lg_entry_eq]
  generalize (lg_sl ([.ref ((ad 7) 0), .int (zI x), .ref oa]) ++ List.replicate (4 - (lg_sl ([.ref ((ad 7) 0), .int (zI x), .ref oa])).length) Slot.unset).toArray = ls at hl ⊢
  have hl : lv_has ls 4 [(0, .ref ((ad 7) 0)), (1, .int (zI x)), (2, .ref oa)] := hl
  refine lv_aload_n hx hb dL_benchByRent_0 rfl (lv_at hl 2 rfl) ?_
  refine x_iconst hx hb dL_benchByRent_1 ?_
  refine lv_aload_n hx hb dL_benchByRent_2 rfl (lv_at hl 0 rfl) ?_
  refine lv_iload_n hx hb dL_benchByRent_3 rfl (lv_at hl 1 rfl) ?_
  refine xl_calli (M := brkW ck ka ad ra Z O U X S T P I V N Y Q) (N := lngC ck oa D) (Mf := fun u : Unit => brkW ck ka ad ra Z O U X S T P I V N Y Q) (MX := fun u : Unit => brkW ck ka ad ra Z O U X S T P I V N Y Q) hP hD hS hA (fun hPm hDm => vx_runV (As := [.int (zI x)]) (rest := [.int (zI 0), .ref oa]) ⟨hx, hb, hml, hown, htg⟩ (x_benchByRent l dg ck ka ad ra Z O U X S T P I V N Y Q x _ hI rg_x hst) (cwV 1 htg (gwV wq_1033 wq_1034 wq_1035 wq_1 wq_1036) rfl rfl rfl (by decide +kernel) ⟨Nat.le_of_ble_eq_true rfl, Nat.le_of_ble_eq_true rfl⟩) (wrK_preV hK hPm hDm hC hS hA 0 10 rfl rfl) rfl rfl hl.1 rfl (lv_room (Nat.le_of_ble_eq_true rfl)) dL_benchByRent_4 ⟨Nat.le_of_ble_eq_true rfl, Nat.le_of_ble_eq_true rfl⟩) (fun E9 ce9 q9 u9 H locs hE9 hP hD hS g1 g2 g3 => ?_) (fun r9 u9 H locs hn9 hP hD hS => ?_)
  · obtain ⟨rfl, hc⟩ := hE9
    refine vx_catch (own := RL) (name := "java/util/NoSuchElementException") hown [] ⟨0, 9, 12, 79⟩ [] (by rw [htab]; rfl) (fun z hz => absurd hz List.not_mem_nil) (by decide) (by decide) (htg _ wq_880) (va_Nw.use rfl (hC.nw (w := .castable "java/util/NoSuchElementException" "java/util/NoSuchElementException") (by decide +kernel))) g1 g2 g3 ?_
    refine W.eq (g2 := F0 m 12 ls [.ref q9]) rfl ?_
    refine lv_astore_n (lv' := [(3, .ref q9), (0, .ref ((ad 7) 0)), (1, .int (zI x)), (2, .ref oa)]) hx hb dL_benchByRent_12 rfl hl (by decide) rfl (fun ls hl => ?_)
    refine x_iconst hx hb dL_benchByRent_13 ?_
    exact W.widen (k := 1) (n := 6) (Nat.le_of_ble_eq_true rfl) (Nat.le_of_ble_eq_true rfl) (W.iret (v := _) hx hb hr (fun t9 ht9 hW9 => ⟨⟨_, ((Z, O, U, X, S, T, P, I, V, N, Y, Q), D), rfl, (Or.inr ⟨rfl, hc, rfl⟩), by rw [ht9]; exact hP, by rw [hAe]; exact hD⟩, hS.F ht9⟩) hS.2.2 dL_benchByRent_14)
  have hP : va_P dg vwCl (brkW ck ka ad ra Z O U X S T P I V N Y Q ++ lngC ck oa D) H := hP
  have hD : va_D A (brkW ck ka ad ra Z O U X S T P I V N Y Q ++ lngC ck oa D) := hD
  refine lv_i2l hx hb dL_benchByRent_7 rfl ?_
  refine va_last hx hb hK hP hD hS 166 5 rfl rfl (zI_in (z := 0) (by decide) (by decide)) dL_benchByRent_8 (fun H locs hP hD hS => ?_)
  have hP : va_P dg vwCl (brkW ck ka ad ra Z O U X S T P I V N Y Q ++ lngC ck oa (vp_updL D (zI 0).toNatClampNeg r9.toInt64)) H := hP
  have hD : va_D A (brkW ck ka ad ra Z O U X S T P I V N Y Q ++ lngC ck oa (vp_updL D (zI 0).toNatClampNeg r9.toInt64)) := hD
  refine lv_goto (tgt := 15) hx hb dL_benchByRent_9 (by decide) ?_
  refine x_iconst hx hb dL_benchByRent_15 ?_
  exact W.widen (k := 1) (n := 6) (Nat.le_of_ble_eq_true rfl) (Nat.le_of_ble_eq_true rfl) (W.iret (v := _) hx hb hr (fun t9 ht9 hW9 => ⟨⟨_, ((Z, O, U, X, S, T, P, I, V, N, Y, Q), (vp_updL D (zI 0).toNatClampNeg r9.toInt64)), rfl, (Or.inl ⟨rfl, r9, hn9, rfl, rfl⟩), by rw [ht9]; exact hP, by rw [hAe]; exact hD⟩, hS.F ht9⟩) hS.2.2 dL_benchByRent_16)

theorem wqL_tenantByCoins : (Jvm.Cond.codeWith ({ cls := "BenchBrokerLaw", name := "tenantByCoins", desc := "(LBenchBroker;I[J)I" } : Jvm.MethodName) method_37_code (4 : Nat) (Option.some Jvm.ClassFile.FieldType.int) [((0 : Nat), (9 : Nat), (12 : Nat), (79 : Nat))]) ∈ GW := tq_5 87 rfl rfl
set_option maxHeartbeats 4000000 in
set_option maxRecDepth 100000 in
/-- the law's tenantByCoins -/
theorem w_tenantByCoins (l : Launch) (dg : va_G) (ck : Nat → ClassId) (ka : Nat → Nat) (ad ra : Nat → Nat → Nat) (Z O U X : Nat → Int) (S T P I : St) (V N Y : Int → Int) (Q : Nat → St) (oa : Nat) (D : Nat → Int64) (x : Int) (sz : Nat) (hI : Bd S) (rg_x : -2147483648 ≤ x ∧ x < 2147483648) (hst : l.stackTraces = false) : Met l yL_tenantByCoins (.codeWith yL_tenantByCoins cL_tenantByCoins 4 (some .int) [(0, 9, 12, 79)] :: GW) ({ frames := 7, cells := 1, slots := 6, locals := 117 }) (va_Pc [.ref ((ad 7) 0), .int (zI x), .ref oa] (wrK dg ck ka sz (brkW ck ka ad ra Z O U X S T P I V N Y Q ++ lngC ck oa D))) (va_Qi (fun r (u : BU × (Nat → Int64)) => (r = zI 0 ∧ ∃ r1 : Int32, (r1 = zI (tbC S x) ∧ tbC S x ≠ -1) ∧ u.1 = (Z, O, U, X, S, T, P, I, V, N, Y, Q) ∧ u.2 0 = r1.toInt64) ∨ (r = zI 1 ∧ (tbC S x = -1) ∧ u.1 = (Z, O, U, X, S, T, P, I, V, N, Y, Q))) (fun u t9 => wrQ dg sz (brkW ck ka ad ra Z O U X S T P I V N Y Q ++ lngC ck oa D) (brkU ck ka ad ra u.1 ++ lngC ck oa u.2) t9) (va_A (brkW ck ka ad ra Z O U X S T P I V N Y Q ++ lngC ck oa D) sz)) 1 6 (va_A (brkW ck ka ad ra Z O U X S T P I V N Y Q ++ lngC ck oa D) sz) := by
  refine x_ofWH (cc := cL_tenantByCoins) (maxL := 4) (ret := (some .int)) (by decide) rfl ?_
  intro p e s m args below meth c s₁ B hml htab hv
  obtain ⟨rfl, ⟨hsz, hP, hK, hD0⟩, hC⟩ := hv
  have hx := B.exec
  have hb := B.bytes
  have hr := B.returns
  have hts := atoms_spec (ws := .codeWith yL_tenantByCoins cL_tenantByCoins 4 (some .int) [(0, 9, 12, 79)] :: GW) B.pre
  have htg : ∀ w ∈ GW, w.before _ s = true := fun w h => hts w (List.mem_cons_of_mem _ h)
  have hown : s.vm.findClass RL = some m.cls := findClass_of_methodNamed B.named
  have hlocks := B.notSynchronized
  subst hsz
  have hD := hD0.self (sz := s.heap.size)
  generalize hAe : va_A (brkW ck ka ad ra Z O U X S T P I V N Y Q ++ lngC ck oa D) s.heap.size = A at hD hC ⊢
  have hA : ∀ q : Nat, s.heap.size ≤ q → A q := fun q h => by rw [← hAe]; exact Or.inr h
  have hS : va_S A s.heap s.heap [] := va_S.rf
  have hP : va_P dg vwCl (brkW ck ka ad ra Z O U X S T P I V N Y Q ++ lngC ck oa D) s.heap := hP
  have hl := lv_entry ([.ref ((ad 7) 0), .int (zI x), .ref oa]) (n := 4) (Nat.le_of_ble_eq_true rfl)
  rw [lg_entry_eq]
  generalize (lg_sl ([.ref ((ad 7) 0), .int (zI x), .ref oa]) ++ List.replicate (4 - (lg_sl ([.ref ((ad 7) 0), .int (zI x), .ref oa])).length) Slot.unset).toArray = ls at hl ⊢
  have hl : lv_has ls 4 [(0, .ref ((ad 7) 0)), (1, .int (zI x)), (2, .ref oa)] := hl
  refine lv_aload_n hx hb dL_tenantByCoins_0 rfl (lv_at hl 2 rfl) ?_
  refine x_iconst hx hb dL_tenantByCoins_1 ?_
  refine lv_aload_n hx hb dL_tenantByCoins_2 rfl (lv_at hl 0 rfl) ?_
  refine lv_iload_n hx hb dL_tenantByCoins_3 rfl (lv_at hl 1 rfl) ?_
  refine xl_calli (M := brkW ck ka ad ra Z O U X S T P I V N Y Q) (N := lngC ck oa D) (Mf := fun u : Unit => brkW ck ka ad ra Z O U X S T P I V N Y Q) (MX := fun u : Unit => brkW ck ka ad ra Z O U X S T P I V N Y Q) hP hD hS hA (fun hPm hDm => vx_runV (As := [.int (zI x)]) (rest := [.int (zI 0), .ref oa]) ⟨hx, hb, hml, hown, htg⟩ (x_tenantByCoins l dg ck ka ad ra Z O U X S T P I V N Y Q x _ hI rg_x hst) (cwV 1 htg (gwV wq_1048 wq_1049 wq_1050 wq_1 wq_1051) rfl rfl rfl (by decide +kernel) ⟨Nat.le_of_ble_eq_true rfl, Nat.le_of_ble_eq_true rfl⟩) (wrK_preV hK hPm hDm hC hS hA 0 10 rfl rfl) rfl rfl hl.1 rfl (lv_room (Nat.le_of_ble_eq_true rfl)) dL_tenantByCoins_4 ⟨Nat.le_of_ble_eq_true rfl, Nat.le_of_ble_eq_true rfl⟩) (fun E9 ce9 q9 u9 H locs hE9 hP hD hS g1 g2 g3 => ?_) (fun r9 u9 H locs hn9 hP hD hS => ?_)
  · obtain ⟨rfl, hc⟩ := hE9
    refine vx_catch (own := RL) (name := "java/util/NoSuchElementException") hown [] ⟨0, 9, 12, 79⟩ [] (by rw [htab]; rfl) (fun z hz => absurd hz List.not_mem_nil) (by decide) (by decide) (htg _ wq_880) (va_Nw.use rfl (hC.nw (w := .castable "java/util/NoSuchElementException" "java/util/NoSuchElementException") (by decide +kernel))) g1 g2 g3 ?_
    refine W.eq (g2 := F0 m 12 ls [.ref q9]) rfl ?_
    refine lv_astore_n (lv' := [(3, .ref q9), (0, .ref ((ad 7) 0)), (1, .int (zI x)), (2, .ref oa)]) hx hb dL_tenantByCoins_12 rfl hl (by decide) rfl (fun ls hl => ?_)
    refine x_iconst hx hb dL_tenantByCoins_13 ?_
    exact W.widen (k := 1) (n := 6) (Nat.le_of_ble_eq_true rfl) (Nat.le_of_ble_eq_true rfl) (W.iret (v := _) hx hb hr (fun t9 ht9 hW9 => ⟨⟨_, ((Z, O, U, X, S, T, P, I, V, N, Y, Q), D), rfl, (Or.inr ⟨rfl, hc, rfl⟩), by rw [ht9]; exact hP, by rw [hAe]; exact hD⟩, hS.F ht9⟩) hS.2.2 dL_tenantByCoins_14)
  have hP : va_P dg vwCl (brkW ck ka ad ra Z O U X S T P I V N Y Q ++ lngC ck oa D) H := hP
  have hD : va_D A (brkW ck ka ad ra Z O U X S T P I V N Y Q ++ lngC ck oa D) := hD
  refine lv_i2l hx hb dL_tenantByCoins_7 rfl ?_
  refine va_last hx hb hK hP hD hS 166 5 rfl rfl (zI_in (z := 0) (by decide) (by decide)) dL_tenantByCoins_8 (fun H locs hP hD hS => ?_)
  have hP : va_P dg vwCl (brkW ck ka ad ra Z O U X S T P I V N Y Q ++ lngC ck oa (vp_updL D (zI 0).toNatClampNeg r9.toInt64)) H := hP
  have hD : va_D A (brkW ck ka ad ra Z O U X S T P I V N Y Q ++ lngC ck oa (vp_updL D (zI 0).toNatClampNeg r9.toInt64)) := hD
  refine lv_goto (tgt := 15) hx hb dL_tenantByCoins_9 (by decide) ?_
  refine x_iconst hx hb dL_tenantByCoins_15 ?_
  exact W.widen (k := 1) (n := 6) (Nat.le_of_ble_eq_true rfl) (Nat.le_of_ble_eq_true rfl) (W.iret (v := _) hx hb hr (fun t9 ht9 hW9 => ⟨⟨_, ((Z, O, U, X, S, T, P, I, V, N, Y, Q), (vp_updL D (zI 0).toNatClampNeg r9.toInt64)), rfl, (Or.inl ⟨rfl, r9, hn9, rfl, rfl⟩), by rw [ht9]; exact hP, by rw [hAe]; exact hD⟩, hS.F ht9⟩) hS.2.2 dL_tenantByCoins_16)

theorem wqL_writeBench : (Jvm.Cond.codeWith ({ cls := "BenchBrokerLaw", name := "writeBench", desc := "(LBenchBroker;I[J)I" } : Jvm.MethodName) method_40_code (4 : Nat) (Option.some Jvm.ClassFile.FieldType.int) [((0 : Nat), (9 : Nat), (12 : Nat), (13 : Nat))]) ∈ GW := tq_5 135 rfl rfl
set_option maxHeartbeats 4000000 in
set_option maxRecDepth 100000 in
/-- the law's writeBench -/
theorem w_writeBench (l : Launch) (dg : va_G) (ck : Nat → ClassId) (ka : Nat → Nat) (ad ra : Nat → Nat → Nat) (Z O U X : Nat → Int) (S T P I : St) (V N Y : Int → Int) (Q : Nat → St) (oa : Nat) (D : Nat → Int64) (x : Int) (sz : Nat) (hI : Bd S) (hu0 : 0 ≤ U 0 ∧ U 0 ≤ 16) (rg_x : -2147483648 ≤ x ∧ x < 2147483648) (hst : l.stackTraces = false) : Met l yL_writeBench (.codeWith yL_writeBench cL_writeBench 4 (some .int) [(0, 9, 12, 13)] :: GW) ({ frames := 8, cells := 1, slots := 6, locals := 140 }) (va_Pc [.ref ((ad 7) 0), .int (zI x), .ref oa] (wrK dg ck ka sz (brkW ck ka ad ra Z O U X S T P I V N Y Q ++ lngC ck oa D))) (va_Qi (fun r (u : BU × (Nat → Int64)) => (r = zI 0 ∧ ∃ r1 : Int32, (r1 = zI ((btx S x).length : Int) ∧ isBench S x) ∧ u.1 = (Z, O, (upO (upO U 1 (if 0 < U 0 then 1 else U 1)) 0 ((btx S x).length : Int)), X, S, T, P, I, V, N, (wrY Y 0 (btx S x)), Q) ∧ u.2 0 = r1.toInt64) ∨ (r = zI 1 ∧ (¬ isBench S x) ∧ u.1 = (Z, O, U, X, S, T, P, I, V, N, Y, Q))) (fun u t9 => wrQ dg sz (brkW ck ka ad ra Z O U X S T P I V N Y Q ++ lngC ck oa D) (brkU ck ka ad ra u.1 ++ lngC ck oa u.2) t9) (va_A (brkW ck ka ad ra Z O U X S T P I V N Y Q ++ lngC ck oa D) sz)) 1 6 (va_A (brkW ck ka ad ra Z O U X S T P I V N Y Q ++ lngC ck oa D) sz) := by
  refine x_ofWH (cc := cL_writeBench) (maxL := 4) (ret := (some .int)) (by decide) rfl ?_
  intro p e s m args below meth c s₁ B hml htab hv
  obtain ⟨rfl, ⟨hsz, hP, hK, hD0⟩, hC⟩ := hv
  have hx := B.exec
  have hb := B.bytes
  have hr := B.returns
  have hts := atoms_spec (ws := .codeWith yL_writeBench cL_writeBench 4 (some .int) [(0, 9, 12, 13)] :: GW) B.pre
  have htg : ∀ w ∈ GW, w.before _ s = true := fun w h => hts w (List.mem_cons_of_mem _ h)
  have hown : s.vm.findClass RL = some m.cls := findClass_of_methodNamed B.named
  have hlocks := B.notSynchronized
  subst hsz
  have hD := hD0.self (sz := s.heap.size)
  generalize hAe : va_A (brkW ck ka ad ra Z O U X S T P I V N Y Q ++ lngC ck oa D) s.heap.size = A at hD hC ⊢
  have hA : ∀ q : Nat, s.heap.size ≤ q → A q := fun q h => by rw [← hAe]; exact Or.inr h
  have hS : va_S A s.heap s.heap [] := va_S.rf
  have hP : va_P dg vwCl (brkW ck ka ad ra Z O U X S T P I V N Y Q ++ lngC ck oa D) s.heap := hP
  have hl := lv_entry ([.ref ((ad 7) 0), .int (zI x), .ref oa]) (n := 4) (Nat.le_of_ble_eq_true rfl)
  rw [lg_entry_eq]
  generalize (lg_sl ([.ref ((ad 7) 0), .int (zI x), .ref oa]) ++ List.replicate (4 - (lg_sl ([.ref ((ad 7) 0), .int (zI x), .ref oa])).length) Slot.unset).toArray = ls at hl ⊢
  have hl : lv_has ls 4 [(0, .ref ((ad 7) 0)), (1, .int (zI x)), (2, .ref oa)] := hl
  refine lv_aload_n hx hb dL_writeBench_0 rfl (lv_at hl 2 rfl) ?_
  refine x_iconst hx hb dL_writeBench_1 ?_
  refine lv_aload_n hx hb dL_writeBench_2 rfl (lv_at hl 0 rfl) ?_
  refine lv_iload_n hx hb dL_writeBench_3 rfl (lv_at hl 1 rfl) ?_
  refine xl_calli (M := brkW ck ka ad ra Z O U X S T P I V N Y Q) (N := lngC ck oa D) (Mf := fun u : Unit => brkW ck ka ad ra Z O (upO (upO U 1 (if 0 < U 0 then 1 else U 1)) 0 ((btx S x).length : Int)) X S T P I V N (wrY Y 0 (btx S x)) Q) (MX := fun u : Unit => brkW ck ka ad ra Z O U X S T P I V N Y Q) hP hD hS hA (fun hPm hDm => vx_runV (As := [.int (zI x)]) (rest := [.int (zI 0), .ref oa]) ⟨hx, hb, hml, hown, htg⟩ (x_writeBench l dg ck ka ad ra Z O U X S T P I V N Y Q x _ hI hu0 rg_x hst) (cwV 1 htg (gwV wq_1096 wq_1097 wq_1098 wq_1 wq_1099) rfl rfl rfl (by decide +kernel) ⟨Nat.le_of_ble_eq_true rfl, Nat.le_of_ble_eq_true rfl⟩) (wrK_preV hK hPm hDm hC hS hA 0 10 rfl rfl) rfl rfl hl.1 rfl (lv_room (Nat.le_of_ble_eq_true rfl)) dL_writeBench_4 ⟨Nat.le_of_ble_eq_true rfl, Nat.le_of_ble_eq_true rfl⟩) (fun E9 ce9 q9 u9 H locs hE9 hP hD hS g1 g2 g3 => ?_) (fun r9 u9 H locs hn9 hP hD hS => ?_)
  · obtain ⟨rfl, hc⟩ := hE9
    refine vx_catch (own := RL) (name := "java/lang/IndexOutOfBoundsException") hown [] ⟨0, 9, 12, 13⟩ [] (by rw [htab]; rfl) (fun z hz => absurd hz List.not_mem_nil) (by decide) (by decide) (htg _ wq_514) (va_Nw.use rfl (hC.nw (w := .castable "java/lang/IndexOutOfBoundsException" "java/lang/IndexOutOfBoundsException") (by decide +kernel))) g1 g2 g3 ?_
    refine W.eq (g2 := F0 m 12 ls [.ref q9]) rfl ?_
    refine lv_astore_n (lv' := [(3, .ref q9), (0, .ref ((ad 7) 0)), (1, .int (zI x)), (2, .ref oa)]) hx hb dL_writeBench_12 rfl hl (by decide) rfl (fun ls hl => ?_)
    refine x_iconst hx hb dL_writeBench_13 ?_
    exact W.widen (k := 1) (n := 6) (Nat.le_of_ble_eq_true rfl) (Nat.le_of_ble_eq_true rfl) (W.iret (v := _) hx hb hr (fun t9 ht9 hW9 => ⟨⟨_, ((Z, O, U, X, S, T, P, I, V, N, Y, Q), D), rfl, (Or.inr ⟨rfl, hc, rfl⟩), by rw [ht9]; exact hP, by rw [hAe]; exact hD⟩, hS.F ht9⟩) hS.2.2 dL_writeBench_14)
  have hP : va_P dg vwCl (brkW ck ka ad ra Z O (upO (upO U 1 (if 0 < U 0 then 1 else U 1)) 0 ((btx S x).length : Int)) X S T P I V N (wrY Y 0 (btx S x)) Q ++ lngC ck oa D) H := hP
  have hD : va_D A (brkW ck ka ad ra Z O (upO (upO U 1 (if 0 < U 0 then 1 else U 1)) 0 ((btx S x).length : Int)) X S T P I V N (wrY Y 0 (btx S x)) Q ++ lngC ck oa D) := hD
  refine lv_i2l hx hb dL_writeBench_7 rfl ?_
  refine va_last hx hb hK hP hD hS 166 5 rfl rfl (zI_in (z := 0) (by decide) (by decide)) dL_writeBench_8 (fun H locs hP hD hS => ?_)
  have hP : va_P dg vwCl (brkW ck ka ad ra Z O (upO (upO U 1 (if 0 < U 0 then 1 else U 1)) 0 ((btx S x).length : Int)) X S T P I V N (wrY Y 0 (btx S x)) Q ++ lngC ck oa (vp_updL D (zI 0).toNatClampNeg r9.toInt64)) H := hP
  have hD : va_D A (brkW ck ka ad ra Z O (upO (upO U 1 (if 0 < U 0 then 1 else U 1)) 0 ((btx S x).length : Int)) X S T P I V N (wrY Y 0 (btx S x)) Q ++ lngC ck oa (vp_updL D (zI 0).toNatClampNeg r9.toInt64)) := hD
  refine lv_goto (tgt := 15) hx hb dL_writeBench_9 (by decide) ?_
  refine x_iconst hx hb dL_writeBench_15 ?_
  exact W.widen (k := 1) (n := 6) (Nat.le_of_ble_eq_true rfl) (Nat.le_of_ble_eq_true rfl) (W.iret (v := _) hx hb hr (fun t9 ht9 hW9 => ⟨⟨_, ((Z, O, (upO (upO U 1 (if 0 < U 0 then 1 else U 1)) 0 ((btx S x).length : Int)), X, S, T, P, I, V, N, (wrY Y 0 (btx S x)), Q), (vp_updL D (zI 0).toNatClampNeg r9.toInt64)), rfl, (Or.inl ⟨rfl, r9, hn9, rfl, rfl⟩), by rw [ht9]; exact hP, by rw [hAe]; exact hD⟩, hS.F ht9⟩) hS.2.2 dL_writeBench_16)

theorem wqL_writeRow : (Jvm.Cond.codeWith ({ cls := "BenchBrokerLaw", name := "writeRow", desc := "(LBenchBroker;I[J)I" } : Jvm.MethodName) method_41_code (4 : Nat) (Option.some Jvm.ClassFile.FieldType.int) [((0 : Nat), (9 : Nat), (12 : Nat), (13 : Nat))]) ∈ GW := tq_6 180 rfl rfl
set_option maxHeartbeats 4000000 in
set_option maxRecDepth 100000 in
/-- the law's writeRow -/
theorem w_writeRow (l : Launch) (dg : va_G) (ck : Nat → ClassId) (ka : Nat → Nat) (ad ra : Nat → Nat → Nat) (Z O U X : Nat → Int) (S T P I : St) (V N Y : Int → Int) (Q : Nat → St) (oa : Nat) (D : Nat → Int64) (x : Int) (sz : Nat) (hI : Bd S) (hu0 : 0 ≤ U 0 ∧ U 0 ≤ 16) (rg_x : -2147483648 ≤ x ∧ x < 2147483648) (hst : l.stackTraces = false) : Met l yL_writeRow (.codeWith yL_writeRow cL_writeRow 4 (some .int) [(0, 9, 12, 13)] :: GW) ({ frames := 8, cells := 1, slots := 6, locals := 139 }) (va_Pc [.ref ((ad 7) 0), .int (zI x), .ref oa] (wrK dg ck ka sz (brkW ck ka ad ra Z O U X S T P I V N Y Q ++ lngC ck oa D))) (va_Qi (fun r (u : BU × (Nat → Int64)) => (r = zI 0 ∧ ∃ r1 : Int32, (r1 = zI 6 ∧ isCell x 0) ∧ u.1 = (Z, O, (upO (upO U 1 (if 0 < U 0 then 1 else U 1)) 0 6), X, S, T, P, I, V, N, (wrY Y 0 (rtx S x 6)), Q) ∧ u.2 0 = r1.toInt64) ∨ (r = zI 1 ∧ (¬ isCell x 0) ∧ u.1 = (Z, O, U, X, S, T, P, I, V, N, Y, Q))) (fun u t9 => wrQ dg sz (brkW ck ka ad ra Z O U X S T P I V N Y Q ++ lngC ck oa D) (brkU ck ka ad ra u.1 ++ lngC ck oa u.2) t9) (va_A (brkW ck ka ad ra Z O U X S T P I V N Y Q ++ lngC ck oa D) sz)) 1 6 (va_A (brkW ck ka ad ra Z O U X S T P I V N Y Q ++ lngC ck oa D) sz) := by
  refine x_ofWH (cc := cL_writeRow) (maxL := 4) (ret := (some .int)) (by decide) rfl ?_
  intro p e s m args below meth c s₁ B hml htab hv
  obtain ⟨rfl, ⟨hsz, hP, hK, hD0⟩, hC⟩ := hv
  have hx := B.exec
  have hb := B.bytes
  have hr := B.returns
  have hts := atoms_spec (ws := .codeWith yL_writeRow cL_writeRow 4 (some .int) [(0, 9, 12, 13)] :: GW) B.pre
  have htg : ∀ w ∈ GW, w.before _ s = true := fun w h => hts w (List.mem_cons_of_mem _ h)
  have hown : s.vm.findClass RL = some m.cls := findClass_of_methodNamed B.named
  have hlocks := B.notSynchronized
  subst hsz
  have hD := hD0.self (sz := s.heap.size)
  generalize hAe : va_A (brkW ck ka ad ra Z O U X S T P I V N Y Q ++ lngC ck oa D) s.heap.size = A at hD hC ⊢
  have hA : ∀ q : Nat, s.heap.size ≤ q → A q := fun q h => by rw [← hAe]; exact Or.inr h
  have hS : va_S A s.heap s.heap [] := va_S.rf
  have hP : va_P dg vwCl (brkW ck ka ad ra Z O U X S T P I V N Y Q ++ lngC ck oa D) s.heap := hP
  have hl := lv_entry ([.ref ((ad 7) 0), .int (zI x), .ref oa]) (n := 4) (Nat.le_of_ble_eq_true rfl)
  rw [lg_entry_eq]
  generalize (lg_sl ([.ref ((ad 7) 0), .int (zI x), .ref oa]) ++ List.replicate (4 - (lg_sl ([.ref ((ad 7) 0), .int (zI x), .ref oa])).length) Slot.unset).toArray = ls at hl ⊢
  have hl : lv_has ls 4 [(0, .ref ((ad 7) 0)), (1, .int (zI x)), (2, .ref oa)] := hl
  refine lv_aload_n hx hb dL_writeRow_0 rfl (lv_at hl 2 rfl) ?_
  refine x_iconst hx hb dL_writeRow_1 ?_
  refine lv_aload_n hx hb dL_writeRow_2 rfl (lv_at hl 0 rfl) ?_
  refine lv_iload_n hx hb dL_writeRow_3 rfl (lv_at hl 1 rfl) ?_
  refine xl_calli (M := brkW ck ka ad ra Z O U X S T P I V N Y Q) (N := lngC ck oa D) (Mf := fun u : Unit => brkW ck ka ad ra Z O (upO (upO U 1 (if 0 < U 0 then 1 else U 1)) 0 6) X S T P I V N (wrY Y 0 (rtx S x 6)) Q) (MX := fun u : Unit => brkW ck ka ad ra Z O U X S T P I V N Y Q) hP hD hS hA (fun hPm hDm => vx_runV (As := [.int (zI x)]) (rest := [.int (zI 0), .ref oa]) ⟨hx, hb, hml, hown, htg⟩ (x_writeRow l dg ck ka ad ra Z O U X S T P I V N Y Q x _ hI hu0 rg_x hst) (cwV 1 htg (gwV wq_1381 wq_1382 wq_1383 wq_1 wq_1384) rfl rfl rfl (by decide +kernel) ⟨Nat.le_of_ble_eq_true rfl, Nat.le_of_ble_eq_true rfl⟩) (wrK_preV hK hPm hDm hC hS hA 0 10 rfl rfl) rfl rfl hl.1 rfl (lv_room (Nat.le_of_ble_eq_true rfl)) dL_writeRow_4 ⟨Nat.le_of_ble_eq_true rfl, Nat.le_of_ble_eq_true rfl⟩) (fun E9 ce9 q9 u9 H locs hE9 hP hD hS g1 g2 g3 => ?_) (fun r9 u9 H locs hn9 hP hD hS => ?_)
  · obtain ⟨rfl, hc⟩ := hE9
    refine vx_catch (own := RL) (name := "java/lang/IndexOutOfBoundsException") hown [] ⟨0, 9, 12, 13⟩ [] (by rw [htab]; rfl) (fun z hz => absurd hz List.not_mem_nil) (by decide) (by decide) (htg _ wq_514) (va_Nw.use rfl (hC.nw (w := .castable "java/lang/IndexOutOfBoundsException" "java/lang/IndexOutOfBoundsException") (by decide +kernel))) g1 g2 g3 ?_
    refine W.eq (g2 := F0 m 12 ls [.ref q9]) rfl ?_
    refine lv_astore_n (lv' := [(3, .ref q9), (0, .ref ((ad 7) 0)), (1, .int (zI x)), (2, .ref oa)]) hx hb dL_writeRow_12 rfl hl (by decide) rfl (fun ls hl => ?_)
    refine x_iconst hx hb dL_writeRow_13 ?_
    exact W.widen (k := 1) (n := 6) (Nat.le_of_ble_eq_true rfl) (Nat.le_of_ble_eq_true rfl) (W.iret (v := _) hx hb hr (fun t9 ht9 hW9 => ⟨⟨_, ((Z, O, U, X, S, T, P, I, V, N, Y, Q), D), rfl, (Or.inr ⟨rfl, hc, rfl⟩), by rw [ht9]; exact hP, by rw [hAe]; exact hD⟩, hS.F ht9⟩) hS.2.2 dL_writeRow_14)
  have hP : va_P dg vwCl (brkW ck ka ad ra Z O (upO (upO U 1 (if 0 < U 0 then 1 else U 1)) 0 6) X S T P I V N (wrY Y 0 (rtx S x 6)) Q ++ lngC ck oa D) H := hP
  have hD : va_D A (brkW ck ka ad ra Z O (upO (upO U 1 (if 0 < U 0 then 1 else U 1)) 0 6) X S T P I V N (wrY Y 0 (rtx S x 6)) Q ++ lngC ck oa D) := hD
  refine lv_i2l hx hb dL_writeRow_7 rfl ?_
  refine va_last hx hb hK hP hD hS 166 5 rfl rfl (zI_in (z := 0) (by decide) (by decide)) dL_writeRow_8 (fun H locs hP hD hS => ?_)
  have hP : va_P dg vwCl (brkW ck ka ad ra Z O (upO (upO U 1 (if 0 < U 0 then 1 else U 1)) 0 6) X S T P I V N (wrY Y 0 (rtx S x 6)) Q ++ lngC ck oa (vp_updL D (zI 0).toNatClampNeg r9.toInt64)) H := hP
  have hD : va_D A (brkW ck ka ad ra Z O (upO (upO U 1 (if 0 < U 0 then 1 else U 1)) 0 6) X S T P I V N (wrY Y 0 (rtx S x 6)) Q ++ lngC ck oa (vp_updL D (zI 0).toNatClampNeg r9.toInt64)) := hD
  refine lv_goto (tgt := 15) hx hb dL_writeRow_9 (by decide) ?_
  refine x_iconst hx hb dL_writeRow_15 ?_
  exact W.widen (k := 1) (n := 6) (Nat.le_of_ble_eq_true rfl) (Nat.le_of_ble_eq_true rfl) (W.iret (v := _) hx hb hr (fun t9 ht9 hW9 => ⟨⟨_, ((Z, O, (upO (upO U 1 (if 0 < U 0 then 1 else U 1)) 0 6), X, S, T, P, I, V, N, (wrY Y 0 (rtx S x 6)), Q), (vp_updL D (zI 0).toNatClampNeg r9.toInt64)), rfl, (Or.inl ⟨rfl, r9, hn9, rfl, rfl⟩), by rw [ht9]; exact hP, by rw [hAe]; exact hD⟩, hS.F ht9⟩) hS.2.2 dL_writeRow_16)

theorem wqL_outputAt : (Jvm.Cond.codeWith ({ cls := "BenchBrokerLaw", name := "outputAt", desc := "(LBenchBroker;I[J)I" } : Jvm.MethodName) method_42_code (4 : Nat) (Option.some Jvm.ClassFile.FieldType.int) [((0 : Nat), (9 : Nat), (12 : Nat), (13 : Nat))]) ∈ GW := tq_6 191 rfl rfl
set_option maxHeartbeats 4000000 in
set_option maxRecDepth 100000 in
/-- the law's outputAt -/
theorem w_outputAt (l : Launch) (dg : va_G) (ck : Nat → ClassId) (ka : Nat → Nat) (ad ra : Nat → Nat → Nat) (Z O U X : Nat → Int) (S T P I : St) (V N Y : Int → Int) (Q : Nat → St) (oa : Nat) (D : Nat → Int64) (x : Int) (sz : Nat) (hu0 : 0 ≤ U 0 ∧ U 0 ≤ 16) (hY : y7Z Y) (rg_x : -2147483648 ≤ x ∧ x < 2147483648) (hst : l.stackTraces = false) : Met l yL_outputAt (.codeWith yL_outputAt cL_outputAt 4 (some .int) [(0, 9, 12, 13)] :: GW) ({ frames := 7, cells := 1, slots := 6, locals := 116 }) (va_Pc [.ref ((ad 7) 0), .int (zI x), .ref oa] (wrK dg ck ka sz (brkW ck ka ad ra Z O U X S T P I V N Y Q ++ lngC ck oa D))) (va_Qi (fun r (u : BU × (Nat → Int64)) => (r = zI 0 ∧ ∃ r1 : Int32, (r1 = zI (Y x) ∧ (0 ≤ x ∧ x < U 0)) ∧ u.1 = (Z, O, U, X, S, T, P, I, V, N, Y, Q) ∧ u.2 0 = r1.toInt64) ∨ (r = zI 1 ∧ (¬ (0 ≤ x ∧ x < U 0)) ∧ u.1 = (Z, O, U, X, S, T, P, I, V, N, Y, Q))) (fun u t9 => wrQ dg sz (brkW ck ka ad ra Z O U X S T P I V N Y Q ++ lngC ck oa D) (brkU ck ka ad ra u.1 ++ lngC ck oa u.2) t9) (va_A (brkW ck ka ad ra Z O U X S T P I V N Y Q ++ lngC ck oa D) sz)) 1 6 (va_A (brkW ck ka ad ra Z O U X S T P I V N Y Q ++ lngC ck oa D) sz) := by
  refine x_ofWH (cc := cL_outputAt) (maxL := 4) (ret := (some .int)) (by decide) rfl ?_
  intro p e s m args below meth c s₁ B hml htab hv
  obtain ⟨rfl, ⟨hsz, hP, hK, hD0⟩, hC⟩ := hv
  have hx := B.exec
  have hb := B.bytes
  have hr := B.returns
  have hts := atoms_spec (ws := .codeWith yL_outputAt cL_outputAt 4 (some .int) [(0, 9, 12, 13)] :: GW) B.pre
  have htg : ∀ w ∈ GW, w.before _ s = true := fun w h => hts w (List.mem_cons_of_mem _ h)
  have hown : s.vm.findClass RL = some m.cls := findClass_of_methodNamed B.named
  have hlocks := B.notSynchronized
  subst hsz
  have hD := hD0.self (sz := s.heap.size)
  generalize hAe : va_A (brkW ck ka ad ra Z O U X S T P I V N Y Q ++ lngC ck oa D) s.heap.size = A at hD hC ⊢
  have hA : ∀ q : Nat, s.heap.size ≤ q → A q := fun q h => by rw [← hAe]; exact Or.inr h
  have hS : va_S A s.heap s.heap [] := va_S.rf
  have hP : va_P dg vwCl (brkW ck ka ad ra Z O U X S T P I V N Y Q ++ lngC ck oa D) s.heap := hP
  have hl := lv_entry ([.ref ((ad 7) 0), .int (zI x), .ref oa]) (n := 4) (Nat.le_of_ble_eq_true rfl)
  rw [lg_entry_eq]
  generalize (lg_sl ([.ref ((ad 7) 0), .int (zI x), .ref oa]) ++ List.replicate (4 - (lg_sl ([.ref ((ad 7) 0), .int (zI x), .ref oa])).length) Slot.unset).toArray = ls at hl ⊢
  have hl : lv_has ls 4 [(0, .ref ((ad 7) 0)), (1, .int (zI x)), (2, .ref oa)] := hl
  refine lv_aload_n hx hb dL_outputAt_0 rfl (lv_at hl 2 rfl) ?_
  refine x_iconst hx hb dL_outputAt_1 ?_
  refine lv_aload_n hx hb dL_outputAt_2 rfl (lv_at hl 0 rfl) ?_
  refine lv_iload_n hx hb dL_outputAt_3 rfl (lv_at hl 1 rfl) ?_
  refine xl_calli (M := brkW ck ka ad ra Z O U X S T P I V N Y Q) (N := lngC ck oa D) (Mf := fun u : Unit => brkW ck ka ad ra Z O U X S T P I V N Y Q) (MX := fun u : Unit => brkW ck ka ad ra Z O U X S T P I V N Y Q) hP hD hS hA (fun hPm hDm => vx_runV (As := [.int (zI x)]) (rest := [.int (zI 0), .ref oa]) ⟨hx, hb, hml, hown, htg⟩ (x_outputAt l dg ck ka ad ra Z O U X S T P I V N Y Q x _ hu0 hY rg_x hst) (cwV 1 htg (gwV wq_1392 wq_1393 wq_1394 wq_1 wq_1395) rfl rfl rfl (by decide +kernel) ⟨Nat.le_of_ble_eq_true rfl, Nat.le_of_ble_eq_true rfl⟩) (wrK_preV hK hPm hDm hC hS hA 0 10 rfl rfl) rfl rfl hl.1 rfl (lv_room (Nat.le_of_ble_eq_true rfl)) dL_outputAt_4 ⟨Nat.le_of_ble_eq_true rfl, Nat.le_of_ble_eq_true rfl⟩) (fun E9 ce9 q9 u9 H locs hE9 hP hD hS g1 g2 g3 => ?_) (fun r9 u9 H locs hn9 hP hD hS => ?_)
  · obtain ⟨rfl, hc⟩ := hE9
    refine vx_catch (own := RL) (name := "java/lang/IndexOutOfBoundsException") hown [] ⟨0, 9, 12, 13⟩ [] (by rw [htab]; rfl) (fun z hz => absurd hz List.not_mem_nil) (by decide) (by decide) (htg _ wq_514) (va_Nw.use rfl (hC.nw (w := .castable "java/lang/IndexOutOfBoundsException" "java/lang/IndexOutOfBoundsException") (by decide +kernel))) g1 g2 g3 ?_
    refine W.eq (g2 := F0 m 12 ls [.ref q9]) rfl ?_
    refine lv_astore_n (lv' := [(3, .ref q9), (0, .ref ((ad 7) 0)), (1, .int (zI x)), (2, .ref oa)]) hx hb dL_outputAt_12 rfl hl (by decide) rfl (fun ls hl => ?_)
    refine x_iconst hx hb dL_outputAt_13 ?_
    exact W.widen (k := 1) (n := 6) (Nat.le_of_ble_eq_true rfl) (Nat.le_of_ble_eq_true rfl) (W.iret (v := _) hx hb hr (fun t9 ht9 hW9 => ⟨⟨_, ((Z, O, U, X, S, T, P, I, V, N, Y, Q), D), rfl, (Or.inr ⟨rfl, hc, rfl⟩), by rw [ht9]; exact hP, by rw [hAe]; exact hD⟩, hS.F ht9⟩) hS.2.2 dL_outputAt_14)
  have hP : va_P dg vwCl (brkW ck ka ad ra Z O U X S T P I V N Y Q ++ lngC ck oa D) H := hP
  have hD : va_D A (brkW ck ka ad ra Z O U X S T P I V N Y Q ++ lngC ck oa D) := hD
  refine lv_i2l hx hb dL_outputAt_7 rfl ?_
  refine va_last hx hb hK hP hD hS 166 5 rfl rfl (zI_in (z := 0) (by decide) (by decide)) dL_outputAt_8 (fun H locs hP hD hS => ?_)
  have hP : va_P dg vwCl (brkW ck ka ad ra Z O U X S T P I V N Y Q ++ lngC ck oa (vp_updL D (zI 0).toNatClampNeg r9.toInt64)) H := hP
  have hD : va_D A (brkW ck ka ad ra Z O U X S T P I V N Y Q ++ lngC ck oa (vp_updL D (zI 0).toNatClampNeg r9.toInt64)) := hD
  refine lv_goto (tgt := 15) hx hb dL_outputAt_9 (by decide) ?_
  refine x_iconst hx hb dL_outputAt_15 ?_
  exact W.widen (k := 1) (n := 6) (Nat.le_of_ble_eq_true rfl) (Nat.le_of_ble_eq_true rfl) (W.iret (v := _) hx hb hr (fun t9 ht9 hW9 => ⟨⟨_, ((Z, O, U, X, S, T, P, I, V, N, Y, Q), (vp_updL D (zI 0).toNatClampNeg r9.toInt64)), rfl, (Or.inl ⟨rfl, r9, hn9, rfl, rfl⟩), by rw [ht9]; exact hP, by rw [hAe]; exact hD⟩, hS.F ht9⟩) hS.2.2 dL_outputAt_16)

theorem wqL_appendInput : (Jvm.Cond.codeWith ({ cls := "BenchBrokerLaw", name := "appendInput", desc := "(LBenchBroker;C[J)I" } : Jvm.MethodName) method_43_code (4 : Nat) (Option.some Jvm.ClassFile.FieldType.int) [((0 : Nat), (9 : Nat), (12 : Nat), (15 : Nat)), ((0 : Nat), (9 : Nat), (15 : Nat), (151 : Nat))]) ∈ GW := tq_6 208 rfl rfl
set_option maxHeartbeats 4000000 in
set_option maxRecDepth 100000 in
/-- the law's appendInput -/
theorem w_appendInput (l : Launch) (dg : va_G) (ck : Nat → ClassId) (ka : Nat → Nat) (ad ra : Nat → Nat → Nat) (Z O U X : Nat → Int) (S T P I : St) (V N Y : Int → Int) (Q : Nat → St) (oa : Nat) (D : Nat → Int64) (x : Int) (sz : Nat) (hx0 : 0 ≤ x ∧ x < 65536) (hln : 0 ≤ I 0 0 ∧ I 0 0 ≤ 60) (hst : l.stackTraces = false) : Met l yL_appendInput (.codeWith yL_appendInput cL_appendInput 4 (some .int) [(0, 9, 12, 15), (0, 9, 15, 151)] :: GW) ({ frames := 7, cells := 1, slots := 6, locals := 116 }) (va_Pc [.ref ((ad 7) 0), .int (zI x), .ref oa] (wrK dg ck ka sz (brkW ck ka ad ra Z O U X S T P I V N Y Q ++ lngC ck oa D))) (va_Qi (fun r (u : BU × (Nat → Int64)) => (r = zI 0 ∧ ∃ r1 : Int32, (r1 = zI (I 0 0 + 1) ∧ (32 ≤ x ∧ x ≤ 126) ∧ I 0 0 < 60) ∧ u.1 = (Z, O, U, X, S, T, P, (upS (upS I 1 (I 0 0) x) 0 0 (I 0 0 + 1)), V, N, Y, Q) ∧ u.2 0 = r1.toInt64) ∨ (r = zI 1 ∧ (¬ (32 ≤ x ∧ x ≤ 126)) ∧ u.1 = (Z, O, U, X, S, T, P, I, V, N, Y, Q)) ∨ (r = zI 2 ∧ ((32 ≤ x ∧ x ≤ 126) ∧ 60 ≤ I 0 0) ∧ u.1 = (Z, O, U, X, S, T, P, I, V, N, Y, Q))) (fun u t9 => wrQ dg sz (brkW ck ka ad ra Z O U X S T P I V N Y Q ++ lngC ck oa D) (brkU ck ka ad ra u.1 ++ lngC ck oa u.2) t9) (va_A (brkW ck ka ad ra Z O U X S T P I V N Y Q ++ lngC ck oa D) sz)) 1 6 (va_A (brkW ck ka ad ra Z O U X S T P I V N Y Q ++ lngC ck oa D) sz) := by
  refine x_ofWH (cc := cL_appendInput) (maxL := 4) (ret := (some .int)) (by decide) rfl ?_
  intro p e s m args below meth c s₁ B hml htab hv
  obtain ⟨rfl, ⟨hsz, hP, hK, hD0⟩, hC⟩ := hv
  have hx := B.exec
  have hb := B.bytes
  have hr := B.returns
  have hts := atoms_spec (ws := .codeWith yL_appendInput cL_appendInput 4 (some .int) [(0, 9, 12, 15), (0, 9, 15, 151)] :: GW) B.pre
  have htg : ∀ w ∈ GW, w.before _ s = true := fun w h => hts w (List.mem_cons_of_mem _ h)
  have hown : s.vm.findClass RL = some m.cls := findClass_of_methodNamed B.named
  have hlocks := B.notSynchronized
  subst hsz
  have hD := hD0.self (sz := s.heap.size)
  generalize hAe : va_A (brkW ck ka ad ra Z O U X S T P I V N Y Q ++ lngC ck oa D) s.heap.size = A at hD hC ⊢
  have hA : ∀ q : Nat, s.heap.size ≤ q → A q := fun q h => by rw [← hAe]; exact Or.inr h
  have hS : va_S A s.heap s.heap [] := va_S.rf
  have hP : va_P dg vwCl (brkW ck ka ad ra Z O U X S T P I V N Y Q ++ lngC ck oa D) s.heap := hP
  have hl := lv_entry ([.ref ((ad 7) 0), .int (zI x), .ref oa]) (n := 4) (Nat.le_of_ble_eq_true rfl)
  rw [lg_entry_eq]
  generalize (lg_sl ([.ref ((ad 7) 0), .int (zI x), .ref oa]) ++ List.replicate (4 - (lg_sl ([.ref ((ad 7) 0), .int (zI x), .ref oa])).length) Slot.unset).toArray = ls at hl ⊢
  have hl : lv_has ls 4 [(0, .ref ((ad 7) 0)), (1, .int (zI x)), (2, .ref oa)] := hl
  refine lv_aload_n hx hb dL_appendInput_0 rfl (lv_at hl 2 rfl) ?_
  refine x_iconst hx hb dL_appendInput_1 ?_
  refine lv_aload_n hx hb dL_appendInput_2 rfl (lv_at hl 0 rfl) ?_
  refine lv_iload_n hx hb dL_appendInput_3 rfl (lv_at hl 1 rfl) ?_
  refine xl_calli (M := brkW ck ka ad ra Z O U X S T P I V N Y Q) (N := lngC ck oa D) (Mf := fun u : Unit => brkW ck ka ad ra Z O U X S T P (upS (upS I 1 (I 0 0) x) 0 0 (I 0 0 + 1)) V N Y Q) (MX := fun u : Unit => brkW ck ka ad ra Z O U X S T P I V N Y Q) hP hD hS hA (fun hPm hDm => vx_runV (As := [.int (zI x)]) (rest := [.int (zI 0), .ref oa]) ⟨hx, hb, hml, hown, htg⟩ (x_appendInput l dg ck ka ad ra Z O U X S T P I V N Y Q x _ hx0 hln hst) (cwV 1 htg (gwV wq_1410 wq_1411 wq_1412 wq_1 wq_1413) rfl rfl rfl (by decide +kernel) ⟨Nat.le_of_ble_eq_true rfl, Nat.le_of_ble_eq_true rfl⟩) (wrK_preV hK hPm hDm hC hS hA 0 10 rfl rfl) rfl rfl hl.1 rfl (lv_room (Nat.le_of_ble_eq_true rfl)) dL_appendInput_4 ⟨Nat.le_of_ble_eq_true rfl, Nat.le_of_ble_eq_true rfl⟩) (fun E9 ce9 q9 u9 H locs hE9 hP hD hS g1 g2 g3 => ?_) (fun r9 u9 H locs hn9 hP hD hS => ?_)
  · rcases hE9 with ⟨rfl, hc⟩ | ⟨rfl, hc⟩
    · refine vx_catch (own := RL) (name := "java/lang/IllegalArgumentException") hown [] ⟨0, 9, 12, 15⟩ [⟨0, 9, 15, 151⟩] (by rw [htab]; rfl) (fun z hz => absurd hz List.not_mem_nil) (by decide) (by decide) (htg _ wq_594) (va_Nw.use rfl (hC.nw (w := .castable "java/lang/IllegalArgumentException" "java/lang/IllegalArgumentException") (by decide +kernel))) g1 g2 g3 ?_
      refine W.eq (g2 := F0 m 12 ls [.ref q9]) rfl ?_
      refine lv_astore_n (lv' := [(3, .ref q9), (0, .ref ((ad 7) 0)), (1, .int (zI x)), (2, .ref oa)]) hx hb dL_appendInput_12 rfl hl (by decide) rfl (fun ls hl => ?_)
      refine x_iconst hx hb dL_appendInput_13 ?_
      exact W.widen (k := 1) (n := 6) (Nat.le_of_ble_eq_true rfl) (Nat.le_of_ble_eq_true rfl) (W.iret (v := _) hx hb hr (fun t9 ht9 hW9 => ⟨⟨_, ((Z, O, U, X, S, T, P, I, V, N, Y, Q), D), rfl, (Or.inr (Or.inl ⟨rfl, hc, rfl⟩)), by rw [ht9]; exact hP, by rw [hAe]; exact hD⟩, hS.F ht9⟩) hS.2.2 dL_appendInput_14)
    · refine vx_catch (own := RL) (name := "java/lang/IllegalStateException") hown [⟨0, 9, 12, 15⟩] ⟨0, 9, 15, 151⟩ [] (by rw [htab]; rfl) (by intro z hz; simp only [List.mem_cons, List.not_mem_nil, or_false] at hz; subst hz; exact Or.inr ⟨by decide, "java/lang/IllegalArgumentException", htg _ wq_594, hC.nc (by decide +kernel)⟩) (by decide) (by decide) (htg _ wq_1409) (va_Nw.use rfl (hC.nw (w := .castable "java/lang/IllegalStateException" "java/lang/IllegalStateException") (by decide +kernel))) g1 g2 g3 ?_
      refine W.eq (g2 := F0 m 15 ls [.ref q9]) rfl ?_
      refine lv_astore_n (lv' := [(3, .ref q9), (0, .ref ((ad 7) 0)), (1, .int (zI x)), (2, .ref oa)]) hx hb dL_appendInput_15 rfl hl (by decide) rfl (fun ls hl => ?_)
      refine x_iconst hx hb dL_appendInput_16 ?_
      exact W.widen (k := 1) (n := 6) (Nat.le_of_ble_eq_true rfl) (Nat.le_of_ble_eq_true rfl) (W.iret (v := _) hx hb hr (fun t9 ht9 hW9 => ⟨⟨_, ((Z, O, U, X, S, T, P, I, V, N, Y, Q), D), rfl, (Or.inr (Or.inr ⟨rfl, hc, rfl⟩)), by rw [ht9]; exact hP, by rw [hAe]; exact hD⟩, hS.F ht9⟩) hS.2.2 dL_appendInput_17)
  have hP : va_P dg vwCl (brkW ck ka ad ra Z O U X S T P (upS (upS I 1 (I 0 0) x) 0 0 (I 0 0 + 1)) V N Y Q ++ lngC ck oa D) H := hP
  have hD : va_D A (brkW ck ka ad ra Z O U X S T P (upS (upS I 1 (I 0 0) x) 0 0 (I 0 0 + 1)) V N Y Q ++ lngC ck oa D) := hD
  refine lv_i2l hx hb dL_appendInput_7 rfl ?_
  refine va_last hx hb hK hP hD hS 166 5 rfl rfl (zI_in (z := 0) (by decide) (by decide)) dL_appendInput_8 (fun H locs hP hD hS => ?_)
  have hP : va_P dg vwCl (brkW ck ka ad ra Z O U X S T P (upS (upS I 1 (I 0 0) x) 0 0 (I 0 0 + 1)) V N Y Q ++ lngC ck oa (vp_updL D (zI 0).toNatClampNeg r9.toInt64)) H := hP
  have hD : va_D A (brkW ck ka ad ra Z O U X S T P (upS (upS I 1 (I 0 0) x) 0 0 (I 0 0 + 1)) V N Y Q ++ lngC ck oa (vp_updL D (zI 0).toNatClampNeg r9.toInt64)) := hD
  refine lv_goto (tgt := 18) hx hb dL_appendInput_9 (by decide) ?_
  refine x_iconst hx hb dL_appendInput_18 ?_
  exact W.widen (k := 1) (n := 6) (Nat.le_of_ble_eq_true rfl) (Nat.le_of_ble_eq_true rfl) (W.iret (v := _) hx hb hr (fun t9 ht9 hW9 => ⟨⟨_, ((Z, O, U, X, S, T, P, (upS (upS I 1 (I 0 0) x) 0 0 (I 0 0 + 1)), V, N, Y, Q), (vp_updL D (zI 0).toNatClampNeg r9.toInt64)), rfl, (Or.inl ⟨rfl, r9, hn9, rfl, rfl⟩), by rw [ht9]; exact hP, by rw [hAe]; exact hD⟩, hS.F ht9⟩) hS.2.2 dL_appendInput_19)

theorem wqL_execute : (Jvm.Cond.codeWith ({ cls := "BenchBrokerLaw", name := "execute", desc := "(LBenchBroker;[J)I" } : Jvm.MethodName) method_44_code (3 : Nat) (Option.some Jvm.ClassFile.FieldType.int) [((0 : Nat), (8 : Nat), (11 : Nat), (15 : Nat)), ((0 : Nat), (8 : Nat), (14 : Nat), (151 : Nat)), ((0 : Nat), (8 : Nat), (17 : Nat), (17 : Nat))]) ∈ GW := tq_6 231 rfl rfl
set_option maxHeartbeats 4000000 in
set_option maxRecDepth 100000 in
/-- the law's execute -/
theorem w_execute (l : Launch) (dg : va_G) (ck : Nat → ClassId) (ka : Nat → Nat) (ad ra : Nat → Nat → Nat) (Z O U X : Nat → Int) (S T P I : St) (V N Y : Int → Int) (Q : Nat → St) (oa : Nat) (D : Nat → Int64) (sz : Nat) {Mx : Int} (hV : Inv Mx S) (hMx : Mx + 3100 ≤ 4000000) (hn : 0 ≤ X 0 ∧ X 0 < 8) (hz : 0 ≤ X 1 ∧ X 1 ≤ 8) (hln : 0 ≤ I 0 0 ∧ I 0 0 ≤ 60) (htx : ∀ i, 0 ≤ i → i < 60 → 0 ≤ I 1 i ∧ I 1 i ≤ 126) (hkv : 0 ≤ I 0 2 ∧ I 0 2 ≤ 9) (hst : l.stackTraces = false) : Met l yL_execute (.codeWith yL_execute cL_execute 3 (some .int) [(0, 8, 11, 15), (0, 8, 14, 151), (0, 8, 17, 17)] :: GW) ({ frames := 9, cells := 1, slots := 6, locals := 197 }) (va_Pc [.ref ((ad 7) 0), .ref oa] (wrK dg ck ka sz (brkW ck ka ad ra Z O U X S T P I V N Y Q ++ lngC ck oa D))) (va_Qi (fun r (u : BU × (Nat → Int64)) => (r = zI 0 ∧ ∃ r1 : Int32, ∃ (u9 : (Nat → Int) × St × St), (r1 = zI (exZ S (I 1) (I 0 0)).2.1 ∧ (exZ S (I 1) (I 0 0)).1 = 0 ∧ xkP I u9.2.2) ∧ u.1 = (Z, u9.1, U, (upO (upO X 0 (((X 0) + 1) % 8)) 1 (k1Z (X 1))), (exZ S (I 1) (I 0 0)).2.2.2, u9.2.1, P, u9.2.2, V, N, Y, (upQ Q (X 0) S)) ∧ u.2 0 = r1.toInt64) ∨ (r = zI 1 ∧ ∃ (u9 : (Nat → Int) × St × St), ((exZ S (I 1) (I 0 0)).1 = 1) ∧ (xkP I u9.2.2) ∧ u.1 = ((zxZ Z (exZ S (I 1) (I 0 0))), u9.1, U, X, S, u9.2.1, P, u9.2.2, V, N, Y, Q)) ∨ (r = zI 2 ∧ ∃ (u9 : (Nat → Int) × St × St), ((exZ S (I 1) (I 0 0)).1 = 2) ∧ (xkP I u9.2.2) ∧ u.1 = ((zxZ Z (exZ S (I 1) (I 0 0))), u9.1, U, X, S, u9.2.1, P, u9.2.2, V, N, Y, Q)) ∨ (r = zI 3 ∧ ∃ (u9 : (Nat → Int) × St × St), ((exZ S (I 1) (I 0 0)).1 = 3) ∧ (xkP I u9.2.2) ∧ u.1 = ((zxZ Z (exZ S (I 1) (I 0 0))), u9.1, U, X, S, u9.2.1, P, u9.2.2, V, N, Y, Q))) (fun u t9 => wrQ dg sz (brkW ck ka ad ra Z O U X S T P I V N Y Q ++ lngC ck oa D) (brkU ck ka ad ra u.1 ++ lngC ck oa u.2) t9) (va_A (brkW ck ka ad ra Z O U X S T P I V N Y Q ++ lngC ck oa D) sz)) 1 6 (va_A (brkW ck ka ad ra Z O U X S T P I V N Y Q ++ lngC ck oa D) sz) := by
  refine x_ofWH (cc := cL_execute) (maxL := 3) (ret := (some .int)) (by decide) rfl ?_
  intro p e s m args below meth c s₁ B hml htab hv
  obtain ⟨rfl, ⟨hsz, hP, hK, hD0⟩, hC⟩ := hv
  have hx := B.exec
  have hb := B.bytes
  have hr := B.returns
  have hts := atoms_spec (ws := .codeWith yL_execute cL_execute 3 (some .int) [(0, 8, 11, 15), (0, 8, 14, 151), (0, 8, 17, 17)] :: GW) B.pre
  have htg : ∀ w ∈ GW, w.before _ s = true := fun w h => hts w (List.mem_cons_of_mem _ h)
  have hown : s.vm.findClass RL = some m.cls := findClass_of_methodNamed B.named
  have hlocks := B.notSynchronized
  subst hsz
  have hD := hD0.self (sz := s.heap.size)
  generalize hAe : va_A (brkW ck ka ad ra Z O U X S T P I V N Y Q ++ lngC ck oa D) s.heap.size = A at hD hC ⊢
  have hA : ∀ q : Nat, s.heap.size ≤ q → A q := fun q h => by rw [← hAe]; exact Or.inr h
  have hS : va_S A s.heap s.heap [] := va_S.rf
  have hP : va_P dg vwCl (brkW ck ka ad ra Z O U X S T P I V N Y Q ++ lngC ck oa D) s.heap := hP
  have hl := lv_entry ([.ref ((ad 7) 0), .ref oa]) (n := 3) (Nat.le_of_ble_eq_true rfl)
  rw [lg_entry_eq]
  generalize (lg_sl ([.ref ((ad 7) 0), .ref oa]) ++ List.replicate (3 - (lg_sl ([.ref ((ad 7) 0), .ref oa])).length) Slot.unset).toArray = ls at hl ⊢
  have hl : lv_has ls 3 [(0, .ref ((ad 7) 0)), (1, .ref oa)] := hl
  refine lv_aload_n hx hb dL_execute_0 rfl (lv_at hl 1 rfl) ?_
  refine x_iconst hx hb dL_execute_1 ?_
  refine lv_aload_n hx hb dL_execute_2 rfl (lv_at hl 0 rfl) ?_
  refine xl_calli (M := brkW ck ka ad ra Z O U X S T P I V N Y Q) (N := lngC ck oa D) (Mf := fun u : (Nat → Int) × St × St => brkW ck ka ad ra Z u.1 U (upO (upO X 0 (((X 0) + 1) % 8)) 1 (k1Z (X 1))) (exZ S (I 1) (I 0 0)).2.2.2 u.2.1 P u.2.2 V N Y (upQ Q (X 0) S)) (MX := fun u : (Nat → Int) × St × St => brkW ck ka ad ra (zxZ Z (exZ S (I 1) (I 0 0))) u.1 U X S u.2.1 P u.2.2 V N Y Q) hP hD hS hA (fun hPm hDm => vx_runV (As := []) (rest := [.int (zI 0), .ref oa]) ⟨hx, hb, hml, hown, htg⟩ (x_execute l dg ck ka ad ra Z O U X S T P I V N Y Q  _ hV hMx hn hz hln htx hkv hst) (cwV 0 htg (gwV wq_1432 wq_1433 wq_1434 wq_1 wq_1435) rfl rfl rfl (by decide +kernel) ⟨Nat.le_of_ble_eq_true rfl, Nat.le_of_ble_eq_true rfl⟩) (wrK_preV hK hPm hDm hC hS hA 0 10 rfl rfl) rfl rfl hl.1 rfl (lv_room (Nat.le_of_ble_eq_true rfl)) dL_execute_3 ⟨Nat.le_of_ble_eq_true rfl, Nat.le_of_ble_eq_true rfl⟩) (fun E9 ce9 q9 u9 H locs hE9 hP hD hS g1 g2 g3 => ?_) (fun r9 u9 H locs hn9 hP hD hS => ?_)
  · obtain ⟨hE9, hxk⟩ := hE9
    rcases hE9 with ⟨rfl, hc⟩ | ⟨rfl, hc⟩ | ⟨rfl, hc⟩
    · refine vx_catch (own := RL) (name := "java/lang/IllegalArgumentException") hown [] ⟨0, 8, 11, 15⟩ [⟨0, 8, 14, 151⟩, ⟨0, 8, 17, 17⟩] (by rw [htab]; rfl) (fun z hz => absurd hz List.not_mem_nil) (by decide) (by decide) (htg _ wq_594) (va_Nw.use rfl (hC.nw (w := .castable "java/lang/IllegalArgumentException" "java/lang/IllegalArgumentException") (by decide +kernel))) g1 g2 g3 ?_
      refine W.eq (g2 := F0 m 11 ls [.ref q9]) rfl ?_
      refine lv_astore_n (lv' := [(2, .ref q9), (0, .ref ((ad 7) 0)), (1, .ref oa)]) hx hb dL_execute_11 rfl hl (by decide) rfl (fun ls hl => ?_)
      refine x_iconst hx hb dL_execute_12 ?_
      exact W.widen (k := 1) (n := 6) (Nat.le_of_ble_eq_true rfl) (Nat.le_of_ble_eq_true rfl) (W.iret (v := _) hx hb hr (fun t9 ht9 hW9 => ⟨⟨_, (((zxZ Z (exZ S (I 1) (I 0 0))), u9.1, U, X, S, u9.2.1, P, u9.2.2, V, N, Y, Q), D), rfl, (Or.inr (Or.inl ⟨rfl, u9, hc, hxk, rfl⟩)), by rw [ht9]; exact hP, by rw [hAe]; exact hD⟩, hS.F ht9⟩) hS.2.2 dL_execute_13)
    · refine vx_catch (own := RL) (name := "java/lang/IllegalStateException") hown [⟨0, 8, 11, 15⟩] ⟨0, 8, 14, 151⟩ [⟨0, 8, 17, 17⟩] (by rw [htab]; rfl) (by intro z hz; simp only [List.mem_cons, List.not_mem_nil, or_false] at hz; subst hz; exact Or.inr ⟨by decide, "java/lang/IllegalArgumentException", htg _ wq_594, hC.nc (by decide +kernel)⟩) (by decide) (by decide) (htg _ wq_1409) (va_Nw.use rfl (hC.nw (w := .castable "java/lang/IllegalStateException" "java/lang/IllegalStateException") (by decide +kernel))) g1 g2 g3 ?_
      refine W.eq (g2 := F0 m 14 ls [.ref q9]) rfl ?_
      refine lv_astore_n (lv' := [(2, .ref q9), (0, .ref ((ad 7) 0)), (1, .ref oa)]) hx hb dL_execute_14 rfl hl (by decide) rfl (fun ls hl => ?_)
      refine x_iconst hx hb dL_execute_15 ?_
      exact W.widen (k := 1) (n := 6) (Nat.le_of_ble_eq_true rfl) (Nat.le_of_ble_eq_true rfl) (W.iret (v := _) hx hb hr (fun t9 ht9 hW9 => ⟨⟨_, (((zxZ Z (exZ S (I 1) (I 0 0))), u9.1, U, X, S, u9.2.1, P, u9.2.2, V, N, Y, Q), D), rfl, (Or.inr (Or.inr (Or.inl ⟨rfl, u9, hc, hxk, rfl⟩))), by rw [ht9]; exact hP, by rw [hAe]; exact hD⟩, hS.F ht9⟩) hS.2.2 dL_execute_16)
    · refine vx_catch (own := RL) (name := "java/lang/UnsupportedOperationException") hown [⟨0, 8, 11, 15⟩, ⟨0, 8, 14, 151⟩] ⟨0, 8, 17, 17⟩ [] (by rw [htab]; rfl) (by intro z hz; simp only [List.mem_cons, List.not_mem_nil, or_false] at hz; exact hz.elim (fun e9 => by subst e9; exact Or.inr ⟨by decide, "java/lang/IllegalArgumentException", htg _ wq_594, hC.nc (by decide +kernel)⟩) (fun e9 => by subst e9; exact Or.inr ⟨by decide, "java/lang/IllegalStateException", htg _ wq_1409, hC.nc (by decide +kernel)⟩)) (by decide) (by decide) (htg _ wq_595) (va_Nw.use rfl (hC.nw (w := .castable "java/lang/UnsupportedOperationException" "java/lang/UnsupportedOperationException") (by decide +kernel))) g1 g2 g3 ?_
      refine W.eq (g2 := F0 m 17 ls [.ref q9]) rfl ?_
      refine lv_astore_n (lv' := [(2, .ref q9), (0, .ref ((ad 7) 0)), (1, .ref oa)]) hx hb dL_execute_17 rfl hl (by decide) rfl (fun ls hl => ?_)
      refine x_iconst hx hb dL_execute_18 ?_
      exact W.widen (k := 1) (n := 6) (Nat.le_of_ble_eq_true rfl) (Nat.le_of_ble_eq_true rfl) (W.iret (v := _) hx hb hr (fun t9 ht9 hW9 => ⟨⟨_, (((zxZ Z (exZ S (I 1) (I 0 0))), u9.1, U, X, S, u9.2.1, P, u9.2.2, V, N, Y, Q), D), rfl, (Or.inr (Or.inr (Or.inr ⟨rfl, u9, hc, hxk, rfl⟩))), by rw [ht9]; exact hP, by rw [hAe]; exact hD⟩, hS.F ht9⟩) hS.2.2 dL_execute_19)
  have hP : va_P dg vwCl (brkW ck ka ad ra Z u9.1 U (upO (upO X 0 (((X 0) + 1) % 8)) 1 (k1Z (X 1))) (exZ S (I 1) (I 0 0)).2.2.2 u9.2.1 P u9.2.2 V N Y (upQ Q (X 0) S) ++ lngC ck oa D) H := hP
  have hD : va_D A (brkW ck ka ad ra Z u9.1 U (upO (upO X 0 (((X 0) + 1) % 8)) 1 (k1Z (X 1))) (exZ S (I 1) (I 0 0)).2.2.2 u9.2.1 P u9.2.2 V N Y (upQ Q (X 0) S) ++ lngC ck oa D) := hD
  refine lv_i2l hx hb dL_execute_6 rfl ?_
  refine va_last hx hb hK hP hD hS 166 5 rfl rfl (zI_in (z := 0) (by decide) (by decide)) dL_execute_7 (fun H locs hP hD hS => ?_)
  have hP : va_P dg vwCl (brkW ck ka ad ra Z u9.1 U (upO (upO X 0 (((X 0) + 1) % 8)) 1 (k1Z (X 1))) (exZ S (I 1) (I 0 0)).2.2.2 u9.2.1 P u9.2.2 V N Y (upQ Q (X 0) S) ++ lngC ck oa (vp_updL D (zI 0).toNatClampNeg r9.toInt64)) H := hP
  have hD : va_D A (brkW ck ka ad ra Z u9.1 U (upO (upO X 0 (((X 0) + 1) % 8)) 1 (k1Z (X 1))) (exZ S (I 1) (I 0 0)).2.2.2 u9.2.1 P u9.2.2 V N Y (upQ Q (X 0) S) ++ lngC ck oa (vp_updL D (zI 0).toNatClampNeg r9.toInt64)) := hD
  refine lv_goto (tgt := 20) hx hb dL_execute_8 (by decide) ?_
  refine x_iconst hx hb dL_execute_20 ?_
  exact W.widen (k := 1) (n := 6) (Nat.le_of_ble_eq_true rfl) (Nat.le_of_ble_eq_true rfl) (W.iret (v := _) hx hb hr (fun t9 ht9 hW9 => ⟨⟨_, ((Z, u9.1, U, (upO (upO X 0 (((X 0) + 1) % 8)) 1 (k1Z (X 1))), (exZ S (I 1) (I 0 0)).2.2.2, u9.2.1, P, u9.2.2, V, N, Y, (upQ Q (X 0) S)), (vp_updL D (zI 0).toNatClampNeg r9.toInt64)), rfl, (Or.inl ⟨rfl, r9, u9, hn9, rfl, rfl⟩), by rw [ht9]; exact hP, by rw [hAe]; exact hD⟩, hS.F ht9⟩) hS.2.2 dL_execute_21)

theorem wqL_syntaxErrorOffset : (Jvm.Cond.codeWith ({ cls := "BenchBrokerLaw", name := "syntaxErrorOffset", desc := "(LBenchBroker;[J)I" } : Jvm.MethodName) method_45_code (3 : Nat) (Option.some Jvm.ClassFile.FieldType.int) [((0 : Nat), (8 : Nat), (11 : Nat), (79 : Nat))]) ∈ GW := tq_7 67 rfl rfl
set_option maxHeartbeats 4000000 in
set_option maxRecDepth 100000 in
/-- the law's syntaxErrorOffset -/
theorem w_syntaxErrorOffset (l : Launch) (dg : va_G) (ck : Nat → ClassId) (ka : Nat → Nat) (ad ra : Nat → Nat → Nat) (Z O U X : Nat → Int) (S T P I : St) (V N Y : Int → Int) (Q : Nat → St) (oa : Nat) (D : Nat → Int64) (sz : Nat) (hz4 : -2147483648 ≤ Z 4 ∧ Z 4 < 2147483648) (hst : l.stackTraces = false) : Met l yL_syntaxErrorOffset (.codeWith yL_syntaxErrorOffset cL_syntaxErrorOffset 3 (some .int) [(0, 8, 11, 79)] :: GW) ({ frames := 7, cells := 1, slots := 6, locals := 115 }) (va_Pc [.ref ((ad 7) 0), .ref oa] (wrK dg ck ka sz (brkW ck ka ad ra Z O U X S T P I V N Y Q ++ lngC ck oa D))) (va_Qi (fun r (u : BU × (Nat → Int64)) => (r = zI 0 ∧ ∃ r1 : Int32, (r1 = zI (Z 4) ∧ Z 4 ≠ -1) ∧ u.1 = (Z, O, U, X, S, T, P, I, V, N, Y, Q) ∧ u.2 0 = r1.toInt64) ∨ (r = zI 1 ∧ (Z 4 = -1) ∧ u.1 = (Z, O, U, X, S, T, P, I, V, N, Y, Q))) (fun u t9 => wrQ dg sz (brkW ck ka ad ra Z O U X S T P I V N Y Q ++ lngC ck oa D) (brkU ck ka ad ra u.1 ++ lngC ck oa u.2) t9) (va_A (brkW ck ka ad ra Z O U X S T P I V N Y Q ++ lngC ck oa D) sz)) 1 6 (va_A (brkW ck ka ad ra Z O U X S T P I V N Y Q ++ lngC ck oa D) sz) := by
  refine x_ofWH (cc := cL_syntaxErrorOffset) (maxL := 3) (ret := (some .int)) (by decide) rfl ?_
  intro p e s m args below meth c s₁ B hml htab hv
  obtain ⟨rfl, ⟨hsz, hP, hK, hD0⟩, hC⟩ := hv
  have hx := B.exec
  have hb := B.bytes
  have hr := B.returns
  have hts := atoms_spec (ws := .codeWith yL_syntaxErrorOffset cL_syntaxErrorOffset 3 (some .int) [(0, 8, 11, 79)] :: GW) B.pre
  have htg : ∀ w ∈ GW, w.before _ s = true := fun w h => hts w (List.mem_cons_of_mem _ h)
  have hown : s.vm.findClass RL = some m.cls := findClass_of_methodNamed B.named
  have hlocks := B.notSynchronized
  subst hsz
  have hD := hD0.self (sz := s.heap.size)
  generalize hAe : va_A (brkW ck ka ad ra Z O U X S T P I V N Y Q ++ lngC ck oa D) s.heap.size = A at hD hC ⊢
  have hA : ∀ q : Nat, s.heap.size ≤ q → A q := fun q h => by rw [← hAe]; exact Or.inr h
  have hS : va_S A s.heap s.heap [] := va_S.rf
  have hP : va_P dg vwCl (brkW ck ka ad ra Z O U X S T P I V N Y Q ++ lngC ck oa D) s.heap := hP
  have hl := lv_entry ([.ref ((ad 7) 0), .ref oa]) (n := 3) (Nat.le_of_ble_eq_true rfl)
  rw [lg_entry_eq]
  generalize (lg_sl ([.ref ((ad 7) 0), .ref oa]) ++ List.replicate (3 - (lg_sl ([.ref ((ad 7) 0), .ref oa])).length) Slot.unset).toArray = ls at hl ⊢
  have hl : lv_has ls 3 [(0, .ref ((ad 7) 0)), (1, .ref oa)] := hl
  refine lv_aload_n hx hb dL_syntaxErrorOffset_0 rfl (lv_at hl 1 rfl) ?_
  refine x_iconst hx hb dL_syntaxErrorOffset_1 ?_
  refine lv_aload_n hx hb dL_syntaxErrorOffset_2 rfl (lv_at hl 0 rfl) ?_
  refine xl_calli (M := brkW ck ka ad ra Z O U X S T P I V N Y Q) (N := lngC ck oa D) (Mf := fun u : Unit => brkW ck ka ad ra Z O U X S T P I V N Y Q) (MX := fun u : Unit => brkW ck ka ad ra Z O U X S T P I V N Y Q) hP hD hS hA (fun hPm hDm => vx_runV (As := []) (rest := [.int (zI 0), .ref oa]) ⟨hx, hb, hml, hown, htg⟩ (x_syntaxErrorOffset l dg ck ka ad ra Z O U X S T P I V N Y Q  _ hz4 hst) (cwV 0 htg (gwV wq_1508 wq_1509 wq_1510 wq_1 wq_1511) rfl rfl rfl (by decide +kernel) ⟨Nat.le_of_ble_eq_true rfl, Nat.le_of_ble_eq_true rfl⟩) (wrK_preV hK hPm hDm hC hS hA 0 10 rfl rfl) rfl rfl hl.1 rfl (lv_room (Nat.le_of_ble_eq_true rfl)) dL_syntaxErrorOffset_3 ⟨Nat.le_of_ble_eq_true rfl, Nat.le_of_ble_eq_true rfl⟩) (fun E9 ce9 q9 u9 H locs hE9 hP hD hS g1 g2 g3 => ?_) (fun r9 u9 H locs hn9 hP hD hS => ?_)
  · obtain ⟨rfl, hc⟩ := hE9
    refine vx_catch (own := RL) (name := "java/util/NoSuchElementException") hown [] ⟨0, 8, 11, 79⟩ [] (by rw [htab]; rfl) (fun z hz => absurd hz List.not_mem_nil) (by decide) (by decide) (htg _ wq_880) (va_Nw.use rfl (hC.nw (w := .castable "java/util/NoSuchElementException" "java/util/NoSuchElementException") (by decide +kernel))) g1 g2 g3 ?_
    refine W.eq (g2 := F0 m 11 ls [.ref q9]) rfl ?_
    refine lv_astore_n (lv' := [(2, .ref q9), (0, .ref ((ad 7) 0)), (1, .ref oa)]) hx hb dL_syntaxErrorOffset_11 rfl hl (by decide) rfl (fun ls hl => ?_)
    refine x_iconst hx hb dL_syntaxErrorOffset_12 ?_
    exact W.widen (k := 1) (n := 6) (Nat.le_of_ble_eq_true rfl) (Nat.le_of_ble_eq_true rfl) (W.iret (v := _) hx hb hr (fun t9 ht9 hW9 => ⟨⟨_, ((Z, O, U, X, S, T, P, I, V, N, Y, Q), D), rfl, (Or.inr ⟨rfl, hc, rfl⟩), by rw [ht9]; exact hP, by rw [hAe]; exact hD⟩, hS.F ht9⟩) hS.2.2 dL_syntaxErrorOffset_13)
  have hP : va_P dg vwCl (brkW ck ka ad ra Z O U X S T P I V N Y Q ++ lngC ck oa D) H := hP
  have hD : va_D A (brkW ck ka ad ra Z O U X S T P I V N Y Q ++ lngC ck oa D) := hD
  refine lv_i2l hx hb dL_syntaxErrorOffset_6 rfl ?_
  refine va_last hx hb hK hP hD hS 166 5 rfl rfl (zI_in (z := 0) (by decide) (by decide)) dL_syntaxErrorOffset_7 (fun H locs hP hD hS => ?_)
  have hP : va_P dg vwCl (brkW ck ka ad ra Z O U X S T P I V N Y Q ++ lngC ck oa (vp_updL D (zI 0).toNatClampNeg r9.toInt64)) H := hP
  have hD : va_D A (brkW ck ka ad ra Z O U X S T P I V N Y Q ++ lngC ck oa (vp_updL D (zI 0).toNatClampNeg r9.toInt64)) := hD
  refine lv_goto (tgt := 14) hx hb dL_syntaxErrorOffset_8 (by decide) ?_
  refine x_iconst hx hb dL_syntaxErrorOffset_14 ?_
  exact W.widen (k := 1) (n := 6) (Nat.le_of_ble_eq_true rfl) (Nat.le_of_ble_eq_true rfl) (W.iret (v := _) hx hb hr (fun t9 ht9 hW9 => ⟨⟨_, ((Z, O, U, X, S, T, P, I, V, N, Y, Q), (vp_updL D (zI 0).toNatClampNeg r9.toInt64)), rfl, (Or.inl ⟨rfl, r9, hn9, rfl, rfl⟩), by rw [ht9]; exact hP, by rw [hAe]; exact hD⟩, hS.F ht9⟩) hS.2.2 dL_syntaxErrorOffset_15)

theorem wqL_rejectionReason : (Jvm.Cond.codeWith ({ cls := "BenchBrokerLaw", name := "rejectionReason", desc := "(LBenchBroker;[J)I" } : Jvm.MethodName) method_46_code (3 : Nat) (Option.some Jvm.ClassFile.FieldType.int) [((0 : Nat), (8 : Nat), (11 : Nat), (79 : Nat))]) ∈ GW := tq_7 74 rfl rfl
set_option maxHeartbeats 4000000 in
set_option maxRecDepth 100000 in
/-- the law's rejectionReason -/
theorem w_rejectionReason (l : Launch) (dg : va_G) (ck : Nat → ClassId) (ka : Nat → Nat) (ad ra : Nat → Nat → Nat) (Z O U X : Nat → Int) (S T P I : St) (V N Y : Int → Int) (Q : Nat → St) (oa : Nat) (D : Nat → Int64) (sz : Nat) (hz1 : -2147483648 ≤ Z 1 ∧ Z 1 < 2147483648) (hst : l.stackTraces = false) : Met l yL_rejectionReason (.codeWith yL_rejectionReason cL_rejectionReason 3 (some .int) [(0, 8, 11, 79)] :: GW) ({ frames := 7, cells := 1, slots := 6, locals := 115 }) (va_Pc [.ref ((ad 7) 0), .ref oa] (wrK dg ck ka sz (brkW ck ka ad ra Z O U X S T P I V N Y Q ++ lngC ck oa D))) (va_Qi (fun r (u : BU × (Nat → Int64)) => (r = zI 0 ∧ ∃ r1 : Int32, (r1 = zI (Z 1) ∧ Z 1 ≠ 0) ∧ u.1 = (Z, O, U, X, S, T, P, I, V, N, Y, Q) ∧ u.2 0 = r1.toInt64) ∨ (r = zI 1 ∧ (Z 1 = 0) ∧ u.1 = (Z, O, U, X, S, T, P, I, V, N, Y, Q))) (fun u t9 => wrQ dg sz (brkW ck ka ad ra Z O U X S T P I V N Y Q ++ lngC ck oa D) (brkU ck ka ad ra u.1 ++ lngC ck oa u.2) t9) (va_A (brkW ck ka ad ra Z O U X S T P I V N Y Q ++ lngC ck oa D) sz)) 1 6 (va_A (brkW ck ka ad ra Z O U X S T P I V N Y Q ++ lngC ck oa D) sz) := by
  refine x_ofWH (cc := cL_rejectionReason) (maxL := 3) (ret := (some .int)) (by decide) rfl ?_
  intro p e s m args below meth c s₁ B hml htab hv
  obtain ⟨rfl, ⟨hsz, hP, hK, hD0⟩, hC⟩ := hv
  have hx := B.exec
  have hb := B.bytes
  have hr := B.returns
  have hts := atoms_spec (ws := .codeWith yL_rejectionReason cL_rejectionReason 3 (some .int) [(0, 8, 11, 79)] :: GW) B.pre
  have htg : ∀ w ∈ GW, w.before _ s = true := fun w h => hts w (List.mem_cons_of_mem _ h)
  have hown : s.vm.findClass RL = some m.cls := findClass_of_methodNamed B.named
  have hlocks := B.notSynchronized
  subst hsz
  have hD := hD0.self (sz := s.heap.size)
  generalize hAe : va_A (brkW ck ka ad ra Z O U X S T P I V N Y Q ++ lngC ck oa D) s.heap.size = A at hD hC ⊢
  have hA : ∀ q : Nat, s.heap.size ≤ q → A q := fun q h => by rw [← hAe]; exact Or.inr h
  have hS : va_S A s.heap s.heap [] := va_S.rf
  have hP : va_P dg vwCl (brkW ck ka ad ra Z O U X S T P I V N Y Q ++ lngC ck oa D) s.heap := hP
  have hl := lv_entry ([.ref ((ad 7) 0), .ref oa]) (n := 3) (Nat.le_of_ble_eq_true rfl)
  rw [lg_entry_eq]
  generalize (lg_sl ([.ref ((ad 7) 0), .ref oa]) ++ List.replicate (3 - (lg_sl ([.ref ((ad 7) 0), .ref oa])).length) Slot.unset).toArray = ls at hl ⊢
  have hl : lv_has ls 3 [(0, .ref ((ad 7) 0)), (1, .ref oa)] := hl
  refine lv_aload_n hx hb dL_rejectionReason_0 rfl (lv_at hl 1 rfl) ?_
  refine x_iconst hx hb dL_rejectionReason_1 ?_
  refine lv_aload_n hx hb dL_rejectionReason_2 rfl (lv_at hl 0 rfl) ?_
  refine xl_calli (M := brkW ck ka ad ra Z O U X S T P I V N Y Q) (N := lngC ck oa D) (Mf := fun u : Unit => brkW ck ka ad ra Z O U X S T P I V N Y Q) (MX := fun u : Unit => brkW ck ka ad ra Z O U X S T P I V N Y Q) hP hD hS hA (fun hPm hDm => vx_runV (As := []) (rest := [.int (zI 0), .ref oa]) ⟨hx, hb, hml, hown, htg⟩ (x_rejectionReason l dg ck ka ad ra Z O U X S T P I V N Y Q  _ hz1 hst) (cwV 0 htg (gwV wq_1515 wq_1516 wq_1517 wq_1 wq_1518) rfl rfl rfl (by decide +kernel) ⟨Nat.le_of_ble_eq_true rfl, Nat.le_of_ble_eq_true rfl⟩) (wrK_preV hK hPm hDm hC hS hA 0 10 rfl rfl) rfl rfl hl.1 rfl (lv_room (Nat.le_of_ble_eq_true rfl)) dL_rejectionReason_3 ⟨Nat.le_of_ble_eq_true rfl, Nat.le_of_ble_eq_true rfl⟩) (fun E9 ce9 q9 u9 H locs hE9 hP hD hS g1 g2 g3 => ?_) (fun r9 u9 H locs hn9 hP hD hS => ?_)
  · obtain ⟨rfl, hc⟩ := hE9
    refine vx_catch (own := RL) (name := "java/util/NoSuchElementException") hown [] ⟨0, 8, 11, 79⟩ [] (by rw [htab]; rfl) (fun z hz => absurd hz List.not_mem_nil) (by decide) (by decide) (htg _ wq_880) (va_Nw.use rfl (hC.nw (w := .castable "java/util/NoSuchElementException" "java/util/NoSuchElementException") (by decide +kernel))) g1 g2 g3 ?_
    refine W.eq (g2 := F0 m 11 ls [.ref q9]) rfl ?_
    refine lv_astore_n (lv' := [(2, .ref q9), (0, .ref ((ad 7) 0)), (1, .ref oa)]) hx hb dL_rejectionReason_11 rfl hl (by decide) rfl (fun ls hl => ?_)
    refine x_iconst hx hb dL_rejectionReason_12 ?_
    exact W.widen (k := 1) (n := 6) (Nat.le_of_ble_eq_true rfl) (Nat.le_of_ble_eq_true rfl) (W.iret (v := _) hx hb hr (fun t9 ht9 hW9 => ⟨⟨_, ((Z, O, U, X, S, T, P, I, V, N, Y, Q), D), rfl, (Or.inr ⟨rfl, hc, rfl⟩), by rw [ht9]; exact hP, by rw [hAe]; exact hD⟩, hS.F ht9⟩) hS.2.2 dL_rejectionReason_13)
  have hP : va_P dg vwCl (brkW ck ka ad ra Z O U X S T P I V N Y Q ++ lngC ck oa D) H := hP
  have hD : va_D A (brkW ck ka ad ra Z O U X S T P I V N Y Q ++ lngC ck oa D) := hD
  refine lv_i2l hx hb dL_rejectionReason_6 rfl ?_
  refine va_last hx hb hK hP hD hS 166 5 rfl rfl (zI_in (z := 0) (by decide) (by decide)) dL_rejectionReason_7 (fun H locs hP hD hS => ?_)
  have hP : va_P dg vwCl (brkW ck ka ad ra Z O U X S T P I V N Y Q ++ lngC ck oa (vp_updL D (zI 0).toNatClampNeg r9.toInt64)) H := hP
  have hD : va_D A (brkW ck ka ad ra Z O U X S T P I V N Y Q ++ lngC ck oa (vp_updL D (zI 0).toNatClampNeg r9.toInt64)) := hD
  refine lv_goto (tgt := 14) hx hb dL_rejectionReason_8 (by decide) ?_
  refine x_iconst hx hb dL_rejectionReason_14 ?_
  exact W.widen (k := 1) (n := 6) (Nat.le_of_ble_eq_true rfl) (Nat.le_of_ble_eq_true rfl) (W.iret (v := _) hx hb hr (fun t9 ht9 hW9 => ⟨⟨_, ((Z, O, U, X, S, T, P, I, V, N, Y, Q), (vp_updL D (zI 0).toNatClampNeg r9.toInt64)), rfl, (Or.inl ⟨rfl, r9, hn9, rfl, rfl⟩), by rw [ht9]; exact hP, by rw [hAe]; exact hD⟩, hS.F ht9⟩) hS.2.2 dL_rejectionReason_15)

theorem wqL_rejectionDetail : (Jvm.Cond.codeWith ({ cls := "BenchBrokerLaw", name := "rejectionDetail", desc := "(LBenchBroker;[J)I" } : Jvm.MethodName) method_47_code (3 : Nat) (Option.some Jvm.ClassFile.FieldType.int) [((0 : Nat), (8 : Nat), (11 : Nat), (79 : Nat))]) ∈ GW := tq_7 81 rfl rfl
set_option maxHeartbeats 4000000 in
set_option maxRecDepth 100000 in
/-- the law's rejectionDetail -/
theorem w_rejectionDetail (l : Launch) (dg : va_G) (ck : Nat → ClassId) (ka : Nat → Nat) (ad ra : Nat → Nat → Nat) (Z O U X : Nat → Int) (S T P I : St) (V N Y : Int → Int) (Q : Nat → St) (oa : Nat) (D : Nat → Int64) (sz : Nat) (hz1 : -2147483648 ≤ Z 1 ∧ Z 1 < 2147483648) (hst : l.stackTraces = false) : Met l yL_rejectionDetail (.codeWith yL_rejectionDetail cL_rejectionDetail 3 (some .int) [(0, 8, 11, 79)] :: GW) ({ frames := 7, cells := 1, slots := 6, locals := 115 }) (va_Pc [.ref ((ad 7) 0), .ref oa] (wrK dg ck ka sz (brkW ck ka ad ra Z O U X S T P I V N Y Q ++ lngC ck oa D))) (va_Qi (fun r (u : BU × (Nat → Int64)) => (r = zI 0 ∧ ∃ r1 : Int32, (r1 = zI (Z 2) ∧ Z 1 ≠ 0) ∧ u.1 = (Z, O, U, X, S, T, P, I, V, N, Y, Q) ∧ u.2 0 = r1.toInt64) ∨ (r = zI 1 ∧ (Z 1 = 0) ∧ u.1 = (Z, O, U, X, S, T, P, I, V, N, Y, Q))) (fun u t9 => wrQ dg sz (brkW ck ka ad ra Z O U X S T P I V N Y Q ++ lngC ck oa D) (brkU ck ka ad ra u.1 ++ lngC ck oa u.2) t9) (va_A (brkW ck ka ad ra Z O U X S T P I V N Y Q ++ lngC ck oa D) sz)) 1 6 (va_A (brkW ck ka ad ra Z O U X S T P I V N Y Q ++ lngC ck oa D) sz) := by
  refine x_ofWH (cc := cL_rejectionDetail) (maxL := 3) (ret := (some .int)) (by decide) rfl ?_
  intro p e s m args below meth c s₁ B hml htab hv
  obtain ⟨rfl, ⟨hsz, hP, hK, hD0⟩, hC⟩ := hv
  have hx := B.exec
  have hb := B.bytes
  have hr := B.returns
  have hts := atoms_spec (ws := .codeWith yL_rejectionDetail cL_rejectionDetail 3 (some .int) [(0, 8, 11, 79)] :: GW) B.pre
  have htg : ∀ w ∈ GW, w.before _ s = true := fun w h => hts w (List.mem_cons_of_mem _ h)
  have hown : s.vm.findClass RL = some m.cls := findClass_of_methodNamed B.named
  have hlocks := B.notSynchronized
  subst hsz
  have hD := hD0.self (sz := s.heap.size)
  generalize hAe : va_A (brkW ck ka ad ra Z O U X S T P I V N Y Q ++ lngC ck oa D) s.heap.size = A at hD hC ⊢
  have hA : ∀ q : Nat, s.heap.size ≤ q → A q := fun q h => by rw [← hAe]; exact Or.inr h
  have hS : va_S A s.heap s.heap [] := va_S.rf
  have hP : va_P dg vwCl (brkW ck ka ad ra Z O U X S T P I V N Y Q ++ lngC ck oa D) s.heap := hP
  have hl := lv_entry ([.ref ((ad 7) 0), .ref oa]) (n := 3) (Nat.le_of_ble_eq_true rfl)
  rw [lg_entry_eq]
  generalize (lg_sl ([.ref ((ad 7) 0), .ref oa]) ++ List.replicate (3 - (lg_sl ([.ref ((ad 7) 0), .ref oa])).length) Slot.unset).toArray = ls at hl ⊢
  have hl : lv_has ls 3 [(0, .ref ((ad 7) 0)), (1, .ref oa)] := hl
  refine lv_aload_n hx hb dL_rejectionDetail_0 rfl (lv_at hl 1 rfl) ?_
  refine x_iconst hx hb dL_rejectionDetail_1 ?_
  refine lv_aload_n hx hb dL_rejectionDetail_2 rfl (lv_at hl 0 rfl) ?_
  refine xl_calli (M := brkW ck ka ad ra Z O U X S T P I V N Y Q) (N := lngC ck oa D) (Mf := fun u : Unit => brkW ck ka ad ra Z O U X S T P I V N Y Q) (MX := fun u : Unit => brkW ck ka ad ra Z O U X S T P I V N Y Q) hP hD hS hA (fun hPm hDm => vx_runV (As := []) (rest := [.int (zI 0), .ref oa]) ⟨hx, hb, hml, hown, htg⟩ (x_rejectionDetail l dg ck ka ad ra Z O U X S T P I V N Y Q  _ hz1 hst) (cwV 0 htg (gwV wq_1522 wq_1523 wq_1524 wq_1 wq_1525) rfl rfl rfl (by decide +kernel) ⟨Nat.le_of_ble_eq_true rfl, Nat.le_of_ble_eq_true rfl⟩) (wrK_preV hK hPm hDm hC hS hA 0 10 rfl rfl) rfl rfl hl.1 rfl (lv_room (Nat.le_of_ble_eq_true rfl)) dL_rejectionDetail_3 ⟨Nat.le_of_ble_eq_true rfl, Nat.le_of_ble_eq_true rfl⟩) (fun E9 ce9 q9 u9 H locs hE9 hP hD hS g1 g2 g3 => ?_) (fun r9 u9 H locs hn9 hP hD hS => ?_)
  · obtain ⟨rfl, hc⟩ := hE9
    refine vx_catch (own := RL) (name := "java/util/NoSuchElementException") hown [] ⟨0, 8, 11, 79⟩ [] (by rw [htab]; rfl) (fun z hz => absurd hz List.not_mem_nil) (by decide) (by decide) (htg _ wq_880) (va_Nw.use rfl (hC.nw (w := .castable "java/util/NoSuchElementException" "java/util/NoSuchElementException") (by decide +kernel))) g1 g2 g3 ?_
    refine W.eq (g2 := F0 m 11 ls [.ref q9]) rfl ?_
    refine lv_astore_n (lv' := [(2, .ref q9), (0, .ref ((ad 7) 0)), (1, .ref oa)]) hx hb dL_rejectionDetail_11 rfl hl (by decide) rfl (fun ls hl => ?_)
    refine x_iconst hx hb dL_rejectionDetail_12 ?_
    exact W.widen (k := 1) (n := 6) (Nat.le_of_ble_eq_true rfl) (Nat.le_of_ble_eq_true rfl) (W.iret (v := _) hx hb hr (fun t9 ht9 hW9 => ⟨⟨_, ((Z, O, U, X, S, T, P, I, V, N, Y, Q), D), rfl, (Or.inr ⟨rfl, hc, rfl⟩), by rw [ht9]; exact hP, by rw [hAe]; exact hD⟩, hS.F ht9⟩) hS.2.2 dL_rejectionDetail_13)
  have hP : va_P dg vwCl (brkW ck ka ad ra Z O U X S T P I V N Y Q ++ lngC ck oa D) H := hP
  have hD : va_D A (brkW ck ka ad ra Z O U X S T P I V N Y Q ++ lngC ck oa D) := hD
  refine lv_i2l hx hb dL_rejectionDetail_6 rfl ?_
  refine va_last hx hb hK hP hD hS 166 5 rfl rfl (zI_in (z := 0) (by decide) (by decide)) dL_rejectionDetail_7 (fun H locs hP hD hS => ?_)
  have hP : va_P dg vwCl (brkW ck ka ad ra Z O U X S T P I V N Y Q ++ lngC ck oa (vp_updL D (zI 0).toNatClampNeg r9.toInt64)) H := hP
  have hD : va_D A (brkW ck ka ad ra Z O U X S T P I V N Y Q ++ lngC ck oa (vp_updL D (zI 0).toNatClampNeg r9.toInt64)) := hD
  refine lv_goto (tgt := 14) hx hb dL_rejectionDetail_8 (by decide) ?_
  refine x_iconst hx hb dL_rejectionDetail_14 ?_
  exact W.widen (k := 1) (n := 6) (Nat.le_of_ble_eq_true rfl) (Nat.le_of_ble_eq_true rfl) (W.iret (v := _) hx hb hr (fun t9 ht9 hW9 => ⟨⟨_, ((Z, O, U, X, S, T, P, I, V, N, Y, Q), (vp_updL D (zI 0).toNatClampNeg r9.toInt64)), rfl, (Or.inl ⟨rfl, r9, hn9, rfl, rfl⟩), by rw [ht9]; exact hP, by rw [hAe]; exact hD⟩, hS.F ht9⟩) hS.2.2 dL_rejectionDetail_15)

theorem wqL_causeReason : (Jvm.Cond.codeWith ({ cls := "BenchBrokerLaw", name := "causeReason", desc := "(LBenchBroker;[J)I" } : Jvm.MethodName) method_48_code (3 : Nat) (Option.some Jvm.ClassFile.FieldType.int) [((0 : Nat), (8 : Nat), (11 : Nat), (79 : Nat))]) ∈ GW := tq_7 88 rfl rfl
set_option maxHeartbeats 4000000 in
set_option maxRecDepth 100000 in
/-- the law's causeReason -/
theorem w_causeReason (l : Launch) (dg : va_G) (ck : Nat → ClassId) (ka : Nat → Nat) (ad ra : Nat → Nat → Nat) (Z O U X : Nat → Int) (S T P I : St) (V N Y : Int → Int) (Q : Nat → St) (oa : Nat) (D : Nat → Int64) (sz : Nat) (hz1 : -2147483648 ≤ Z 1 ∧ Z 1 < 2147483648) (hst : l.stackTraces = false) : Met l yL_causeReason (.codeWith yL_causeReason cL_causeReason 3 (some .int) [(0, 8, 11, 79)] :: GW) ({ frames := 7, cells := 1, slots := 6, locals := 115 }) (va_Pc [.ref ((ad 7) 0), .ref oa] (wrK dg ck ka sz (brkW ck ka ad ra Z O U X S T P I V N Y Q ++ lngC ck oa D))) (va_Qi (fun r (u : BU × (Nat → Int64)) => (r = zI 0 ∧ ∃ r1 : Int32, (r1 = zI (Z 3) ∧ Z 1 = 12) ∧ u.1 = (Z, O, U, X, S, T, P, I, V, N, Y, Q) ∧ u.2 0 = r1.toInt64) ∨ (r = zI 1 ∧ (Z 1 ≠ 12) ∧ u.1 = (Z, O, U, X, S, T, P, I, V, N, Y, Q))) (fun u t9 => wrQ dg sz (brkW ck ka ad ra Z O U X S T P I V N Y Q ++ lngC ck oa D) (brkU ck ka ad ra u.1 ++ lngC ck oa u.2) t9) (va_A (brkW ck ka ad ra Z O U X S T P I V N Y Q ++ lngC ck oa D) sz)) 1 6 (va_A (brkW ck ka ad ra Z O U X S T P I V N Y Q ++ lngC ck oa D) sz) := by
  refine x_ofWH (cc := cL_causeReason) (maxL := 3) (ret := (some .int)) (by decide) rfl ?_
  intro p e s m args below meth c s₁ B hml htab hv
  obtain ⟨rfl, ⟨hsz, hP, hK, hD0⟩, hC⟩ := hv
  have hx := B.exec
  have hb := B.bytes
  have hr := B.returns
  have hts := atoms_spec (ws := .codeWith yL_causeReason cL_causeReason 3 (some .int) [(0, 8, 11, 79)] :: GW) B.pre
  have htg : ∀ w ∈ GW, w.before _ s = true := fun w h => hts w (List.mem_cons_of_mem _ h)
  have hown : s.vm.findClass RL = some m.cls := findClass_of_methodNamed B.named
  have hlocks := B.notSynchronized
  subst hsz
  have hD := hD0.self (sz := s.heap.size)
  generalize hAe : va_A (brkW ck ka ad ra Z O U X S T P I V N Y Q ++ lngC ck oa D) s.heap.size = A at hD hC ⊢
  have hA : ∀ q : Nat, s.heap.size ≤ q → A q := fun q h => by rw [← hAe]; exact Or.inr h
  have hS : va_S A s.heap s.heap [] := va_S.rf
  have hP : va_P dg vwCl (brkW ck ka ad ra Z O U X S T P I V N Y Q ++ lngC ck oa D) s.heap := hP
  have hl := lv_entry ([.ref ((ad 7) 0), .ref oa]) (n := 3) (Nat.le_of_ble_eq_true rfl)
  rw [lg_entry_eq]
  generalize (lg_sl ([.ref ((ad 7) 0), .ref oa]) ++ List.replicate (3 - (lg_sl ([.ref ((ad 7) 0), .ref oa])).length) Slot.unset).toArray = ls at hl ⊢
  have hl : lv_has ls 3 [(0, .ref ((ad 7) 0)), (1, .ref oa)] := hl
  refine lv_aload_n hx hb dL_causeReason_0 rfl (lv_at hl 1 rfl) ?_
  refine x_iconst hx hb dL_causeReason_1 ?_
  refine lv_aload_n hx hb dL_causeReason_2 rfl (lv_at hl 0 rfl) ?_
  refine xl_calli (M := brkW ck ka ad ra Z O U X S T P I V N Y Q) (N := lngC ck oa D) (Mf := fun u : Unit => brkW ck ka ad ra Z O U X S T P I V N Y Q) (MX := fun u : Unit => brkW ck ka ad ra Z O U X S T P I V N Y Q) hP hD hS hA (fun hPm hDm => vx_runV (As := []) (rest := [.int (zI 0), .ref oa]) ⟨hx, hb, hml, hown, htg⟩ (x_causeReason l dg ck ka ad ra Z O U X S T P I V N Y Q  _ hz1 hst) (cwV 0 htg (gwV wq_1529 wq_1530 wq_1531 wq_1 wq_1532) rfl rfl rfl (by decide +kernel) ⟨Nat.le_of_ble_eq_true rfl, Nat.le_of_ble_eq_true rfl⟩) (wrK_preV hK hPm hDm hC hS hA 0 10 rfl rfl) rfl rfl hl.1 rfl (lv_room (Nat.le_of_ble_eq_true rfl)) dL_causeReason_3 ⟨Nat.le_of_ble_eq_true rfl, Nat.le_of_ble_eq_true rfl⟩) (fun E9 ce9 q9 u9 H locs hE9 hP hD hS g1 g2 g3 => ?_) (fun r9 u9 H locs hn9 hP hD hS => ?_)
  · obtain ⟨rfl, hc⟩ := hE9
    refine vx_catch (own := RL) (name := "java/util/NoSuchElementException") hown [] ⟨0, 8, 11, 79⟩ [] (by rw [htab]; rfl) (fun z hz => absurd hz List.not_mem_nil) (by decide) (by decide) (htg _ wq_880) (va_Nw.use rfl (hC.nw (w := .castable "java/util/NoSuchElementException" "java/util/NoSuchElementException") (by decide +kernel))) g1 g2 g3 ?_
    refine W.eq (g2 := F0 m 11 ls [.ref q9]) rfl ?_
    refine lv_astore_n (lv' := [(2, .ref q9), (0, .ref ((ad 7) 0)), (1, .ref oa)]) hx hb dL_causeReason_11 rfl hl (by decide) rfl (fun ls hl => ?_)
    refine x_iconst hx hb dL_causeReason_12 ?_
    exact W.widen (k := 1) (n := 6) (Nat.le_of_ble_eq_true rfl) (Nat.le_of_ble_eq_true rfl) (W.iret (v := _) hx hb hr (fun t9 ht9 hW9 => ⟨⟨_, ((Z, O, U, X, S, T, P, I, V, N, Y, Q), D), rfl, (Or.inr ⟨rfl, hc, rfl⟩), by rw [ht9]; exact hP, by rw [hAe]; exact hD⟩, hS.F ht9⟩) hS.2.2 dL_causeReason_13)
  have hP : va_P dg vwCl (brkW ck ka ad ra Z O U X S T P I V N Y Q ++ lngC ck oa D) H := hP
  have hD : va_D A (brkW ck ka ad ra Z O U X S T P I V N Y Q ++ lngC ck oa D) := hD
  refine lv_i2l hx hb dL_causeReason_6 rfl ?_
  refine va_last hx hb hK hP hD hS 166 5 rfl rfl (zI_in (z := 0) (by decide) (by decide)) dL_causeReason_7 (fun H locs hP hD hS => ?_)
  have hP : va_P dg vwCl (brkW ck ka ad ra Z O U X S T P I V N Y Q ++ lngC ck oa (vp_updL D (zI 0).toNatClampNeg r9.toInt64)) H := hP
  have hD : va_D A (brkW ck ka ad ra Z O U X S T P I V N Y Q ++ lngC ck oa (vp_updL D (zI 0).toNatClampNeg r9.toInt64)) := hD
  refine lv_goto (tgt := 14) hx hb dL_causeReason_8 (by decide) ?_
  refine x_iconst hx hb dL_causeReason_14 ?_
  exact W.widen (k := 1) (n := 6) (Nat.le_of_ble_eq_true rfl) (Nat.le_of_ble_eq_true rfl) (W.iret (v := _) hx hb hr (fun t9 ht9 hW9 => ⟨⟨_, ((Z, O, U, X, S, T, P, I, V, N, Y, Q), (vp_updL D (zI 0).toNatClampNeg r9.toInt64)), rfl, (Or.inl ⟨rfl, r9, hn9, rfl, rfl⟩), by rw [ht9]; exact hP, by rw [hAe]; exact hD⟩, hS.F ht9⟩) hS.2.2 dL_causeReason_15)

theorem wqL_undo : (Jvm.Cond.codeWith ({ cls := "BenchBrokerLaw", name := "undo", desc := "(LBenchBroker;[J)I" } : Jvm.MethodName) method_49_code (3 : Nat) (Option.some Jvm.ClassFile.FieldType.int) [((0 : Nat), (8 : Nat), (11 : Nat), (151 : Nat))]) ∈ GW := tq_7 95 rfl rfl
set_option maxHeartbeats 4000000 in
set_option maxRecDepth 100000 in
/-- the law's undo -/
theorem w_undo (l : Launch) (dg : va_G) (ck : Nat → ClassId) (ka : Nat → Nat) (ad ra : Nat → Nat → Nat) (Z O U X : Nat → Int) (S T P I : St) (V N Y : Int → Int) (Q : Nat → St) (oa : Nat) (D : Nat → Int64) (sz : Nat) (hn : 0 ≤ X 0 ∧ X 0 < 8) (hz : 0 ≤ X 1 ∧ X 1 ≤ 8) (hq10 : ∀ k i, 0 ≤ Q k 10 i ∧ Q k 10 i ≤ 1) (hst : l.stackTraces = false) : Met l yL_undo (.codeWith yL_undo cL_undo 3 (some .int) [(0, 8, 11, 151)] :: GW) ({ frames := 7, cells := 1, slots := 6, locals := 115 }) (va_Pc [.ref ((ad 7) 0), .ref oa] (wrK dg ck ka sz (brkW ck ka ad ra Z O U X S T P I V N Y Q ++ lngC ck oa D))) (va_Qi (fun r (u : BU × (Nat → Int64)) => (r = zI 0 ∧ ∃ r1 : Int32, (r1 = zI (X 1 - 1) ∧ X 1 ≠ 0) ∧ u.1 = (Z, O, U, (upO (upO X 0 ((((X 0) + 8) - 1) % 8)) 1 ((X 1) - 1)), (Q ((((X 0) + 8) - 1) % 8).toNat), T, P, I, V, N, Y, Q) ∧ u.2 0 = r1.toInt64) ∨ (r = zI 1 ∧ (X 1 = 0) ∧ u.1 = (Z, O, U, X, S, T, P, I, V, N, Y, Q))) (fun u t9 => wrQ dg sz (brkW ck ka ad ra Z O U X S T P I V N Y Q ++ lngC ck oa D) (brkU ck ka ad ra u.1 ++ lngC ck oa u.2) t9) (va_A (brkW ck ka ad ra Z O U X S T P I V N Y Q ++ lngC ck oa D) sz)) 1 6 (va_A (brkW ck ka ad ra Z O U X S T P I V N Y Q ++ lngC ck oa D) sz) := by
  refine x_ofWH (cc := cL_undo) (maxL := 3) (ret := (some .int)) (by decide) rfl ?_
  intro p e s m args below meth c s₁ B hml htab hv
  obtain ⟨rfl, ⟨hsz, hP, hK, hD0⟩, hC⟩ := hv
  have hx := B.exec
  have hb := B.bytes
  have hr := B.returns
  have hts := atoms_spec (ws := .codeWith yL_undo cL_undo 3 (some .int) [(0, 8, 11, 151)] :: GW) B.pre
  have htg : ∀ w ∈ GW, w.before _ s = true := fun w h => hts w (List.mem_cons_of_mem _ h)
  have hown : s.vm.findClass RL = some m.cls := findClass_of_methodNamed B.named
  have hlocks := B.notSynchronized
  subst hsz
  have hD := hD0.self (sz := s.heap.size)
  generalize hAe : va_A (brkW ck ka ad ra Z O U X S T P I V N Y Q ++ lngC ck oa D) s.heap.size = A at hD hC ⊢
  have hA : ∀ q : Nat, s.heap.size ≤ q → A q := fun q h => by rw [← hAe]; exact Or.inr h
  have hS : va_S A s.heap s.heap [] := va_S.rf
  have hP : va_P dg vwCl (brkW ck ka ad ra Z O U X S T P I V N Y Q ++ lngC ck oa D) s.heap := hP
  have hl := lv_entry ([.ref ((ad 7) 0), .ref oa]) (n := 3) (Nat.le_of_ble_eq_true rfl)
  rw [lg_entry_eq]
  generalize (lg_sl ([.ref ((ad 7) 0), .ref oa]) ++ List.replicate (3 - (lg_sl ([.ref ((ad 7) 0), .ref oa])).length) Slot.unset).toArray = ls at hl ⊢
  have hl : lv_has ls 3 [(0, .ref ((ad 7) 0)), (1, .ref oa)] := hl
  refine lv_aload_n hx hb dL_undo_0 rfl (lv_at hl 1 rfl) ?_
  refine x_iconst hx hb dL_undo_1 ?_
  refine lv_aload_n hx hb dL_undo_2 rfl (lv_at hl 0 rfl) ?_
  refine xl_calli (M := brkW ck ka ad ra Z O U X S T P I V N Y Q) (N := lngC ck oa D) (Mf := fun u : Unit => brkW ck ka ad ra Z O U (upO (upO X 0 ((((X 0) + 8) - 1) % 8)) 1 ((X 1) - 1)) (Q ((((X 0) + 8) - 1) % 8).toNat) T P I V N Y Q) (MX := fun u : Unit => brkW ck ka ad ra Z O U X S T P I V N Y Q) hP hD hS hA (fun hPm hDm => vx_runV (As := []) (rest := [.int (zI 0), .ref oa]) ⟨hx, hb, hml, hown, htg⟩ (x_undo l dg ck ka ad ra Z O U X S T P I V N Y Q  _ hn hz hq10 hst) (cwV 0 htg (gwV wq_1536 wq_1537 wq_1538 wq_1 wq_1539) rfl rfl rfl (by decide +kernel) ⟨Nat.le_of_ble_eq_true rfl, Nat.le_of_ble_eq_true rfl⟩) (wrK_preV hK hPm hDm hC hS hA 0 10 rfl rfl) rfl rfl hl.1 rfl (lv_room (Nat.le_of_ble_eq_true rfl)) dL_undo_3 ⟨Nat.le_of_ble_eq_true rfl, Nat.le_of_ble_eq_true rfl⟩) (fun E9 ce9 q9 u9 H locs hE9 hP hD hS g1 g2 g3 => ?_) (fun r9 u9 H locs hn9 hP hD hS => ?_)
  · obtain ⟨rfl, hc⟩ := hE9
    refine vx_catch (own := RL) (name := "java/lang/IllegalStateException") hown [] ⟨0, 8, 11, 151⟩ [] (by rw [htab]; rfl) (fun z hz => absurd hz List.not_mem_nil) (by decide) (by decide) (htg _ wq_1409) (va_Nw.use rfl (hC.nw (w := .castable "java/lang/IllegalStateException" "java/lang/IllegalStateException") (by decide +kernel))) g1 g2 g3 ?_
    refine W.eq (g2 := F0 m 11 ls [.ref q9]) rfl ?_
    refine lv_astore_n (lv' := [(2, .ref q9), (0, .ref ((ad 7) 0)), (1, .ref oa)]) hx hb dL_undo_11 rfl hl (by decide) rfl (fun ls hl => ?_)
    refine x_iconst hx hb dL_undo_12 ?_
    exact W.widen (k := 1) (n := 6) (Nat.le_of_ble_eq_true rfl) (Nat.le_of_ble_eq_true rfl) (W.iret (v := _) hx hb hr (fun t9 ht9 hW9 => ⟨⟨_, ((Z, O, U, X, S, T, P, I, V, N, Y, Q), D), rfl, (Or.inr ⟨rfl, hc, rfl⟩), by rw [ht9]; exact hP, by rw [hAe]; exact hD⟩, hS.F ht9⟩) hS.2.2 dL_undo_13)
  have hP : va_P dg vwCl (brkW ck ka ad ra Z O U (upO (upO X 0 ((((X 0) + 8) - 1) % 8)) 1 ((X 1) - 1)) (Q ((((X 0) + 8) - 1) % 8).toNat) T P I V N Y Q ++ lngC ck oa D) H := hP
  have hD : va_D A (brkW ck ka ad ra Z O U (upO (upO X 0 ((((X 0) + 8) - 1) % 8)) 1 ((X 1) - 1)) (Q ((((X 0) + 8) - 1) % 8).toNat) T P I V N Y Q ++ lngC ck oa D) := hD
  refine lv_i2l hx hb dL_undo_6 rfl ?_
  refine va_last hx hb hK hP hD hS 166 5 rfl rfl (zI_in (z := 0) (by decide) (by decide)) dL_undo_7 (fun H locs hP hD hS => ?_)
  have hP : va_P dg vwCl (brkW ck ka ad ra Z O U (upO (upO X 0 ((((X 0) + 8) - 1) % 8)) 1 ((X 1) - 1)) (Q ((((X 0) + 8) - 1) % 8).toNat) T P I V N Y Q ++ lngC ck oa (vp_updL D (zI 0).toNatClampNeg r9.toInt64)) H := hP
  have hD : va_D A (brkW ck ka ad ra Z O U (upO (upO X 0 ((((X 0) + 8) - 1) % 8)) 1 ((X 1) - 1)) (Q ((((X 0) + 8) - 1) % 8).toNat) T P I V N Y Q ++ lngC ck oa (vp_updL D (zI 0).toNatClampNeg r9.toInt64)) := hD
  refine lv_goto (tgt := 14) hx hb dL_undo_8 (by decide) ?_
  refine x_iconst hx hb dL_undo_14 ?_
  exact W.widen (k := 1) (n := 6) (Nat.le_of_ble_eq_true rfl) (Nat.le_of_ble_eq_true rfl) (W.iret (v := _) hx hb hr (fun t9 ht9 hW9 => ⟨⟨_, ((Z, O, U, (upO (upO X 0 ((((X 0) + 8) - 1) % 8)) 1 ((X 1) - 1)), (Q ((((X 0) + 8) - 1) % 8).toNat), T, P, I, V, N, Y, Q), (vp_updL D (zI 0).toNatClampNeg r9.toInt64)), rfl, (Or.inl ⟨rfl, r9, hn9, rfl, rfl⟩), by rw [ht9]; exact hP, by rw [hAe]; exact hD⟩, hS.F ht9⟩) hS.2.2 dL_undo_15)

theorem wqL_restoreSnapshot : (Jvm.Cond.codeWith ({ cls := "BenchBrokerLaw", name := "restoreSnapshot", desc := "(LBenchBroker;[J)I" } : Jvm.MethodName) method_50_code (3 : Nat) (Option.some Jvm.ClassFile.FieldType.int) [((0 : Nat), (8 : Nat), (11 : Nat), (151 : Nat))]) ∈ GW := tq_7 106 rfl rfl
set_option maxHeartbeats 4000000 in
set_option maxRecDepth 100000 in
/-- the law's restoreSnapshot -/
theorem w_restoreSnapshot (l : Launch) (dg : va_G) (ck : Nat → ClassId) (ka : Nat → Nat) (ad ra : Nat → Nat → Nat) (Z O U X : Nat → Int) (S T P I : St) (V N Y : Int → Int) (Q : Nat → St) (oa : Nat) (D : Nat → Int64) (sz : Nat) (hz0 : 0 ≤ Z 0 ∧ Z 0 ≤ 1) (hp10 : ∀ i, 0 ≤ P 10 i ∧ P 10 i ≤ 1) (hst : l.stackTraces = false) : Met l yL_restoreSnapshot (.codeWith yL_restoreSnapshot cL_restoreSnapshot 3 (some .int) [(0, 8, 11, 151)] :: GW) ({ frames := 7, cells := 1, slots := 6, locals := 115 }) (va_Pc [.ref ((ad 7) 0), .ref oa] (wrK dg ck ka sz (brkW ck ka ad ra Z O U X S T P I V N Y Q ++ lngC ck oa D))) (va_Qi (fun r (u : BU × (Nat → Int64)) => (r = zI 0 ∧ ∃ r1 : Int32, (r1 = zI (P 0 0) ∧ Z 0 ≠ 0) ∧ u.1 = (Z, O, U, (upO X 1 0), P, T, P, I, V, N, Y, Q) ∧ u.2 0 = r1.toInt64) ∨ (r = zI 1 ∧ (Z 0 = 0) ∧ u.1 = (Z, O, U, X, S, T, P, I, V, N, Y, Q))) (fun u t9 => wrQ dg sz (brkW ck ka ad ra Z O U X S T P I V N Y Q ++ lngC ck oa D) (brkU ck ka ad ra u.1 ++ lngC ck oa u.2) t9) (va_A (brkW ck ka ad ra Z O U X S T P I V N Y Q ++ lngC ck oa D) sz)) 1 6 (va_A (brkW ck ka ad ra Z O U X S T P I V N Y Q ++ lngC ck oa D) sz) := by
  refine x_ofWH (cc := cL_restoreSnapshot) (maxL := 3) (ret := (some .int)) (by decide) rfl ?_
  intro p e s m args below meth c s₁ B hml htab hv
  obtain ⟨rfl, ⟨hsz, hP, hK, hD0⟩, hC⟩ := hv
  have hx := B.exec
  have hb := B.bytes
  have hr := B.returns
  have hts := atoms_spec (ws := .codeWith yL_restoreSnapshot cL_restoreSnapshot 3 (some .int) [(0, 8, 11, 151)] :: GW) B.pre
  have htg : ∀ w ∈ GW, w.before _ s = true := fun w h => hts w (List.mem_cons_of_mem _ h)
  have hown : s.vm.findClass RL = some m.cls := findClass_of_methodNamed B.named
  have hlocks := B.notSynchronized
  subst hsz
  have hD := hD0.self (sz := s.heap.size)
  generalize hAe : va_A (brkW ck ka ad ra Z O U X S T P I V N Y Q ++ lngC ck oa D) s.heap.size = A at hD hC ⊢
  have hA : ∀ q : Nat, s.heap.size ≤ q → A q := fun q h => by rw [← hAe]; exact Or.inr h
  have hS : va_S A s.heap s.heap [] := va_S.rf
  have hP : va_P dg vwCl (brkW ck ka ad ra Z O U X S T P I V N Y Q ++ lngC ck oa D) s.heap := hP
  have hl := lv_entry ([.ref ((ad 7) 0), .ref oa]) (n := 3) (Nat.le_of_ble_eq_true rfl)
  rw [lg_entry_eq]
  generalize (lg_sl ([.ref ((ad 7) 0), .ref oa]) ++ List.replicate (3 - (lg_sl ([.ref ((ad 7) 0), .ref oa])).length) Slot.unset).toArray = ls at hl ⊢
  have hl : lv_has ls 3 [(0, .ref ((ad 7) 0)), (1, .ref oa)] := hl
  refine lv_aload_n hx hb dL_restoreSnapshot_0 rfl (lv_at hl 1 rfl) ?_
  refine x_iconst hx hb dL_restoreSnapshot_1 ?_
  refine lv_aload_n hx hb dL_restoreSnapshot_2 rfl (lv_at hl 0 rfl) ?_
  refine xl_calli (M := brkW ck ka ad ra Z O U X S T P I V N Y Q) (N := lngC ck oa D) (Mf := fun u : Unit => brkW ck ka ad ra Z O U (upO X 1 0) P T P I V N Y Q) (MX := fun u : Unit => brkW ck ka ad ra Z O U X S T P I V N Y Q) hP hD hS hA (fun hPm hDm => vx_runV (As := []) (rest := [.int (zI 0), .ref oa]) ⟨hx, hb, hml, hown, htg⟩ (x_restoreSnapshot l dg ck ka ad ra Z O U X S T P I V N Y Q  _ hz0 hp10 hst) (cwV 0 htg (gwV wq_1547 wq_1548 wq_1549 wq_1 wq_1550) rfl rfl rfl (by decide +kernel) ⟨Nat.le_of_ble_eq_true rfl, Nat.le_of_ble_eq_true rfl⟩) (wrK_preV hK hPm hDm hC hS hA 0 10 rfl rfl) rfl rfl hl.1 rfl (lv_room (Nat.le_of_ble_eq_true rfl)) dL_restoreSnapshot_3 ⟨Nat.le_of_ble_eq_true rfl, Nat.le_of_ble_eq_true rfl⟩) (fun E9 ce9 q9 u9 H locs hE9 hP hD hS g1 g2 g3 => ?_) (fun r9 u9 H locs hn9 hP hD hS => ?_)
  · obtain ⟨rfl, hc⟩ := hE9
    refine vx_catch (own := RL) (name := "java/lang/IllegalStateException") hown [] ⟨0, 8, 11, 151⟩ [] (by rw [htab]; rfl) (fun z hz => absurd hz List.not_mem_nil) (by decide) (by decide) (htg _ wq_1409) (va_Nw.use rfl (hC.nw (w := .castable "java/lang/IllegalStateException" "java/lang/IllegalStateException") (by decide +kernel))) g1 g2 g3 ?_
    refine W.eq (g2 := F0 m 11 ls [.ref q9]) rfl ?_
    refine lv_astore_n (lv' := [(2, .ref q9), (0, .ref ((ad 7) 0)), (1, .ref oa)]) hx hb dL_restoreSnapshot_11 rfl hl (by decide) rfl (fun ls hl => ?_)
    refine x_iconst hx hb dL_restoreSnapshot_12 ?_
    exact W.widen (k := 1) (n := 6) (Nat.le_of_ble_eq_true rfl) (Nat.le_of_ble_eq_true rfl) (W.iret (v := _) hx hb hr (fun t9 ht9 hW9 => ⟨⟨_, ((Z, O, U, X, S, T, P, I, V, N, Y, Q), D), rfl, (Or.inr ⟨rfl, hc, rfl⟩), by rw [ht9]; exact hP, by rw [hAe]; exact hD⟩, hS.F ht9⟩) hS.2.2 dL_restoreSnapshot_13)
  have hP : va_P dg vwCl (brkW ck ka ad ra Z O U (upO X 1 0) P T P I V N Y Q ++ lngC ck oa D) H := hP
  have hD : va_D A (brkW ck ka ad ra Z O U (upO X 1 0) P T P I V N Y Q ++ lngC ck oa D) := hD
  refine lv_i2l hx hb dL_restoreSnapshot_6 rfl ?_
  refine va_last hx hb hK hP hD hS 166 5 rfl rfl (zI_in (z := 0) (by decide) (by decide)) dL_restoreSnapshot_7 (fun H locs hP hD hS => ?_)
  have hP : va_P dg vwCl (brkW ck ka ad ra Z O U (upO X 1 0) P T P I V N Y Q ++ lngC ck oa (vp_updL D (zI 0).toNatClampNeg r9.toInt64)) H := hP
  have hD : va_D A (brkW ck ka ad ra Z O U (upO X 1 0) P T P I V N Y Q ++ lngC ck oa (vp_updL D (zI 0).toNatClampNeg r9.toInt64)) := hD
  refine lv_goto (tgt := 14) hx hb dL_restoreSnapshot_8 (by decide) ?_
  refine x_iconst hx hb dL_restoreSnapshot_14 ?_
  exact W.widen (k := 1) (n := 6) (Nat.le_of_ble_eq_true rfl) (Nat.le_of_ble_eq_true rfl) (W.iret (v := _) hx hb hr (fun t9 ht9 hW9 => ⟨⟨_, ((Z, O, U, (upO X 1 0), P, T, P, I, V, N, Y, Q), (vp_updL D (zI 0).toNatClampNeg r9.toInt64)), rfl, (Or.inl ⟨rfl, r9, hn9, rfl, rfl⟩), by rw [ht9]; exact hP, by rw [hAe]; exact hD⟩, hS.F ht9⟩) hS.2.2 dL_restoreSnapshot_15)
