/-! the law's own methods: calls that ask -/

theorem wqL_rowOf : (Jvm.Cond.codeWith ({ cls := "BenchBrokerLaw", name := "rowOf", desc := "(LBenchBroker;I)I" } : Jvm.MethodName) method_10_code (3 : Nat) (Option.some Jvm.ClassFile.FieldType.int) [((0 : Nat), (5 : Nat), (6 : Nat), (20 : Nat))]) ∈ GW := tq_6 6 rfl rfl
set_option maxHeartbeats 4000000 in
set_option maxRecDepth 100000 in
/-- the law's rowOf -/
theorem w_rowOf (l : Launch) (dg : va_G) (ck : Nat → ClassId) (ka : Nat → Nat) (ad ra : Nat → Nat → Nat) (S : St) (X : Nat → Int) (Q : Nat → St) (P : St) (zs : Int) (b : BU) (x : Int) (sz : Nat) {n : Int} (hκ : KI n S X Q P zs) (hR : RO S X Q P zs b)  (rg_x : -2147483648 ≤ x ∧ x < 2147483648) (hst : l.stackTraces = false) : Met l yL_rowOf (.codeWith yL_rowOf cL_rowOf 3 (some .int) [(0, 5, 6, 20)] :: GW) ({ frames := 8, cells := 1, slots := 6, locals := 137 }) (va_Pc [.ref ((ad 7) 0), .int (zI x)] (wrK dg ck ka sz (brkU ck ka ad ra b))) (va_Qi (fun r (u : BU) => r = zI (vRow S x) ∧ RO S X Q P zs u) (fun u t9 => wrQ dg sz (brkU ck ka ad ra b) (brkU ck ka ad ra u) t9) (va_A (brkU ck ka ad ra b) sz)) 1 6 (va_A (brkU ck ka ad ra b) sz) := by
  obtain ⟨Z, O, U, X', S', T, P', I, V, N, Y, Q'⟩ := b
  obtain ⟨e1, e2, e3, e4, e5, ⟨hln, htx, hkv⟩, hu0, hY⟩ := hR
  have e1 : S = S' := e1
  have e2 : X = X' := e2
  have e3 : Q = Q' := e3
  have e4 : P = P' := e4
  have e5 : zs = Z 0 := e5
  subst e1 e2 e3 e4 e5
  have hln : 0 ≤ I 0 0 ∧ I 0 0 ≤ 60 := hln
  have htx : ∀ i, 0 ≤ i → i < 60 → 0 ≤ I 1 i ∧ I 1 i ≤ 126 := htx
  have hkv : 0 ≤ I 0 2 ∧ I 0 2 ≤ 9 := hkv
  have hu0 : 0 ≤ U 0 ∧ U 0 ≤ 16 := hu0
  have hY : y7Z Y := hY
  obtain ⟨⟨hV, hV2⟩, ⟨hn, hz⟩, hq10, hhist, hz0, hp10, hsn⟩ := id hκ
  have hI := hV.bd
  have hs10 : ∀ i, 0 ≤ S 10 i ∧ S 10 i ≤ 1 := hI.2.2.2.2.2.2.2.2.2.2.2.2.2.1
  refine x_ofWH (cc := cL_rowOf) (maxL := 3) (ret := (some .int)) (by decide) rfl ?_
  intro p e s m args below meth c s₁ B hml htab hv
  obtain ⟨rfl, ⟨hsz, hP, hK, hD0⟩, hC⟩ := hv
  have hx := B.exec
  have hb := B.bytes
  have hr := B.returns
  have hts := atoms_spec (ws := .codeWith yL_rowOf cL_rowOf 3 (some .int) [(0, 5, 6, 20)] :: GW) B.pre
  have htg : ∀ w ∈ GW, w.before _ s = true := fun w h => hts w (List.mem_cons_of_mem _ h)
  have hown : s.vm.findClass RL = some m.cls := findClass_of_methodNamed B.named
  have hlocks := B.notSynchronized
  subst hsz
  have hD := hD0.self (sz := s.heap.size)
  generalize hAe : va_A (brkU ck ka ad ra (Z, O, U, X, S, T, P, I, V, N, Y, Q)) s.heap.size = A at hD hC ⊢
  have hA : ∀ q : Nat, s.heap.size ≤ q → A q := fun q h => by rw [← hAe]; exact Or.inr h
  have hS : va_S A s.heap s.heap [] := va_S.rf
  have hP : va_P dg vwCl (brkW ck ka ad ra Z O U X S T P I V N Y Q) s.heap := hP
  have hD : va_D A (brkW ck ka ad ra Z O U X S T P I V N Y Q) := hD
  have hl := lv_entry ([.ref ((ad 7) 0), .int (zI x)]) (n := 3) (Nat.le_of_ble_eq_true rfl)
  rw [lg_entry_eq]
  generalize (lg_sl ([.ref ((ad 7) 0), .int (zI x)]) ++ List.replicate (3 - (lg_sl ([.ref ((ad 7) 0), .int (zI x)])).length) Slot.unset).toArray = ls at hl ⊢
  have hl : lv_has ls 3 [(0, .ref ((ad 7) 0)), (1, .int (zI x))] := hl
  refine lv_aload_n hx hb dL_rowOf_0 rfl (lv_at hl 0 rfl) ?_
  refine lv_iload_n hx hb dL_rowOf_1 rfl (lv_at hl 1 rfl) ?_
  refine xl_calli0 (M := brkW ck ka ad ra Z O U X S T P I V N Y Q) (Mf := fun u : Unit => brkW ck ka ad ra Z O U X S T P I V N Y Q) (MX := fun u : Unit => brkW ck ka ad ra Z O U X S T P I V N Y Q) hP hD hS hA (fun hPm hDm => vx_runV (As := [.int (zI x)]) (rest := []) ⟨hx, hb, hml, hown, htg⟩ (x_rowOf l dg ck ka ad ra Z O U X S T P I V N Y Q x _ hI rg_x hst) (cwV 1 htg (gwV wq_1207 wq_1208 wq_1209 wq_1 wq_1210) rfl rfl rfl (by decide +kernel) ⟨Nat.le_of_ble_eq_true rfl, Nat.le_of_ble_eq_true rfl⟩) (wrK_preV hK hPm hDm hC hS hA 0 10 rfl rfl) rfl rfl hl.1 rfl (lv_room (Nat.le_of_ble_eq_true rfl)) dL_rowOf_2 ⟨Nat.le_of_ble_eq_true rfl, Nat.le_of_ble_eq_true rfl⟩) (fun E9 ce9 q9 u9 H locs hE9 hP hD hS g1 g2 g3 => ?_) (fun r9 u9 H locs hn9 hP hD hS => ?_)
  · obtain ⟨rfl, hc⟩ := hE9
    refine vx_catch (own := RL) (name := "java/lang/IndexOutOfBoundsException") hown [] ⟨0, 5, 6, 20⟩ [] (by rw [htab]; rfl) (fun z hz => absurd hz List.not_mem_nil) (by decide) (by decide) (htg _ wq_341) (va_Nw.use rfl (hC.nw (w := .castable "java/lang/IndexOutOfBoundsException" "java/lang/IndexOutOfBoundsException") (by decide +kernel))) g1 g2 g3 ?_
    refine W.eq (g2 := F0 m 6 ls [.ref q9]) rfl ?_
    refine lv_astore_n (lv' := [(2, .ref q9), (0, .ref ((ad 7) 0)), (1, .int (zI x))]) hx hb dL_rowOf_6 rfl hl (by decide) rfl (fun ls hl => ?_)
    refine x_bipush hx hb dL_rowOf_7 (by decide) ?_
    exact W.widen (k := 1) (n := 6) (Nat.le_of_ble_eq_true rfl) (Nat.le_of_ble_eq_true rfl) (W.iret (v := _) hx hb hr (fun t9 ht9 hW9 => ⟨⟨_, ((Z, O, U, X, S, T, P, I, V, N, Y, Q)), rfl, ⟨congrArg zI (if_neg hc).symm, ⟨rfl, rfl, rfl, rfl, rfl, ⟨hln, htx, hkv⟩, hu0, hY⟩⟩, by rw [ht9]; exact hP, by rw [hAe]; exact hD⟩, hS.F ht9⟩) hS.2.2 dL_rowOf_9)
  have hP : va_P dg vwCl (brkW ck ka ad ra Z O U X S T P I V N Y Q) H := hP
  have hD : va_D A (brkW ck ka ad ra Z O U X S T P I V N Y Q) := hD
  exact W.widen (k := 1) (n := 6) (Nat.le_of_ble_eq_true rfl) (Nat.le_of_ble_eq_true rfl) (W.iret (v := _) hx hb hr (fun t9 ht9 hW9 => ⟨⟨_, ((Z, O, U, X, S, T, P, I, V, N, Y, Q)), rfl, ⟨hn9.1.trans (congrArg zI (if_pos hn9.2).symm), ⟨rfl, rfl, rfl, rfl, rfl, ⟨hln, htx, hkv⟩, hu0, hY⟩⟩, by rw [ht9]; exact hP, by rw [hAe]; exact hD⟩, hS.F ht9⟩) hS.2.2 dL_rowOf_5)

theorem wqL_columnOf : (Jvm.Cond.codeWith ({ cls := "BenchBrokerLaw", name := "columnOf", desc := "(LBenchBroker;I)I" } : Jvm.MethodName) method_11_code (3 : Nat) (Option.some Jvm.ClassFile.FieldType.int) [((0 : Nat), (5 : Nat), (6 : Nat), (20 : Nat))]) ∈ GW := tq_6 13 rfl rfl
set_option maxHeartbeats 4000000 in
set_option maxRecDepth 100000 in
/-- the law's columnOf -/
theorem w_columnOf (l : Launch) (dg : va_G) (ck : Nat → ClassId) (ka : Nat → Nat) (ad ra : Nat → Nat → Nat) (S : St) (X : Nat → Int) (Q : Nat → St) (P : St) (zs : Int) (b : BU) (x : Int) (sz : Nat) {n : Int} (hκ : KI n S X Q P zs) (hR : RO S X Q P zs b)  (rg_x : -2147483648 ≤ x ∧ x < 2147483648) (hst : l.stackTraces = false) : Met l yL_columnOf (.codeWith yL_columnOf cL_columnOf 3 (some .int) [(0, 5, 6, 20)] :: GW) ({ frames := 8, cells := 1, slots := 6, locals := 137 }) (va_Pc [.ref ((ad 7) 0), .int (zI x)] (wrK dg ck ka sz (brkU ck ka ad ra b))) (va_Qi (fun r (u : BU) => r = zI (vCol S x) ∧ RO S X Q P zs u) (fun u t9 => wrQ dg sz (brkU ck ka ad ra b) (brkU ck ka ad ra u) t9) (va_A (brkU ck ka ad ra b) sz)) 1 6 (va_A (brkU ck ka ad ra b) sz) := by
  obtain ⟨Z, O, U, X', S', T, P', I, V, N, Y, Q'⟩ := b
  obtain ⟨e1, e2, e3, e4, e5, ⟨hln, htx, hkv⟩, hu0, hY⟩ := hR
  have e1 : S = S' := e1
  have e2 : X = X' := e2
  have e3 : Q = Q' := e3
  have e4 : P = P' := e4
  have e5 : zs = Z 0 := e5
  subst e1 e2 e3 e4 e5
  have hln : 0 ≤ I 0 0 ∧ I 0 0 ≤ 60 := hln
  have htx : ∀ i, 0 ≤ i → i < 60 → 0 ≤ I 1 i ∧ I 1 i ≤ 126 := htx
  have hkv : 0 ≤ I 0 2 ∧ I 0 2 ≤ 9 := hkv
  have hu0 : 0 ≤ U 0 ∧ U 0 ≤ 16 := hu0
  have hY : y7Z Y := hY
  obtain ⟨⟨hV, hV2⟩, ⟨hn, hz⟩, hq10, hhist, hz0, hp10, hsn⟩ := id hκ
  have hI := hV.bd
  have hs10 : ∀ i, 0 ≤ S 10 i ∧ S 10 i ≤ 1 := hI.2.2.2.2.2.2.2.2.2.2.2.2.2.1
  refine x_ofWH (cc := cL_columnOf) (maxL := 3) (ret := (some .int)) (by decide) rfl ?_
  intro p e s m args below meth c s₁ B hml htab hv
  obtain ⟨rfl, ⟨hsz, hP, hK, hD0⟩, hC⟩ := hv
  have hx := B.exec
  have hb := B.bytes
  have hr := B.returns
  have hts := atoms_spec (ws := .codeWith yL_columnOf cL_columnOf 3 (some .int) [(0, 5, 6, 20)] :: GW) B.pre
  have htg : ∀ w ∈ GW, w.before _ s = true := fun w h => hts w (List.mem_cons_of_mem _ h)
  have hown : s.vm.findClass RL = some m.cls := findClass_of_methodNamed B.named
  have hlocks := B.notSynchronized
  subst hsz
  have hD := hD0.self (sz := s.heap.size)
  generalize hAe : va_A (brkU ck ka ad ra (Z, O, U, X, S, T, P, I, V, N, Y, Q)) s.heap.size = A at hD hC ⊢
  have hA : ∀ q : Nat, s.heap.size ≤ q → A q := fun q h => by rw [← hAe]; exact Or.inr h
  have hS : va_S A s.heap s.heap [] := va_S.rf
  have hP : va_P dg vwCl (brkW ck ka ad ra Z O U X S T P I V N Y Q) s.heap := hP
  have hD : va_D A (brkW ck ka ad ra Z O U X S T P I V N Y Q) := hD
  have hl := lv_entry ([.ref ((ad 7) 0), .int (zI x)]) (n := 3) (Nat.le_of_ble_eq_true rfl)
  rw [lg_entry_eq]
  generalize (lg_sl ([.ref ((ad 7) 0), .int (zI x)]) ++ List.replicate (3 - (lg_sl ([.ref ((ad 7) 0), .int (zI x)])).length) Slot.unset).toArray = ls at hl ⊢
  have hl : lv_has ls 3 [(0, .ref ((ad 7) 0)), (1, .int (zI x))] := hl
  refine lv_aload_n hx hb dL_columnOf_0 rfl (lv_at hl 0 rfl) ?_
  refine lv_iload_n hx hb dL_columnOf_1 rfl (lv_at hl 1 rfl) ?_
  refine xl_calli0 (M := brkW ck ka ad ra Z O U X S T P I V N Y Q) (Mf := fun u : Unit => brkW ck ka ad ra Z O U X S T P I V N Y Q) (MX := fun u : Unit => brkW ck ka ad ra Z O U X S T P I V N Y Q) hP hD hS hA (fun hPm hDm => vx_runV (As := [.int (zI x)]) (rest := []) ⟨hx, hb, hml, hown, htg⟩ (x_columnOf l dg ck ka ad ra Z O U X S T P I V N Y Q x _ hI rg_x hst) (cwV 1 htg (gwV wq_1214 wq_1215 wq_1216 wq_1 wq_1217) rfl rfl rfl (by decide +kernel) ⟨Nat.le_of_ble_eq_true rfl, Nat.le_of_ble_eq_true rfl⟩) (wrK_preV hK hPm hDm hC hS hA 0 10 rfl rfl) rfl rfl hl.1 rfl (lv_room (Nat.le_of_ble_eq_true rfl)) dL_columnOf_2 ⟨Nat.le_of_ble_eq_true rfl, Nat.le_of_ble_eq_true rfl⟩) (fun E9 ce9 q9 u9 H locs hE9 hP hD hS g1 g2 g3 => ?_) (fun r9 u9 H locs hn9 hP hD hS => ?_)
  · obtain ⟨rfl, hc⟩ := hE9
    refine vx_catch (own := RL) (name := "java/lang/IndexOutOfBoundsException") hown [] ⟨0, 5, 6, 20⟩ [] (by rw [htab]; rfl) (fun z hz => absurd hz List.not_mem_nil) (by decide) (by decide) (htg _ wq_341) (va_Nw.use rfl (hC.nw (w := .castable "java/lang/IndexOutOfBoundsException" "java/lang/IndexOutOfBoundsException") (by decide +kernel))) g1 g2 g3 ?_
    refine W.eq (g2 := F0 m 6 ls [.ref q9]) rfl ?_
    refine lv_astore_n (lv' := [(2, .ref q9), (0, .ref ((ad 7) 0)), (1, .int (zI x))]) hx hb dL_columnOf_6 rfl hl (by decide) rfl (fun ls hl => ?_)
    refine x_bipush hx hb dL_columnOf_7 (by decide) ?_
    exact W.widen (k := 1) (n := 6) (Nat.le_of_ble_eq_true rfl) (Nat.le_of_ble_eq_true rfl) (W.iret (v := _) hx hb hr (fun t9 ht9 hW9 => ⟨⟨_, ((Z, O, U, X, S, T, P, I, V, N, Y, Q)), rfl, ⟨congrArg zI (if_neg hc).symm, ⟨rfl, rfl, rfl, rfl, rfl, ⟨hln, htx, hkv⟩, hu0, hY⟩⟩, by rw [ht9]; exact hP, by rw [hAe]; exact hD⟩, hS.F ht9⟩) hS.2.2 dL_columnOf_9)
  have hP : va_P dg vwCl (brkW ck ka ad ra Z O U X S T P I V N Y Q) H := hP
  have hD : va_D A (brkW ck ka ad ra Z O U X S T P I V N Y Q) := hD
  exact W.widen (k := 1) (n := 6) (Nat.le_of_ble_eq_true rfl) (Nat.le_of_ble_eq_true rfl) (W.iret (v := _) hx hb hr (fun t9 ht9 hW9 => ⟨⟨_, ((Z, O, U, X, S, T, P, I, V, N, Y, Q)), rfl, ⟨hn9.1.trans (congrArg zI (if_pos hn9.2).symm), ⟨rfl, rfl, rfl, rfl, rfl, ⟨hln, htx, hkv⟩, hu0, hY⟩⟩, by rw [ht9]; exact hP, by rw [hAe]; exact hD⟩, hS.F ht9⟩) hS.2.2 dL_columnOf_5)

theorem wqL_baseRent : (Jvm.Cond.codeWith ({ cls := "BenchBrokerLaw", name := "baseRent", desc := "(LBenchBroker;I)I" } : Jvm.MethodName) method_12_code (3 : Nat) (Option.some Jvm.ClassFile.FieldType.int) [((0 : Nat), (5 : Nat), (6 : Nat), (20 : Nat))]) ∈ GW := tq_5 239 rfl rfl
set_option maxHeartbeats 4000000 in
set_option maxRecDepth 100000 in
/-- the law's baseRent -/
theorem w_baseRent (l : Launch) (dg : va_G) (ck : Nat → ClassId) (ka : Nat → Nat) (ad ra : Nat → Nat → Nat) (S : St) (X : Nat → Int) (Q : Nat → St) (P : St) (zs : Int) (b : BU) (x : Int) (sz : Nat) {n : Int} (hκ : KI n S X Q P zs) (hR : RO S X Q P zs b)  (rg_x : -2147483648 ≤ x ∧ x < 2147483648) (hst : l.stackTraces = false) : Met l yL_baseRent (.codeWith yL_baseRent cL_baseRent 3 (some .int) [(0, 5, 6, 20)] :: GW) ({ frames := 8, cells := 1, slots := 6, locals := 137 }) (va_Pc [.ref ((ad 7) 0), .int (zI x)] (wrK dg ck ka sz (brkU ck ka ad ra b))) (va_Qi (fun r (u : BU) => r = zI (vBase S x) ∧ RO S X Q P zs u) (fun u t9 => wrQ dg sz (brkU ck ka ad ra b) (brkU ck ka ad ra u) t9) (va_A (brkU ck ka ad ra b) sz)) 1 6 (va_A (brkU ck ka ad ra b) sz) := by
  obtain ⟨Z, O, U, X', S', T, P', I, V, N, Y, Q'⟩ := b
  obtain ⟨e1, e2, e3, e4, e5, ⟨hln, htx, hkv⟩, hu0, hY⟩ := hR
  have e1 : S = S' := e1
  have e2 : X = X' := e2
  have e3 : Q = Q' := e3
  have e4 : P = P' := e4
  have e5 : zs = Z 0 := e5
  subst e1 e2 e3 e4 e5
  have hln : 0 ≤ I 0 0 ∧ I 0 0 ≤ 60 := hln
  have htx : ∀ i, 0 ≤ i → i < 60 → 0 ≤ I 1 i ∧ I 1 i ≤ 126 := htx
  have hkv : 0 ≤ I 0 2 ∧ I 0 2 ≤ 9 := hkv
  have hu0 : 0 ≤ U 0 ∧ U 0 ≤ 16 := hu0
  have hY : y7Z Y := hY
  obtain ⟨⟨hV, hV2⟩, ⟨hn, hz⟩, hq10, hhist, hz0, hp10, hsn⟩ := id hκ
  have hI := hV.bd
  have hs10 : ∀ i, 0 ≤ S 10 i ∧ S 10 i ≤ 1 := hI.2.2.2.2.2.2.2.2.2.2.2.2.2.1
  refine x_ofWH (cc := cL_baseRent) (maxL := 3) (ret := (some .int)) (by decide) rfl ?_
  intro p e s m args below meth c s₁ B hml htab hv
  obtain ⟨rfl, ⟨hsz, hP, hK, hD0⟩, hC⟩ := hv
  have hx := B.exec
  have hb := B.bytes
  have hr := B.returns
  have hts := atoms_spec (ws := .codeWith yL_baseRent cL_baseRent 3 (some .int) [(0, 5, 6, 20)] :: GW) B.pre
  have htg : ∀ w ∈ GW, w.before _ s = true := fun w h => hts w (List.mem_cons_of_mem _ h)
  have hown : s.vm.findClass RL = some m.cls := findClass_of_methodNamed B.named
  have hlocks := B.notSynchronized
  subst hsz
  have hD := hD0.self (sz := s.heap.size)
  generalize hAe : va_A (brkU ck ka ad ra (Z, O, U, X, S, T, P, I, V, N, Y, Q)) s.heap.size = A at hD hC ⊢
  have hA : ∀ q : Nat, s.heap.size ≤ q → A q := fun q h => by rw [← hAe]; exact Or.inr h
  have hS : va_S A s.heap s.heap [] := va_S.rf
  have hP : va_P dg vwCl (brkW ck ka ad ra Z O U X S T P I V N Y Q) s.heap := hP
  have hD : va_D A (brkW ck ka ad ra Z O U X S T P I V N Y Q) := hD
  have hl := lv_entry ([.ref ((ad 7) 0), .int (zI x)]) (n := 3) (Nat.le_of_ble_eq_true rfl)
  rw [lg_entry_eq]
  generalize (lg_sl ([.ref ((ad 7) 0), .int (zI x)]) ++ List.replicate (3 - (lg_sl ([.ref ((ad 7) 0), .int (zI x)])).length) Slot.unset).toArray = ls at hl ⊢
  have hl : lv_has ls 3 [(0, .ref ((ad 7) 0)), (1, .int (zI x))] := hl
  refine lv_aload_n hx hb dL_baseRent_0 rfl (lv_at hl 0 rfl) ?_
  refine lv_iload_n hx hb dL_baseRent_1 rfl (lv_at hl 1 rfl) ?_
  refine xl_calli0 (M := brkW ck ka ad ra Z O U X S T P I V N Y Q) (Mf := fun u : Unit => brkW ck ka ad ra Z O U X S T P I V N Y Q) (MX := fun u : Unit => brkW ck ka ad ra Z O U X S T P I V N Y Q) hP hD hS hA (fun hPm hDm => vx_runV (As := [.int (zI x)]) (rest := []) ⟨hx, hb, hml, hown, htg⟩ (x_baseRent l dg ck ka ad ra Z O U X S T P I V N Y Q x _ hI rg_x hst) (cwV 1 htg (gwV wq_1200 wq_1201 wq_1202 wq_1 wq_1203) rfl rfl rfl (by decide +kernel) ⟨Nat.le_of_ble_eq_true rfl, Nat.le_of_ble_eq_true rfl⟩) (wrK_preV hK hPm hDm hC hS hA 0 10 rfl rfl) rfl rfl hl.1 rfl (lv_room (Nat.le_of_ble_eq_true rfl)) dL_baseRent_2 ⟨Nat.le_of_ble_eq_true rfl, Nat.le_of_ble_eq_true rfl⟩) (fun E9 ce9 q9 u9 H locs hE9 hP hD hS g1 g2 g3 => ?_) (fun r9 u9 H locs hn9 hP hD hS => ?_)
  · obtain ⟨rfl, hc⟩ := hE9
    refine vx_catch (own := RL) (name := "java/lang/IndexOutOfBoundsException") hown [] ⟨0, 5, 6, 20⟩ [] (by rw [htab]; rfl) (fun z hz => absurd hz List.not_mem_nil) (by decide) (by decide) (htg _ wq_341) (va_Nw.use rfl (hC.nw (w := .castable "java/lang/IndexOutOfBoundsException" "java/lang/IndexOutOfBoundsException") (by decide +kernel))) g1 g2 g3 ?_
    refine W.eq (g2 := F0 m 6 ls [.ref q9]) rfl ?_
    refine lv_astore_n (lv' := [(2, .ref q9), (0, .ref ((ad 7) 0)), (1, .int (zI x))]) hx hb dL_baseRent_6 rfl hl (by decide) rfl (fun ls hl => ?_)
    refine x_bipush hx hb dL_baseRent_7 (by decide) ?_
    exact W.widen (k := 1) (n := 6) (Nat.le_of_ble_eq_true rfl) (Nat.le_of_ble_eq_true rfl) (W.iret (v := _) hx hb hr (fun t9 ht9 hW9 => ⟨⟨_, ((Z, O, U, X, S, T, P, I, V, N, Y, Q)), rfl, ⟨congrArg zI (if_neg hc).symm, ⟨rfl, rfl, rfl, rfl, rfl, ⟨hln, htx, hkv⟩, hu0, hY⟩⟩, by rw [ht9]; exact hP, by rw [hAe]; exact hD⟩, hS.F ht9⟩) hS.2.2 dL_baseRent_9)
  have hP : va_P dg vwCl (brkW ck ka ad ra Z O U X S T P I V N Y Q) H := hP
  have hD : va_D A (brkW ck ka ad ra Z O U X S T P I V N Y Q) := hD
  exact W.widen (k := 1) (n := 6) (Nat.le_of_ble_eq_true rfl) (Nat.le_of_ble_eq_true rfl) (W.iret (v := _) hx hb hr (fun t9 ht9 hW9 => ⟨⟨_, ((Z, O, U, X, S, T, P, I, V, N, Y, Q)), rfl, ⟨hn9.1.trans (congrArg zI (if_pos hn9.2).symm), ⟨rfl, rfl, rfl, rfl, rfl, ⟨hln, htx, hkv⟩, hu0, hY⟩⟩, by rw [ht9]; exact hP, by rw [hAe]; exact hD⟩, hS.F ht9⟩) hS.2.2 dL_baseRent_5)

theorem wqL_rentOf : (Jvm.Cond.codeWith ({ cls := "BenchBrokerLaw", name := "rentOf", desc := "(LBenchBroker;I)I" } : Jvm.MethodName) method_13_code (3 : Nat) (Option.some Jvm.ClassFile.FieldType.int) [((0 : Nat), (5 : Nat), (6 : Nat), (20 : Nat))]) ∈ GW := tq_2 100 rfl rfl
set_option maxHeartbeats 4000000 in
set_option maxRecDepth 100000 in
/-- the law's rentOf -/
theorem w_rentOf (l : Launch) (dg : va_G) (ck : Nat → ClassId) (ka : Nat → Nat) (ad ra : Nat → Nat → Nat) (S : St) (X : Nat → Int) (Q : Nat → St) (P : St) (zs : Int) (b : BU) (x : Int) (sz : Nat) {n : Int} (hκ : KI n S X Q P zs) (hR : RO S X Q P zs b)  (rg_x : -2147483648 ≤ x ∧ x < 2147483648) (hst : l.stackTraces = false) : Met l yL_rentOf (.codeWith yL_rentOf cL_rentOf 3 (some .int) [(0, 5, 6, 20)] :: GW) ({ frames := 8, cells := 1, slots := 6, locals := 137 }) (va_Pc [.ref ((ad 7) 0), .int (zI x)] (wrK dg ck ka sz (brkU ck ka ad ra b))) (va_Qi (fun r (u : BU) => r = zI (vRent S x) ∧ RO S X Q P zs u) (fun u t9 => wrQ dg sz (brkU ck ka ad ra b) (brkU ck ka ad ra u) t9) (va_A (brkU ck ka ad ra b) sz)) 1 6 (va_A (brkU ck ka ad ra b) sz) := by
  obtain ⟨Z, O, U, X', S', T, P', I, V, N, Y, Q'⟩ := b
  obtain ⟨e1, e2, e3, e4, e5, ⟨hln, htx, hkv⟩, hu0, hY⟩ := hR
  have e1 : S = S' := e1
  have e2 : X = X' := e2
  have e3 : Q = Q' := e3
  have e4 : P = P' := e4
  have e5 : zs = Z 0 := e5
  subst e1 e2 e3 e4 e5
  have hln : 0 ≤ I 0 0 ∧ I 0 0 ≤ 60 := hln
  have htx : ∀ i, 0 ≤ i → i < 60 → 0 ≤ I 1 i ∧ I 1 i ≤ 126 := htx
  have hkv : 0 ≤ I 0 2 ∧ I 0 2 ≤ 9 := hkv
  have hu0 : 0 ≤ U 0 ∧ U 0 ≤ 16 := hu0
  have hY : y7Z Y := hY
  obtain ⟨⟨hV, hV2⟩, ⟨hn, hz⟩, hq10, hhist, hz0, hp10, hsn⟩ := id hκ
  have hI := hV.bd
  have hs10 : ∀ i, 0 ≤ S 10 i ∧ S 10 i ≤ 1 := hI.2.2.2.2.2.2.2.2.2.2.2.2.2.1
  refine x_ofWH (cc := cL_rentOf) (maxL := 3) (ret := (some .int)) (by decide) rfl ?_
  intro p e s m args below meth c s₁ B hml htab hv
  obtain ⟨rfl, ⟨hsz, hP, hK, hD0⟩, hC⟩ := hv
  have hx := B.exec
  have hb := B.bytes
  have hr := B.returns
  have hts := atoms_spec (ws := .codeWith yL_rentOf cL_rentOf 3 (some .int) [(0, 5, 6, 20)] :: GW) B.pre
  have htg : ∀ w ∈ GW, w.before _ s = true := fun w h => hts w (List.mem_cons_of_mem _ h)
  have hown : s.vm.findClass RL = some m.cls := findClass_of_methodNamed B.named
  have hlocks := B.notSynchronized
  subst hsz
  have hD := hD0.self (sz := s.heap.size)
  generalize hAe : va_A (brkU ck ka ad ra (Z, O, U, X, S, T, P, I, V, N, Y, Q)) s.heap.size = A at hD hC ⊢
  have hA : ∀ q : Nat, s.heap.size ≤ q → A q := fun q h => by rw [← hAe]; exact Or.inr h
  have hS : va_S A s.heap s.heap [] := va_S.rf
  have hP : va_P dg vwCl (brkW ck ka ad ra Z O U X S T P I V N Y Q) s.heap := hP
  have hD : va_D A (brkW ck ka ad ra Z O U X S T P I V N Y Q) := hD
  have hl := lv_entry ([.ref ((ad 7) 0), .int (zI x)]) (n := 3) (Nat.le_of_ble_eq_true rfl)
  rw [lg_entry_eq]
  generalize (lg_sl ([.ref ((ad 7) 0), .int (zI x)]) ++ List.replicate (3 - (lg_sl ([.ref ((ad 7) 0), .int (zI x)])).length) Slot.unset).toArray = ls at hl ⊢
  have hl : lv_has ls 3 [(0, .ref ((ad 7) 0)), (1, .int (zI x))] := hl
  refine lv_aload_n hx hb dL_rentOf_0 rfl (lv_at hl 0 rfl) ?_
  refine lv_iload_n hx hb dL_rentOf_1 rfl (lv_at hl 1 rfl) ?_
  refine xl_calli0 (M := brkW ck ka ad ra Z O U X S T P I V N Y Q) (Mf := fun u : Unit => brkW ck ka ad ra Z O U X S T P I V N Y Q) (MX := fun u : Unit => brkW ck ka ad ra Z O U X S T P I V N Y Q) hP hD hS hA (fun hPm hDm => vx_runV (As := [.int (zI x)]) (rest := []) ⟨hx, hb, hml, hown, htg⟩ (x_rentOf l dg ck ka ad ra Z O U X S T P I V N Y Q x _ hI rg_x hst) (cwV 1 htg (gwV wq_421 wq_422 wq_423 wq_1 wq_424) rfl rfl rfl (by decide +kernel) ⟨Nat.le_of_ble_eq_true rfl, Nat.le_of_ble_eq_true rfl⟩) (wrK_preV hK hPm hDm hC hS hA 0 10 rfl rfl) rfl rfl hl.1 rfl (lv_room (Nat.le_of_ble_eq_true rfl)) dL_rentOf_2 ⟨Nat.le_of_ble_eq_true rfl, Nat.le_of_ble_eq_true rfl⟩) (fun E9 ce9 q9 u9 H locs hE9 hP hD hS g1 g2 g3 => ?_) (fun r9 u9 H locs hn9 hP hD hS => ?_)
  · obtain ⟨rfl, hc⟩ := hE9
    refine vx_catch (own := RL) (name := "java/lang/IndexOutOfBoundsException") hown [] ⟨0, 5, 6, 20⟩ [] (by rw [htab]; rfl) (fun z hz => absurd hz List.not_mem_nil) (by decide) (by decide) (htg _ wq_341) (va_Nw.use rfl (hC.nw (w := .castable "java/lang/IndexOutOfBoundsException" "java/lang/IndexOutOfBoundsException") (by decide +kernel))) g1 g2 g3 ?_
    refine W.eq (g2 := F0 m 6 ls [.ref q9]) rfl ?_
    refine lv_astore_n (lv' := [(2, .ref q9), (0, .ref ((ad 7) 0)), (1, .int (zI x))]) hx hb dL_rentOf_6 rfl hl (by decide) rfl (fun ls hl => ?_)
    refine x_bipush hx hb dL_rentOf_7 (by decide) ?_
    exact W.widen (k := 1) (n := 6) (Nat.le_of_ble_eq_true rfl) (Nat.le_of_ble_eq_true rfl) (W.iret (v := _) hx hb hr (fun t9 ht9 hW9 => ⟨⟨_, ((Z, O, U, X, S, T, P, I, V, N, Y, Q)), rfl, ⟨congrArg zI (if_neg hc).symm, ⟨rfl, rfl, rfl, rfl, rfl, ⟨hln, htx, hkv⟩, hu0, hY⟩⟩, by rw [ht9]; exact hP, by rw [hAe]; exact hD⟩, hS.F ht9⟩) hS.2.2 dL_rentOf_9)
  have hP : va_P dg vwCl (brkW ck ka ad ra Z O U X S T P I V N Y Q) H := hP
  have hD : va_D A (brkW ck ka ad ra Z O U X S T P I V N Y Q) := hD
  exact W.widen (k := 1) (n := 6) (Nat.le_of_ble_eq_true rfl) (Nat.le_of_ble_eq_true rfl) (W.iret (v := _) hx hb hr (fun t9 ht9 hW9 => ⟨⟨_, ((Z, O, U, X, S, T, P, I, V, N, Y, Q)), rfl, ⟨hn9.1.trans (congrArg zI (if_pos hn9.2).symm), ⟨rfl, rfl, rfl, rfl, rfl, ⟨hln, htx, hkv⟩, hu0, hY⟩⟩, by rw [ht9]; exact hP, by rw [hAe]; exact hD⟩, hS.F ht9⟩) hS.2.2 dL_rentOf_5)

theorem wqL_loudnessOf : (Jvm.Cond.codeWith ({ cls := "BenchBrokerLaw", name := "loudnessOf", desc := "(LBenchBroker;I)I" } : Jvm.MethodName) method_14_code (3 : Nat) (Option.some Jvm.ClassFile.FieldType.int) [((0 : Nat), (5 : Nat), (6 : Nat), (20 : Nat))]) ∈ GW := tq_6 27 rfl rfl
set_option maxHeartbeats 4000000 in
set_option maxRecDepth 100000 in
/-- the law's loudnessOf -/
theorem w_loudnessOf (l : Launch) (dg : va_G) (ck : Nat → ClassId) (ka : Nat → Nat) (ad ra : Nat → Nat → Nat) (S : St) (X : Nat → Int) (Q : Nat → St) (P : St) (zs : Int) (b : BU) (x : Int) (sz : Nat) {n : Int} (hκ : KI n S X Q P zs) (hR : RO S X Q P zs b)  (rg_x : -2147483648 ≤ x ∧ x < 2147483648) (hst : l.stackTraces = false) : Met l yL_loudnessOf (.codeWith yL_loudnessOf cL_loudnessOf 3 (some .int) [(0, 5, 6, 20)] :: GW) ({ frames := 8, cells := 1, slots := 6, locals := 137 }) (va_Pc [.ref ((ad 7) 0), .int (zI x)] (wrK dg ck ka sz (brkU ck ka ad ra b))) (va_Qi (fun r (u : BU) => r = zI (vLoud S x) ∧ RO S X Q P zs u) (fun u t9 => wrQ dg sz (brkU ck ka ad ra b) (brkU ck ka ad ra u) t9) (va_A (brkU ck ka ad ra b) sz)) 1 6 (va_A (brkU ck ka ad ra b) sz) := by
  obtain ⟨Z, O, U, X', S', T, P', I, V, N, Y, Q'⟩ := b
  obtain ⟨e1, e2, e3, e4, e5, ⟨hln, htx, hkv⟩, hu0, hY⟩ := hR
  have e1 : S = S' := e1
  have e2 : X = X' := e2
  have e3 : Q = Q' := e3
  have e4 : P = P' := e4
  have e5 : zs = Z 0 := e5
  subst e1 e2 e3 e4 e5
  have hln : 0 ≤ I 0 0 ∧ I 0 0 ≤ 60 := hln
  have htx : ∀ i, 0 ≤ i → i < 60 → 0 ≤ I 1 i ∧ I 1 i ≤ 126 := htx
  have hkv : 0 ≤ I 0 2 ∧ I 0 2 ≤ 9 := hkv
  have hu0 : 0 ≤ U 0 ∧ U 0 ≤ 16 := hu0
  have hY : y7Z Y := hY
  obtain ⟨⟨hV, hV2⟩, ⟨hn, hz⟩, hq10, hhist, hz0, hp10, hsn⟩ := id hκ
  have hI := hV.bd
  have hs10 : ∀ i, 0 ≤ S 10 i ∧ S 10 i ≤ 1 := hI.2.2.2.2.2.2.2.2.2.2.2.2.2.1
  refine x_ofWH (cc := cL_loudnessOf) (maxL := 3) (ret := (some .int)) (by decide) rfl ?_
  intro p e s m args below meth c s₁ B hml htab hv
  obtain ⟨rfl, ⟨hsz, hP, hK, hD0⟩, hC⟩ := hv
  have hx := B.exec
  have hb := B.bytes
  have hr := B.returns
  have hts := atoms_spec (ws := .codeWith yL_loudnessOf cL_loudnessOf 3 (some .int) [(0, 5, 6, 20)] :: GW) B.pre
  have htg : ∀ w ∈ GW, w.before _ s = true := fun w h => hts w (List.mem_cons_of_mem _ h)
  have hown : s.vm.findClass RL = some m.cls := findClass_of_methodNamed B.named
  have hlocks := B.notSynchronized
  subst hsz
  have hD := hD0.self (sz := s.heap.size)
  generalize hAe : va_A (brkU ck ka ad ra (Z, O, U, X, S, T, P, I, V, N, Y, Q)) s.heap.size = A at hD hC ⊢
  have hA : ∀ q : Nat, s.heap.size ≤ q → A q := fun q h => by rw [← hAe]; exact Or.inr h
  have hS : va_S A s.heap s.heap [] := va_S.rf
  have hP : va_P dg vwCl (brkW ck ka ad ra Z O U X S T P I V N Y Q) s.heap := hP
  have hD : va_D A (brkW ck ka ad ra Z O U X S T P I V N Y Q) := hD
  have hl := lv_entry ([.ref ((ad 7) 0), .int (zI x)]) (n := 3) (Nat.le_of_ble_eq_true rfl)
  rw [lg_entry_eq]
  generalize (lg_sl ([.ref ((ad 7) 0), .int (zI x)]) ++ List.replicate (3 - (lg_sl ([.ref ((ad 7) 0), .int (zI x)])).length) Slot.unset).toArray = ls at hl ⊢
  have hl : lv_has ls 3 [(0, .ref ((ad 7) 0)), (1, .int (zI x))] := hl
  refine lv_aload_n hx hb dL_loudnessOf_0 rfl (lv_at hl 0 rfl) ?_
  refine lv_iload_n hx hb dL_loudnessOf_1 rfl (lv_at hl 1 rfl) ?_
  refine xl_calli0 (M := brkW ck ka ad ra Z O U X S T P I V N Y Q) (Mf := fun u : Unit => brkW ck ka ad ra Z O U X S T P I V N Y Q) (MX := fun u : Unit => brkW ck ka ad ra Z O U X S T P I V N Y Q) hP hD hS hA (fun hPm hDm => vx_runV (As := [.int (zI x)]) (rest := []) ⟨hx, hb, hml, hown, htg⟩ (x_loudnessOf l dg ck ka ad ra Z O U X S T P I V N Y Q x _ hI rg_x hst) (cwV 1 htg (gwV wq_1228 wq_1229 wq_1230 wq_1 wq_1231) rfl rfl rfl (by decide +kernel) ⟨Nat.le_of_ble_eq_true rfl, Nat.le_of_ble_eq_true rfl⟩) (wrK_preV hK hPm hDm hC hS hA 0 10 rfl rfl) rfl rfl hl.1 rfl (lv_room (Nat.le_of_ble_eq_true rfl)) dL_loudnessOf_2 ⟨Nat.le_of_ble_eq_true rfl, Nat.le_of_ble_eq_true rfl⟩) (fun E9 ce9 q9 u9 H locs hE9 hP hD hS g1 g2 g3 => ?_) (fun r9 u9 H locs hn9 hP hD hS => ?_)
  · obtain ⟨rfl, hc⟩ := hE9
    refine vx_catch (own := RL) (name := "java/lang/IndexOutOfBoundsException") hown [] ⟨0, 5, 6, 20⟩ [] (by rw [htab]; rfl) (fun z hz => absurd hz List.not_mem_nil) (by decide) (by decide) (htg _ wq_341) (va_Nw.use rfl (hC.nw (w := .castable "java/lang/IndexOutOfBoundsException" "java/lang/IndexOutOfBoundsException") (by decide +kernel))) g1 g2 g3 ?_
    refine W.eq (g2 := F0 m 6 ls [.ref q9]) rfl ?_
    refine lv_astore_n (lv' := [(2, .ref q9), (0, .ref ((ad 7) 0)), (1, .int (zI x))]) hx hb dL_loudnessOf_6 rfl hl (by decide) rfl (fun ls hl => ?_)
    refine x_bipush hx hb dL_loudnessOf_7 (by decide) ?_
    exact W.widen (k := 1) (n := 6) (Nat.le_of_ble_eq_true rfl) (Nat.le_of_ble_eq_true rfl) (W.iret (v := _) hx hb hr (fun t9 ht9 hW9 => ⟨⟨_, ((Z, O, U, X, S, T, P, I, V, N, Y, Q)), rfl, ⟨congrArg zI (if_neg hc).symm, ⟨rfl, rfl, rfl, rfl, rfl, ⟨hln, htx, hkv⟩, hu0, hY⟩⟩, by rw [ht9]; exact hP, by rw [hAe]; exact hD⟩, hS.F ht9⟩) hS.2.2 dL_loudnessOf_9)
  have hP : va_P dg vwCl (brkW ck ka ad ra Z O U X S T P I V N Y Q) H := hP
  have hD : va_D A (brkW ck ka ad ra Z O U X S T P I V N Y Q) := hD
  exact W.widen (k := 1) (n := 6) (Nat.le_of_ble_eq_true rfl) (Nat.le_of_ble_eq_true rfl) (W.iret (v := _) hx hb hr (fun t9 ht9 hW9 => ⟨⟨_, ((Z, O, U, X, S, T, P, I, V, N, Y, Q)), rfl, ⟨hn9.1.trans (congrArg zI (if_pos hn9.2).symm), ⟨rfl, rfl, rfl, rfl, rfl, ⟨hln, htx, hkv⟩, hu0, hY⟩⟩, by rw [ht9]; exact hP, by rw [hAe]; exact hD⟩, hS.F ht9⟩) hS.2.2 dL_loudnessOf_5)

theorem wqL_coinsOf : (Jvm.Cond.codeWith ({ cls := "BenchBrokerLaw", name := "coinsOf", desc := "(LBenchBroker;I)I" } : Jvm.MethodName) method_21_code (3 : Nat) (Option.some Jvm.ClassFile.FieldType.int) [((0 : Nat), (5 : Nat), (6 : Nat), (20 : Nat))]) ∈ GW := tq_6 46 rfl rfl
set_option maxHeartbeats 4000000 in
set_option maxRecDepth 100000 in
/-- the law's coinsOf -/
theorem w_coinsOf (l : Launch) (dg : va_G) (ck : Nat → ClassId) (ka : Nat → Nat) (ad ra : Nat → Nat → Nat) (S : St) (X : Nat → Int) (Q : Nat → St) (P : St) (zs : Int) (b : BU) (x : Int) (sz : Nat) {n : Int} (hκ : KI n S X Q P zs) (hR : RO S X Q P zs b)  (rg_x : -2147483648 ≤ x ∧ x < 2147483648) (hst : l.stackTraces = false) : Met l yL_coinsOf (.codeWith yL_coinsOf cL_coinsOf 3 (some .int) [(0, 5, 6, 20)] :: GW) ({ frames := 8, cells := 1, slots := 6, locals := 137 }) (va_Pc [.ref ((ad 7) 0), .int (zI x)] (wrK dg ck ka sz (brkU ck ka ad ra b))) (va_Qi (fun r (u : BU) => r = zI (vCoins S x) ∧ RO S X Q P zs u) (fun u t9 => wrQ dg sz (brkU ck ka ad ra b) (brkU ck ka ad ra u) t9) (va_A (brkU ck ka ad ra b) sz)) 1 6 (va_A (brkU ck ka ad ra b) sz) := by
  obtain ⟨Z, O, U, X', S', T, P', I, V, N, Y, Q'⟩ := b
  obtain ⟨e1, e2, e3, e4, e5, ⟨hln, htx, hkv⟩, hu0, hY⟩ := hR
  have e1 : S = S' := e1
  have e2 : X = X' := e2
  have e3 : Q = Q' := e3
  have e4 : P = P' := e4
  have e5 : zs = Z 0 := e5
  subst e1 e2 e3 e4 e5
  have hln : 0 ≤ I 0 0 ∧ I 0 0 ≤ 60 := hln
  have htx : ∀ i, 0 ≤ i → i < 60 → 0 ≤ I 1 i ∧ I 1 i ≤ 126 := htx
  have hkv : 0 ≤ I 0 2 ∧ I 0 2 ≤ 9 := hkv
  have hu0 : 0 ≤ U 0 ∧ U 0 ≤ 16 := hu0
  have hY : y7Z Y := hY
  obtain ⟨⟨hV, hV2⟩, ⟨hn, hz⟩, hq10, hhist, hz0, hp10, hsn⟩ := id hκ
  have hI := hV.bd
  have hs10 : ∀ i, 0 ≤ S 10 i ∧ S 10 i ≤ 1 := hI.2.2.2.2.2.2.2.2.2.2.2.2.2.1
  refine x_ofWH (cc := cL_coinsOf) (maxL := 3) (ret := (some .int)) (by decide) rfl ?_
  intro p e s m args below meth c s₁ B hml htab hv
  obtain ⟨rfl, ⟨hsz, hP, hK, hD0⟩, hC⟩ := hv
  have hx := B.exec
  have hb := B.bytes
  have hr := B.returns
  have hts := atoms_spec (ws := .codeWith yL_coinsOf cL_coinsOf 3 (some .int) [(0, 5, 6, 20)] :: GW) B.pre
  have htg : ∀ w ∈ GW, w.before _ s = true := fun w h => hts w (List.mem_cons_of_mem _ h)
  have hown : s.vm.findClass RL = some m.cls := findClass_of_methodNamed B.named
  have hlocks := B.notSynchronized
  subst hsz
  have hD := hD0.self (sz := s.heap.size)
  generalize hAe : va_A (brkU ck ka ad ra (Z, O, U, X, S, T, P, I, V, N, Y, Q)) s.heap.size = A at hD hC ⊢
  have hA : ∀ q : Nat, s.heap.size ≤ q → A q := fun q h => by rw [← hAe]; exact Or.inr h
  have hS : va_S A s.heap s.heap [] := va_S.rf
  have hP : va_P dg vwCl (brkW ck ka ad ra Z O U X S T P I V N Y Q) s.heap := hP
  have hD : va_D A (brkW ck ka ad ra Z O U X S T P I V N Y Q) := hD
  have hl := lv_entry ([.ref ((ad 7) 0), .int (zI x)]) (n := 3) (Nat.le_of_ble_eq_true rfl)
  rw [lg_entry_eq]
  generalize (lg_sl ([.ref ((ad 7) 0), .int (zI x)]) ++ List.replicate (3 - (lg_sl ([.ref ((ad 7) 0), .int (zI x)])).length) Slot.unset).toArray = ls at hl ⊢
  have hl : lv_has ls 3 [(0, .ref ((ad 7) 0)), (1, .int (zI x))] := hl
  refine lv_aload_n hx hb dL_coinsOf_0 rfl (lv_at hl 0 rfl) ?_
  refine lv_iload_n hx hb dL_coinsOf_1 rfl (lv_at hl 1 rfl) ?_
  refine xl_calli0 (M := brkW ck ka ad ra Z O U X S T P I V N Y Q) (Mf := fun u : Unit => brkW ck ka ad ra Z O U X S T P I V N Y Q) (MX := fun u : Unit => brkW ck ka ad ra Z O U X S T P I V N Y Q) hP hD hS hA (fun hPm hDm => vx_runV (As := [.int (zI x)]) (rest := []) ⟨hx, hb, hml, hown, htg⟩ (x_coinsOf l dg ck ka ad ra Z O U X S T P I V N Y Q x _ hI rg_x hst) (cwV 1 htg (gwV wq_1247 wq_1248 wq_1249 wq_1 wq_1250) rfl rfl rfl (by decide +kernel) ⟨Nat.le_of_ble_eq_true rfl, Nat.le_of_ble_eq_true rfl⟩) (wrK_preV hK hPm hDm hC hS hA 0 10 rfl rfl) rfl rfl hl.1 rfl (lv_room (Nat.le_of_ble_eq_true rfl)) dL_coinsOf_2 ⟨Nat.le_of_ble_eq_true rfl, Nat.le_of_ble_eq_true rfl⟩) (fun E9 ce9 q9 u9 H locs hE9 hP hD hS g1 g2 g3 => ?_) (fun r9 u9 H locs hn9 hP hD hS => ?_)
  · obtain ⟨rfl, hc⟩ := hE9
    refine vx_catch (own := RL) (name := "java/lang/IndexOutOfBoundsException") hown [] ⟨0, 5, 6, 20⟩ [] (by rw [htab]; rfl) (fun z hz => absurd hz List.not_mem_nil) (by decide) (by decide) (htg _ wq_341) (va_Nw.use rfl (hC.nw (w := .castable "java/lang/IndexOutOfBoundsException" "java/lang/IndexOutOfBoundsException") (by decide +kernel))) g1 g2 g3 ?_
    refine W.eq (g2 := F0 m 6 ls [.ref q9]) rfl ?_
    refine lv_astore_n (lv' := [(2, .ref q9), (0, .ref ((ad 7) 0)), (1, .int (zI x))]) hx hb dL_coinsOf_6 rfl hl (by decide) rfl (fun ls hl => ?_)
    refine x_bipush hx hb dL_coinsOf_7 (by decide) ?_
    exact W.widen (k := 1) (n := 6) (Nat.le_of_ble_eq_true rfl) (Nat.le_of_ble_eq_true rfl) (W.iret (v := _) hx hb hr (fun t9 ht9 hW9 => ⟨⟨_, ((Z, O, U, X, S, T, P, I, V, N, Y, Q)), rfl, ⟨congrArg zI (if_neg hc).symm, ⟨rfl, rfl, rfl, rfl, rfl, ⟨hln, htx, hkv⟩, hu0, hY⟩⟩, by rw [ht9]; exact hP, by rw [hAe]; exact hD⟩, hS.F ht9⟩) hS.2.2 dL_coinsOf_9)
  have hP : va_P dg vwCl (brkW ck ka ad ra Z O U X S T P I V N Y Q) H := hP
  have hD : va_D A (brkW ck ka ad ra Z O U X S T P I V N Y Q) := hD
  exact W.widen (k := 1) (n := 6) (Nat.le_of_ble_eq_true rfl) (Nat.le_of_ble_eq_true rfl) (W.iret (v := _) hx hb hr (fun t9 ht9 hW9 => ⟨⟨_, ((Z, O, U, X, S, T, P, I, V, N, Y, Q)), rfl, ⟨hn9.1.trans (congrArg zI (if_pos hn9.2).symm), ⟨rfl, rfl, rfl, rfl, rfl, ⟨hln, htx, hkv⟩, hu0, hY⟩⟩, by rw [ht9]; exact hP, by rw [hAe]; exact hD⟩, hS.F ht9⟩) hS.2.2 dL_coinsOf_5)

theorem wqL_defaultsOf : (Jvm.Cond.codeWith ({ cls := "BenchBrokerLaw", name := "defaultsOf", desc := "(LBenchBroker;I)I" } : Jvm.MethodName) method_22_code (3 : Nat) (Option.some Jvm.ClassFile.FieldType.int) [((0 : Nat), (5 : Nat), (6 : Nat), (20 : Nat))]) ∈ GW := tq_6 53 rfl rfl
set_option maxHeartbeats 4000000 in
set_option maxRecDepth 100000 in
/-- the law's defaultsOf -/
theorem w_defaultsOf (l : Launch) (dg : va_G) (ck : Nat → ClassId) (ka : Nat → Nat) (ad ra : Nat → Nat → Nat) (S : St) (X : Nat → Int) (Q : Nat → St) (P : St) (zs : Int) (b : BU) (x : Int) (sz : Nat) {n : Int} (hκ : KI n S X Q P zs) (hR : RO S X Q P zs b)  (rg_x : -2147483648 ≤ x ∧ x < 2147483648) (hst : l.stackTraces = false) : Met l yL_defaultsOf (.codeWith yL_defaultsOf cL_defaultsOf 3 (some .int) [(0, 5, 6, 20)] :: GW) ({ frames := 8, cells := 1, slots := 6, locals := 137 }) (va_Pc [.ref ((ad 7) 0), .int (zI x)] (wrK dg ck ka sz (brkU ck ka ad ra b))) (va_Qi (fun r (u : BU) => r = zI (vDefs S x) ∧ RO S X Q P zs u) (fun u t9 => wrQ dg sz (brkU ck ka ad ra b) (brkU ck ka ad ra u) t9) (va_A (brkU ck ka ad ra b) sz)) 1 6 (va_A (brkU ck ka ad ra b) sz) := by
  obtain ⟨Z, O, U, X', S', T, P', I, V, N, Y, Q'⟩ := b
  obtain ⟨e1, e2, e3, e4, e5, ⟨hln, htx, hkv⟩, hu0, hY⟩ := hR
  have e1 : S = S' := e1
  have e2 : X = X' := e2
  have e3 : Q = Q' := e3
  have e4 : P = P' := e4
  have e5 : zs = Z 0 := e5
  subst e1 e2 e3 e4 e5
  have hln : 0 ≤ I 0 0 ∧ I 0 0 ≤ 60 := hln
  have htx : ∀ i, 0 ≤ i → i < 60 → 0 ≤ I 1 i ∧ I 1 i ≤ 126 := htx
  have hkv : 0 ≤ I 0 2 ∧ I 0 2 ≤ 9 := hkv
  have hu0 : 0 ≤ U 0 ∧ U 0 ≤ 16 := hu0
  have hY : y7Z Y := hY
  obtain ⟨⟨hV, hV2⟩, ⟨hn, hz⟩, hq10, hhist, hz0, hp10, hsn⟩ := id hκ
  have hI := hV.bd
  have hs10 : ∀ i, 0 ≤ S 10 i ∧ S 10 i ≤ 1 := hI.2.2.2.2.2.2.2.2.2.2.2.2.2.1
  refine x_ofWH (cc := cL_defaultsOf) (maxL := 3) (ret := (some .int)) (by decide) rfl ?_
  intro p e s m args below meth c s₁ B hml htab hv
  obtain ⟨rfl, ⟨hsz, hP, hK, hD0⟩, hC⟩ := hv
  have hx := B.exec
  have hb := B.bytes
  have hr := B.returns
  have hts := atoms_spec (ws := .codeWith yL_defaultsOf cL_defaultsOf 3 (some .int) [(0, 5, 6, 20)] :: GW) B.pre
  have htg : ∀ w ∈ GW, w.before _ s = true := fun w h => hts w (List.mem_cons_of_mem _ h)
  have hown : s.vm.findClass RL = some m.cls := findClass_of_methodNamed B.named
  have hlocks := B.notSynchronized
  subst hsz
  have hD := hD0.self (sz := s.heap.size)
  generalize hAe : va_A (brkU ck ka ad ra (Z, O, U, X, S, T, P, I, V, N, Y, Q)) s.heap.size = A at hD hC ⊢
  have hA : ∀ q : Nat, s.heap.size ≤ q → A q := fun q h => by rw [← hAe]; exact Or.inr h
  have hS : va_S A s.heap s.heap [] := va_S.rf
  have hP : va_P dg vwCl (brkW ck ka ad ra Z O U X S T P I V N Y Q) s.heap := hP
  have hD : va_D A (brkW ck ka ad ra Z O U X S T P I V N Y Q) := hD
  have hl := lv_entry ([.ref ((ad 7) 0), .int (zI x)]) (n := 3) (Nat.le_of_ble_eq_true rfl)
  rw [lg_entry_eq]
  generalize (lg_sl ([.ref ((ad 7) 0), .int (zI x)]) ++ List.replicate (3 - (lg_sl ([.ref ((ad 7) 0), .int (zI x)])).length) Slot.unset).toArray = ls at hl ⊢
  have hl : lv_has ls 3 [(0, .ref ((ad 7) 0)), (1, .int (zI x))] := hl
  refine lv_aload_n hx hb dL_defaultsOf_0 rfl (lv_at hl 0 rfl) ?_
  refine lv_iload_n hx hb dL_defaultsOf_1 rfl (lv_at hl 1 rfl) ?_
  refine xl_calli0 (M := brkW ck ka ad ra Z O U X S T P I V N Y Q) (Mf := fun u : Unit => brkW ck ka ad ra Z O U X S T P I V N Y Q) (MX := fun u : Unit => brkW ck ka ad ra Z O U X S T P I V N Y Q) hP hD hS hA (fun hPm hDm => vx_runV (As := [.int (zI x)]) (rest := []) ⟨hx, hb, hml, hown, htg⟩ (x_defaultsOf l dg ck ka ad ra Z O U X S T P I V N Y Q x _ hI rg_x hst) (cwV 1 htg (gwV wq_1254 wq_1255 wq_1256 wq_1 wq_1257) rfl rfl rfl (by decide +kernel) ⟨Nat.le_of_ble_eq_true rfl, Nat.le_of_ble_eq_true rfl⟩) (wrK_preV hK hPm hDm hC hS hA 0 10 rfl rfl) rfl rfl hl.1 rfl (lv_room (Nat.le_of_ble_eq_true rfl)) dL_defaultsOf_2 ⟨Nat.le_of_ble_eq_true rfl, Nat.le_of_ble_eq_true rfl⟩) (fun E9 ce9 q9 u9 H locs hE9 hP hD hS g1 g2 g3 => ?_) (fun r9 u9 H locs hn9 hP hD hS => ?_)
  · obtain ⟨rfl, hc⟩ := hE9
    refine vx_catch (own := RL) (name := "java/lang/IndexOutOfBoundsException") hown [] ⟨0, 5, 6, 20⟩ [] (by rw [htab]; rfl) (fun z hz => absurd hz List.not_mem_nil) (by decide) (by decide) (htg _ wq_341) (va_Nw.use rfl (hC.nw (w := .castable "java/lang/IndexOutOfBoundsException" "java/lang/IndexOutOfBoundsException") (by decide +kernel))) g1 g2 g3 ?_
    refine W.eq (g2 := F0 m 6 ls [.ref q9]) rfl ?_
    refine lv_astore_n (lv' := [(2, .ref q9), (0, .ref ((ad 7) 0)), (1, .int (zI x))]) hx hb dL_defaultsOf_6 rfl hl (by decide) rfl (fun ls hl => ?_)
    refine x_bipush hx hb dL_defaultsOf_7 (by decide) ?_
    exact W.widen (k := 1) (n := 6) (Nat.le_of_ble_eq_true rfl) (Nat.le_of_ble_eq_true rfl) (W.iret (v := _) hx hb hr (fun t9 ht9 hW9 => ⟨⟨_, ((Z, O, U, X, S, T, P, I, V, N, Y, Q)), rfl, ⟨congrArg zI (if_neg hc).symm, ⟨rfl, rfl, rfl, rfl, rfl, ⟨hln, htx, hkv⟩, hu0, hY⟩⟩, by rw [ht9]; exact hP, by rw [hAe]; exact hD⟩, hS.F ht9⟩) hS.2.2 dL_defaultsOf_9)
  have hP : va_P dg vwCl (brkW ck ka ad ra Z O U X S T P I V N Y Q) H := hP
  have hD : va_D A (brkW ck ka ad ra Z O U X S T P I V N Y Q) := hD
  exact W.widen (k := 1) (n := 6) (Nat.le_of_ble_eq_true rfl) (Nat.le_of_ble_eq_true rfl) (W.iret (v := _) hx hb hr (fun t9 ht9 hW9 => ⟨⟨_, ((Z, O, U, X, S, T, P, I, V, N, Y, Q)), rfl, ⟨hn9.1.trans (congrArg zI (if_pos hn9.2).symm), ⟨rfl, rfl, rfl, rfl, rfl, ⟨hln, htx, hkv⟩, hu0, hY⟩⟩, by rw [ht9]; exact hP, by rw [hAe]; exact hD⟩, hS.F ht9⟩) hS.2.2 dL_defaultsOf_5)

theorem wqL_noiseAt : (Jvm.Cond.codeWith ({ cls := "BenchBrokerLaw", name := "noiseAt", desc := "(LBenchBroker;II)I" } : Jvm.MethodName) method_16_code (4 : Nat) (Option.some Jvm.ClassFile.FieldType.int) [((0 : Nat), (6 : Nat), (7 : Nat), (20 : Nat))]) ∈ GW := tq_6 165 rfl rfl
set_option maxHeartbeats 4000000 in
set_option maxRecDepth 100000 in
/-- the law's noiseAt -/
theorem w_noiseAt (l : Launch) (dg : va_G) (ck : Nat → ClassId) (ka : Nat → Nat) (ad ra : Nat → Nat → Nat) (S : St) (X : Nat → Int) (Q : Nat → St) (P : St) (zs : Int) (b : BU) (x y : Int) (sz : Nat) {n : Int} (hκ : KI n S X Q P zs) (hR : RO S X Q P zs b)  (rg_x : -2147483648 ≤ x ∧ x < 2147483648) (rg_y : -2147483648 ≤ y ∧ y < 2147483648) (hst : l.stackTraces = false) : Met l yL_noiseAt (.codeWith yL_noiseAt cL_noiseAt 4 (some .int) [(0, 6, 7, 20)] :: GW) ({ frames := 8, cells := 1, slots := 6, locals := 139 }) (va_Pc [.ref ((ad 7) 0), .int (zI x), .int (zI y)] (wrK dg ck ka sz (brkU ck ka ad ra b))) (va_Qi (fun r (u : BU) => r = zI (vNoise S x y) ∧ RO S X Q P zs u) (fun u t9 => wrQ dg sz (brkU ck ka ad ra b) (brkU ck ka ad ra u) t9) (va_A (brkU ck ka ad ra b) sz)) 1 6 (va_A (brkU ck ka ad ra b) sz) := by
  obtain ⟨Z, O, U, X', S', T, P', I, V, N, Y, Q'⟩ := b
  obtain ⟨e1, e2, e3, e4, e5, ⟨hln, htx, hkv⟩, hu0, hY⟩ := hR
  have e1 : S = S' := e1
  have e2 : X = X' := e2
  have e3 : Q = Q' := e3
  have e4 : P = P' := e4
  have e5 : zs = Z 0 := e5
  subst e1 e2 e3 e4 e5
  have hln : 0 ≤ I 0 0 ∧ I 0 0 ≤ 60 := hln
  have htx : ∀ i, 0 ≤ i → i < 60 → 0 ≤ I 1 i ∧ I 1 i ≤ 126 := htx
  have hkv : 0 ≤ I 0 2 ∧ I 0 2 ≤ 9 := hkv
  have hu0 : 0 ≤ U 0 ∧ U 0 ≤ 16 := hu0
  have hY : y7Z Y := hY
  obtain ⟨⟨hV, hV2⟩, ⟨hn, hz⟩, hq10, hhist, hz0, hp10, hsn⟩ := id hκ
  have hI := hV.bd
  have hs10 : ∀ i, 0 ≤ S 10 i ∧ S 10 i ≤ 1 := hI.2.2.2.2.2.2.2.2.2.2.2.2.2.1
  refine x_ofWH (cc := cL_noiseAt) (maxL := 4) (ret := (some .int)) (by decide) rfl ?_
  intro p e s m args below meth c s₁ B hml htab hv
  obtain ⟨rfl, ⟨hsz, hP, hK, hD0⟩, hC⟩ := hv
  have hx := B.exec
  have hb := B.bytes
  have hr := B.returns
  have hts := atoms_spec (ws := .codeWith yL_noiseAt cL_noiseAt 4 (some .int) [(0, 6, 7, 20)] :: GW) B.pre
  have htg : ∀ w ∈ GW, w.before _ s = true := fun w h => hts w (List.mem_cons_of_mem _ h)
  have hown : s.vm.findClass RL = some m.cls := findClass_of_methodNamed B.named
  have hlocks := B.notSynchronized
  subst hsz
  have hD := hD0.self (sz := s.heap.size)
  generalize hAe : va_A (brkU ck ka ad ra (Z, O, U, X, S, T, P, I, V, N, Y, Q)) s.heap.size = A at hD hC ⊢
  have hA : ∀ q : Nat, s.heap.size ≤ q → A q := fun q h => by rw [← hAe]; exact Or.inr h
  have hS : va_S A s.heap s.heap [] := va_S.rf
  have hP : va_P dg vwCl (brkW ck ka ad ra Z O U X S T P I V N Y Q) s.heap := hP
  have hD : va_D A (brkW ck ka ad ra Z O U X S T P I V N Y Q) := hD
  have hl := lv_entry ([.ref ((ad 7) 0), .int (zI x), .int (zI y)]) (n := 4) (Nat.le_of_ble_eq_true rfl)
  rw [lg_entry_eq]
  generalize (lg_sl ([.ref ((ad 7) 0), .int (zI x), .int (zI y)]) ++ List.replicate (4 - (lg_sl ([.ref ((ad 7) 0), .int (zI x), .int (zI y)])).length) Slot.unset).toArray = ls at hl ⊢
  have hl : lv_has ls 4 [(0, .ref ((ad 7) 0)), (1, .int (zI x)), (2, .int (zI y))] := hl
  refine lv_aload_n hx hb dL_noiseAt_0 rfl (lv_at hl 0 rfl) ?_
  refine lv_iload_n hx hb dL_noiseAt_1 rfl (lv_at hl 1 rfl) ?_
  refine lv_iload_n hx hb dL_noiseAt_2 rfl (lv_at hl 2 rfl) ?_
  refine xl_calli0 (M := brkW ck ka ad ra Z O U X S T P I V N Y Q) (Mf := fun u : Unit => brkW ck ka ad ra Z O U X S T P I V N Y Q) (MX := fun u : Unit => brkW ck ka ad ra Z O U X S T P I V N Y Q) hP hD hS hA (fun hPm hDm => vx_runV (As := [.int (zI x), .int (zI y)]) (rest := []) ⟨hx, hb, hml, hown, htg⟩ (x_noiseAt l dg ck ka ad ra Z O U X S T P I V N Y Q x y _ hI rg_x rg_y hst) (cwV 2 htg (gwV wq_1366 wq_1367 wq_1368 wq_1 wq_1369) rfl rfl rfl (by decide +kernel) ⟨Nat.le_of_ble_eq_true rfl, Nat.le_of_ble_eq_true rfl⟩) (wrK_preV hK hPm hDm hC hS hA 0 10 rfl rfl) rfl rfl hl.1 rfl (lv_room (Nat.le_of_ble_eq_true rfl)) dL_noiseAt_3 ⟨Nat.le_of_ble_eq_true rfl, Nat.le_of_ble_eq_true rfl⟩) (fun E9 ce9 q9 u9 H locs hE9 hP hD hS g1 g2 g3 => ?_) (fun r9 u9 H locs hn9 hP hD hS => ?_)
  · obtain ⟨rfl, hc⟩ := hE9
    refine vx_catch (own := RL) (name := "java/lang/IndexOutOfBoundsException") hown [] ⟨0, 6, 7, 20⟩ [] (by rw [htab]; rfl) (fun z hz => absurd hz List.not_mem_nil) (by decide) (by decide) (htg _ wq_341) (va_Nw.use rfl (hC.nw (w := .castable "java/lang/IndexOutOfBoundsException" "java/lang/IndexOutOfBoundsException") (by decide +kernel))) g1 g2 g3 ?_
    refine W.eq (g2 := F0 m 7 ls [.ref q9]) rfl ?_
    refine lv_astore_n (lv' := [(3, .ref q9), (0, .ref ((ad 7) 0)), (1, .int (zI x)), (2, .int (zI y))]) hx hb dL_noiseAt_7 rfl hl (by decide) rfl (fun ls hl => ?_)
    refine x_bipush hx hb dL_noiseAt_8 (by decide) ?_
    exact W.widen (k := 1) (n := 6) (Nat.le_of_ble_eq_true rfl) (Nat.le_of_ble_eq_true rfl) (W.iret (v := _) hx hb hr (fun t9 ht9 hW9 => ⟨⟨_, ((Z, O, U, X, S, T, P, I, V, N, Y, Q)), rfl, ⟨congrArg zI (if_neg hc).symm, ⟨rfl, rfl, rfl, rfl, rfl, ⟨hln, htx, hkv⟩, hu0, hY⟩⟩, by rw [ht9]; exact hP, by rw [hAe]; exact hD⟩, hS.F ht9⟩) hS.2.2 dL_noiseAt_10)
  have hP : va_P dg vwCl (brkW ck ka ad ra Z O U X S T P I V N Y Q) H := hP
  have hD : va_D A (brkW ck ka ad ra Z O U X S T P I V N Y Q) := hD
  exact W.widen (k := 1) (n := 6) (Nat.le_of_ble_eq_true rfl) (Nat.le_of_ble_eq_true rfl) (W.iret (v := _) hx hb hr (fun t9 ht9 hW9 => ⟨⟨_, ((Z, O, U, X, S, T, P, I, V, N, Y, Q)), rfl, ⟨hn9.1.trans (congrArg zI (if_pos hn9.2).symm), ⟨rfl, rfl, rfl, rfl, rfl, ⟨hln, htx, hkv⟩, hu0, hY⟩⟩, by rw [ht9]; exact hP, by rw [hAe]; exact hD⟩, hS.F ht9⟩) hS.2.2 dL_noiseAt_6)

theorem wqL_noiseBySpreading : (Jvm.Cond.codeWith ({ cls := "BenchBrokerLaw", name := "noiseBySpreading", desc := "(LBenchBroker;II)I" } : Jvm.MethodName) method_17_code (4 : Nat) (Option.some Jvm.ClassFile.FieldType.int) [((0 : Nat), (6 : Nat), (7 : Nat), (20 : Nat))]) ∈ GW := tq_6 225 rfl rfl
set_option maxHeartbeats 4000000 in
set_option maxRecDepth 100000 in
/-- the law's noiseBySpreading -/
theorem w_noiseBySpreading (l : Launch) (dg : va_G) (ck : Nat → ClassId) (ka : Nat → Nat) (ad ra : Nat → Nat → Nat) (S : St) (X : Nat → Int) (Q : Nat → St) (P : St) (zs : Int) (b : BU) (x y : Int) (sz : Nat) {n : Int} (hκ : KI n S X Q P zs) (hR : RO S X Q P zs b)  (rg_x : -2147483648 ≤ x ∧ x < 2147483648) (rg_y : -2147483648 ≤ y ∧ y < 2147483648) (hst : l.stackTraces = false) : Met l yL_noiseBySpreading (.codeWith yL_noiseBySpreading cL_noiseBySpreading 4 (some .int) [(0, 6, 7, 20)] :: GW) ({ frames := 8, cells := 1, slots := 6, locals := 139 }) (va_Pc [.ref ((ad 7) 0), .int (zI x), .int (zI y)] (wrK dg ck ka sz (brkU ck ka ad ra b))) (va_Qi (fun r (u : BU) => r = zI (vNoise S x y) ∧ RO S X Q P zs u) (fun u t9 => wrQ dg sz (brkU ck ka ad ra b) (brkU ck ka ad ra u) t9) (va_A (brkU ck ka ad ra b) sz)) 1 6 (va_A (brkU ck ka ad ra b) sz) := by
  obtain ⟨Z, O, U, X', S', T, P', I, V, N, Y, Q'⟩ := b
  obtain ⟨e1, e2, e3, e4, e5, ⟨hln, htx, hkv⟩, hu0, hY⟩ := hR
  have e1 : S = S' := e1
  have e2 : X = X' := e2
  have e3 : Q = Q' := e3
  have e4 : P = P' := e4
  have e5 : zs = Z 0 := e5
  subst e1 e2 e3 e4 e5
  have hln : 0 ≤ I 0 0 ∧ I 0 0 ≤ 60 := hln
  have htx : ∀ i, 0 ≤ i → i < 60 → 0 ≤ I 1 i ∧ I 1 i ≤ 126 := htx
  have hkv : 0 ≤ I 0 2 ∧ I 0 2 ≤ 9 := hkv
  have hu0 : 0 ≤ U 0 ∧ U 0 ≤ 16 := hu0
  have hY : y7Z Y := hY
  obtain ⟨⟨hV, hV2⟩, ⟨hn, hz⟩, hq10, hhist, hz0, hp10, hsn⟩ := id hκ
  have hI := hV.bd
  have hs10 : ∀ i, 0 ≤ S 10 i ∧ S 10 i ≤ 1 := hI.2.2.2.2.2.2.2.2.2.2.2.2.2.1
  refine x_ofWH (cc := cL_noiseBySpreading) (maxL := 4) (ret := (some .int)) (by decide) rfl ?_
  intro p e s m args below meth c s₁ B hml htab hv
  obtain ⟨rfl, ⟨hsz, hP, hK, hD0⟩, hC⟩ := hv
  have hx := B.exec
  have hb := B.bytes
  have hr := B.returns
  have hts := atoms_spec (ws := .codeWith yL_noiseBySpreading cL_noiseBySpreading 4 (some .int) [(0, 6, 7, 20)] :: GW) B.pre
  have htg : ∀ w ∈ GW, w.before _ s = true := fun w h => hts w (List.mem_cons_of_mem _ h)
  have hown : s.vm.findClass RL = some m.cls := findClass_of_methodNamed B.named
  have hlocks := B.notSynchronized
  subst hsz
  have hD := hD0.self (sz := s.heap.size)
  generalize hAe : va_A (brkU ck ka ad ra (Z, O, U, X, S, T, P, I, V, N, Y, Q)) s.heap.size = A at hD hC ⊢
  have hA : ∀ q : Nat, s.heap.size ≤ q → A q := fun q h => by rw [← hAe]; exact Or.inr h
  have hS : va_S A s.heap s.heap [] := va_S.rf
  have hP : va_P dg vwCl (brkW ck ka ad ra Z O U X S T P I V N Y Q) s.heap := hP
  have hD : va_D A (brkW ck ka ad ra Z O U X S T P I V N Y Q) := hD
  have hl := lv_entry ([.ref ((ad 7) 0), .int (zI x), .int (zI y)]) (n := 4) (Nat.le_of_ble_eq_true rfl)
  rw [lg_entry_eq]
  generalize (lg_sl ([.ref ((ad 7) 0), .int (zI x), .int (zI y)]) ++ List.replicate (4 - (lg_sl ([.ref ((ad 7) 0), .int (zI x), .int (zI y)])).length) Slot.unset).toArray = ls at hl ⊢
  have hl : lv_has ls 4 [(0, .ref ((ad 7) 0)), (1, .int (zI x)), (2, .int (zI y))] := hl
  refine lv_aload_n hx hb dL_noiseBySpreading_0 rfl (lv_at hl 0 rfl) ?_
  refine lv_iload_n hx hb dL_noiseBySpreading_1 rfl (lv_at hl 1 rfl) ?_
  refine lv_iload_n hx hb dL_noiseBySpreading_2 rfl (lv_at hl 2 rfl) ?_
  refine xl_calli0 (M := brkW ck ka ad ra Z O U X S T P I V N Y Q) (Mf := fun u : Unit => brkW ck ka ad ra Z O U X S T P I (nsF S) (slZ S N (S 0 1).toNat) Y Q) (MX := fun u : Unit => brkW ck ka ad ra Z O U X S T P I V N Y Q) hP hD hS hA (fun hPm hDm => vx_runV (As := [.int (zI x), .int (zI y)]) (rest := []) ⟨hx, hb, hml, hown, htg⟩ (x_noiseBySpreading l dg ck ka ad ra Z O U X S T P I V N Y Q x y _ hI rg_x rg_y hst) (cwV 2 htg (gwV wq_1426 wq_1427 wq_1428 wq_1 wq_1429) rfl rfl rfl (by decide +kernel) ⟨Nat.le_of_ble_eq_true rfl, Nat.le_of_ble_eq_true rfl⟩) (wrK_preV hK hPm hDm hC hS hA 0 10 rfl rfl) rfl rfl hl.1 rfl (lv_room (Nat.le_of_ble_eq_true rfl)) dL_noiseBySpreading_3 ⟨Nat.le_of_ble_eq_true rfl, Nat.le_of_ble_eq_true rfl⟩) (fun E9 ce9 q9 u9 H locs hE9 hP hD hS g1 g2 g3 => ?_) (fun r9 u9 H locs hn9 hP hD hS => ?_)
  · obtain ⟨rfl, hc⟩ := hE9
    refine vx_catch (own := RL) (name := "java/lang/IndexOutOfBoundsException") hown [] ⟨0, 6, 7, 20⟩ [] (by rw [htab]; rfl) (fun z hz => absurd hz List.not_mem_nil) (by decide) (by decide) (htg _ wq_341) (va_Nw.use rfl (hC.nw (w := .castable "java/lang/IndexOutOfBoundsException" "java/lang/IndexOutOfBoundsException") (by decide +kernel))) g1 g2 g3 ?_
    refine W.eq (g2 := F0 m 7 ls [.ref q9]) rfl ?_
    refine lv_astore_n (lv' := [(3, .ref q9), (0, .ref ((ad 7) 0)), (1, .int (zI x)), (2, .int (zI y))]) hx hb dL_noiseBySpreading_7 rfl hl (by decide) rfl (fun ls hl => ?_)
    refine x_bipush hx hb dL_noiseBySpreading_8 (by decide) ?_
    exact W.widen (k := 1) (n := 6) (Nat.le_of_ble_eq_true rfl) (Nat.le_of_ble_eq_true rfl) (W.iret (v := _) hx hb hr (fun t9 ht9 hW9 => ⟨⟨_, ((Z, O, U, X, S, T, P, I, V, N, Y, Q)), rfl, ⟨congrArg zI (if_neg hc).symm, ⟨rfl, rfl, rfl, rfl, rfl, ⟨hln, htx, hkv⟩, hu0, hY⟩⟩, by rw [ht9]; exact hP, by rw [hAe]; exact hD⟩, hS.F ht9⟩) hS.2.2 dL_noiseBySpreading_10)
  have hP : va_P dg vwCl (brkW ck ka ad ra Z O U X S T P I (nsF S) (slZ S N (S 0 1).toNat) Y Q) H := hP
  have hD : va_D A (brkW ck ka ad ra Z O U X S T P I (nsF S) (slZ S N (S 0 1).toNat) Y Q) := hD
  exact W.widen (k := 1) (n := 6) (Nat.le_of_ble_eq_true rfl) (Nat.le_of_ble_eq_true rfl) (W.iret (v := _) hx hb hr (fun t9 ht9 hW9 => ⟨⟨_, ((Z, O, U, X, S, T, P, I, (nsF S), (slZ S N (S 0 1).toNat), Y, Q)), rfl, ⟨hn9.1.trans (congrArg zI (if_pos hn9.2).symm), ⟨rfl, rfl, rfl, rfl, rfl, ⟨hln, htx, hkv⟩, hu0, hY⟩⟩, by rw [ht9]; exact hP, by rw [hAe]; exact hD⟩, hS.F ht9⟩) hS.2.2 dL_noiseBySpreading_6)

theorem wqL_isRunning : (Jvm.Cond.codeWith ({ cls := "BenchBrokerLaw", name := "isRunning", desc := "(LBenchBroker;I)I" } : Jvm.MethodName) method_15_code (3 : Nat) (Option.some Jvm.ClassFile.FieldType.int) [((0 : Nat), (13 : Nat), (14 : Nat), (20 : Nat))]) ∈ GW := tq_6 39 rfl rfl
set_option maxHeartbeats 4000000 in
set_option maxRecDepth 100000 in
/-- the law's isRunning -/
theorem w_isRunning (l : Launch) (dg : va_G) (ck : Nat → ClassId) (ka : Nat → Nat) (ad ra : Nat → Nat → Nat) (S : St) (X : Nat → Int) (Q : Nat → St) (P : St) (zs : Int) (b : BU) (x : Int) (sz : Nat) {n : Int} (hκ : KI n S X Q P zs) (hR : RO S X Q P zs b)  (rg_x : -2147483648 ≤ x ∧ x < 2147483648) (hst : l.stackTraces = false) : Met l yL_isRunning (.codeWith yL_isRunning cL_isRunning 3 (some .int) [(0, 13, 14, 20)] :: GW) ({ frames := 8, cells := 1, slots := 6, locals := 137 }) (va_Pc [.ref ((ad 7) 0), .int (zI x)] (wrK dg ck ka sz (brkU ck ka ad ra b))) (va_Qi (fun r (u : BU) => r = zI (vRun S x) ∧ RO S X Q P zs u) (fun u t9 => wrQ dg sz (brkU ck ka ad ra b) (brkU ck ka ad ra u) t9) (va_A (brkU ck ka ad ra b) sz)) 1 6 (va_A (brkU ck ka ad ra b) sz) := by
  obtain ⟨Z, O, U, X', S', T, P', I, V, N, Y, Q'⟩ := b
  obtain ⟨e1, e2, e3, e4, e5, ⟨hln, htx, hkv⟩, hu0, hY⟩ := hR
  have e1 : S = S' := e1
  have e2 : X = X' := e2
  have e3 : Q = Q' := e3
  have e4 : P = P' := e4
  have e5 : zs = Z 0 := e5
  subst e1 e2 e3 e4 e5
  have hln : 0 ≤ I 0 0 ∧ I 0 0 ≤ 60 := hln
  have htx : ∀ i, 0 ≤ i → i < 60 → 0 ≤ I 1 i ∧ I 1 i ≤ 126 := htx
  have hkv : 0 ≤ I 0 2 ∧ I 0 2 ≤ 9 := hkv
  have hu0 : 0 ≤ U 0 ∧ U 0 ≤ 16 := hu0
  have hY : y7Z Y := hY
  obtain ⟨⟨hV, hV2⟩, ⟨hn, hz⟩, hq10, hhist, hz0, hp10, hsn⟩ := id hκ
  have hI := hV.bd
  have hs10 : ∀ i, 0 ≤ S 10 i ∧ S 10 i ≤ 1 := hI.2.2.2.2.2.2.2.2.2.2.2.2.2.1
  refine x_ofWH (cc := cL_isRunning) (maxL := 3) (ret := (some .int)) (by decide) rfl ?_
  intro p e s m args below meth c s₁ B hml htab hv
  obtain ⟨rfl, ⟨hsz, hP, hK, hD0⟩, hC⟩ := hv
  have hx := B.exec
  have hb := B.bytes
  have hr := B.returns
  have hts := atoms_spec (ws := .codeWith yL_isRunning cL_isRunning 3 (some .int) [(0, 13, 14, 20)] :: GW) B.pre
  have htg : ∀ w ∈ GW, w.before _ s = true := fun w h => hts w (List.mem_cons_of_mem _ h)
  have hown : s.vm.findClass RL = some m.cls := findClass_of_methodNamed B.named
  have hlocks := B.notSynchronized
  subst hsz
  have hD := hD0.self (sz := s.heap.size)
  generalize hAe : va_A (brkU ck ka ad ra (Z, O, U, X, S, T, P, I, V, N, Y, Q)) s.heap.size = A at hD hC ⊢
  have hA : ∀ q : Nat, s.heap.size ≤ q → A q := fun q h => by rw [← hAe]; exact Or.inr h
  have hS : va_S A s.heap s.heap [] := va_S.rf
  have hP : va_P dg vwCl (brkW ck ka ad ra Z O U X S T P I V N Y Q) s.heap := hP
  have hD : va_D A (brkW ck ka ad ra Z O U X S T P I V N Y Q) := hD
  have hl := lv_entry ([.ref ((ad 7) 0), .int (zI x)]) (n := 3) (Nat.le_of_ble_eq_true rfl)
  rw [lg_entry_eq]
  generalize (lg_sl ([.ref ((ad 7) 0), .int (zI x)]) ++ List.replicate (3 - (lg_sl ([.ref ((ad 7) 0), .int (zI x)])).length) Slot.unset).toArray = ls at hl ⊢
  have hl : lv_has ls 3 [(0, .ref ((ad 7) 0)), (1, .int (zI x))] := hl
  refine lv_aload_n hx hb dL_isRunning_0 rfl (lv_at hl 0 rfl) ?_
  refine lv_iload_n hx hb dL_isRunning_1 rfl (lv_at hl 1 rfl) ?_
  refine xl_calli0 (M := brkW ck ka ad ra Z O U X S T P I V N Y Q) (Mf := fun u : Unit => brkW ck ka ad ra Z O U X S T P I V N Y Q) (MX := fun u : Unit => brkW ck ka ad ra Z O U X S T P I V N Y Q) hP hD hS hA (fun hPm hDm => vx_runV (As := [.int (zI x)]) (rest := []) ⟨hx, hb, hml, hown, htg⟩ (x_isRunning l dg ck ka ad ra Z O U X S T P I V N Y Q x _ hI rg_x hst) (cwV 1 htg (gwV wq_1240 wq_1241 wq_1242 wq_1 wq_1243) rfl rfl rfl (by decide +kernel) ⟨Nat.le_of_ble_eq_true rfl, Nat.le_of_ble_eq_true rfl⟩) (wrK_preV hK hPm hDm hC hS hA 0 10 rfl rfl) rfl rfl hl.1 rfl (lv_room (Nat.le_of_ble_eq_true rfl)) dL_isRunning_2 ⟨Nat.le_of_ble_eq_true rfl, Nat.le_of_ble_eq_true rfl⟩) (fun E9 ce9 q9 u9 H locs hE9 hP hD hS g1 g2 g3 => ?_) (fun r9 u9 H locs hn9 hP hD hS => ?_)
  · obtain ⟨rfl, hc⟩ := hE9
    refine vx_catch (own := RL) (name := "java/lang/IndexOutOfBoundsException") hown [] ⟨0, 13, 14, 20⟩ [] (by rw [htab]; rfl) (fun z hz => absurd hz List.not_mem_nil) (by decide) (by decide) (htg _ wq_341) (va_Nw.use rfl (hC.nw (w := .castable "java/lang/IndexOutOfBoundsException" "java/lang/IndexOutOfBoundsException") (by decide +kernel))) g1 g2 g3 ?_
    refine W.eq (g2 := F0 m 14 ls [.ref q9]) rfl ?_
    refine lv_astore_n (lv' := [(2, .ref q9), (0, .ref ((ad 7) 0)), (1, .int (zI x))]) hx hb dL_isRunning_14 rfl hl (by decide) rfl (fun ls hl => ?_)
    refine x_bipush hx hb dL_isRunning_15 (by decide) ?_
    exact W.widen (k := 1) (n := 6) (Nat.le_of_ble_eq_true rfl) (Nat.le_of_ble_eq_true rfl) (W.iret (v := _) hx hb hr (fun t9 ht9 hW9 => ⟨⟨_, ((Z, O, U, X, S, T, P, I, V, N, Y, Q)), rfl, ⟨congrArg zI (if_neg hc).symm, ⟨rfl, rfl, rfl, rfl, rfl, ⟨hln, htx, hkv⟩, hu0, hY⟩⟩, by rw [ht9]; exact hP, by rw [hAe]; exact hD⟩, hS.F ht9⟩) hS.2.2 dL_isRunning_17)
  have hP : va_P dg vwCl (brkW ck ka ad ra Z O U X S T P I V N Y Q) H := hP
  have hD : va_D A (brkW ck ka ad ra Z O U X S T P I V N Y Q) := hD
  obtain ⟨rfl, hok⟩ := hn9
  have hv9 := hI.2.2.2.2.2.2.2.2.2.2.2.2.2.1 x
  rcases (show (S 10 x) = 1 ∨ (S 10 x) = 0 by omega) with h9 | h9
  · refine x_is h9 ?_
    refine x_if_eq (tgt := 12) hx hb dL_isRunning_5 (by decide) (by omega) (fun c => absurd c (by decide)) (fun _ => ?_)
    refine x_iconst hx hb dL_isRunning_8 ?_
    refine lv_goto (tgt := 13) hx hb dL_isRunning_9 (by decide) ?_
    exact W.widen (k := 1) (n := 6) (Nat.le_of_ble_eq_true rfl) (Nat.le_of_ble_eq_true rfl) (W.iret (v := _) hx hb hr (fun t9 ht9 hW9 => ⟨⟨_, ((Z, O, U, X, S, T, P, I, V, N, Y, Q)), rfl, ⟨congrArg zI (h9.symm.trans (if_pos hok).symm), ⟨rfl, rfl, rfl, rfl, rfl, ⟨hln, htx, hkv⟩, hu0, hY⟩⟩, by rw [ht9]; exact hP, by rw [hAe]; exact hD⟩, hS.F ht9⟩) hS.2.2 dL_isRunning_13)
  · refine x_is h9 ?_
    refine x_if_eq (tgt := 12) hx hb dL_isRunning_5 (by decide) (by omega) (fun _ => ?_) (fun c => absurd c (by decide))
    refine x_iconst hx hb dL_isRunning_12 ?_
    exact W.widen (k := 1) (n := 6) (Nat.le_of_ble_eq_true rfl) (Nat.le_of_ble_eq_true rfl) (W.iret (v := _) hx hb hr (fun t9 ht9 hW9 => ⟨⟨_, ((Z, O, U, X, S, T, P, I, V, N, Y, Q)), rfl, ⟨congrArg zI (h9.symm.trans (if_pos hok).symm), ⟨rfl, rfl, rfl, rfl, rfl, ⟨hln, htx, hkv⟩, hu0, hY⟩⟩, by rw [ht9]; exact hP, by rw [hAe]; exact hD⟩, hS.F ht9⟩) hS.2.2 dL_isRunning_13)

theorem wqL_isQuiet : (Jvm.Cond.codeWith ({ cls := "BenchBrokerLaw", name := "isQuiet", desc := "(LBenchBroker;I)I" } : Jvm.MethodName) method_18_code (3 : Nat) (Option.some Jvm.ClassFile.FieldType.int) [((0 : Nat), (13 : Nat), (14 : Nat), (20 : Nat))]) ∈ GW := tq_6 173 rfl rfl
set_option maxHeartbeats 4000000 in
set_option maxRecDepth 100000 in
/-- the law's isQuiet -/
theorem w_isQuiet (l : Launch) (dg : va_G) (ck : Nat → ClassId) (ka : Nat → Nat) (ad ra : Nat → Nat → Nat) (S : St) (X : Nat → Int) (Q : Nat → St) (P : St) (zs : Int) (b : BU) (x : Int) (sz : Nat) {n : Int} (hκ : KI n S X Q P zs) (hR : RO S X Q P zs b)  (rg_x : -2147483648 ≤ x ∧ x < 2147483648) (hst : l.stackTraces = false) : Met l yL_isQuiet (.codeWith yL_isQuiet cL_isQuiet 3 (some .int) [(0, 13, 14, 20)] :: GW) ({ frames := 8, cells := 1, slots := 6, locals := 137 }) (va_Pc [.ref ((ad 7) 0), .int (zI x)] (wrK dg ck ka sz (brkU ck ka ad ra b))) (va_Qi (fun r (u : BU) => r = zI (vQuiet S x) ∧ RO S X Q P zs u) (fun u t9 => wrQ dg sz (brkU ck ka ad ra b) (brkU ck ka ad ra u) t9) (va_A (brkU ck ka ad ra b) sz)) 1 6 (va_A (brkU ck ka ad ra b) sz) := by
  obtain ⟨Z, O, U, X', S', T, P', I, V, N, Y, Q'⟩ := b
  obtain ⟨e1, e2, e3, e4, e5, ⟨hln, htx, hkv⟩, hu0, hY⟩ := hR
  have e1 : S = S' := e1
  have e2 : X = X' := e2
  have e3 : Q = Q' := e3
  have e4 : P = P' := e4
  have e5 : zs = Z 0 := e5
  subst e1 e2 e3 e4 e5
  have hln : 0 ≤ I 0 0 ∧ I 0 0 ≤ 60 := hln
  have htx : ∀ i, 0 ≤ i → i < 60 → 0 ≤ I 1 i ∧ I 1 i ≤ 126 := htx
  have hkv : 0 ≤ I 0 2 ∧ I 0 2 ≤ 9 := hkv
  have hu0 : 0 ≤ U 0 ∧ U 0 ≤ 16 := hu0
  have hY : y7Z Y := hY
  obtain ⟨⟨hV, hV2⟩, ⟨hn, hz⟩, hq10, hhist, hz0, hp10, hsn⟩ := id hκ
  have hI := hV.bd
  have hs10 : ∀ i, 0 ≤ S 10 i ∧ S 10 i ≤ 1 := hI.2.2.2.2.2.2.2.2.2.2.2.2.2.1
  refine x_ofWH (cc := cL_isQuiet) (maxL := 3) (ret := (some .int)) (by decide) rfl ?_
  intro p e s m args below meth c s₁ B hml htab hv
  obtain ⟨rfl, ⟨hsz, hP, hK, hD0⟩, hC⟩ := hv
  have hx := B.exec
  have hb := B.bytes
  have hr := B.returns
  have hts := atoms_spec (ws := .codeWith yL_isQuiet cL_isQuiet 3 (some .int) [(0, 13, 14, 20)] :: GW) B.pre
  have htg : ∀ w ∈ GW, w.before _ s = true := fun w h => hts w (List.mem_cons_of_mem _ h)
  have hown : s.vm.findClass RL = some m.cls := findClass_of_methodNamed B.named
  have hlocks := B.notSynchronized
  subst hsz
  have hD := hD0.self (sz := s.heap.size)
  generalize hAe : va_A (brkU ck ka ad ra (Z, O, U, X, S, T, P, I, V, N, Y, Q)) s.heap.size = A at hD hC ⊢
  have hA : ∀ q : Nat, s.heap.size ≤ q → A q := fun q h => by rw [← hAe]; exact Or.inr h
  have hS : va_S A s.heap s.heap [] := va_S.rf
  have hP : va_P dg vwCl (brkW ck ka ad ra Z O U X S T P I V N Y Q) s.heap := hP
  have hD : va_D A (brkW ck ka ad ra Z O U X S T P I V N Y Q) := hD
  have hl := lv_entry ([.ref ((ad 7) 0), .int (zI x)]) (n := 3) (Nat.le_of_ble_eq_true rfl)
  rw [lg_entry_eq]
  generalize (lg_sl ([.ref ((ad 7) 0), .int (zI x)]) ++ List.replicate (3 - (lg_sl ([.ref ((ad 7) 0), .int (zI x)])).length) Slot.unset).toArray = ls at hl ⊢
  have hl : lv_has ls 3 [(0, .ref ((ad 7) 0)), (1, .int (zI x))] := hl
  refine lv_aload_n hx hb dL_isQuiet_0 rfl (lv_at hl 0 rfl) ?_
  refine lv_iload_n hx hb dL_isQuiet_1 rfl (lv_at hl 1 rfl) ?_
  refine xl_calli0 (M := brkW ck ka ad ra Z O U X S T P I V N Y Q) (Mf := fun u : Unit => brkW ck ka ad ra Z O U X S T P I V N Y Q) (MX := fun u : Unit => brkW ck ka ad ra Z O U X S T P I V N Y Q) hP hD hS hA (fun hPm hDm => vx_runV (As := [.int (zI x)]) (rest := []) ⟨hx, hb, hml, hown, htg⟩ (x_isQuiet l dg ck ka ad ra Z O U X S T P I V N Y Q x _ hI rg_x hst) (cwV 1 htg (gwV wq_1374 wq_1375 wq_1376 wq_1 wq_1377) rfl rfl rfl (by decide +kernel) ⟨Nat.le_of_ble_eq_true rfl, Nat.le_of_ble_eq_true rfl⟩) (wrK_preV hK hPm hDm hC hS hA 0 10 rfl rfl) rfl rfl hl.1 rfl (lv_room (Nat.le_of_ble_eq_true rfl)) dL_isQuiet_2 ⟨Nat.le_of_ble_eq_true rfl, Nat.le_of_ble_eq_true rfl⟩) (fun E9 ce9 q9 u9 H locs hE9 hP hD hS g1 g2 g3 => ?_) (fun r9 u9 H locs hn9 hP hD hS => ?_)
  · obtain ⟨rfl, hc⟩ := hE9
    refine vx_catch (own := RL) (name := "java/lang/IndexOutOfBoundsException") hown [] ⟨0, 13, 14, 20⟩ [] (by rw [htab]; rfl) (fun z hz => absurd hz List.not_mem_nil) (by decide) (by decide) (htg _ wq_341) (va_Nw.use rfl (hC.nw (w := .castable "java/lang/IndexOutOfBoundsException" "java/lang/IndexOutOfBoundsException") (by decide +kernel))) g1 g2 g3 ?_
    refine W.eq (g2 := F0 m 14 ls [.ref q9]) rfl ?_
    refine lv_astore_n (lv' := [(2, .ref q9), (0, .ref ((ad 7) 0)), (1, .int (zI x))]) hx hb dL_isQuiet_14 rfl hl (by decide) rfl (fun ls hl => ?_)
    refine x_bipush hx hb dL_isQuiet_15 (by decide) ?_
    exact W.widen (k := 1) (n := 6) (Nat.le_of_ble_eq_true rfl) (Nat.le_of_ble_eq_true rfl) (W.iret (v := _) hx hb hr (fun t9 ht9 hW9 => ⟨⟨_, ((Z, O, U, X, S, T, P, I, V, N, Y, Q)), rfl, ⟨congrArg zI (if_neg hc).symm, ⟨rfl, rfl, rfl, rfl, rfl, ⟨hln, htx, hkv⟩, hu0, hY⟩⟩, by rw [ht9]; exact hP, by rw [hAe]; exact hD⟩, hS.F ht9⟩) hS.2.2 dL_isQuiet_17)
  have hP : va_P dg vwCl (brkW ck ka ad ra Z O U X S T P I V N Y Q) H := hP
  have hD : va_D A (brkW ck ka ad ra Z O U X S T P I V N Y Q) := hD
  obtain ⟨rfl, hok⟩ := hn9
  have hv9 := bI_r (quietB S x)
  rcases (show (bI (quietB S x)) = 1 ∨ (bI (quietB S x)) = 0 by omega) with h9 | h9
  · refine x_is h9 ?_
    refine x_if_eq (tgt := 12) hx hb dL_isQuiet_5 (by decide) (by omega) (fun c => absurd c (by decide)) (fun _ => ?_)
    refine x_iconst hx hb dL_isQuiet_8 ?_
    refine lv_goto (tgt := 13) hx hb dL_isQuiet_9 (by decide) ?_
    exact W.widen (k := 1) (n := 6) (Nat.le_of_ble_eq_true rfl) (Nat.le_of_ble_eq_true rfl) (W.iret (v := _) hx hb hr (fun t9 ht9 hW9 => ⟨⟨_, ((Z, O, U, X, S, T, P, I, V, N, Y, Q)), rfl, ⟨congrArg zI (h9.symm.trans (if_pos hok).symm), ⟨rfl, rfl, rfl, rfl, rfl, ⟨hln, htx, hkv⟩, hu0, hY⟩⟩, by rw [ht9]; exact hP, by rw [hAe]; exact hD⟩, hS.F ht9⟩) hS.2.2 dL_isQuiet_13)
  · refine x_is h9 ?_
    refine x_if_eq (tgt := 12) hx hb dL_isQuiet_5 (by decide) (by omega) (fun _ => ?_) (fun c => absurd c (by decide))
    refine x_iconst hx hb dL_isQuiet_12 ?_
    exact W.widen (k := 1) (n := 6) (Nat.le_of_ble_eq_true rfl) (Nat.le_of_ble_eq_true rfl) (W.iret (v := _) hx hb hr (fun t9 ht9 hW9 => ⟨⟨_, ((Z, O, U, X, S, T, P, I, V, N, Y, Q)), rfl, ⟨congrArg zI (h9.symm.trans (if_pos hok).symm), ⟨rfl, rfl, rfl, rfl, rfl, ⟨hln, htx, hkv⟩, hu0, hY⟩⟩, by rw [ht9]; exact hP, by rw [hAe]; exact hD⟩, hS.F ht9⟩) hS.2.2 dL_isQuiet_13)

theorem wqL_isLet : (Jvm.Cond.codeWith ({ cls := "BenchBrokerLaw", name := "isLet", desc := "(LBenchBroker;I)I" } : Jvm.MethodName) method_29_code (3 : Nat) (Option.some Jvm.ClassFile.FieldType.int) [((0 : Nat), (13 : Nat), (14 : Nat), (20 : Nat))]) ∈ GW := tq_3 47 rfl rfl
set_option maxHeartbeats 4000000 in
set_option maxRecDepth 100000 in
/-- the law's isLet -/
theorem w_isLet (l : Launch) (dg : va_G) (ck : Nat → ClassId) (ka : Nat → Nat) (ad ra : Nat → Nat → Nat) (S : St) (X : Nat → Int) (Q : Nat → St) (P : St) (zs : Int) (b : BU) (x : Int) (sz : Nat) {n : Int} (hκ : KI n S X Q P zs) (hR : RO S X Q P zs b)  (rg_x : -2147483648 ≤ x ∧ x < 2147483648) (hst : l.stackTraces = false) : Met l yL_isLet (.codeWith yL_isLet cL_isLet 3 (some .int) [(0, 13, 14, 20)] :: GW) ({ frames := 8, cells := 1, slots := 6, locals := 137 }) (va_Pc [.ref ((ad 7) 0), .int (zI x)] (wrK dg ck ka sz (brkU ck ka ad ra b))) (va_Qi (fun r (u : BU) => r = zI (vLet S x) ∧ RO S X Q P zs u) (fun u t9 => wrQ dg sz (brkU ck ka ad ra b) (brkU ck ka ad ra u) t9) (va_A (brkU ck ka ad ra b) sz)) 1 6 (va_A (brkU ck ka ad ra b) sz) := by
  obtain ⟨Z, O, U, X', S', T, P', I, V, N, Y, Q'⟩ := b
  obtain ⟨e1, e2, e3, e4, e5, ⟨hln, htx, hkv⟩, hu0, hY⟩ := hR
  have e1 : S = S' := e1
  have e2 : X = X' := e2
  have e3 : Q = Q' := e3
  have e4 : P = P' := e4
  have e5 : zs = Z 0 := e5
  subst e1 e2 e3 e4 e5
  have hln : 0 ≤ I 0 0 ∧ I 0 0 ≤ 60 := hln
  have htx : ∀ i, 0 ≤ i → i < 60 → 0 ≤ I 1 i ∧ I 1 i ≤ 126 := htx
  have hkv : 0 ≤ I 0 2 ∧ I 0 2 ≤ 9 := hkv
  have hu0 : 0 ≤ U 0 ∧ U 0 ≤ 16 := hu0
  have hY : y7Z Y := hY
  obtain ⟨⟨hV, hV2⟩, ⟨hn, hz⟩, hq10, hhist, hz0, hp10, hsn⟩ := id hκ
  have hI := hV.bd
  have hs10 : ∀ i, 0 ≤ S 10 i ∧ S 10 i ≤ 1 := hI.2.2.2.2.2.2.2.2.2.2.2.2.2.1
  refine x_ofWH (cc := cL_isLet) (maxL := 3) (ret := (some .int)) (by decide) rfl ?_
  intro p e s m args below meth c s₁ B hml htab hv
  obtain ⟨rfl, ⟨hsz, hP, hK, hD0⟩, hC⟩ := hv
  have hx := B.exec
  have hb := B.bytes
  have hr := B.returns
  have hts := atoms_spec (ws := .codeWith yL_isLet cL_isLet 3 (some .int) [(0, 13, 14, 20)] :: GW) B.pre
  have htg : ∀ w ∈ GW, w.before _ s = true := fun w h => hts w (List.mem_cons_of_mem _ h)
  have hown : s.vm.findClass RL = some m.cls := findClass_of_methodNamed B.named
  have hlocks := B.notSynchronized
  subst hsz
  have hD := hD0.self (sz := s.heap.size)
  generalize hAe : va_A (brkU ck ka ad ra (Z, O, U, X, S, T, P, I, V, N, Y, Q)) s.heap.size = A at hD hC ⊢
  have hA : ∀ q : Nat, s.heap.size ≤ q → A q := fun q h => by rw [← hAe]; exact Or.inr h
  have hS : va_S A s.heap s.heap [] := va_S.rf
  have hP : va_P dg vwCl (brkW ck ka ad ra Z O U X S T P I V N Y Q) s.heap := hP
  have hD : va_D A (brkW ck ka ad ra Z O U X S T P I V N Y Q) := hD
  have hl := lv_entry ([.ref ((ad 7) 0), .int (zI x)]) (n := 3) (Nat.le_of_ble_eq_true rfl)
  rw [lg_entry_eq]
  generalize (lg_sl ([.ref ((ad 7) 0), .int (zI x)]) ++ List.replicate (3 - (lg_sl ([.ref ((ad 7) 0), .int (zI x)])).length) Slot.unset).toArray = ls at hl ⊢
  have hl : lv_has ls 3 [(0, .ref ((ad 7) 0)), (1, .int (zI x))] := hl
  refine lv_aload_n hx hb dL_isLet_0 rfl (lv_at hl 0 rfl) ?_
  refine lv_iload_n hx hb dL_isLet_1 rfl (lv_at hl 1 rfl) ?_
  refine xl_calli0 (M := brkW ck ka ad ra Z O U X S T P I V N Y Q) (Mf := fun u : Unit => brkW ck ka ad ra Z O U X S T P I V N Y Q) (MX := fun u : Unit => brkW ck ka ad ra Z O U X S T P I V N Y Q) hP hD hS hA (fun hPm hDm => vx_runV (As := [.int (zI x)]) (rest := []) ⟨hx, hb, hml, hown, htg⟩ (x_isLet l dg ck ka ad ra Z O U X S T P I V N Y Q x _ hI rg_x hst) (cwV 1 htg (gwV wq_528 wq_529 wq_530 wq_1 wq_531) rfl rfl rfl (by decide +kernel) ⟨Nat.le_of_ble_eq_true rfl, Nat.le_of_ble_eq_true rfl⟩) (wrK_preV hK hPm hDm hC hS hA 0 10 rfl rfl) rfl rfl hl.1 rfl (lv_room (Nat.le_of_ble_eq_true rfl)) dL_isLet_2 ⟨Nat.le_of_ble_eq_true rfl, Nat.le_of_ble_eq_true rfl⟩) (fun E9 ce9 q9 u9 H locs hE9 hP hD hS g1 g2 g3 => ?_) (fun r9 u9 H locs hn9 hP hD hS => ?_)
  · obtain ⟨rfl, hc⟩ := hE9
    refine vx_catch (own := RL) (name := "java/lang/IndexOutOfBoundsException") hown [] ⟨0, 13, 14, 20⟩ [] (by rw [htab]; rfl) (fun z hz => absurd hz List.not_mem_nil) (by decide) (by decide) (htg _ wq_341) (va_Nw.use rfl (hC.nw (w := .castable "java/lang/IndexOutOfBoundsException" "java/lang/IndexOutOfBoundsException") (by decide +kernel))) g1 g2 g3 ?_
    refine W.eq (g2 := F0 m 14 ls [.ref q9]) rfl ?_
    refine lv_astore_n (lv' := [(2, .ref q9), (0, .ref ((ad 7) 0)), (1, .int (zI x))]) hx hb dL_isLet_14 rfl hl (by decide) rfl (fun ls hl => ?_)
    refine x_bipush hx hb dL_isLet_15 (by decide) ?_
    exact W.widen (k := 1) (n := 6) (Nat.le_of_ble_eq_true rfl) (Nat.le_of_ble_eq_true rfl) (W.iret (v := _) hx hb hr (fun t9 ht9 hW9 => ⟨⟨_, ((Z, O, U, X, S, T, P, I, V, N, Y, Q)), rfl, ⟨congrArg zI (if_neg hc).symm, ⟨rfl, rfl, rfl, rfl, rfl, ⟨hln, htx, hkv⟩, hu0, hY⟩⟩, by rw [ht9]; exact hP, by rw [hAe]; exact hD⟩, hS.F ht9⟩) hS.2.2 dL_isLet_17)
  have hP : va_P dg vwCl (brkW ck ka ad ra Z O U X S T P I V N Y Q) H := hP
  have hD : va_D A (brkW ck ka ad ra Z O U X S T P I V N Y Q) := hD
  obtain ⟨rfl, hok⟩ := hn9
  have hv9 := bI_r (S 4 x ≠ 0)
  rcases (show (bI (S 4 x ≠ 0)) = 1 ∨ (bI (S 4 x ≠ 0)) = 0 by omega) with h9 | h9
  · refine x_is h9 ?_
    refine x_if_eq (tgt := 12) hx hb dL_isLet_5 (by decide) (by omega) (fun c => absurd c (by decide)) (fun _ => ?_)
    refine x_iconst hx hb dL_isLet_8 ?_
    refine lv_goto (tgt := 13) hx hb dL_isLet_9 (by decide) ?_
    exact W.widen (k := 1) (n := 6) (Nat.le_of_ble_eq_true rfl) (Nat.le_of_ble_eq_true rfl) (W.iret (v := _) hx hb hr (fun t9 ht9 hW9 => ⟨⟨_, ((Z, O, U, X, S, T, P, I, V, N, Y, Q)), rfl, ⟨congrArg zI (h9.symm.trans (if_pos hok).symm), ⟨rfl, rfl, rfl, rfl, rfl, ⟨hln, htx, hkv⟩, hu0, hY⟩⟩, by rw [ht9]; exact hP, by rw [hAe]; exact hD⟩, hS.F ht9⟩) hS.2.2 dL_isLet_13)
  · refine x_is h9 ?_
    refine x_if_eq (tgt := 12) hx hb dL_isLet_5 (by decide) (by omega) (fun _ => ?_) (fun c => absurd c (by decide))
    refine x_iconst hx hb dL_isLet_12 ?_
    exact W.widen (k := 1) (n := 6) (Nat.le_of_ble_eq_true rfl) (Nat.le_of_ble_eq_true rfl) (W.iret (v := _) hx hb hr (fun t9 ht9 hW9 => ⟨⟨_, ((Z, O, U, X, S, T, P, I, V, N, Y, Q)), rfl, ⟨congrArg zI (h9.symm.trans (if_pos hok).symm), ⟨rfl, rfl, rfl, rfl, rfl, ⟨hln, htx, hkv⟩, hu0, hY⟩⟩, by rw [ht9]; exact hP, by rw [hAe]; exact hD⟩, hS.F ht9⟩) hS.2.2 dL_isLet_13)

theorem wqL_canLease : (Jvm.Cond.codeWith ({ cls := "BenchBrokerLaw", name := "canLease", desc := "(LBenchBroker;II)I" } : Jvm.MethodName) method_24_code (4 : Nat) (Option.some Jvm.ClassFile.FieldType.int) [((0 : Nat), (14 : Nat), (15 : Nat), (20 : Nat))]) ∈ GW := tq_3 25 rfl rfl
set_option maxHeartbeats 4000000 in
set_option maxRecDepth 100000 in
/-- the law's canLease -/
theorem w_canLease (l : Launch) (dg : va_G) (ck : Nat → ClassId) (ka : Nat → Nat) (ad ra : Nat → Nat → Nat) (S : St) (X : Nat → Int) (Q : Nat → St) (P : St) (zs : Int) (b : BU) (x y : Int) (sz : Nat) {n : Int} (hκ : KI n S X Q P zs) (hR : RO S X Q P zs b)  (rg_x : -2147483648 ≤ x ∧ x < 2147483648) (rg_y : -2147483648 ≤ y ∧ y < 2147483648) (hst : l.stackTraces = false) : Met l yL_canLease (.codeWith yL_canLease cL_canLease 4 (some .int) [(0, 14, 15, 20)] :: GW) ({ frames := 8, cells := 2, slots := 12, locals := 138 }) (va_Pc [.ref ((ad 7) 0), .int (zI x), .int (zI y)] (wrK dg ck ka sz (brkU ck ka ad ra b))) (va_Qi (fun r (u : BU) => r = zI (vCan S x y) ∧ RO S X Q P zs u) (fun u t9 => wrQ dg sz (brkU ck ka ad ra b) (brkU ck ka ad ra u) t9) (va_A (brkU ck ka ad ra b) sz)) 2 12 (va_A (brkU ck ka ad ra b) sz) := by
  obtain ⟨Z, O, U, X', S', T, P', I, V, N, Y, Q'⟩ := b
  obtain ⟨e1, e2, e3, e4, e5, ⟨hln, htx, hkv⟩, hu0, hY⟩ := hR
  have e1 : S = S' := e1
  have e2 : X = X' := e2
  have e3 : Q = Q' := e3
  have e4 : P = P' := e4
  have e5 : zs = Z 0 := e5
  subst e1 e2 e3 e4 e5
  have hln : 0 ≤ I 0 0 ∧ I 0 0 ≤ 60 := hln
  have htx : ∀ i, 0 ≤ i → i < 60 → 0 ≤ I 1 i ∧ I 1 i ≤ 126 := htx
  have hkv : 0 ≤ I 0 2 ∧ I 0 2 ≤ 9 := hkv
  have hu0 : 0 ≤ U 0 ∧ U 0 ≤ 16 := hu0
  have hY : y7Z Y := hY
  obtain ⟨⟨hV, hV2⟩, ⟨hn, hz⟩, hq10, hhist, hz0, hp10, hsn⟩ := id hκ
  have hI := hV.bd
  have hs10 : ∀ i, 0 ≤ S 10 i ∧ S 10 i ≤ 1 := hI.2.2.2.2.2.2.2.2.2.2.2.2.2.1
  refine x_ofWH (cc := cL_canLease) (maxL := 4) (ret := (some .int)) (by decide) rfl ?_
  intro p e s m args below meth c s₁ B hml htab hv
  obtain ⟨rfl, ⟨hsz, hP, hK, hD0⟩, hC⟩ := hv
  have hx := B.exec
  have hb := B.bytes
  have hr := B.returns
  have hts := atoms_spec (ws := .codeWith yL_canLease cL_canLease 4 (some .int) [(0, 14, 15, 20)] :: GW) B.pre
  have htg : ∀ w ∈ GW, w.before _ s = true := fun w h => hts w (List.mem_cons_of_mem _ h)
  have hown : s.vm.findClass RL = some m.cls := findClass_of_methodNamed B.named
  have hlocks := B.notSynchronized
  subst hsz
  have hD := hD0.self (sz := s.heap.size)
  generalize hAe : va_A (brkU ck ka ad ra (Z, O, U, X, S, T, P, I, V, N, Y, Q)) s.heap.size = A at hD hC ⊢
  have hA : ∀ q : Nat, s.heap.size ≤ q → A q := fun q h => by rw [← hAe]; exact Or.inr h
  have hS : va_S A s.heap s.heap [] := va_S.rf
  have hP : va_P dg vwCl (brkW ck ka ad ra Z O U X S T P I V N Y Q) s.heap := hP
  have hD : va_D A (brkW ck ka ad ra Z O U X S T P I V N Y Q) := hD
  have hl := lv_entry ([.ref ((ad 7) 0), .int (zI x), .int (zI y)]) (n := 4) (Nat.le_of_ble_eq_true rfl)
  rw [lg_entry_eq]
  generalize (lg_sl ([.ref ((ad 7) 0), .int (zI x), .int (zI y)]) ++ List.replicate (4 - (lg_sl ([.ref ((ad 7) 0), .int (zI x), .int (zI y)])).length) Slot.unset).toArray = ls at hl ⊢
  have hl : lv_has ls 4 [(0, .ref ((ad 7) 0)), (1, .int (zI x)), (2, .int (zI y))] := hl
  refine lv_aload_n hx hb dL_canLease_0 rfl (lv_at hl 0 rfl) ?_
  refine lv_iload_n hx hb dL_canLease_1 rfl (lv_at hl 1 rfl) ?_
  refine lv_iload_n hx hb dL_canLease_2 rfl (lv_at hl 2 rfl) ?_
  refine xl_calli0 (M := brkW ck ka ad ra Z O U X S T P I V N Y Q) (Mf := fun u : Unit => brkW ck ka ad ra Z O U X S T P I V N Y Q) (MX := fun u : Unit => brkW ck ka ad ra Z O U X S T P I V N Y Q) hP hD hS hA (fun hPm hDm => vx_runV (As := [.int (zI x), .int (zI y)]) (rest := []) ⟨hx, hb, hml, hown, htg⟩ (x_canLease l dg ck ka ad ra Z O U X S T P I V N Y Q x y _ hI rg_x rg_y hst) (cwV 2 htg (gwV wq_506 wq_507 wq_508 wq_1 wq_509) rfl rfl rfl (by decide +kernel) ⟨Nat.le_of_ble_eq_true rfl, Nat.le_of_ble_eq_true rfl⟩) (wrK_preV hK hPm hDm hC hS hA 0 10 rfl rfl) rfl rfl hl.1 rfl (lv_room (Nat.le_of_ble_eq_true rfl)) dL_canLease_3 ⟨Nat.le_of_ble_eq_true rfl, Nat.le_of_ble_eq_true rfl⟩) (fun E9 ce9 q9 u9 H locs hE9 hP hD hS g1 g2 g3 => ?_) (fun r9 u9 H locs hn9 hP hD hS => ?_)
  · obtain ⟨rfl, hc⟩ := hE9
    refine vx_catch (own := RL) (name := "java/lang/IndexOutOfBoundsException") hown [] ⟨0, 14, 15, 20⟩ [] (by rw [htab]; rfl) (fun z hz => absurd hz List.not_mem_nil) (by decide) (by decide) (htg _ wq_341) (va_Nw.use rfl (hC.nw (w := .castable "java/lang/IndexOutOfBoundsException" "java/lang/IndexOutOfBoundsException") (by decide +kernel))) g1 g2 g3 ?_
    refine W.eq (g2 := F0 m 15 ls [.ref q9]) rfl ?_
    refine lv_astore_n (lv' := [(3, .ref q9), (0, .ref ((ad 7) 0)), (1, .int (zI x)), (2, .int (zI y))]) hx hb dL_canLease_15 rfl hl (by decide) rfl (fun ls hl => ?_)
    refine x_bipush hx hb dL_canLease_16 (by decide) ?_
    exact W.widen (k := 2) (n := 12) (Nat.le_of_ble_eq_true rfl) (Nat.le_of_ble_eq_true rfl) (W.iret (v := _) hx hb hr (fun t9 ht9 hW9 => ⟨⟨_, ((Z, O, U, X, S, T, P, I, V, N, Y, Q)), rfl, ⟨congrArg zI (if_neg hc).symm, ⟨rfl, rfl, rfl, rfl, rfl, ⟨hln, htx, hkv⟩, hu0, hY⟩⟩, by rw [ht9]; exact hP, by rw [hAe]; exact hD⟩, hS.F ht9⟩) hS.2.2 dL_canLease_18)
  have hP : va_P dg vwCl (brkW ck ka ad ra Z O U X S T P I V N Y Q) H := hP
  have hD : va_D A (brkW ck ka ad ra Z O U X S T P I V N Y Q) := hD
  obtain ⟨rfl, hok⟩ := hn9
  have hv9 := bI_r (obst S x y = 0)
  rcases (show (bI (obst S x y = 0)) = 1 ∨ (bI (obst S x y = 0)) = 0 by omega) with h9 | h9
  · refine x_is h9 ?_
    refine x_if_eq (tgt := 13) hx hb dL_canLease_6 (by decide) (by omega) (fun c => absurd c (by decide)) (fun _ => ?_)
    refine x_iconst hx hb dL_canLease_9 ?_
    refine lv_goto (tgt := 14) hx hb dL_canLease_10 (by decide) ?_
    exact W.widen (k := 2) (n := 12) (Nat.le_of_ble_eq_true rfl) (Nat.le_of_ble_eq_true rfl) (W.iret (v := _) hx hb hr (fun t9 ht9 hW9 => ⟨⟨_, ((Z, O, U, X, S, T, P, I, V, N, Y, Q)), rfl, ⟨congrArg zI (h9.symm.trans (if_pos hok).symm), ⟨rfl, rfl, rfl, rfl, rfl, ⟨hln, htx, hkv⟩, hu0, hY⟩⟩, by rw [ht9]; exact hP, by rw [hAe]; exact hD⟩, hS.F ht9⟩) hS.2.2 dL_canLease_14)
  · refine x_is h9 ?_
    refine x_if_eq (tgt := 13) hx hb dL_canLease_6 (by decide) (by omega) (fun _ => ?_) (fun c => absurd c (by decide))
    refine x_iconst hx hb dL_canLease_13 ?_
    exact W.widen (k := 2) (n := 12) (Nat.le_of_ble_eq_true rfl) (Nat.le_of_ble_eq_true rfl) (W.iret (v := _) hx hb hr (fun t9 ht9 hW9 => ⟨⟨_, ((Z, O, U, X, S, T, P, I, V, N, Y, Q)), rfl, ⟨congrArg zI (h9.symm.trans (if_pos hok).symm), ⟨rfl, rfl, rfl, rfl, rfl, ⟨hln, htx, hkv⟩, hu0, hY⟩⟩, by rw [ht9]; exact hP, by rw [hAe]; exact hD⟩, hS.F ht9⟩) hS.2.2 dL_canLease_14)

theorem wqL_benchOf : (Jvm.Cond.codeWith ({ cls := "BenchBrokerLaw", name := "benchOf", desc := "(LBenchBroker;I)I" } : Jvm.MethodName) method_23_code (3 : Nat) (Option.some Jvm.ClassFile.FieldType.int) [((0 : Nat), (5 : Nat), (6 : Nat), (20 : Nat)), ((0 : Nat), (5 : Nat), (10 : Nat), (86 : Nat))]) ∈ GW := tq_2 230 rfl rfl
set_option maxHeartbeats 4000000 in
set_option maxRecDepth 100000 in
/-- the law's benchOf -/
theorem w_benchOf (l : Launch) (dg : va_G) (ck : Nat → ClassId) (ka : Nat → Nat) (ad ra : Nat → Nat → Nat) (S : St) (X : Nat → Int) (Q : Nat → St) (P : St) (zs : Int) (b : BU) (x : Int) (sz : Nat) {n : Int} (hκ : KI n S X Q P zs) (hR : RO S X Q P zs b)  (rg_x : -2147483648 ≤ x ∧ x < 2147483648) (hst : l.stackTraces = false) : Met l yL_benchOf (.codeWith yL_benchOf cL_benchOf 3 (some .int) [(0, 5, 6, 20), (0, 5, 10, 86)] :: GW) ({ frames := 8, cells := 2, slots := 12, locals := 138 }) (va_Pc [.ref ((ad 7) 0), .int (zI x)] (wrK dg ck ka sz (brkU ck ka ad ra b))) (va_Qi (fun r (u : BU) => r = zI (vBof S x) ∧ RO S X Q P zs u) (fun u t9 => wrQ dg sz (brkU ck ka ad ra b) (brkU ck ka ad ra u) t9) (va_A (brkU ck ka ad ra b) sz)) 2 12 (va_A (brkU ck ka ad ra b) sz) := by
  obtain ⟨Z, O, U, X', S', T, P', I, V, N, Y, Q'⟩ := b
  obtain ⟨e1, e2, e3, e4, e5, ⟨hln, htx, hkv⟩, hu0, hY⟩ := hR
  have e1 : S = S' := e1
  have e2 : X = X' := e2
  have e3 : Q = Q' := e3
  have e4 : P = P' := e4
  have e5 : zs = Z 0 := e5
  subst e1 e2 e3 e4 e5
  have hln : 0 ≤ I 0 0 ∧ I 0 0 ≤ 60 := hln
  have htx : ∀ i, 0 ≤ i → i < 60 → 0 ≤ I 1 i ∧ I 1 i ≤ 126 := htx
  have hkv : 0 ≤ I 0 2 ∧ I 0 2 ≤ 9 := hkv
  have hu0 : 0 ≤ U 0 ∧ U 0 ≤ 16 := hu0
  have hY : y7Z Y := hY
  obtain ⟨⟨hV, hV2⟩, ⟨hn, hz⟩, hq10, hhist, hz0, hp10, hsn⟩ := id hκ
  have hI := hV.bd
  have hs10 : ∀ i, 0 ≤ S 10 i ∧ S 10 i ≤ 1 := hI.2.2.2.2.2.2.2.2.2.2.2.2.2.1
  refine x_ofWH (cc := cL_benchOf) (maxL := 3) (ret := (some .int)) (by decide) rfl ?_
  intro p e s m args below meth c s₁ B hml htab hv
  obtain ⟨rfl, ⟨hsz, hP, hK, hD0⟩, hC⟩ := hv
  have hx := B.exec
  have hb := B.bytes
  have hr := B.returns
  have hts := atoms_spec (ws := .codeWith yL_benchOf cL_benchOf 3 (some .int) [(0, 5, 6, 20), (0, 5, 10, 86)] :: GW) B.pre
  have htg : ∀ w ∈ GW, w.before _ s = true := fun w h => hts w (List.mem_cons_of_mem _ h)
  have hown : s.vm.findClass RL = some m.cls := findClass_of_methodNamed B.named
  have hlocks := B.notSynchronized
  subst hsz
  have hD := hD0.self (sz := s.heap.size)
  generalize hAe : va_A (brkU ck ka ad ra (Z, O, U, X, S, T, P, I, V, N, Y, Q)) s.heap.size = A at hD hC ⊢
  have hA : ∀ q : Nat, s.heap.size ≤ q → A q := fun q h => by rw [← hAe]; exact Or.inr h
  have hS : va_S A s.heap s.heap [] := va_S.rf
  have hP : va_P dg vwCl (brkW ck ka ad ra Z O U X S T P I V N Y Q) s.heap := hP
  have hD : va_D A (brkW ck ka ad ra Z O U X S T P I V N Y Q) := hD
  have hl := lv_entry ([.ref ((ad 7) 0), .int (zI x)]) (n := 3) (Nat.le_of_ble_eq_true rfl)
  rw [lg_entry_eq]
  generalize (lg_sl ([.ref ((ad 7) 0), .int (zI x)]) ++ List.replicate (3 - (lg_sl ([.ref ((ad 7) 0), .int (zI x)])).length) Slot.unset).toArray = ls at hl ⊢
  have hl : lv_has ls 3 [(0, .ref ((ad 7) 0)), (1, .int (zI x))] := hl
  refine lv_aload_n hx hb dL_benchOf_0 rfl (lv_at hl 0 rfl) ?_
  refine lv_iload_n hx hb dL_benchOf_1 rfl (lv_at hl 1 rfl) ?_
  refine xl_calli0 (M := brkW ck ka ad ra Z O U X S T P I V N Y Q) (Mf := fun u : Unit => brkW ck ka ad ra Z O U X S T P I V N Y Q) (MX := fun u : Unit => brkW ck ka ad ra Z O U X S T P I V N Y Q) hP hD hS hA (fun hPm hDm => vx_runV (As := [.int (zI x)]) (rest := []) ⟨hx, hb, hml, hown, htg⟩ (x_benchOf l dg ck ka ad ra Z O U X S T P I V N Y Q x _ hI rg_x hst) (cwV 1 htg (gwV wq_472 wq_473 wq_474 wq_1 wq_475) rfl rfl rfl (by decide +kernel) ⟨Nat.le_of_ble_eq_true rfl, Nat.le_of_ble_eq_true rfl⟩) (wrK_preV hK hPm hDm hC hS hA 0 10 rfl rfl) rfl rfl hl.1 rfl (lv_room (Nat.le_of_ble_eq_true rfl)) dL_benchOf_2 ⟨Nat.le_of_ble_eq_true rfl, Nat.le_of_ble_eq_true rfl⟩) (fun E9 ce9 q9 u9 H locs hE9 hP hD hS g1 g2 g3 => ?_) (fun r9 u9 H locs hn9 hP hD hS => ?_)
  · rcases hE9 with ⟨rfl, hc⟩ | ⟨rfl, hc⟩
    · refine vx_catch (own := RL) (name := "java/lang/IndexOutOfBoundsException") hown [] ⟨0, 5, 6, 20⟩ [⟨0, 5, 10, 86⟩] (by rw [htab]; rfl) (fun z hz => absurd hz List.not_mem_nil) (by decide) (by decide) (htg _ wq_341) (va_Nw.use rfl (hC.nw (w := .castable "java/lang/IndexOutOfBoundsException" "java/lang/IndexOutOfBoundsException") (by decide +kernel))) g1 g2 g3 ?_
      refine W.eq (g2 := F0 m 6 ls [.ref q9]) rfl ?_
      refine lv_astore_n (lv' := [(2, .ref q9), (0, .ref ((ad 7) 0)), (1, .int (zI x))]) hx hb dL_benchOf_6 rfl hl (by decide) rfl (fun ls hl => ?_)
      refine x_bipush hx hb dL_benchOf_7 (by decide) ?_
      exact W.widen (k := 2) (n := 12) (Nat.le_of_ble_eq_true rfl) (Nat.le_of_ble_eq_true rfl) (W.iret (v := _) hx hb hr (fun t9 ht9 hW9 => ⟨⟨_, ((Z, O, U, X, S, T, P, I, V, N, Y, Q)), rfl, ⟨congrArg zI (if_neg hc).symm, ⟨rfl, rfl, rfl, rfl, rfl, ⟨hln, htx, hkv⟩, hu0, hY⟩⟩, by rw [ht9]; exact hP, by rw [hAe]; exact hD⟩, hS.F ht9⟩) hS.2.2 dL_benchOf_9)
    · refine vx_catch (own := RL) (name := "java/util/NoSuchElementException") hown [⟨0, 5, 6, 20⟩] ⟨0, 5, 10, 86⟩ [] (by rw [htab]; rfl) (by intro z hz; simp only [List.mem_cons, List.not_mem_nil, or_false] at hz; subst hz; exact Or.inr ⟨by decide, "java/lang/IndexOutOfBoundsException", htg _ wq_341, hC.nc (by decide +kernel)⟩) (by decide) (by decide) (htg _ wq_471) (va_Nw.use rfl (hC.nw (w := .castable "java/util/NoSuchElementException" "java/util/NoSuchElementException") (by decide +kernel))) g1 g2 g3 ?_
      refine W.eq (g2 := F0 m 10 ls [.ref q9]) rfl ?_
      refine lv_astore_n (lv' := [(2, .ref q9), (0, .ref ((ad 7) 0)), (1, .int (zI x))]) hx hb dL_benchOf_10 rfl hl (by decide) rfl (fun ls hl => ?_)
      refine x_bipush hx hb dL_benchOf_11 (by decide) ?_
      exact W.widen (k := 2) (n := 12) (Nat.le_of_ble_eq_true rfl) (Nat.le_of_ble_eq_true rfl) (W.iret (v := _) hx hb hr (fun t9 ht9 hW9 => ⟨⟨_, ((Z, O, U, X, S, T, P, I, V, N, Y, Q)), rfl, ⟨congrArg zI ((if_pos hc.1).trans (if_pos hc.2)).symm, ⟨rfl, rfl, rfl, rfl, rfl, ⟨hln, htx, hkv⟩, hu0, hY⟩⟩, by rw [ht9]; exact hP, by rw [hAe]; exact hD⟩, hS.F ht9⟩) hS.2.2 dL_benchOf_13)
  have hP : va_P dg vwCl (brkW ck ka ad ra Z O U X S T P I V N Y Q) H := hP
  have hD : va_D A (brkW ck ka ad ra Z O U X S T P I V N Y Q) := hD
  exact W.widen (k := 2) (n := 12) (Nat.le_of_ble_eq_true rfl) (Nat.le_of_ble_eq_true rfl) (W.iret (v := _) hx hb hr (fun t9 ht9 hW9 => ⟨⟨_, ((Z, O, U, X, S, T, P, I, V, N, Y, Q)), rfl, ⟨hn9.1.trans (congrArg zI ((if_pos hn9.2.1).trans (if_neg hn9.2.2)).symm), ⟨rfl, rfl, rfl, rfl, rfl, ⟨hln, htx, hkv⟩, hu0, hY⟩⟩, by rw [ht9]; exact hP, by rw [hAe]; exact hD⟩, hS.F ht9⟩) hS.2.2 dL_benchOf_5)

theorem wqL_cheapestFor : (Jvm.Cond.codeWith ({ cls := "BenchBrokerLaw", name := "cheapestFor", desc := "(LBenchBroker;I)I" } : Jvm.MethodName) method_25_code (3 : Nat) (Option.some Jvm.ClassFile.FieldType.int) [((0 : Nat), (5 : Nat), (6 : Nat), (20 : Nat)), ((0 : Nat), (5 : Nat), (10 : Nat), (86 : Nat))]) ∈ GW := tq_6 199 rfl rfl
set_option maxHeartbeats 4000000 in
set_option maxRecDepth 100000 in
/-- the law's cheapestFor -/
theorem w_cheapestFor (l : Launch) (dg : va_G) (ck : Nat → ClassId) (ka : Nat → Nat) (ad ra : Nat → Nat → Nat) (S : St) (X : Nat → Int) (Q : Nat → St) (P : St) (zs : Int) (b : BU) (x : Int) (sz : Nat) {n : Int} (hκ : KI n S X Q P zs) (hR : RO S X Q P zs b)  (rg_x : -2147483648 ≤ x ∧ x < 2147483648) (hst : l.stackTraces = false) : Met l yL_cheapestFor (.codeWith yL_cheapestFor cL_cheapestFor 3 (some .int) [(0, 5, 6, 20), (0, 5, 10, 86)] :: GW) ({ frames := 8, cells := 2, slots := 12, locals := 138 }) (va_Pc [.ref ((ad 7) 0), .int (zI x)] (wrK dg ck ka sz (brkU ck ka ad ra b))) (va_Qi (fun r (u : BU) => r = zI (vCheap S x) ∧ RO S X Q P zs u) (fun u t9 => wrQ dg sz (brkU ck ka ad ra b) (brkU ck ka ad ra u) t9) (va_A (brkU ck ka ad ra b) sz)) 2 12 (va_A (brkU ck ka ad ra b) sz) := by
  obtain ⟨Z, O, U, X', S', T, P', I, V, N, Y, Q'⟩ := b
  obtain ⟨e1, e2, e3, e4, e5, ⟨hln, htx, hkv⟩, hu0, hY⟩ := hR
  have e1 : S = S' := e1
  have e2 : X = X' := e2
  have e3 : Q = Q' := e3
  have e4 : P = P' := e4
  have e5 : zs = Z 0 := e5
  subst e1 e2 e3 e4 e5
  have hln : 0 ≤ I 0 0 ∧ I 0 0 ≤ 60 := hln
  have htx : ∀ i, 0 ≤ i → i < 60 → 0 ≤ I 1 i ∧ I 1 i ≤ 126 := htx
  have hkv : 0 ≤ I 0 2 ∧ I 0 2 ≤ 9 := hkv
  have hu0 : 0 ≤ U 0 ∧ U 0 ≤ 16 := hu0
  have hY : y7Z Y := hY
  obtain ⟨⟨hV, hV2⟩, ⟨hn, hz⟩, hq10, hhist, hz0, hp10, hsn⟩ := id hκ
  have hI := hV.bd
  have hs10 : ∀ i, 0 ≤ S 10 i ∧ S 10 i ≤ 1 := hI.2.2.2.2.2.2.2.2.2.2.2.2.2.1
  refine x_ofWH (cc := cL_cheapestFor) (maxL := 3) (ret := (some .int)) (by decide) rfl ?_
  intro p e s m args below meth c s₁ B hml htab hv
  obtain ⟨rfl, ⟨hsz, hP, hK, hD0⟩, hC⟩ := hv
  have hx := B.exec
  have hb := B.bytes
  have hr := B.returns
  have hts := atoms_spec (ws := .codeWith yL_cheapestFor cL_cheapestFor 3 (some .int) [(0, 5, 6, 20), (0, 5, 10, 86)] :: GW) B.pre
  have htg : ∀ w ∈ GW, w.before _ s = true := fun w h => hts w (List.mem_cons_of_mem _ h)
  have hown : s.vm.findClass RL = some m.cls := findClass_of_methodNamed B.named
  have hlocks := B.notSynchronized
  subst hsz
  have hD := hD0.self (sz := s.heap.size)
  generalize hAe : va_A (brkU ck ka ad ra (Z, O, U, X, S, T, P, I, V, N, Y, Q)) s.heap.size = A at hD hC ⊢
  have hA : ∀ q : Nat, s.heap.size ≤ q → A q := fun q h => by rw [← hAe]; exact Or.inr h
  have hS : va_S A s.heap s.heap [] := va_S.rf
  have hP : va_P dg vwCl (brkW ck ka ad ra Z O U X S T P I V N Y Q) s.heap := hP
  have hD : va_D A (brkW ck ka ad ra Z O U X S T P I V N Y Q) := hD
  have hl := lv_entry ([.ref ((ad 7) 0), .int (zI x)]) (n := 3) (Nat.le_of_ble_eq_true rfl)
  rw [lg_entry_eq]
  generalize (lg_sl ([.ref ((ad 7) 0), .int (zI x)]) ++ List.replicate (3 - (lg_sl ([.ref ((ad 7) 0), .int (zI x)])).length) Slot.unset).toArray = ls at hl ⊢
  have hl : lv_has ls 3 [(0, .ref ((ad 7) 0)), (1, .int (zI x))] := hl
  refine lv_aload_n hx hb dL_cheapestFor_0 rfl (lv_at hl 0 rfl) ?_
  refine lv_iload_n hx hb dL_cheapestFor_1 rfl (lv_at hl 1 rfl) ?_
  refine xl_calli0 (M := brkW ck ka ad ra Z O U X S T P I V N Y Q) (Mf := fun u : Unit => brkW ck ka ad ra Z O U X S T P I V N Y Q) (MX := fun u : Unit => brkW ck ka ad ra Z O U X S T P I V N Y Q) hP hD hS hA (fun hPm hDm => vx_runV (As := [.int (zI x)]) (rest := []) ⟨hx, hb, hml, hown, htg⟩ (x_cheapestFor l dg ck ka ad ra Z O U X S T P I V N Y Q x _ hI rg_x hst) (cwV 1 htg (gwV wq_1400 wq_1401 wq_1402 wq_1 wq_1403) rfl rfl rfl (by decide +kernel) ⟨Nat.le_of_ble_eq_true rfl, Nat.le_of_ble_eq_true rfl⟩) (wrK_preV hK hPm hDm hC hS hA 0 10 rfl rfl) rfl rfl hl.1 rfl (lv_room (Nat.le_of_ble_eq_true rfl)) dL_cheapestFor_2 ⟨Nat.le_of_ble_eq_true rfl, Nat.le_of_ble_eq_true rfl⟩) (fun E9 ce9 q9 u9 H locs hE9 hP hD hS g1 g2 g3 => ?_) (fun r9 u9 H locs hn9 hP hD hS => ?_)
  · rcases hE9 with ⟨rfl, hc⟩ | ⟨rfl, hc⟩
    · refine vx_catch (own := RL) (name := "java/lang/IndexOutOfBoundsException") hown [] ⟨0, 5, 6, 20⟩ [⟨0, 5, 10, 86⟩] (by rw [htab]; rfl) (fun z hz => absurd hz List.not_mem_nil) (by decide) (by decide) (htg _ wq_341) (va_Nw.use rfl (hC.nw (w := .castable "java/lang/IndexOutOfBoundsException" "java/lang/IndexOutOfBoundsException") (by decide +kernel))) g1 g2 g3 ?_
      refine W.eq (g2 := F0 m 6 ls [.ref q9]) rfl ?_
      refine lv_astore_n (lv' := [(2, .ref q9), (0, .ref ((ad 7) 0)), (1, .int (zI x))]) hx hb dL_cheapestFor_6 rfl hl (by decide) rfl (fun ls hl => ?_)
      refine x_bipush hx hb dL_cheapestFor_7 (by decide) ?_
      exact W.widen (k := 2) (n := 12) (Nat.le_of_ble_eq_true rfl) (Nat.le_of_ble_eq_true rfl) (W.iret (v := _) hx hb hr (fun t9 ht9 hW9 => ⟨⟨_, ((Z, O, U, X, S, T, P, I, V, N, Y, Q)), rfl, ⟨congrArg zI (if_neg hc).symm, ⟨rfl, rfl, rfl, rfl, rfl, ⟨hln, htx, hkv⟩, hu0, hY⟩⟩, by rw [ht9]; exact hP, by rw [hAe]; exact hD⟩, hS.F ht9⟩) hS.2.2 dL_cheapestFor_9)
    · refine vx_catch (own := RL) (name := "java/util/NoSuchElementException") hown [⟨0, 5, 6, 20⟩] ⟨0, 5, 10, 86⟩ [] (by rw [htab]; rfl) (by intro z hz; simp only [List.mem_cons, List.not_mem_nil, or_false] at hz; subst hz; exact Or.inr ⟨by decide, "java/lang/IndexOutOfBoundsException", htg _ wq_341, hC.nc (by decide +kernel)⟩) (by decide) (by decide) (htg _ wq_471) (va_Nw.use rfl (hC.nw (w := .castable "java/util/NoSuchElementException" "java/util/NoSuchElementException") (by decide +kernel))) g1 g2 g3 ?_
      refine W.eq (g2 := F0 m 10 ls [.ref q9]) rfl ?_
      refine lv_astore_n (lv' := [(2, .ref q9), (0, .ref ((ad 7) 0)), (1, .int (zI x))]) hx hb dL_cheapestFor_10 rfl hl (by decide) rfl (fun ls hl => ?_)
      refine x_bipush hx hb dL_cheapestFor_11 (by decide) ?_
      exact W.widen (k := 2) (n := 12) (Nat.le_of_ble_eq_true rfl) (Nat.le_of_ble_eq_true rfl) (W.iret (v := _) hx hb hr (fun t9 ht9 hW9 => ⟨⟨_, ((Z, O, U, X, S, T, P, I, V, N, Y, Q)), rfl, ⟨congrArg zI ((if_pos hc.1).trans (if_pos hc.2)).symm, ⟨rfl, rfl, rfl, rfl, rfl, ⟨hln, htx, hkv⟩, hu0, hY⟩⟩, by rw [ht9]; exact hP, by rw [hAe]; exact hD⟩, hS.F ht9⟩) hS.2.2 dL_cheapestFor_13)
  have hP : va_P dg vwCl (brkW ck ka ad ra Z O U X S T P I V N Y Q) H := hP
  have hD : va_D A (brkW ck ka ad ra Z O U X S T P I V N Y Q) := hD
  exact W.widen (k := 2) (n := 12) (Nat.le_of_ble_eq_true rfl) (Nat.le_of_ble_eq_true rfl) (W.iret (v := _) hx hb hr (fun t9 ht9 hW9 => ⟨⟨_, ((Z, O, U, X, S, T, P, I, V, N, Y, Q)), rfl, ⟨hn9.1.trans (congrArg zI ((if_pos hn9.2.1).trans (if_neg hn9.2.2)).symm), ⟨rfl, rfl, rfl, rfl, rfl, ⟨hln, htx, hkv⟩, hu0, hY⟩⟩, by rw [ht9]; exact hP, by rw [hAe]; exact hD⟩, hS.F ht9⟩) hS.2.2 dL_cheapestFor_5)

theorem wqL_tenantOf : (Jvm.Cond.codeWith ({ cls := "BenchBrokerLaw", name := "tenantOf", desc := "(LBenchBroker;I)I" } : Jvm.MethodName) method_30_code (3 : Nat) (Option.some Jvm.ClassFile.FieldType.int) [((0 : Nat), (5 : Nat), (6 : Nat), (20 : Nat)), ((0 : Nat), (5 : Nat), (10 : Nat), (86 : Nat))]) ∈ GW := tq_3 55 rfl rfl
set_option maxHeartbeats 4000000 in
set_option maxRecDepth 100000 in
/-- the law's tenantOf -/
theorem w_tenantOf (l : Launch) (dg : va_G) (ck : Nat → ClassId) (ka : Nat → Nat) (ad ra : Nat → Nat → Nat) (S : St) (X : Nat → Int) (Q : Nat → St) (P : St) (zs : Int) (b : BU) (x : Int) (sz : Nat) {n : Int} (hκ : KI n S X Q P zs) (hR : RO S X Q P zs b)  (rg_x : -2147483648 ≤ x ∧ x < 2147483648) (hst : l.stackTraces = false) : Met l yL_tenantOf (.codeWith yL_tenantOf cL_tenantOf 3 (some .int) [(0, 5, 6, 20), (0, 5, 10, 86)] :: GW) ({ frames := 9, cells := 2, slots := 12, locals := 158 }) (va_Pc [.ref ((ad 7) 0), .int (zI x)] (wrK dg ck ka sz (brkU ck ka ad ra b))) (va_Qi (fun r (u : BU) => r = zI (vTen S x) ∧ RO S X Q P zs u) (fun u t9 => wrQ dg sz (brkU ck ka ad ra b) (brkU ck ka ad ra u) t9) (va_A (brkU ck ka ad ra b) sz)) 2 12 (va_A (brkU ck ka ad ra b) sz) := by
  obtain ⟨Z, O, U, X', S', T, P', I, V, N, Y, Q'⟩ := b
  obtain ⟨e1, e2, e3, e4, e5, ⟨hln, htx, hkv⟩, hu0, hY⟩ := hR
  have e1 : S = S' := e1
  have e2 : X = X' := e2
  have e3 : Q = Q' := e3
  have e4 : P = P' := e4
  have e5 : zs = Z 0 := e5
  subst e1 e2 e3 e4 e5
  have hln : 0 ≤ I 0 0 ∧ I 0 0 ≤ 60 := hln
  have htx : ∀ i, 0 ≤ i → i < 60 → 0 ≤ I 1 i ∧ I 1 i ≤ 126 := htx
  have hkv : 0 ≤ I 0 2 ∧ I 0 2 ≤ 9 := hkv
  have hu0 : 0 ≤ U 0 ∧ U 0 ≤ 16 := hu0
  have hY : y7Z Y := hY
  obtain ⟨⟨hV, hV2⟩, ⟨hn, hz⟩, hq10, hhist, hz0, hp10, hsn⟩ := id hκ
  have hI := hV.bd
  have hs10 : ∀ i, 0 ≤ S 10 i ∧ S 10 i ≤ 1 := hI.2.2.2.2.2.2.2.2.2.2.2.2.2.1
  refine x_ofWH (cc := cL_tenantOf) (maxL := 3) (ret := (some .int)) (by decide) rfl ?_
  intro p e s m args below meth c s₁ B hml htab hv
  obtain ⟨rfl, ⟨hsz, hP, hK, hD0⟩, hC⟩ := hv
  have hx := B.exec
  have hb := B.bytes
  have hr := B.returns
  have hts := atoms_spec (ws := .codeWith yL_tenantOf cL_tenantOf 3 (some .int) [(0, 5, 6, 20), (0, 5, 10, 86)] :: GW) B.pre
  have htg : ∀ w ∈ GW, w.before _ s = true := fun w h => hts w (List.mem_cons_of_mem _ h)
  have hown : s.vm.findClass RL = some m.cls := findClass_of_methodNamed B.named
  have hlocks := B.notSynchronized
  subst hsz
  have hD := hD0.self (sz := s.heap.size)
  generalize hAe : va_A (brkU ck ka ad ra (Z, O, U, X, S, T, P, I, V, N, Y, Q)) s.heap.size = A at hD hC ⊢
  have hA : ∀ q : Nat, s.heap.size ≤ q → A q := fun q h => by rw [← hAe]; exact Or.inr h
  have hS : va_S A s.heap s.heap [] := va_S.rf
  have hP : va_P dg vwCl (brkW ck ka ad ra Z O U X S T P I V N Y Q) s.heap := hP
  have hD : va_D A (brkW ck ka ad ra Z O U X S T P I V N Y Q) := hD
  have hl := lv_entry ([.ref ((ad 7) 0), .int (zI x)]) (n := 3) (Nat.le_of_ble_eq_true rfl)
  rw [lg_entry_eq]
  generalize (lg_sl ([.ref ((ad 7) 0), .int (zI x)]) ++ List.replicate (3 - (lg_sl ([.ref ((ad 7) 0), .int (zI x)])).length) Slot.unset).toArray = ls at hl ⊢
  have hl : lv_has ls 3 [(0, .ref ((ad 7) 0)), (1, .int (zI x))] := hl
  refine lv_aload_n hx hb dL_tenantOf_0 rfl (lv_at hl 0 rfl) ?_
  refine lv_iload_n hx hb dL_tenantOf_1 rfl (lv_at hl 1 rfl) ?_
  refine xl_calli0 (M := brkW ck ka ad ra Z O U X S T P I V N Y Q) (Mf := fun u : Unit => brkW ck ka ad ra Z O U X S T P I V N Y Q) (MX := fun u : Unit => brkW ck ka ad ra Z O U X S T P I V N Y Q) hP hD hS hA (fun hPm hDm => vx_runV (As := [.int (zI x)]) (rest := []) ⟨hx, hb, hml, hown, htg⟩ (x_tenantOf l dg ck ka ad ra Z O U X S T P I V N Y Q x _ hI rg_x hst) (cwV 1 htg (gwV wq_536 wq_537 wq_538 wq_1 wq_539) rfl rfl rfl (by decide +kernel) ⟨Nat.le_of_ble_eq_true rfl, Nat.le_of_ble_eq_true rfl⟩) (wrK_preV hK hPm hDm hC hS hA 0 10 rfl rfl) rfl rfl hl.1 rfl (lv_room (Nat.le_of_ble_eq_true rfl)) dL_tenantOf_2 ⟨Nat.le_of_ble_eq_true rfl, Nat.le_of_ble_eq_true rfl⟩) (fun E9 ce9 q9 u9 H locs hE9 hP hD hS g1 g2 g3 => ?_) (fun r9 u9 H locs hn9 hP hD hS => ?_)
  · rcases hE9 with ⟨rfl, hc⟩ | ⟨rfl, hc⟩
    · refine vx_catch (own := RL) (name := "java/lang/IndexOutOfBoundsException") hown [] ⟨0, 5, 6, 20⟩ [⟨0, 5, 10, 86⟩] (by rw [htab]; rfl) (fun z hz => absurd hz List.not_mem_nil) (by decide) (by decide) (htg _ wq_341) (va_Nw.use rfl (hC.nw (w := .castable "java/lang/IndexOutOfBoundsException" "java/lang/IndexOutOfBoundsException") (by decide +kernel))) g1 g2 g3 ?_
      refine W.eq (g2 := F0 m 6 ls [.ref q9]) rfl ?_
      refine lv_astore_n (lv' := [(2, .ref q9), (0, .ref ((ad 7) 0)), (1, .int (zI x))]) hx hb dL_tenantOf_6 rfl hl (by decide) rfl (fun ls hl => ?_)
      refine x_bipush hx hb dL_tenantOf_7 (by decide) ?_
      exact W.widen (k := 2) (n := 12) (Nat.le_of_ble_eq_true rfl) (Nat.le_of_ble_eq_true rfl) (W.iret (v := _) hx hb hr (fun t9 ht9 hW9 => ⟨⟨_, ((Z, O, U, X, S, T, P, I, V, N, Y, Q)), rfl, ⟨congrArg zI (if_neg hc).symm, ⟨rfl, rfl, rfl, rfl, rfl, ⟨hln, htx, hkv⟩, hu0, hY⟩⟩, by rw [ht9]; exact hP, by rw [hAe]; exact hD⟩, hS.F ht9⟩) hS.2.2 dL_tenantOf_9)
    · refine vx_catch (own := RL) (name := "java/util/NoSuchElementException") hown [⟨0, 5, 6, 20⟩] ⟨0, 5, 10, 86⟩ [] (by rw [htab]; rfl) (by intro z hz; simp only [List.mem_cons, List.not_mem_nil, or_false] at hz; subst hz; exact Or.inr ⟨by decide, "java/lang/IndexOutOfBoundsException", htg _ wq_341, hC.nc (by decide +kernel)⟩) (by decide) (by decide) (htg _ wq_471) (va_Nw.use rfl (hC.nw (w := .castable "java/util/NoSuchElementException" "java/util/NoSuchElementException") (by decide +kernel))) g1 g2 g3 ?_
      refine W.eq (g2 := F0 m 10 ls [.ref q9]) rfl ?_
      refine lv_astore_n (lv' := [(2, .ref q9), (0, .ref ((ad 7) 0)), (1, .int (zI x))]) hx hb dL_tenantOf_10 rfl hl (by decide) rfl (fun ls hl => ?_)
      refine x_bipush hx hb dL_tenantOf_11 (by decide) ?_
      exact W.widen (k := 2) (n := 12) (Nat.le_of_ble_eq_true rfl) (Nat.le_of_ble_eq_true rfl) (W.iret (v := _) hx hb hr (fun t9 ht9 hW9 => ⟨⟨_, ((Z, O, U, X, S, T, P, I, V, N, Y, Q)), rfl, ⟨congrArg zI ((if_pos hc.1).trans (if_pos hc.2)).symm, ⟨rfl, rfl, rfl, rfl, rfl, ⟨hln, htx, hkv⟩, hu0, hY⟩⟩, by rw [ht9]; exact hP, by rw [hAe]; exact hD⟩, hS.F ht9⟩) hS.2.2 dL_tenantOf_13)
  have hP : va_P dg vwCl (brkW ck ka ad ra Z O U X S T P I V N Y Q) H := hP
  have hD : va_D A (brkW ck ka ad ra Z O U X S T P I V N Y Q) := hD
  exact W.widen (k := 2) (n := 12) (Nat.le_of_ble_eq_true rfl) (Nat.le_of_ble_eq_true rfl) (W.iret (v := _) hx hb hr (fun t9 ht9 hW9 => ⟨⟨_, ((Z, O, U, X, S, T, P, I, V, N, Y, Q)), rfl, ⟨hn9.1.trans (congrArg zI ((if_pos hn9.2.1).trans (if_neg hn9.2.2)).symm), ⟨rfl, rfl, rfl, rfl, rfl, ⟨hln, htx, hkv⟩, hu0, hY⟩⟩, by rw [ht9]; exact hP, by rw [hAe]; exact hD⟩, hS.F ht9⟩) hS.2.2 dL_tenantOf_5)

theorem wqL_depositOf : (Jvm.Cond.codeWith ({ cls := "BenchBrokerLaw", name := "depositOf", desc := "(LBenchBroker;I)I" } : Jvm.MethodName) method_31_code (3 : Nat) (Option.some Jvm.ClassFile.FieldType.int) [((0 : Nat), (5 : Nat), (6 : Nat), (20 : Nat)), ((0 : Nat), (5 : Nat), (10 : Nat), (86 : Nat))]) ∈ GW := tq_6 20 rfl rfl
set_option maxHeartbeats 4000000 in
set_option maxRecDepth 100000 in
/-- the law's depositOf -/
theorem w_depositOf (l : Launch) (dg : va_G) (ck : Nat → ClassId) (ka : Nat → Nat) (ad ra : Nat → Nat → Nat) (S : St) (X : Nat → Int) (Q : Nat → St) (P : St) (zs : Int) (b : BU) (x : Int) (sz : Nat) {n : Int} (hκ : KI n S X Q P zs) (hR : RO S X Q P zs b)  (rg_x : -2147483648 ≤ x ∧ x < 2147483648) (hst : l.stackTraces = false) : Met l yL_depositOf (.codeWith yL_depositOf cL_depositOf 3 (some .int) [(0, 5, 6, 20), (0, 5, 10, 86)] :: GW) ({ frames := 9, cells := 2, slots := 12, locals := 158 }) (va_Pc [.ref ((ad 7) 0), .int (zI x)] (wrK dg ck ka sz (brkU ck ka ad ra b))) (va_Qi (fun r (u : BU) => r = zI (vDep S x) ∧ RO S X Q P zs u) (fun u t9 => wrQ dg sz (brkU ck ka ad ra b) (brkU ck ka ad ra u) t9) (va_A (brkU ck ka ad ra b) sz)) 2 12 (va_A (brkU ck ka ad ra b) sz) := by
  obtain ⟨Z, O, U, X', S', T, P', I, V, N, Y, Q'⟩ := b
  obtain ⟨e1, e2, e3, e4, e5, ⟨hln, htx, hkv⟩, hu0, hY⟩ := hR
  have e1 : S = S' := e1
  have e2 : X = X' := e2
  have e3 : Q = Q' := e3
  have e4 : P = P' := e4
  have e5 : zs = Z 0 := e5
  subst e1 e2 e3 e4 e5
  have hln : 0 ≤ I 0 0 ∧ I 0 0 ≤ 60 := hln
  have htx : ∀ i, 0 ≤ i → i < 60 → 0 ≤ I 1 i ∧ I 1 i ≤ 126 := htx
  have hkv : 0 ≤ I 0 2 ∧ I 0 2 ≤ 9 := hkv
  have hu0 : 0 ≤ U 0 ∧ U 0 ≤ 16 := hu0
  have hY : y7Z Y := hY
  obtain ⟨⟨hV, hV2⟩, ⟨hn, hz⟩, hq10, hhist, hz0, hp10, hsn⟩ := id hκ
  have hI := hV.bd
  have hs10 : ∀ i, 0 ≤ S 10 i ∧ S 10 i ≤ 1 := hI.2.2.2.2.2.2.2.2.2.2.2.2.2.1
  refine x_ofWH (cc := cL_depositOf) (maxL := 3) (ret := (some .int)) (by decide) rfl ?_
  intro p e s m args below meth c s₁ B hml htab hv
  obtain ⟨rfl, ⟨hsz, hP, hK, hD0⟩, hC⟩ := hv
  have hx := B.exec
  have hb := B.bytes
  have hr := B.returns
  have hts := atoms_spec (ws := .codeWith yL_depositOf cL_depositOf 3 (some .int) [(0, 5, 6, 20), (0, 5, 10, 86)] :: GW) B.pre
  have htg : ∀ w ∈ GW, w.before _ s = true := fun w h => hts w (List.mem_cons_of_mem _ h)
  have hown : s.vm.findClass RL = some m.cls := findClass_of_methodNamed B.named
  have hlocks := B.notSynchronized
  subst hsz
  have hD := hD0.self (sz := s.heap.size)
  generalize hAe : va_A (brkU ck ka ad ra (Z, O, U, X, S, T, P, I, V, N, Y, Q)) s.heap.size = A at hD hC ⊢
  have hA : ∀ q : Nat, s.heap.size ≤ q → A q := fun q h => by rw [← hAe]; exact Or.inr h
  have hS : va_S A s.heap s.heap [] := va_S.rf
  have hP : va_P dg vwCl (brkW ck ka ad ra Z O U X S T P I V N Y Q) s.heap := hP
  have hD : va_D A (brkW ck ka ad ra Z O U X S T P I V N Y Q) := hD
  have hl := lv_entry ([.ref ((ad 7) 0), .int (zI x)]) (n := 3) (Nat.le_of_ble_eq_true rfl)
  rw [lg_entry_eq]
  generalize (lg_sl ([.ref ((ad 7) 0), .int (zI x)]) ++ List.replicate (3 - (lg_sl ([.ref ((ad 7) 0), .int (zI x)])).length) Slot.unset).toArray = ls at hl ⊢
  have hl : lv_has ls 3 [(0, .ref ((ad 7) 0)), (1, .int (zI x))] := hl
  refine lv_aload_n hx hb dL_depositOf_0 rfl (lv_at hl 0 rfl) ?_
  refine lv_iload_n hx hb dL_depositOf_1 rfl (lv_at hl 1 rfl) ?_
  refine xl_calli0 (M := brkW ck ka ad ra Z O U X S T P I V N Y Q) (Mf := fun u : Unit => brkW ck ka ad ra Z O U X S T P I V N Y Q) (MX := fun u : Unit => brkW ck ka ad ra Z O U X S T P I V N Y Q) hP hD hS hA (fun hPm hDm => vx_runV (As := [.int (zI x)]) (rest := []) ⟨hx, hb, hml, hown, htg⟩ (x_depositOf l dg ck ka ad ra Z O U X S T P I V N Y Q x _ hI rg_x hst) (cwV 1 htg (gwV wq_1221 wq_1222 wq_1223 wq_1 wq_1224) rfl rfl rfl (by decide +kernel) ⟨Nat.le_of_ble_eq_true rfl, Nat.le_of_ble_eq_true rfl⟩) (wrK_preV hK hPm hDm hC hS hA 0 10 rfl rfl) rfl rfl hl.1 rfl (lv_room (Nat.le_of_ble_eq_true rfl)) dL_depositOf_2 ⟨Nat.le_of_ble_eq_true rfl, Nat.le_of_ble_eq_true rfl⟩) (fun E9 ce9 q9 u9 H locs hE9 hP hD hS g1 g2 g3 => ?_) (fun r9 u9 H locs hn9 hP hD hS => ?_)
  · rcases hE9 with ⟨rfl, hc⟩ | ⟨rfl, hc⟩
    · refine vx_catch (own := RL) (name := "java/lang/IndexOutOfBoundsException") hown [] ⟨0, 5, 6, 20⟩ [⟨0, 5, 10, 86⟩] (by rw [htab]; rfl) (fun z hz => absurd hz List.not_mem_nil) (by decide) (by decide) (htg _ wq_341) (va_Nw.use rfl (hC.nw (w := .castable "java/lang/IndexOutOfBoundsException" "java/lang/IndexOutOfBoundsException") (by decide +kernel))) g1 g2 g3 ?_
      refine W.eq (g2 := F0 m 6 ls [.ref q9]) rfl ?_
      refine lv_astore_n (lv' := [(2, .ref q9), (0, .ref ((ad 7) 0)), (1, .int (zI x))]) hx hb dL_depositOf_6 rfl hl (by decide) rfl (fun ls hl => ?_)
      refine x_bipush hx hb dL_depositOf_7 (by decide) ?_
      exact W.widen (k := 2) (n := 12) (Nat.le_of_ble_eq_true rfl) (Nat.le_of_ble_eq_true rfl) (W.iret (v := _) hx hb hr (fun t9 ht9 hW9 => ⟨⟨_, ((Z, O, U, X, S, T, P, I, V, N, Y, Q)), rfl, ⟨congrArg zI (if_neg hc).symm, ⟨rfl, rfl, rfl, rfl, rfl, ⟨hln, htx, hkv⟩, hu0, hY⟩⟩, by rw [ht9]; exact hP, by rw [hAe]; exact hD⟩, hS.F ht9⟩) hS.2.2 dL_depositOf_9)
    · refine vx_catch (own := RL) (name := "java/util/NoSuchElementException") hown [⟨0, 5, 6, 20⟩] ⟨0, 5, 10, 86⟩ [] (by rw [htab]; rfl) (by intro z hz; simp only [List.mem_cons, List.not_mem_nil, or_false] at hz; subst hz; exact Or.inr ⟨by decide, "java/lang/IndexOutOfBoundsException", htg _ wq_341, hC.nc (by decide +kernel)⟩) (by decide) (by decide) (htg _ wq_471) (va_Nw.use rfl (hC.nw (w := .castable "java/util/NoSuchElementException" "java/util/NoSuchElementException") (by decide +kernel))) g1 g2 g3 ?_
      refine W.eq (g2 := F0 m 10 ls [.ref q9]) rfl ?_
      refine lv_astore_n (lv' := [(2, .ref q9), (0, .ref ((ad 7) 0)), (1, .int (zI x))]) hx hb dL_depositOf_10 rfl hl (by decide) rfl (fun ls hl => ?_)
      refine x_bipush hx hb dL_depositOf_11 (by decide) ?_
      exact W.widen (k := 2) (n := 12) (Nat.le_of_ble_eq_true rfl) (Nat.le_of_ble_eq_true rfl) (W.iret (v := _) hx hb hr (fun t9 ht9 hW9 => ⟨⟨_, ((Z, O, U, X, S, T, P, I, V, N, Y, Q)), rfl, ⟨congrArg zI ((if_pos hc.1).trans (if_pos hc.2)).symm, ⟨rfl, rfl, rfl, rfl, rfl, ⟨hln, htx, hkv⟩, hu0, hY⟩⟩, by rw [ht9]; exact hP, by rw [hAe]; exact hD⟩, hS.F ht9⟩) hS.2.2 dL_depositOf_13)
  have hP : va_P dg vwCl (brkW ck ka ad ra Z O U X S T P I V N Y Q) H := hP
  have hD : va_D A (brkW ck ka ad ra Z O U X S T P I V N Y Q) := hD
  exact W.widen (k := 2) (n := 12) (Nat.le_of_ble_eq_true rfl) (Nat.le_of_ble_eq_true rfl) (W.iret (v := _) hx hb hr (fun t9 ht9 hW9 => ⟨⟨_, ((Z, O, U, X, S, T, P, I, V, N, Y, Q)), rfl, ⟨hn9.1.trans (congrArg zI ((if_pos hn9.2.1).trans (if_neg hn9.2.2)).symm), ⟨rfl, rfl, rfl, rfl, rfl, ⟨hln, htx, hkv⟩, hu0, hY⟩⟩, by rw [ht9]; exact hP, by rw [hAe]; exact hD⟩, hS.F ht9⟩) hS.2.2 dL_depositOf_5)

theorem wqL_monthsLeft : (Jvm.Cond.codeWith ({ cls := "BenchBrokerLaw", name := "monthsLeft", desc := "(LBenchBroker;I)I" } : Jvm.MethodName) method_32_code (3 : Nat) (Option.some Jvm.ClassFile.FieldType.int) [((0 : Nat), (5 : Nat), (6 : Nat), (20 : Nat)), ((0 : Nat), (5 : Nat), (10 : Nat), (86 : Nat))]) ∈ GW := tq_3 66 rfl rfl
set_option maxHeartbeats 4000000 in
set_option maxRecDepth 100000 in
/-- the law's monthsLeft -/
theorem w_monthsLeft (l : Launch) (dg : va_G) (ck : Nat → ClassId) (ka : Nat → Nat) (ad ra : Nat → Nat → Nat) (S : St) (X : Nat → Int) (Q : Nat → St) (P : St) (zs : Int) (b : BU) (x : Int) (sz : Nat) {n : Int} (hκ : KI n S X Q P zs) (hR : RO S X Q P zs b)  (rg_x : -2147483648 ≤ x ∧ x < 2147483648) (hst : l.stackTraces = false) : Met l yL_monthsLeft (.codeWith yL_monthsLeft cL_monthsLeft 3 (some .int) [(0, 5, 6, 20), (0, 5, 10, 86)] :: GW) ({ frames := 9, cells := 2, slots := 12, locals := 158 }) (va_Pc [.ref ((ad 7) 0), .int (zI x)] (wrK dg ck ka sz (brkU ck ka ad ra b))) (va_Qi (fun r (u : BU) => r = zI (vLeft S x) ∧ RO S X Q P zs u) (fun u t9 => wrQ dg sz (brkU ck ka ad ra b) (brkU ck ka ad ra u) t9) (va_A (brkU ck ka ad ra b) sz)) 2 12 (va_A (brkU ck ka ad ra b) sz) := by
  obtain ⟨Z, O, U, X', S', T, P', I, V, N, Y, Q'⟩ := b
  obtain ⟨e1, e2, e3, e4, e5, ⟨hln, htx, hkv⟩, hu0, hY⟩ := hR
  have e1 : S = S' := e1
  have e2 : X = X' := e2
  have e3 : Q = Q' := e3
  have e4 : P = P' := e4
  have e5 : zs = Z 0 := e5
  subst e1 e2 e3 e4 e5
  have hln : 0 ≤ I 0 0 ∧ I 0 0 ≤ 60 := hln
  have htx : ∀ i, 0 ≤ i → i < 60 → 0 ≤ I 1 i ∧ I 1 i ≤ 126 := htx
  have hkv : 0 ≤ I 0 2 ∧ I 0 2 ≤ 9 := hkv
  have hu0 : 0 ≤ U 0 ∧ U 0 ≤ 16 := hu0
  have hY : y7Z Y := hY
  obtain ⟨⟨hV, hV2⟩, ⟨hn, hz⟩, hq10, hhist, hz0, hp10, hsn⟩ := id hκ
  have hI := hV.bd
  have hs10 : ∀ i, 0 ≤ S 10 i ∧ S 10 i ≤ 1 := hI.2.2.2.2.2.2.2.2.2.2.2.2.2.1
  refine x_ofWH (cc := cL_monthsLeft) (maxL := 3) (ret := (some .int)) (by decide) rfl ?_
  intro p e s m args below meth c s₁ B hml htab hv
  obtain ⟨rfl, ⟨hsz, hP, hK, hD0⟩, hC⟩ := hv
  have hx := B.exec
  have hb := B.bytes
  have hr := B.returns
  have hts := atoms_spec (ws := .codeWith yL_monthsLeft cL_monthsLeft 3 (some .int) [(0, 5, 6, 20), (0, 5, 10, 86)] :: GW) B.pre
  have htg : ∀ w ∈ GW, w.before _ s = true := fun w h => hts w (List.mem_cons_of_mem _ h)
  have hown : s.vm.findClass RL = some m.cls := findClass_of_methodNamed B.named
  have hlocks := B.notSynchronized
  subst hsz
  have hD := hD0.self (sz := s.heap.size)
  generalize hAe : va_A (brkU ck ka ad ra (Z, O, U, X, S, T, P, I, V, N, Y, Q)) s.heap.size = A at hD hC ⊢
  have hA : ∀ q : Nat, s.heap.size ≤ q → A q := fun q h => by rw [← hAe]; exact Or.inr h
  have hS : va_S A s.heap s.heap [] := va_S.rf
  have hP : va_P dg vwCl (brkW ck ka ad ra Z O U X S T P I V N Y Q) s.heap := hP
  have hD : va_D A (brkW ck ka ad ra Z O U X S T P I V N Y Q) := hD
  have hl := lv_entry ([.ref ((ad 7) 0), .int (zI x)]) (n := 3) (Nat.le_of_ble_eq_true rfl)
  rw [lg_entry_eq]
  generalize (lg_sl ([.ref ((ad 7) 0), .int (zI x)]) ++ List.replicate (3 - (lg_sl ([.ref ((ad 7) 0), .int (zI x)])).length) Slot.unset).toArray = ls at hl ⊢
  have hl : lv_has ls 3 [(0, .ref ((ad 7) 0)), (1, .int (zI x))] := hl
  refine lv_aload_n hx hb dL_monthsLeft_0 rfl (lv_at hl 0 rfl) ?_
  refine lv_iload_n hx hb dL_monthsLeft_1 rfl (lv_at hl 1 rfl) ?_
  refine xl_calli0 (M := brkW ck ka ad ra Z O U X S T P I V N Y Q) (Mf := fun u : Unit => brkW ck ka ad ra Z O U X S T P I V N Y Q) (MX := fun u : Unit => brkW ck ka ad ra Z O U X S T P I V N Y Q) hP hD hS hA (fun hPm hDm => vx_runV (As := [.int (zI x)]) (rest := []) ⟨hx, hb, hml, hown, htg⟩ (x_monthsLeft l dg ck ka ad ra Z O U X S T P I V N Y Q x _ hI rg_x hst) (cwV 1 htg (gwV wq_547 wq_548 wq_549 wq_1 wq_550) rfl rfl rfl (by decide +kernel) ⟨Nat.le_of_ble_eq_true rfl, Nat.le_of_ble_eq_true rfl⟩) (wrK_preV hK hPm hDm hC hS hA 0 10 rfl rfl) rfl rfl hl.1 rfl (lv_room (Nat.le_of_ble_eq_true rfl)) dL_monthsLeft_2 ⟨Nat.le_of_ble_eq_true rfl, Nat.le_of_ble_eq_true rfl⟩) (fun E9 ce9 q9 u9 H locs hE9 hP hD hS g1 g2 g3 => ?_) (fun r9 u9 H locs hn9 hP hD hS => ?_)
  · rcases hE9 with ⟨rfl, hc⟩ | ⟨rfl, hc⟩
    · refine vx_catch (own := RL) (name := "java/lang/IndexOutOfBoundsException") hown [] ⟨0, 5, 6, 20⟩ [⟨0, 5, 10, 86⟩] (by rw [htab]; rfl) (fun z hz => absurd hz List.not_mem_nil) (by decide) (by decide) (htg _ wq_341) (va_Nw.use rfl (hC.nw (w := .castable "java/lang/IndexOutOfBoundsException" "java/lang/IndexOutOfBoundsException") (by decide +kernel))) g1 g2 g3 ?_
      refine W.eq (g2 := F0 m 6 ls [.ref q9]) rfl ?_
      refine lv_astore_n (lv' := [(2, .ref q9), (0, .ref ((ad 7) 0)), (1, .int (zI x))]) hx hb dL_monthsLeft_6 rfl hl (by decide) rfl (fun ls hl => ?_)
      refine x_bipush hx hb dL_monthsLeft_7 (by decide) ?_
      exact W.widen (k := 2) (n := 12) (Nat.le_of_ble_eq_true rfl) (Nat.le_of_ble_eq_true rfl) (W.iret (v := _) hx hb hr (fun t9 ht9 hW9 => ⟨⟨_, ((Z, O, U, X, S, T, P, I, V, N, Y, Q)), rfl, ⟨congrArg zI (if_neg hc).symm, ⟨rfl, rfl, rfl, rfl, rfl, ⟨hln, htx, hkv⟩, hu0, hY⟩⟩, by rw [ht9]; exact hP, by rw [hAe]; exact hD⟩, hS.F ht9⟩) hS.2.2 dL_monthsLeft_9)
    · refine vx_catch (own := RL) (name := "java/util/NoSuchElementException") hown [⟨0, 5, 6, 20⟩] ⟨0, 5, 10, 86⟩ [] (by rw [htab]; rfl) (by intro z hz; simp only [List.mem_cons, List.not_mem_nil, or_false] at hz; subst hz; exact Or.inr ⟨by decide, "java/lang/IndexOutOfBoundsException", htg _ wq_341, hC.nc (by decide +kernel)⟩) (by decide) (by decide) (htg _ wq_471) (va_Nw.use rfl (hC.nw (w := .castable "java/util/NoSuchElementException" "java/util/NoSuchElementException") (by decide +kernel))) g1 g2 g3 ?_
      refine W.eq (g2 := F0 m 10 ls [.ref q9]) rfl ?_
      refine lv_astore_n (lv' := [(2, .ref q9), (0, .ref ((ad 7) 0)), (1, .int (zI x))]) hx hb dL_monthsLeft_10 rfl hl (by decide) rfl (fun ls hl => ?_)
      refine x_bipush hx hb dL_monthsLeft_11 (by decide) ?_
      exact W.widen (k := 2) (n := 12) (Nat.le_of_ble_eq_true rfl) (Nat.le_of_ble_eq_true rfl) (W.iret (v := _) hx hb hr (fun t9 ht9 hW9 => ⟨⟨_, ((Z, O, U, X, S, T, P, I, V, N, Y, Q)), rfl, ⟨congrArg zI ((if_pos hc.1).trans (if_pos hc.2)).symm, ⟨rfl, rfl, rfl, rfl, rfl, ⟨hln, htx, hkv⟩, hu0, hY⟩⟩, by rw [ht9]; exact hP, by rw [hAe]; exact hD⟩, hS.F ht9⟩) hS.2.2 dL_monthsLeft_13)
  have hP : va_P dg vwCl (brkW ck ka ad ra Z O U X S T P I V N Y Q) H := hP
  have hD : va_D A (brkW ck ka ad ra Z O U X S T P I V N Y Q) := hD
  exact W.widen (k := 2) (n := 12) (Nat.le_of_ble_eq_true rfl) (Nat.le_of_ble_eq_true rfl) (W.iret (v := _) hx hb hr (fun t9 ht9 hW9 => ⟨⟨_, ((Z, O, U, X, S, T, P, I, V, N, Y, Q)), rfl, ⟨hn9.1.trans (congrArg zI ((if_pos hn9.2.1).trans (if_neg hn9.2.2)).symm), ⟨rfl, rfl, rfl, rfl, rfl, ⟨hln, htx, hkv⟩, hu0, hY⟩⟩, by rw [ht9]; exact hP, by rw [hAe]; exact hD⟩, hS.F ht9⟩) hS.2.2 dL_monthsLeft_5)

theorem wqL_defaultMonth : (Jvm.Cond.codeWith ({ cls := "BenchBrokerLaw", name := "defaultMonth", desc := "(LBenchBroker;I)I" } : Jvm.MethodName) method_33_code (3 : Nat) (Option.some Jvm.ClassFile.FieldType.int) [((0 : Nat), (5 : Nat), (6 : Nat), (20 : Nat)), ((0 : Nat), (5 : Nat), (10 : Nat), (86 : Nat))]) ∈ GW := tq_3 73 rfl rfl
set_option maxHeartbeats 4000000 in
set_option maxRecDepth 100000 in
/-- the law's defaultMonth -/
theorem w_defaultMonth (l : Launch) (dg : va_G) (ck : Nat → ClassId) (ka : Nat → Nat) (ad ra : Nat → Nat → Nat) (S : St) (X : Nat → Int) (Q : Nat → St) (P : St) (zs : Int) (b : BU) (x : Int) (sz : Nat) {n : Int} (hκ : KI n S X Q P zs) (hR : RO S X Q P zs b)  (rg_x : -2147483648 ≤ x ∧ x < 2147483648) (hst : l.stackTraces = false) : Met l yL_defaultMonth (.codeWith yL_defaultMonth cL_defaultMonth 3 (some .int) [(0, 5, 6, 20), (0, 5, 10, 86)] :: GW) ({ frames := 9, cells := 3, slots := 18, locals := 159 }) (va_Pc [.ref ((ad 7) 0), .int (zI x)] (wrK dg ck ka sz (brkU ck ka ad ra b))) (va_Qi (fun r (u : BU) => r = zI (vDefM S x) ∧ RO S X Q P zs u) (fun u t9 => wrQ dg sz (brkU ck ka ad ra b) (brkU ck ka ad ra u) t9) (va_A (brkU ck ka ad ra b) sz)) 3 18 (va_A (brkU ck ka ad ra b) sz) := by
  obtain ⟨Z, O, U, X', S', T, P', I, V, N, Y, Q'⟩ := b
  obtain ⟨e1, e2, e3, e4, e5, ⟨hln, htx, hkv⟩, hu0, hY⟩ := hR
  have e1 : S = S' := e1
  have e2 : X = X' := e2
  have e3 : Q = Q' := e3
  have e4 : P = P' := e4
  have e5 : zs = Z 0 := e5
  subst e1 e2 e3 e4 e5
  have hln : 0 ≤ I 0 0 ∧ I 0 0 ≤ 60 := hln
  have htx : ∀ i, 0 ≤ i → i < 60 → 0 ≤ I 1 i ∧ I 1 i ≤ 126 := htx
  have hkv : 0 ≤ I 0 2 ∧ I 0 2 ≤ 9 := hkv
  have hu0 : 0 ≤ U 0 ∧ U 0 ≤ 16 := hu0
  have hY : y7Z Y := hY
  obtain ⟨⟨hV, hV2⟩, ⟨hn, hz⟩, hq10, hhist, hz0, hp10, hsn⟩ := id hκ
  have hI := hV.bd
  have hs10 : ∀ i, 0 ≤ S 10 i ∧ S 10 i ≤ 1 := hI.2.2.2.2.2.2.2.2.2.2.2.2.2.1
  refine x_ofWH (cc := cL_defaultMonth) (maxL := 3) (ret := (some .int)) (by decide) rfl ?_
  intro p e s m args below meth c s₁ B hml htab hv
  obtain ⟨rfl, ⟨hsz, hP, hK, hD0⟩, hC⟩ := hv
  have hx := B.exec
  have hb := B.bytes
  have hr := B.returns
  have hts := atoms_spec (ws := .codeWith yL_defaultMonth cL_defaultMonth 3 (some .int) [(0, 5, 6, 20), (0, 5, 10, 86)] :: GW) B.pre
  have htg : ∀ w ∈ GW, w.before _ s = true := fun w h => hts w (List.mem_cons_of_mem _ h)
  have hown : s.vm.findClass RL = some m.cls := findClass_of_methodNamed B.named
  have hlocks := B.notSynchronized
  subst hsz
  have hD := hD0.self (sz := s.heap.size)
  generalize hAe : va_A (brkU ck ka ad ra (Z, O, U, X, S, T, P, I, V, N, Y, Q)) s.heap.size = A at hD hC ⊢
  have hA : ∀ q : Nat, s.heap.size ≤ q → A q := fun q h => by rw [← hAe]; exact Or.inr h
  have hS : va_S A s.heap s.heap [] := va_S.rf
  have hP : va_P dg vwCl (brkW ck ka ad ra Z O U X S T P I V N Y Q) s.heap := hP
  have hD : va_D A (brkW ck ka ad ra Z O U X S T P I V N Y Q) := hD
  have hl := lv_entry ([.ref ((ad 7) 0), .int (zI x)]) (n := 3) (Nat.le_of_ble_eq_true rfl)
  rw [lg_entry_eq]
  generalize (lg_sl ([.ref ((ad 7) 0), .int (zI x)]) ++ List.replicate (3 - (lg_sl ([.ref ((ad 7) 0), .int (zI x)])).length) Slot.unset).toArray = ls at hl ⊢
  have hl : lv_has ls 3 [(0, .ref ((ad 7) 0)), (1, .int (zI x))] := hl
  refine lv_aload_n hx hb dL_defaultMonth_0 rfl (lv_at hl 0 rfl) ?_
  refine lv_iload_n hx hb dL_defaultMonth_1 rfl (lv_at hl 1 rfl) ?_
  refine xl_calli0 (M := brkW ck ka ad ra Z O U X S T P I V N Y Q) (Mf := fun u : Unit => brkW ck ka ad ra Z O U X S T P I V N Y Q) (MX := fun u : Unit => brkW ck ka ad ra Z O U X S T P I V N Y Q) hP hD hS hA (fun hPm hDm => vx_runV (As := [.int (zI x)]) (rest := []) ⟨hx, hb, hml, hown, htg⟩ (x_defaultMonth l dg ck ka ad ra Z O U X S T P I V N Y Q x _ hI rg_x hst) (cwV 1 htg (gwV wq_554 wq_555 wq_556 wq_1 wq_557) rfl rfl rfl (by decide +kernel) ⟨Nat.le_of_ble_eq_true rfl, Nat.le_of_ble_eq_true rfl⟩) (wrK_preV hK hPm hDm hC hS hA 0 10 rfl rfl) rfl rfl hl.1 rfl (lv_room (Nat.le_of_ble_eq_true rfl)) dL_defaultMonth_2 ⟨Nat.le_of_ble_eq_true rfl, Nat.le_of_ble_eq_true rfl⟩) (fun E9 ce9 q9 u9 H locs hE9 hP hD hS g1 g2 g3 => ?_) (fun r9 u9 H locs hn9 hP hD hS => ?_)
  · rcases hE9 with ⟨rfl, hc⟩ | ⟨rfl, hc⟩
    · refine vx_catch (own := RL) (name := "java/lang/IndexOutOfBoundsException") hown [] ⟨0, 5, 6, 20⟩ [⟨0, 5, 10, 86⟩] (by rw [htab]; rfl) (fun z hz => absurd hz List.not_mem_nil) (by decide) (by decide) (htg _ wq_341) (va_Nw.use rfl (hC.nw (w := .castable "java/lang/IndexOutOfBoundsException" "java/lang/IndexOutOfBoundsException") (by decide +kernel))) g1 g2 g3 ?_
      refine W.eq (g2 := F0 m 6 ls [.ref q9]) rfl ?_
      refine lv_astore_n (lv' := [(2, .ref q9), (0, .ref ((ad 7) 0)), (1, .int (zI x))]) hx hb dL_defaultMonth_6 rfl hl (by decide) rfl (fun ls hl => ?_)
      refine x_bipush hx hb dL_defaultMonth_7 (by decide) ?_
      exact W.widen (k := 3) (n := 18) (Nat.le_of_ble_eq_true rfl) (Nat.le_of_ble_eq_true rfl) (W.iret (v := _) hx hb hr (fun t9 ht9 hW9 => ⟨⟨_, ((Z, O, U, X, S, T, P, I, V, N, Y, Q)), rfl, ⟨congrArg zI (if_neg hc).symm, ⟨rfl, rfl, rfl, rfl, rfl, ⟨hln, htx, hkv⟩, hu0, hY⟩⟩, by rw [ht9]; exact hP, by rw [hAe]; exact hD⟩, hS.F ht9⟩) hS.2.2 dL_defaultMonth_9)
    · refine vx_catch (own := RL) (name := "java/util/NoSuchElementException") hown [⟨0, 5, 6, 20⟩] ⟨0, 5, 10, 86⟩ [] (by rw [htab]; rfl) (by intro z hz; simp only [List.mem_cons, List.not_mem_nil, or_false] at hz; subst hz; exact Or.inr ⟨by decide, "java/lang/IndexOutOfBoundsException", htg _ wq_341, hC.nc (by decide +kernel)⟩) (by decide) (by decide) (htg _ wq_471) (va_Nw.use rfl (hC.nw (w := .castable "java/util/NoSuchElementException" "java/util/NoSuchElementException") (by decide +kernel))) g1 g2 g3 ?_
      refine W.eq (g2 := F0 m 10 ls [.ref q9]) rfl ?_
      refine lv_astore_n (lv' := [(2, .ref q9), (0, .ref ((ad 7) 0)), (1, .int (zI x))]) hx hb dL_defaultMonth_10 rfl hl (by decide) rfl (fun ls hl => ?_)
      refine x_bipush hx hb dL_defaultMonth_11 (by decide) ?_
      exact W.widen (k := 3) (n := 18) (Nat.le_of_ble_eq_true rfl) (Nat.le_of_ble_eq_true rfl) (W.iret (v := _) hx hb hr (fun t9 ht9 hW9 => ⟨⟨_, ((Z, O, U, X, S, T, P, I, V, N, Y, Q)), rfl, ⟨congrArg zI ((if_pos hc.1).trans (if_neg hc.2)).symm, ⟨rfl, rfl, rfl, rfl, rfl, ⟨hln, htx, hkv⟩, hu0, hY⟩⟩, by rw [ht9]; exact hP, by rw [hAe]; exact hD⟩, hS.F ht9⟩) hS.2.2 dL_defaultMonth_13)
  have hP : va_P dg vwCl (brkW ck ka ad ra Z O U X S T P I V N Y Q) H := hP
  have hD : va_D A (brkW ck ka ad ra Z O U X S T P I V N Y Q) := hD
  exact W.widen (k := 3) (n := 18) (Nat.le_of_ble_eq_true rfl) (Nat.le_of_ble_eq_true rfl) (W.iret (v := _) hx hb hr (fun t9 ht9 hW9 => ⟨⟨_, ((Z, O, U, X, S, T, P, I, V, N, Y, Q)), rfl, ⟨hn9.1.trans (congrArg zI ((if_pos hn9.2.1).trans (if_pos hn9.2.2)).symm), ⟨rfl, rfl, rfl, rfl, rfl, ⟨hln, htx, hkv⟩, hu0, hY⟩⟩, by rw [ht9]; exact hP, by rw [hAe]; exact hD⟩, hS.F ht9⟩) hS.2.2 dL_defaultMonth_5)

theorem wqL_incomeWithin : (Jvm.Cond.codeWith ({ cls := "BenchBrokerLaw", name := "incomeWithin", desc := "(LBenchBroker;I)I" } : Jvm.MethodName) method_35_code (3 : Nat) (Option.some Jvm.ClassFile.FieldType.int) [((0 : Nat), (5 : Nat), (6 : Nat), (22 : Nat))]) ∈ GW := tq_3 85 rfl rfl
set_option maxHeartbeats 4000000 in
set_option maxRecDepth 100000 in
/-- the law's incomeWithin -/
theorem w_incomeWithin (l : Launch) (dg : va_G) (ck : Nat → ClassId) (ka : Nat → Nat) (ad ra : Nat → Nat → Nat) (S : St) (X : Nat → Int) (Q : Nat → St) (P : St) (zs : Int) (b : BU) (x : Int) (sz : Nat) {n : Int} (hκ : KI n S X Q P zs) (hR : RO S X Q P zs b)  (rg_x : -2147483648 ≤ x ∧ x < 2147483648) (hst : l.stackTraces = false) : Met l yL_incomeWithin (.codeWith yL_incomeWithin cL_incomeWithin 3 (some .int) [(0, 5, 6, 22)] :: GW) ({ frames := 8, cells := 1, slots := 6, locals := 158 }) (va_Pc [.ref ((ad 7) 0), .int (zI x)] (wrK dg ck ka sz (brkU ck ka ad ra b))) (va_Qi (fun r (u : BU) => r = zI (vInc S x) ∧ RO S X Q P zs u) (fun u t9 => wrQ dg sz (brkU ck ka ad ra b) (brkU ck ka ad ra u) t9) (va_A (brkU ck ka ad ra b) sz)) 1 6 (va_A (brkU ck ka ad ra b) sz) := by
  obtain ⟨Z, O, U, X', S', T, P', I, V, N, Y, Q'⟩ := b
  obtain ⟨e1, e2, e3, e4, e5, ⟨hln, htx, hkv⟩, hu0, hY⟩ := hR
  have e1 : S = S' := e1
  have e2 : X = X' := e2
  have e3 : Q = Q' := e3
  have e4 : P = P' := e4
  have e5 : zs = Z 0 := e5
  subst e1 e2 e3 e4 e5
  have hln : 0 ≤ I 0 0 ∧ I 0 0 ≤ 60 := hln
  have htx : ∀ i, 0 ≤ i → i < 60 → 0 ≤ I 1 i ∧ I 1 i ≤ 126 := htx
  have hkv : 0 ≤ I 0 2 ∧ I 0 2 ≤ 9 := hkv
  have hu0 : 0 ≤ U 0 ∧ U 0 ≤ 16 := hu0
  have hY : y7Z Y := hY
  obtain ⟨⟨hV, hV2⟩, ⟨hn, hz⟩, hq10, hhist, hz0, hp10, hsn⟩ := id hκ
  have hI := hV.bd
  have hs10 : ∀ i, 0 ≤ S 10 i ∧ S 10 i ≤ 1 := hI.2.2.2.2.2.2.2.2.2.2.2.2.2.1
  refine x_ofWH (cc := cL_incomeWithin) (maxL := 3) (ret := (some .int)) (by decide) rfl ?_
  intro p e s m args below meth c s₁ B hml htab hv
  obtain ⟨rfl, ⟨hsz, hP, hK, hD0⟩, hC⟩ := hv
  have hx := B.exec
  have hb := B.bytes
  have hr := B.returns
  have hts := atoms_spec (ws := .codeWith yL_incomeWithin cL_incomeWithin 3 (some .int) [(0, 5, 6, 22)] :: GW) B.pre
  have htg : ∀ w ∈ GW, w.before _ s = true := fun w h => hts w (List.mem_cons_of_mem _ h)
  have hown : s.vm.findClass RL = some m.cls := findClass_of_methodNamed B.named
  have hlocks := B.notSynchronized
  subst hsz
  have hD := hD0.self (sz := s.heap.size)
  generalize hAe : va_A (brkU ck ka ad ra (Z, O, U, X, S, T, P, I, V, N, Y, Q)) s.heap.size = A at hD hC ⊢
  have hA : ∀ q : Nat, s.heap.size ≤ q → A q := fun q h => by rw [← hAe]; exact Or.inr h
  have hS : va_S A s.heap s.heap [] := va_S.rf
  have hP : va_P dg vwCl (brkW ck ka ad ra Z O U X S T P I V N Y Q) s.heap := hP
  have hD : va_D A (brkW ck ka ad ra Z O U X S T P I V N Y Q) := hD
  have hl := lv_entry ([.ref ((ad 7) 0), .int (zI x)]) (n := 3) (Nat.le_of_ble_eq_true rfl)
  rw [lg_entry_eq]
  generalize (lg_sl ([.ref ((ad 7) 0), .int (zI x)]) ++ List.replicate (3 - (lg_sl ([.ref ((ad 7) 0), .int (zI x)])).length) Slot.unset).toArray = ls at hl ⊢
  have hl : lv_has ls 3 [(0, .ref ((ad 7) 0)), (1, .int (zI x))] := hl
  refine lv_aload_n hx hb dL_incomeWithin_0 rfl (lv_at hl 0 rfl) ?_
  refine lv_iload_n hx hb dL_incomeWithin_1 rfl (lv_at hl 1 rfl) ?_
  refine xl_calli0 (M := brkW ck ka ad ra Z O U X S T P I V N Y Q) (Mf := fun u : Unit => brkW ck ka ad ra Z (outc O (elZ S x).1 (elZ S x).2.1) U X S (elZ S x).2.2 P I V N Y Q) (MX := fun u : Unit => brkW ck ka ad ra Z O U X S T P I V N Y Q) hP hD hS hA (fun hPm hDm => vx_runV (As := [.int (zI x)]) (rest := []) ⟨hx, hb, hml, hown, htg⟩ (x_incomeWithin l dg ck ka ad ra Z O U X S T P I V N Y Q x _ hV rg_x hst) (cwV 1 htg (gwV wq_567 wq_568 wq_569 wq_1 wq_570) rfl rfl rfl (by decide +kernel) ⟨Nat.le_of_ble_eq_true rfl, Nat.le_of_ble_eq_true rfl⟩) (wrK_preV hK hPm hDm hC hS hA 0 10 rfl rfl) rfl rfl hl.1 rfl (lv_room (Nat.le_of_ble_eq_true rfl)) dL_incomeWithin_2 ⟨Nat.le_of_ble_eq_true rfl, Nat.le_of_ble_eq_true rfl⟩) (fun E9 ce9 q9 u9 H locs hE9 hP hD hS g1 g2 g3 => ?_) (fun r9 u9 H locs hn9 hP hD hS => ?_)
  · obtain ⟨rfl, hc⟩ := hE9
    refine vx_catch (own := RL) (name := "java/lang/IllegalArgumentException") hown [] ⟨0, 5, 6, 22⟩ [] (by rw [htab]; rfl) (fun z hz => absurd hz List.not_mem_nil) (by decide) (by decide) (htg _ wq_566) (va_Nw.use rfl (hC.nw (w := .castable "java/lang/IllegalArgumentException" "java/lang/IllegalArgumentException") (by decide +kernel))) g1 g2 g3 ?_
    refine W.eq (g2 := F0 m 6 ls [.ref q9]) rfl ?_
    refine lv_astore_n (lv' := [(2, .ref q9), (0, .ref ((ad 7) 0)), (1, .int (zI x))]) hx hb dL_incomeWithin_6 rfl hl (by decide) rfl (fun ls hl => ?_)
    refine x_bipush hx hb dL_incomeWithin_7 (by decide) ?_
    exact W.widen (k := 1) (n := 6) (Nat.le_of_ble_eq_true rfl) (Nat.le_of_ble_eq_true rfl) (W.iret (v := _) hx hb hr (fun t9 ht9 hW9 => ⟨⟨_, ((Z, O, U, X, S, T, P, I, V, N, Y, Q)), rfl, ⟨congrArg zI (if_neg hc).symm, ⟨rfl, rfl, rfl, rfl, rfl, ⟨hln, htx, hkv⟩, hu0, hY⟩⟩, by rw [ht9]; exact hP, by rw [hAe]; exact hD⟩, hS.F ht9⟩) hS.2.2 dL_incomeWithin_9)
  have hP : va_P dg vwCl (brkW ck ka ad ra Z (outc O (elZ S x).1 (elZ S x).2.1) U X S (elZ S x).2.2 P I V N Y Q) H := hP
  have hD : va_D A (brkW ck ka ad ra Z (outc O (elZ S x).1 (elZ S x).2.1) U X S (elZ S x).2.2 P I V N Y Q) := hD
  exact W.widen (k := 1) (n := 6) (Nat.le_of_ble_eq_true rfl) (Nat.le_of_ble_eq_true rfl) (W.iret (v := _) hx hb hr (fun t9 ht9 hW9 => ⟨⟨_, ((Z, (outc O (elZ S x).1 (elZ S x).2.1), U, X, S, (elZ S x).2.2, P, I, V, N, Y, Q)), rfl, ⟨hn9.1.trans (congrArg zI (if_pos hn9.2).symm), ⟨rfl, rfl, rfl, rfl, rfl, ⟨hln, htx, hkv⟩, hu0, hY⟩⟩, by rw [ht9]; exact hP, by rw [hAe]; exact hD⟩, hS.F ht9⟩) hS.2.2 dL_incomeWithin_5)

theorem wqL_incomeByLeases : (Jvm.Cond.codeWith ({ cls := "BenchBrokerLaw", name := "incomeByLeases", desc := "(LBenchBroker;I)I" } : Jvm.MethodName) method_36_code (3 : Nat) (Option.some Jvm.ClassFile.FieldType.int) [((0 : Nat), (5 : Nat), (6 : Nat), (22 : Nat))]) ∈ GW := tq_7 14 rfl rfl
set_option maxHeartbeats 4000000 in
set_option maxRecDepth 100000 in
/-- the law's incomeByLeases -/
theorem w_incomeByLeases (l : Launch) (dg : va_G) (ck : Nat → ClassId) (ka : Nat → Nat) (ad ra : Nat → Nat → Nat) (S : St) (X : Nat → Int) (Q : Nat → St) (P : St) (zs : Int) (b : BU) (x : Int) (sz : Nat) {n : Int} (hκ : KI n S X Q P zs) (hR : RO S X Q P zs b)  (rg_x : -2147483648 ≤ x ∧ x < 2147483648) (hst : l.stackTraces = false) : Met l yL_incomeByLeases (.codeWith yL_incomeByLeases cL_incomeByLeases 3 (some .int) [(0, 5, 6, 22)] :: GW) ({ frames := 8, cells := 1, slots := 6, locals := 158 }) (va_Pc [.ref ((ad 7) 0), .int (zI x)] (wrK dg ck ka sz (brkU ck ka ad ra b))) (va_Qi (fun r (u : BU) => r = zI (vIncL S x) ∧ RO S X Q P zs u) (fun u t9 => wrQ dg sz (brkU ck ka ad ra b) (brkU ck ka ad ra u) t9) (va_A (brkU ck ka ad ra b) sz)) 1 6 (va_A (brkU ck ka ad ra b) sz) := by
  obtain ⟨Z, O, U, X', S', T, P', I, V, N, Y, Q'⟩ := b
  obtain ⟨e1, e2, e3, e4, e5, ⟨hln, htx, hkv⟩, hu0, hY⟩ := hR
  have e1 : S = S' := e1
  have e2 : X = X' := e2
  have e3 : Q = Q' := e3
  have e4 : P = P' := e4
  have e5 : zs = Z 0 := e5
  subst e1 e2 e3 e4 e5
  have hln : 0 ≤ I 0 0 ∧ I 0 0 ≤ 60 := hln
  have htx : ∀ i, 0 ≤ i → i < 60 → 0 ≤ I 1 i ∧ I 1 i ≤ 126 := htx
  have hkv : 0 ≤ I 0 2 ∧ I 0 2 ≤ 9 := hkv
  have hu0 : 0 ≤ U 0 ∧ U 0 ≤ 16 := hu0
  have hY : y7Z Y := hY
  obtain ⟨⟨hV, hV2⟩, ⟨hn, hz⟩, hq10, hhist, hz0, hp10, hsn⟩ := id hκ
  have hI := hV.bd
  have hs10 : ∀ i, 0 ≤ S 10 i ∧ S 10 i ≤ 1 := hI.2.2.2.2.2.2.2.2.2.2.2.2.2.1
  refine x_ofWH (cc := cL_incomeByLeases) (maxL := 3) (ret := (some .int)) (by decide) rfl ?_
  intro p e s m args below meth c s₁ B hml htab hv
  obtain ⟨rfl, ⟨hsz, hP, hK, hD0⟩, hC⟩ := hv
  have hx := B.exec
  have hb := B.bytes
  have hr := B.returns
  have hts := atoms_spec (ws := .codeWith yL_incomeByLeases cL_incomeByLeases 3 (some .int) [(0, 5, 6, 22)] :: GW) B.pre
  have htg : ∀ w ∈ GW, w.before _ s = true := fun w h => hts w (List.mem_cons_of_mem _ h)
  have hown : s.vm.findClass RL = some m.cls := findClass_of_methodNamed B.named
  have hlocks := B.notSynchronized
  subst hsz
  have hD := hD0.self (sz := s.heap.size)
  generalize hAe : va_A (brkU ck ka ad ra (Z, O, U, X, S, T, P, I, V, N, Y, Q)) s.heap.size = A at hD hC ⊢
  have hA : ∀ q : Nat, s.heap.size ≤ q → A q := fun q h => by rw [← hAe]; exact Or.inr h
  have hS : va_S A s.heap s.heap [] := va_S.rf
  have hP : va_P dg vwCl (brkW ck ka ad ra Z O U X S T P I V N Y Q) s.heap := hP
  have hD : va_D A (brkW ck ka ad ra Z O U X S T P I V N Y Q) := hD
  have hl := lv_entry ([.ref ((ad 7) 0), .int (zI x)]) (n := 3) (Nat.le_of_ble_eq_true rfl)
  rw [lg_entry_eq]
  generalize (lg_sl ([.ref ((ad 7) 0), .int (zI x)]) ++ List.replicate (3 - (lg_sl ([.ref ((ad 7) 0), .int (zI x)])).length) Slot.unset).toArray = ls at hl ⊢
  have hl : lv_has ls 3 [(0, .ref ((ad 7) 0)), (1, .int (zI x))] := hl
  refine lv_aload_n hx hb dL_incomeByLeases_0 rfl (lv_at hl 0 rfl) ?_
  refine lv_iload_n hx hb dL_incomeByLeases_1 rfl (lv_at hl 1 rfl) ?_
  refine xl_calli0 (M := brkW ck ka ad ra Z O U X S T P I V N Y Q) (Mf := fun u : Unit => brkW ck ka ad ra Z O U X S T P I V N Y Q) (MX := fun u : Unit => brkW ck ka ad ra Z O U X S T P I V N Y Q) hP hD hS hA (fun hPm hDm => vx_runV (As := [.int (zI x)]) (rest := []) ⟨hx, hb, hml, hown, htg⟩ (x_incomeByLeases l dg ck ka ad ra Z O U X S T P I V N Y Q x _ hI rg_x hst) (cwV 1 htg (gwV wq_1455 wq_1456 wq_1457 wq_1 wq_1458) rfl rfl rfl (by decide +kernel) ⟨Nat.le_of_ble_eq_true rfl, Nat.le_of_ble_eq_true rfl⟩) (wrK_preV hK hPm hDm hC hS hA 0 10 rfl rfl) rfl rfl hl.1 rfl (lv_room (Nat.le_of_ble_eq_true rfl)) dL_incomeByLeases_2 ⟨Nat.le_of_ble_eq_true rfl, Nat.le_of_ble_eq_true rfl⟩) (fun E9 ce9 q9 u9 H locs hE9 hP hD hS g1 g2 g3 => ?_) (fun r9 u9 H locs hn9 hP hD hS => ?_)
  · obtain ⟨rfl, hc⟩ := hE9
    refine vx_catch (own := RL) (name := "java/lang/IllegalArgumentException") hown [] ⟨0, 5, 6, 22⟩ [] (by rw [htab]; rfl) (fun z hz => absurd hz List.not_mem_nil) (by decide) (by decide) (htg _ wq_566) (va_Nw.use rfl (hC.nw (w := .castable "java/lang/IllegalArgumentException" "java/lang/IllegalArgumentException") (by decide +kernel))) g1 g2 g3 ?_
    refine W.eq (g2 := F0 m 6 ls [.ref q9]) rfl ?_
    refine lv_astore_n (lv' := [(2, .ref q9), (0, .ref ((ad 7) 0)), (1, .int (zI x))]) hx hb dL_incomeByLeases_6 rfl hl (by decide) rfl (fun ls hl => ?_)
    refine x_bipush hx hb dL_incomeByLeases_7 (by decide) ?_
    exact W.widen (k := 1) (n := 6) (Nat.le_of_ble_eq_true rfl) (Nat.le_of_ble_eq_true rfl) (W.iret (v := _) hx hb hr (fun t9 ht9 hW9 => ⟨⟨_, ((Z, O, U, X, S, T, P, I, V, N, Y, Q)), rfl, ⟨congrArg zI (if_neg hc).symm, ⟨rfl, rfl, rfl, rfl, rfl, ⟨hln, htx, hkv⟩, hu0, hY⟩⟩, by rw [ht9]; exact hP, by rw [hAe]; exact hD⟩, hS.F ht9⟩) hS.2.2 dL_incomeByLeases_9)
  have hP : va_P dg vwCl (brkW ck ka ad ra Z O U X S T P I V N Y Q) H := hP
  have hD : va_D A (brkW ck ka ad ra Z O U X S T P I V N Y Q) := hD
  exact W.widen (k := 1) (n := 6) (Nat.le_of_ble_eq_true rfl) (Nat.le_of_ble_eq_true rfl) (W.iret (v := _) hx hb hr (fun t9 ht9 hW9 => ⟨⟨_, ((Z, O, U, X, S, T, P, I, V, N, Y, Q)), rfl, ⟨hn9.1.trans (congrArg zI (if_pos hn9.2).symm), ⟨rfl, rfl, rfl, rfl, rfl, ⟨hln, htx, hkv⟩, hu0, hY⟩⟩, by rw [ht9]; exact hP, by rw [hAe]; exact hD⟩, hS.F ht9⟩) hS.2.2 dL_incomeByLeases_5)

theorem wqL_benchByRent : (Jvm.Cond.codeWith ({ cls := "BenchBrokerLaw", name := "benchByRent", desc := "(LBenchBroker;I)I" } : Jvm.MethodName) method_37_code (3 : Nat) (Option.some Jvm.ClassFile.FieldType.int) [((0 : Nat), (5 : Nat), (6 : Nat), (86 : Nat))]) ∈ GW := tq_6 181 rfl rfl
set_option maxHeartbeats 4000000 in
set_option maxRecDepth 100000 in
/-- the law's benchByRent -/
theorem w_benchByRent (l : Launch) (dg : va_G) (ck : Nat → ClassId) (ka : Nat → Nat) (ad ra : Nat → Nat → Nat) (S : St) (X : Nat → Int) (Q : Nat → St) (P : St) (zs : Int) (b : BU) (x : Int) (sz : Nat) {n : Int} (hκ : KI n S X Q P zs) (hR : RO S X Q P zs b)  (rg_x : -2147483648 ≤ x ∧ x < 2147483648) (hst : l.stackTraces = false) : Met l yL_benchByRent (.codeWith yL_benchByRent cL_benchByRent 3 (some .int) [(0, 5, 6, 86)] :: GW) ({ frames := 7, cells := 1, slots := 6, locals := 137 }) (va_Pc [.ref ((ad 7) 0), .int (zI x)] (wrK dg ck ka sz (brkU ck ka ad ra b))) (va_Qi (fun r (u : BU) => r = zI (vByR S x) ∧ RO S X Q P zs u) (fun u t9 => wrQ dg sz (brkU ck ka ad ra b) (brkU ck ka ad ra u) t9) (va_A (brkU ck ka ad ra b) sz)) 1 6 (va_A (brkU ck ka ad ra b) sz) := by
  obtain ⟨Z, O, U, X', S', T, P', I, V, N, Y, Q'⟩ := b
  obtain ⟨e1, e2, e3, e4, e5, ⟨hln, htx, hkv⟩, hu0, hY⟩ := hR
  have e1 : S = S' := e1
  have e2 : X = X' := e2
  have e3 : Q = Q' := e3
  have e4 : P = P' := e4
  have e5 : zs = Z 0 := e5
  subst e1 e2 e3 e4 e5
  have hln : 0 ≤ I 0 0 ∧ I 0 0 ≤ 60 := hln
  have htx : ∀ i, 0 ≤ i → i < 60 → 0 ≤ I 1 i ∧ I 1 i ≤ 126 := htx
  have hkv : 0 ≤ I 0 2 ∧ I 0 2 ≤ 9 := hkv
  have hu0 : 0 ≤ U 0 ∧ U 0 ≤ 16 := hu0
  have hY : y7Z Y := hY
  obtain ⟨⟨hV, hV2⟩, ⟨hn, hz⟩, hq10, hhist, hz0, hp10, hsn⟩ := id hκ
  have hI := hV.bd
  have hs10 : ∀ i, 0 ≤ S 10 i ∧ S 10 i ≤ 1 := hI.2.2.2.2.2.2.2.2.2.2.2.2.2.1
  refine x_ofWH (cc := cL_benchByRent) (maxL := 3) (ret := (some .int)) (by decide) rfl ?_
  intro p e s m args below meth c s₁ B hml htab hv
  obtain ⟨rfl, ⟨hsz, hP, hK, hD0⟩, hC⟩ := hv
  have hx := B.exec
  have hb := B.bytes
  have hr := B.returns
  have hts := atoms_spec (ws := .codeWith yL_benchByRent cL_benchByRent 3 (some .int) [(0, 5, 6, 86)] :: GW) B.pre
  have htg : ∀ w ∈ GW, w.before _ s = true := fun w h => hts w (List.mem_cons_of_mem _ h)
  have hown : s.vm.findClass RL = some m.cls := findClass_of_methodNamed B.named
  have hlocks := B.notSynchronized
  subst hsz
  have hD := hD0.self (sz := s.heap.size)
  generalize hAe : va_A (brkU ck ka ad ra (Z, O, U, X, S, T, P, I, V, N, Y, Q)) s.heap.size = A at hD hC ⊢
  have hA : ∀ q : Nat, s.heap.size ≤ q → A q := fun q h => by rw [← hAe]; exact Or.inr h
  have hS : va_S A s.heap s.heap [] := va_S.rf
  have hP : va_P dg vwCl (brkW ck ka ad ra Z O U X S T P I V N Y Q) s.heap := hP
  have hD : va_D A (brkW ck ka ad ra Z O U X S T P I V N Y Q) := hD
  have hl := lv_entry ([.ref ((ad 7) 0), .int (zI x)]) (n := 3) (Nat.le_of_ble_eq_true rfl)
  rw [lg_entry_eq]
  generalize (lg_sl ([.ref ((ad 7) 0), .int (zI x)]) ++ List.replicate (3 - (lg_sl ([.ref ((ad 7) 0), .int (zI x)])).length) Slot.unset).toArray = ls at hl ⊢
  have hl : lv_has ls 3 [(0, .ref ((ad 7) 0)), (1, .int (zI x))] := hl
  refine lv_aload_n hx hb dL_benchByRent_0 rfl (lv_at hl 0 rfl) ?_
  refine lv_iload_n hx hb dL_benchByRent_1 rfl (lv_at hl 1 rfl) ?_
  refine xl_calli0 (M := brkW ck ka ad ra Z O U X S T P I V N Y Q) (Mf := fun u : Unit => brkW ck ka ad ra Z O U X S T P I V N Y Q) (MX := fun u : Unit => brkW ck ka ad ra Z O U X S T P I V N Y Q) hP hD hS hA (fun hPm hDm => vx_runV (As := [.int (zI x)]) (rest := []) ⟨hx, hb, hml, hown, htg⟩ (x_benchByRent l dg ck ka ad ra Z O U X S T P I V N Y Q x _ hI rg_x hst) (cwV 1 htg (gwV wq_1382 wq_1383 wq_1384 wq_1 wq_1385) rfl rfl rfl (by decide +kernel) ⟨Nat.le_of_ble_eq_true rfl, Nat.le_of_ble_eq_true rfl⟩) (wrK_preV hK hPm hDm hC hS hA 0 10 rfl rfl) rfl rfl hl.1 rfl (lv_room (Nat.le_of_ble_eq_true rfl)) dL_benchByRent_2 ⟨Nat.le_of_ble_eq_true rfl, Nat.le_of_ble_eq_true rfl⟩) (fun E9 ce9 q9 u9 H locs hE9 hP hD hS g1 g2 g3 => ?_) (fun r9 u9 H locs hn9 hP hD hS => ?_)
  · obtain ⟨rfl, hc⟩ := hE9
    refine vx_catch (own := RL) (name := "java/util/NoSuchElementException") hown [] ⟨0, 5, 6, 86⟩ [] (by rw [htab]; rfl) (fun z hz => absurd hz List.not_mem_nil) (by decide) (by decide) (htg _ wq_471) (va_Nw.use rfl (hC.nw (w := .castable "java/util/NoSuchElementException" "java/util/NoSuchElementException") (by decide +kernel))) g1 g2 g3 ?_
    refine W.eq (g2 := F0 m 6 ls [.ref q9]) rfl ?_
    refine lv_astore_n (lv' := [(2, .ref q9), (0, .ref ((ad 7) 0)), (1, .int (zI x))]) hx hb dL_benchByRent_6 rfl hl (by decide) rfl (fun ls hl => ?_)
    refine x_bipush hx hb dL_benchByRent_7 (by decide) ?_
    exact W.widen (k := 1) (n := 6) (Nat.le_of_ble_eq_true rfl) (Nat.le_of_ble_eq_true rfl) (W.iret (v := _) hx hb hr (fun t9 ht9 hW9 => ⟨⟨_, ((Z, O, U, X, S, T, P, I, V, N, Y, Q)), rfl, ⟨congrArg zI (if_pos hc).symm, ⟨rfl, rfl, rfl, rfl, rfl, ⟨hln, htx, hkv⟩, hu0, hY⟩⟩, by rw [ht9]; exact hP, by rw [hAe]; exact hD⟩, hS.F ht9⟩) hS.2.2 dL_benchByRent_9)
  have hP : va_P dg vwCl (brkW ck ka ad ra Z O U X S T P I V N Y Q) H := hP
  have hD : va_D A (brkW ck ka ad ra Z O U X S T P I V N Y Q) := hD
  exact W.widen (k := 1) (n := 6) (Nat.le_of_ble_eq_true rfl) (Nat.le_of_ble_eq_true rfl) (W.iret (v := _) hx hb hr (fun t9 ht9 hW9 => ⟨⟨_, ((Z, O, U, X, S, T, P, I, V, N, Y, Q)), rfl, ⟨hn9.1.trans (congrArg zI (if_neg hn9.2).symm), ⟨rfl, rfl, rfl, rfl, rfl, ⟨hln, htx, hkv⟩, hu0, hY⟩⟩, by rw [ht9]; exact hP, by rw [hAe]; exact hD⟩, hS.F ht9⟩) hS.2.2 dL_benchByRent_5)

theorem wqL_tenantByCoins : (Jvm.Cond.codeWith ({ cls := "BenchBrokerLaw", name := "tenantByCoins", desc := "(LBenchBroker;I)I" } : Jvm.MethodName) method_38_code (3 : Nat) (Option.some Jvm.ClassFile.FieldType.int) [((0 : Nat), (5 : Nat), (6 : Nat), (86 : Nat))]) ∈ GW := tq_6 210 rfl rfl
set_option maxHeartbeats 4000000 in
set_option maxRecDepth 100000 in
/-- the law's tenantByCoins -/
theorem w_tenantByCoins (l : Launch) (dg : va_G) (ck : Nat → ClassId) (ka : Nat → Nat) (ad ra : Nat → Nat → Nat) (S : St) (X : Nat → Int) (Q : Nat → St) (P : St) (zs : Int) (b : BU) (x : Int) (sz : Nat) {n : Int} (hκ : KI n S X Q P zs) (hR : RO S X Q P zs b)  (rg_x : -2147483648 ≤ x ∧ x < 2147483648) (hst : l.stackTraces = false) : Met l yL_tenantByCoins (.codeWith yL_tenantByCoins cL_tenantByCoins 3 (some .int) [(0, 5, 6, 86)] :: GW) ({ frames := 7, cells := 1, slots := 6, locals := 117 }) (va_Pc [.ref ((ad 7) 0), .int (zI x)] (wrK dg ck ka sz (brkU ck ka ad ra b))) (va_Qi (fun r (u : BU) => r = zI (vByC S x) ∧ RO S X Q P zs u) (fun u t9 => wrQ dg sz (brkU ck ka ad ra b) (brkU ck ka ad ra u) t9) (va_A (brkU ck ka ad ra b) sz)) 1 6 (va_A (brkU ck ka ad ra b) sz) := by
  obtain ⟨Z, O, U, X', S', T, P', I, V, N, Y, Q'⟩ := b
  obtain ⟨e1, e2, e3, e4, e5, ⟨hln, htx, hkv⟩, hu0, hY⟩ := hR
  have e1 : S = S' := e1
  have e2 : X = X' := e2
  have e3 : Q = Q' := e3
  have e4 : P = P' := e4
  have e5 : zs = Z 0 := e5
  subst e1 e2 e3 e4 e5
  have hln : 0 ≤ I 0 0 ∧ I 0 0 ≤ 60 := hln
  have htx : ∀ i, 0 ≤ i → i < 60 → 0 ≤ I 1 i ∧ I 1 i ≤ 126 := htx
  have hkv : 0 ≤ I 0 2 ∧ I 0 2 ≤ 9 := hkv
  have hu0 : 0 ≤ U 0 ∧ U 0 ≤ 16 := hu0
  have hY : y7Z Y := hY
  obtain ⟨⟨hV, hV2⟩, ⟨hn, hz⟩, hq10, hhist, hz0, hp10, hsn⟩ := id hκ
  have hI := hV.bd
  have hs10 : ∀ i, 0 ≤ S 10 i ∧ S 10 i ≤ 1 := hI.2.2.2.2.2.2.2.2.2.2.2.2.2.1
  refine x_ofWH (cc := cL_tenantByCoins) (maxL := 3) (ret := (some .int)) (by decide) rfl ?_
  intro p e s m args below meth c s₁ B hml htab hv
  obtain ⟨rfl, ⟨hsz, hP, hK, hD0⟩, hC⟩ := hv
  have hx := B.exec
  have hb := B.bytes
  have hr := B.returns
  have hts := atoms_spec (ws := .codeWith yL_tenantByCoins cL_tenantByCoins 3 (some .int) [(0, 5, 6, 86)] :: GW) B.pre
  have htg : ∀ w ∈ GW, w.before _ s = true := fun w h => hts w (List.mem_cons_of_mem _ h)
  have hown : s.vm.findClass RL = some m.cls := findClass_of_methodNamed B.named
  have hlocks := B.notSynchronized
  subst hsz
  have hD := hD0.self (sz := s.heap.size)
  generalize hAe : va_A (brkU ck ka ad ra (Z, O, U, X, S, T, P, I, V, N, Y, Q)) s.heap.size = A at hD hC ⊢
  have hA : ∀ q : Nat, s.heap.size ≤ q → A q := fun q h => by rw [← hAe]; exact Or.inr h
  have hS : va_S A s.heap s.heap [] := va_S.rf
  have hP : va_P dg vwCl (brkW ck ka ad ra Z O U X S T P I V N Y Q) s.heap := hP
  have hD : va_D A (brkW ck ka ad ra Z O U X S T P I V N Y Q) := hD
  have hl := lv_entry ([.ref ((ad 7) 0), .int (zI x)]) (n := 3) (Nat.le_of_ble_eq_true rfl)
  rw [lg_entry_eq]
  generalize (lg_sl ([.ref ((ad 7) 0), .int (zI x)]) ++ List.replicate (3 - (lg_sl ([.ref ((ad 7) 0), .int (zI x)])).length) Slot.unset).toArray = ls at hl ⊢
  have hl : lv_has ls 3 [(0, .ref ((ad 7) 0)), (1, .int (zI x))] := hl
  refine lv_aload_n hx hb dL_tenantByCoins_0 rfl (lv_at hl 0 rfl) ?_
  refine lv_iload_n hx hb dL_tenantByCoins_1 rfl (lv_at hl 1 rfl) ?_
  refine xl_calli0 (M := brkW ck ka ad ra Z O U X S T P I V N Y Q) (Mf := fun u : Unit => brkW ck ka ad ra Z O U X S T P I V N Y Q) (MX := fun u : Unit => brkW ck ka ad ra Z O U X S T P I V N Y Q) hP hD hS hA (fun hPm hDm => vx_runV (As := [.int (zI x)]) (rest := []) ⟨hx, hb, hml, hown, htg⟩ (x_tenantByCoins l dg ck ka ad ra Z O U X S T P I V N Y Q x _ hI rg_x hst) (cwV 1 htg (gwV wq_1411 wq_1412 wq_1413 wq_1 wq_1414) rfl rfl rfl (by decide +kernel) ⟨Nat.le_of_ble_eq_true rfl, Nat.le_of_ble_eq_true rfl⟩) (wrK_preV hK hPm hDm hC hS hA 0 10 rfl rfl) rfl rfl hl.1 rfl (lv_room (Nat.le_of_ble_eq_true rfl)) dL_tenantByCoins_2 ⟨Nat.le_of_ble_eq_true rfl, Nat.le_of_ble_eq_true rfl⟩) (fun E9 ce9 q9 u9 H locs hE9 hP hD hS g1 g2 g3 => ?_) (fun r9 u9 H locs hn9 hP hD hS => ?_)
  · obtain ⟨rfl, hc⟩ := hE9
    refine vx_catch (own := RL) (name := "java/util/NoSuchElementException") hown [] ⟨0, 5, 6, 86⟩ [] (by rw [htab]; rfl) (fun z hz => absurd hz List.not_mem_nil) (by decide) (by decide) (htg _ wq_471) (va_Nw.use rfl (hC.nw (w := .castable "java/util/NoSuchElementException" "java/util/NoSuchElementException") (by decide +kernel))) g1 g2 g3 ?_
    refine W.eq (g2 := F0 m 6 ls [.ref q9]) rfl ?_
    refine lv_astore_n (lv' := [(2, .ref q9), (0, .ref ((ad 7) 0)), (1, .int (zI x))]) hx hb dL_tenantByCoins_6 rfl hl (by decide) rfl (fun ls hl => ?_)
    refine x_bipush hx hb dL_tenantByCoins_7 (by decide) ?_
    exact W.widen (k := 1) (n := 6) (Nat.le_of_ble_eq_true rfl) (Nat.le_of_ble_eq_true rfl) (W.iret (v := _) hx hb hr (fun t9 ht9 hW9 => ⟨⟨_, ((Z, O, U, X, S, T, P, I, V, N, Y, Q)), rfl, ⟨congrArg zI (if_pos hc).symm, ⟨rfl, rfl, rfl, rfl, rfl, ⟨hln, htx, hkv⟩, hu0, hY⟩⟩, by rw [ht9]; exact hP, by rw [hAe]; exact hD⟩, hS.F ht9⟩) hS.2.2 dL_tenantByCoins_9)
  have hP : va_P dg vwCl (brkW ck ka ad ra Z O U X S T P I V N Y Q) H := hP
  have hD : va_D A (brkW ck ka ad ra Z O U X S T P I V N Y Q) := hD
  exact W.widen (k := 1) (n := 6) (Nat.le_of_ble_eq_true rfl) (Nat.le_of_ble_eq_true rfl) (W.iret (v := _) hx hb hr (fun t9 ht9 hW9 => ⟨⟨_, ((Z, O, U, X, S, T, P, I, V, N, Y, Q)), rfl, ⟨hn9.1.trans (congrArg zI (if_neg hn9.2).symm), ⟨rfl, rfl, rfl, rfl, rfl, ⟨hln, htx, hkv⟩, hu0, hY⟩⟩, by rw [ht9]; exact hP, by rw [hAe]; exact hD⟩, hS.F ht9⟩) hS.2.2 dL_tenantByCoins_5)
