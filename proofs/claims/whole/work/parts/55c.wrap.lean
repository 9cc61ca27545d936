/-! the law: its own methods with doubles -/

theorem wqL_meanRent : (Jvm.Cond.codeWith ({ cls := "BenchBrokerLaw", name := "meanRent", desc := "(LBenchBroker;[D)I" } : Jvm.MethodName) method_38_code (3 : Nat) (Option.some Jvm.ClassFile.FieldType.int) [((0 : Nat), (7 : Nat), (10 : Nat), (131 : Nat))]) ∈ GW := tq_5 102 rfl rfl
set_option maxHeartbeats 4000000 in
set_option maxRecDepth 100000 in
/-- the law's meanRent -/
theorem w_meanRent (l : Launch) (dg : va_G) (ck : Nat → ClassId) (ka : Nat → Nat) (ad ra : Nat → Nat → Nat) (Z O U X : Nat → Int) (S T P I : St) (V N Y : Int → Int) (Q : Nat → St) (oa : Nat) (D : Nat → UInt64) (sz : Nat) (hI : Bd S)  (hst : l.stackTraces = false) : Met l yL_meanRent (.codeWith yL_meanRent cL_meanRent 3 (some .int) [(0, 7, 10, 131)] :: GW) ({ frames := 7, cells := 1, slots := 6, locals := 118 }) (va_Pc [.ref ((ad 7) 0), .ref oa] (wrK dg ck ka sz (brkW ck ka ad ra Z O U X S T P I V N Y Q ++ dblC ck oa D))) (va_Qi (fun r (u : BU × (Nat → UInt64)) => (r = zI 0 ∧ ∃ r1 : UInt64, (r1 = mrD S ∧ S 0 0 ≠ 0) ∧ u.1 = (Z, O, U, X, S, T, P, I, V, N, Y, Q) ∧ u.2 0 = r1) ∨ (r = zI 1 ∧ (S 0 0 = 0) ∧ u.1 = (Z, O, U, X, S, T, P, I, V, N, Y, Q))) (fun u t9 => wrQ dg sz (brkW ck ka ad ra Z O U X S T P I V N Y Q ++ dblC ck oa D) (brkU ck ka ad ra u.1 ++ dblC ck oa u.2) t9) (va_A (brkW ck ka ad ra Z O U X S T P I V N Y Q ++ dblC ck oa D) sz)) 1 6 (va_A (brkW ck ka ad ra Z O U X S T P I V N Y Q ++ dblC ck oa D) sz) := by
  refine x_ofWH (cc := cL_meanRent) (maxL := 3) (ret := (some .int)) (by decide) rfl ?_
  intro p e s m args below meth c s₁ B hml htab hv
  obtain ⟨rfl, ⟨hsz, hP, hK, hD0⟩, hC⟩ := hv
  have hx := B.exec
  have hb := B.bytes
  have hr := B.returns
  have hts := atoms_spec (ws := .codeWith yL_meanRent cL_meanRent 3 (some .int) [(0, 7, 10, 131)] :: GW) B.pre
  have htg : ∀ w ∈ GW, w.before _ s = true := fun w h => hts w (List.mem_cons_of_mem _ h)
  have hown : s.vm.findClass RL = some m.cls := findClass_of_methodNamed B.named
  have hlocks := B.notSynchronized
  subst hsz
  have hD := hD0.self (sz := s.heap.size)
  generalize hAe : va_A (brkW ck ka ad ra Z O U X S T P I V N Y Q ++ dblC ck oa D) s.heap.size = A at hD hC ⊢
  have hA : ∀ q : Nat, s.heap.size ≤ q → A q := fun q h => by rw [← hAe]; exact Or.inr h
  have hS : va_S A s.heap s.heap [] := va_S.rf
  have hP : va_P dg vwCl (brkW ck ka ad ra Z O U X S T P I V N Y Q ++ dblC ck oa D) s.heap := hP
  have hl := lv_entry ([.ref ((ad 7) 0), .ref oa]) (n := 3) (Nat.le_of_ble_eq_true rfl)
  rw [lg_entry_eq]
  generalize (lg_sl ([.ref ((ad 7) 0), .ref oa]) ++ List.replicate (3 - (lg_sl ([.ref ((ad 7) 0), .ref oa])).length) Slot.unset).toArray = ls at hl ⊢
  have hl : lv_has ls 3 [(0, .ref ((ad 7) 0)), (1, .ref oa)] := hl
  refine lv_aload_n hx hb dL_meanRent_0 rfl (lv_at hl 1 rfl) ?_
  refine x_iconst hx hb dL_meanRent_1 ?_
  refine lv_aload_n hx hb dL_meanRent_2 rfl (lv_at hl 0 rfl) ?_
  refine xl_calld (M := brkW ck ka ad ra Z O U X S T P I V N Y Q) (N := dblC ck oa D) (Mf := fun u : Unit => brkW ck ka ad ra Z O U X S T P I V N Y Q) (MX := fun u : Unit => brkW ck ka ad ra Z O U X S T P I V N Y Q) hP hD hS hA (fun hPm hDm => vx_runV (As := []) (rest := [.int (zI 0), .ref oa]) ⟨hx, hb, hml, hown, htg⟩ (x_meanRent l dg ck ka ad ra Z O U X S T P I V N Y Q  _ hI hst) (cwV 0 htg (gwV wq_1077 wq_1078 wq_1079 wq_1 wq_1080) rfl rfl rfl (by decide +kernel) ⟨Nat.le_of_ble_eq_true rfl, Nat.le_of_ble_eq_true rfl⟩) (wrK_preV hK hPm hDm hC hS hA 0 10 rfl rfl) rfl rfl hl.1 rfl (lv_room (Nat.le_of_ble_eq_true rfl)) dL_meanRent_3 ⟨Nat.le_of_ble_eq_true rfl, Nat.le_of_ble_eq_true rfl⟩) (fun E9 ce9 q9 u9 H locs hE9 hP hD hS g1 g2 g3 => ?_) (fun r9 u9 H locs hn9 hP hD hS => ?_)
  · obtain ⟨rfl, hc⟩ := hE9
    refine vx_catch (own := RL) (name := "java/lang/ArithmeticException") hown [] ⟨0, 7, 10, 131⟩ [] (by rw [htab]; rfl) (fun z hz => absurd hz List.not_mem_nil) (by decide) (by decide) (htg _ wq_1063) (va_Nw.use rfl (hC.nw (w := .castable "java/lang/ArithmeticException" "java/lang/ArithmeticException") (by decide +kernel))) g1 g2 g3 ?_
    refine W.eq (g2 := F0 m 10 ls [.ref q9]) rfl ?_
    refine lv_astore_n (lv' := [(2, .ref q9), (0, .ref ((ad 7) 0)), (1, .ref oa)]) hx hb dL_meanRent_10 rfl hl (by decide) rfl (fun ls hl => ?_)
    refine x_iconst hx hb dL_meanRent_11 ?_
    exact W.widen (k := 1) (n := 6) (Nat.le_of_ble_eq_true rfl) (Nat.le_of_ble_eq_true rfl) (W.iret (v := _) hx hb hr (fun t9 ht9 hW9 => ⟨⟨_, ((Z, O, U, X, S, T, P, I, V, N, Y, Q), D), rfl, (Or.inr ⟨rfl, hc, rfl⟩), by rw [ht9]; exact hP, by rw [hAe]; exact hD⟩, hS.F ht9⟩) hS.2.2 dL_meanRent_12)
  have hP : va_P dg vwCl (brkW ck ka ad ra Z O U X S T P I V N Y Q ++ dblC ck oa D) H := hP
  have hD : va_D A (brkW ck ka ad ra Z O U X S T P I V N Y Q ++ dblC ck oa D) := hD
  refine va_dast hx hb hK hP hD hS 166 6 rfl rfl (zI_in (z := 0) (by decide) (by decide)) dL_meanRent_6 (fun H locs hP hD hS => ?_)
  have hP : va_P dg vwCl (brkW ck ka ad ra Z O U X S T P I V N Y Q ++ dblC ck oa (vf_upd D (zI 0).toNatClampNeg r9)) H := hP
  have hD : va_D A (brkW ck ka ad ra Z O U X S T P I V N Y Q ++ dblC ck oa (vf_upd D (zI 0).toNatClampNeg r9)) := hD
  refine lv_goto (tgt := 13) hx hb dL_meanRent_7 (by decide) ?_
  refine x_iconst hx hb dL_meanRent_13 ?_
  exact W.widen (k := 1) (n := 6) (Nat.le_of_ble_eq_true rfl) (Nat.le_of_ble_eq_true rfl) (W.iret (v := _) hx hb hr (fun t9 ht9 hW9 => ⟨⟨_, ((Z, O, U, X, S, T, P, I, V, N, Y, Q), (vf_upd D (zI 0).toNatClampNeg r9)), rfl, (Or.inl ⟨rfl, r9, hn9, rfl, rfl⟩), by rw [ht9]; exact hP, by rw [hAe]; exact hD⟩, hS.F ht9⟩) hS.2.2 dL_meanRent_14)

theorem wqL_letShare : (Jvm.Cond.codeWith ({ cls := "BenchBrokerLaw", name := "letShare", desc := "(LBenchBroker;[D)I" } : Jvm.MethodName) method_39_code (3 : Nat) (Option.some Jvm.ClassFile.FieldType.int) [((0 : Nat), (8 : Nat), (11 : Nat), (131 : Nat))]) ∈ GW := tq_5 128 rfl rfl
set_option maxHeartbeats 4000000 in
set_option maxRecDepth 100000 in
/-- the law's letShare -/
theorem w_letShare (l : Launch) (dg : va_G) (ck : Nat → ClassId) (ka : Nat → Nat) (ad ra : Nat → Nat → Nat) (Z O U X : Nat → Int) (S T P I : St) (V N Y : Int → Int) (Q : Nat → St) (oa : Nat) (D : Nat → UInt64) (sz : Nat) (hI : Bd S)  (hst : l.stackTraces = false) : Met l yL_letShare (.codeWith yL_letShare cL_letShare 3 (some .int) [(0, 8, 11, 131)] :: GW) ({ frames := 7, cells := 1, slots := 6, locals := 118 }) (va_Pc [.ref ((ad 7) 0), .ref oa] (wrK dg ck ka sz (brkW ck ka ad ra Z O U X S T P I V N Y Q ++ dblC ck oa D))) (va_Qi (fun r (u : BU × (Nat → UInt64)) => (r = zI 0 ∧ ∃ r1 : UInt32, (r1 = lsF S ∧ S 0 0 ≠ 0) ∧ u.1 = (Z, O, U, X, S, T, P, I, V, N, Y, Q) ∧ u.2 0 = FP.f2d r1) ∨ (r = zI 1 ∧ (S 0 0 = 0) ∧ u.1 = (Z, O, U, X, S, T, P, I, V, N, Y, Q))) (fun u t9 => wrQ dg sz (brkW ck ka ad ra Z O U X S T P I V N Y Q ++ dblC ck oa D) (brkU ck ka ad ra u.1 ++ dblC ck oa u.2) t9) (va_A (brkW ck ka ad ra Z O U X S T P I V N Y Q ++ dblC ck oa D) sz)) 1 6 (va_A (brkW ck ka ad ra Z O U X S T P I V N Y Q ++ dblC ck oa D) sz) := by
  refine x_ofWH (cc := cL_letShare) (maxL := 3) (ret := (some .int)) (by decide) rfl ?_
  intro p e s m args below meth c s₁ B hml htab hv
  obtain ⟨rfl, ⟨hsz, hP, hK, hD0⟩, hC⟩ := hv
  have hx := B.exec
  have hb := B.bytes
  have hr := B.returns
  have hts := atoms_spec (ws := .codeWith yL_letShare cL_letShare 3 (some .int) [(0, 8, 11, 131)] :: GW) B.pre
  have htg : ∀ w ∈ GW, w.before _ s = true := fun w h => hts w (List.mem_cons_of_mem _ h)
  have hown : s.vm.findClass RL = some m.cls := findClass_of_methodNamed B.named
  have hlocks := B.notSynchronized
  subst hsz
  have hD := hD0.self (sz := s.heap.size)
  generalize hAe : va_A (brkW ck ka ad ra Z O U X S T P I V N Y Q ++ dblC ck oa D) s.heap.size = A at hD hC ⊢
  have hA : ∀ q : Nat, s.heap.size ≤ q → A q := fun q h => by rw [← hAe]; exact Or.inr h
  have hS : va_S A s.heap s.heap [] := va_S.rf
  have hP : va_P dg vwCl (brkW ck ka ad ra Z O U X S T P I V N Y Q ++ dblC ck oa D) s.heap := hP
  have hl := lv_entry ([.ref ((ad 7) 0), .ref oa]) (n := 3) (Nat.le_of_ble_eq_true rfl)
  rw [lg_entry_eq]
  generalize (lg_sl ([.ref ((ad 7) 0), .ref oa]) ++ List.replicate (3 - (lg_sl ([.ref ((ad 7) 0), .ref oa])).length) Slot.unset).toArray = ls at hl ⊢
  have hl : lv_has ls 3 [(0, .ref ((ad 7) 0)), (1, .ref oa)] := hl
  refine lv_aload_n hx hb dL_letShare_0 rfl (lv_at hl 1 rfl) ?_
  refine x_iconst hx hb dL_letShare_1 ?_
  refine lv_aload_n hx hb dL_letShare_2 rfl (lv_at hl 0 rfl) ?_
  refine xl_callf (M := brkW ck ka ad ra Z O U X S T P I V N Y Q) (N := dblC ck oa D) (Mf := fun u : Unit => brkW ck ka ad ra Z O U X S T P I V N Y Q) (MX := fun u : Unit => brkW ck ka ad ra Z O U X S T P I V N Y Q) hP hD hS hA (fun hPm hDm => vx_runV (As := []) (rest := [.int (zI 0), .ref oa]) ⟨hx, hb, hml, hown, htg⟩ (x_letShare l dg ck ka ad ra Z O U X S T P I V N Y Q  _ hI hst) (cwV 0 htg (gwV wq_1089 wq_1090 wq_1091 wq_1 wq_1092) rfl rfl rfl (by decide +kernel) ⟨Nat.le_of_ble_eq_true rfl, Nat.le_of_ble_eq_true rfl⟩) (wrK_preV hK hPm hDm hC hS hA 0 10 rfl rfl) rfl rfl hl.1 rfl (lv_room (Nat.le_of_ble_eq_true rfl)) dL_letShare_3 ⟨Nat.le_of_ble_eq_true rfl, Nat.le_of_ble_eq_true rfl⟩) (fun E9 ce9 q9 u9 H locs hE9 hP hD hS g1 g2 g3 => ?_) (fun r9 u9 H locs hn9 hP hD hS => ?_)
  · obtain ⟨rfl, hc⟩ := hE9
    refine vx_catch (own := RL) (name := "java/lang/ArithmeticException") hown [] ⟨0, 8, 11, 131⟩ [] (by rw [htab]; rfl) (fun z hz => absurd hz List.not_mem_nil) (by decide) (by decide) (htg _ wq_1063) (va_Nw.use rfl (hC.nw (w := .castable "java/lang/ArithmeticException" "java/lang/ArithmeticException") (by decide +kernel))) g1 g2 g3 ?_
    refine W.eq (g2 := F0 m 11 ls [.ref q9]) rfl ?_
    refine lv_astore_n (lv' := [(2, .ref q9), (0, .ref ((ad 7) 0)), (1, .ref oa)]) hx hb dL_letShare_11 rfl hl (by decide) rfl (fun ls hl => ?_)
    refine x_iconst hx hb dL_letShare_12 ?_
    exact W.widen (k := 1) (n := 6) (Nat.le_of_ble_eq_true rfl) (Nat.le_of_ble_eq_true rfl) (W.iret (v := _) hx hb hr (fun t9 ht9 hW9 => ⟨⟨_, ((Z, O, U, X, S, T, P, I, V, N, Y, Q), D), rfl, (Or.inr ⟨rfl, hc, rfl⟩), by rw [ht9]; exact hP, by rw [hAe]; exact hD⟩, hS.F ht9⟩) hS.2.2 dL_letShare_13)
  have hP : va_P dg vwCl (brkW ck ka ad ra Z O U X S T P I V N Y Q ++ dblC ck oa D) H := hP
  have hD : va_D A (brkW ck ka ad ra Z O U X S T P I V N Y Q ++ dblC ck oa D) := hD
  refine lv_f2d hx hb dL_letShare_6 (by rw [hn9.1]; exact ls_n64 hI) ?_
  refine va_dast hx hb hK hP hD hS 166 6 rfl rfl (zI_in (z := 0) (by decide) (by decide)) dL_letShare_7 (fun H locs hP hD hS => ?_)
  have hP : va_P dg vwCl (brkW ck ka ad ra Z O U X S T P I V N Y Q ++ dblC ck oa (vf_upd D (zI 0).toNatClampNeg (FP.f2d r9))) H := hP
  have hD : va_D A (brkW ck ka ad ra Z O U X S T P I V N Y Q ++ dblC ck oa (vf_upd D (zI 0).toNatClampNeg (FP.f2d r9))) := hD
  refine lv_goto (tgt := 14) hx hb dL_letShare_8 (by decide) ?_
  refine x_iconst hx hb dL_letShare_14 ?_
  exact W.widen (k := 1) (n := 6) (Nat.le_of_ble_eq_true rfl) (Nat.le_of_ble_eq_true rfl) (W.iret (v := _) hx hb hr (fun t9 ht9 hW9 => ⟨⟨_, ((Z, O, U, X, S, T, P, I, V, N, Y, Q), (vf_upd D (zI 0).toNatClampNeg (FP.f2d r9))), rfl, (Or.inl ⟨rfl, r9, hn9, rfl, rfl⟩), by rw [ht9]; exact hP, by rw [hAe]; exact hD⟩, hS.F ht9⟩) hS.2.2 dL_letShare_15)
