/-! the law's own methods: calls that change-/

theorem tg_v (S : St) (f : Int) (h : (tgZ S f).1 = 0) : (tgZ S f).2.1 = 1 - S 10 f := by
  unfold tgZ at h ⊢
  split
  · rename_i q
    rw [if_pos q] at h
    exact absurd (show (-1 : Int) = 0 from h) (by decide)
  · rfl

theorem wqL_addBench : (Jvm.Cond.codeWith ({ cls := "BenchBrokerLaw", name := "addBench", desc := "(LBenchBroker;III)I" } : Jvm.MethodName) method_4_code (5 : Nat) (Option.some Jvm.ClassFile.FieldType.int) [((0 : Nat), (7 : Nat), (8 : Nat), (20 : Nat)), ((0 : Nat), (7 : Nat), (13 : Nat), (22 : Nat)), ((0 : Nat), (7 : Nat), (18 : Nat), (24 : Nat))]) ∈ GW := tq_3 174 rfl rfl
set_option maxHeartbeats 4000000 in
set_option maxRecDepth 100000 in
/-- the law's addBench -/
theorem w_addBench (l : Launch) (dg : va_G) (ck : Nat → ClassId) (ka : Nat → Nat) (ad ra : Nat → Nat → Nat) (S : St) (X : Nat → Int) (Q : Nat → St) (P : St) (zs : Int) (b : BU) (x y z : Int) (sz : Nat) {n : Int} (hκ : KI n S X Q P zs) (hR : RO S X Q P zs b) (hM9 : n + 99 ≤ 4000000) (rg_x : -2147483648 ≤ x ∧ x < 2147483648) (rg_y : -2147483648 ≤ y ∧ y < 2147483648) (rg_z : -2147483648 ≤ z ∧ z < 2147483648) (hst : l.stackTraces = false) : Met l yL_addBench (.codeWith yL_addBench cL_addBench 5 (some .int) [(0, 7, 8, 20), (0, 7, 13, 22), (0, 7, 18, 24)] :: GW) ({ frames := 8, cells := 1, slots := 6, locals := 153 }) (va_Pc [.ref ((ad 7) 0), .int (zI x), .int (zI y), .int (zI z)] (wrK dg ck ka sz (brkU ck ka ad ra b))) (va_Qi (fun r (u : BU) => r = zI (ansK (pbZ S x y z)) ∧ RO (pbZ S x y z).2.2 (phX X (pbZ S x y z).1) (phQ Q X S (pbZ S x y z).1) P zs u) (fun u t9 => wrQ dg sz (brkU ck ka ad ra b) (brkU ck ka ad ra u) t9) (va_A (brkU ck ka ad ra b) sz)) 1 6 (va_A (brkU ck ka ad ra b) sz) := by
  obtain ⟨Z, O, U, X', S', T, P', I, V, N, Y, Q'⟩ := b
  obtain ⟨e1, e2, e3, e4, e5, ⟨hln, htx, hkv⟩, hu0, hY⟩ := hR
  have e1 : S = S' := e1
  have e2 : X = X' := e2
  have e3 : Q = Q' := e3
  have e4 : P = P' := e4
  have e5 : zs = Z 0 := e5
  subst e1 e2 e3 e4 e5
  have hln : 0 ≤ I 0 0 ∧ I 0 0 ≤ 60 := hln
  have htx : ∀ i, 0 ≤ i → i < 60 → 0 ≤ I 1 i ∧ I 1 i ≤ 126 := htx
  have hkv : 0 ≤ I 0 2 ∧ I 0 2 ≤ 9 := hkv
  have hu0 : 0 ≤ U 0 ∧ U 0 ≤ 16 := hu0
  have hY : y7Z Y := hY
  obtain ⟨⟨hV, hV2⟩, ⟨hn, hz⟩, hq10, hhist, hz0, hp10, hsn⟩ := id hκ
  have hI := hV.bd
  have hs10 : ∀ i, 0 ≤ S 10 i ∧ S 10 i ≤ 1 := hI.2.2.2.2.2.2.2.2.2.2.2.2.2.1
  refine x_ofWH (cc := cL_addBench) (maxL := 5) (ret := (some .int)) (by decide) rfl ?_
  intro p e s m args below meth c s₁ B hml htab hv
  obtain ⟨rfl, ⟨hsz, hP, hK, hD0⟩, hC⟩ := hv
  have hx := B.exec
  have hb := B.bytes
  have hr := B.returns
  have hts := atoms_spec (ws := .codeWith yL_addBench cL_addBench 5 (some .int) [(0, 7, 8, 20), (0, 7, 13, 22), (0, 7, 18, 24)] :: GW) B.pre
  have htg : ∀ w ∈ GW, w.before _ s = true := fun w h => hts w (List.mem_cons_of_mem _ h)
  have hown : s.vm.findClass RL = some m.cls := findClass_of_methodNamed B.named
  have hlocks := B.notSynchronized
  subst hsz
  have hD := hD0.self (sz := s.heap.size)
  generalize hAe : va_A (brkU ck ka ad ra (Z, O, U, X, S, T, P, I, V, N, Y, Q)) s.heap.size = A at hD hC ⊢
  have hA : ∀ q : Nat, s.heap.size ≤ q → A q := fun q h => by rw [← hAe]; exact Or.inr h
  have hS : va_S A s.heap s.heap [] := va_S.rf
  have hP : va_P dg vwCl (brkW ck ka ad ra Z O U X S T P I V N Y Q) s.heap := hP
  have hD : va_D A (brkW ck ka ad ra Z O U X S T P I V N Y Q) := hD
  have hl := lv_entry ([.ref ((ad 7) 0), .int (zI x), .int (zI y), .int (zI z)]) (n := 5) (Nat.le_of_ble_eq_true rfl)
  rw [lg_entry_eq]
  generalize (lg_sl ([.ref ((ad 7) 0), .int (zI x), .int (zI y), .int (zI z)]) ++ List.replicate (5 - (lg_sl ([.ref ((ad 7) 0), .int (zI x), .int (zI y), .int (zI z)])).length) Slot.unset).toArray = ls at hl ⊢
  have hl : lv_has ls 5 [(0, .ref ((ad 7) 0)), (1, .int (zI x)), (2, .int (zI y)), (3, .int (zI z))] := hl
  refine lv_aload_n hx hb dL_addBench_0 rfl (lv_at hl 0 rfl) ?_
  refine lv_iload_n hx hb dL_addBench_1 rfl (lv_at hl 1 rfl) ?_
  refine lv_iload_n hx hb dL_addBench_2 rfl (lv_at hl 2 rfl) ?_
  refine lv_iload_n hx hb dL_addBench_3 rfl (lv_at hl 3 rfl) ?_
  refine xl_calli0 (M := brkW ck ka ad ra Z O U X S T P I V N Y Q) (Mf := fun u : Unit => brkW ck ka ad ra Z (outc O (pbZ S x y z).1 (pbZ S x y z).2.1) U (upO (upO X 0 (((X 0) + 1) % 8)) 1 (k1Z (X 1))) (pbZ S x y z).2.2 (pbZ S x y z).2.2 P I V N Y (upQ Q (X 0) S)) (MX := fun u : Unit => brkW ck ka ad ra (if (outc O (pbZ S x y z).1 (pbZ S x y z).2.1) 0 = 3 then (upO (upO (upO Z 1 ((outc O (pbZ S x y z).1 (pbZ S x y z).2.1) 2)) 2 ((outc O (pbZ S x y z).1 (pbZ S x y z).2.1) 3)) 3 0) else Z) (outc O (pbZ S x y z).1 (pbZ S x y z).2.1) U X S (pbZ S x y z).2.2 P I V N Y Q) hP hD hS hA (fun hPm hDm => vx_runV (As := [.int (zI x), .int (zI y), .int (zI z)]) (rest := []) ⟨hx, hb, hml, hown, htg⟩ (x_addBench l dg ck ka ad ra Z O U X S T P I V N Y Q x y z _ hV hM9 hn hz rg_x rg_y rg_z hst) (cwV 3 htg (gwV wq_656 wq_657 wq_658 wq_1 wq_659) rfl rfl rfl (by decide +kernel) ⟨Nat.le_of_ble_eq_true rfl, Nat.le_of_ble_eq_true rfl⟩) (wrK_preV hK hPm hDm hC hS hA 0 10 rfl rfl) rfl rfl hl.1 rfl (lv_room (Nat.le_of_ble_eq_true rfl)) dL_addBench_4 ⟨Nat.le_of_ble_eq_true rfl, Nat.le_of_ble_eq_true rfl⟩) (fun E9 ce9 q9 u9 H locs hE9 hP hD hS g1 g2 g3 => ?_) (fun r9 u9 H locs hn9 hP hD hS => ?_)
  · rcases hE9 with ⟨rfl, hc⟩ | ⟨rfl, hc⟩ | ⟨rfl, hc⟩
    · refine vx_catch (own := RL) (name := "java/lang/IndexOutOfBoundsException") hown [] ⟨0, 7, 8, 20⟩ [⟨0, 7, 13, 22⟩, ⟨0, 7, 18, 24⟩] (by rw [htab]; rfl) (fun z hz => absurd hz List.not_mem_nil) (by decide) (by decide) (htg _ wq_341) (va_Nw.use rfl (hC.nw (w := .castable "java/lang/IndexOutOfBoundsException" "java/lang/IndexOutOfBoundsException") (by decide +kernel))) g1 g2 g3 ?_
      refine W.eq (g2 := F0 m 8 ls [.ref q9]) rfl ?_
      refine lv_astore (lv' := [(4, .ref q9), (0, .ref ((ad 7) 0)), (1, .int (zI x)), (2, .int (zI y)), (3, .int (zI z))]) hx hb dL_addBench_8 hl (by decide) rfl (fun ls hl => ?_)
      refine x_bipush hx hb dL_addBench_10 (by decide) ?_
      have hcc := outc_1 hc
      have hne : (pbZ S x y z).1 ≠ 0 := by omega
      exact W.widen (k := 1) (n := 6) (Nat.le_of_ble_eq_true rfl) (Nat.le_of_ble_eq_true rfl) (W.iret (v := _) hx hb hr (fun t9 ht9 hW9 => ⟨⟨_, (((if (outc O (pbZ S x y z).1 (pbZ S x y z).2.1) 0 = 3 then (upO (upO (upO Z 1 ((outc O (pbZ S x y z).1 (pbZ S x y z).2.1) 2)) 2 ((outc O (pbZ S x y z).1 (pbZ S x y z).2.1) 3)) 3 0) else Z), (outc O (pbZ S x y z).1 (pbZ S x y z).2.1), U, X, S, (pbZ S x y z).2.2, P, I, V, N, Y, Q)), rfl, ⟨congrArg zI (ansK_1 hcc).symm, ⟨(actZ_k (S := S) (k := 0) (a := x) (b := y) (d := z) hne), if_neg hne, if_neg hne, rfl, zkt_0 Z _, ⟨hln, htx, hkv⟩, hu0, hY⟩⟩, by rw [ht9]; exact hP, by rw [hAe]; exact hD⟩, hS.F ht9⟩) hS.2.2 dL_addBench_12)
    · refine vx_catch (own := RL) (name := "java/lang/IllegalArgumentException") hown [⟨0, 7, 8, 20⟩] ⟨0, 7, 13, 22⟩ [⟨0, 7, 18, 24⟩] (by rw [htab]; rfl) (by intro z hz; simp only [List.mem_cons, List.not_mem_nil, or_false] at hz; subst hz; exact Or.inr ⟨by decide, "java/lang/IndexOutOfBoundsException", htg _ wq_341, hC.nc (by decide +kernel)⟩) (by decide) (by decide) (htg _ wq_566) (va_Nw.use rfl (hC.nw (w := .castable "java/lang/IllegalArgumentException" "java/lang/IllegalArgumentException") (by decide +kernel))) g1 g2 g3 ?_
      refine W.eq (g2 := F0 m 13 ls [.ref q9]) rfl ?_
      refine lv_astore (lv' := [(4, .ref q9), (0, .ref ((ad 7) 0)), (1, .int (zI x)), (2, .int (zI y)), (3, .int (zI z))]) hx hb dL_addBench_13 hl (by decide) rfl (fun ls hl => ?_)
      refine x_bipush hx hb dL_addBench_15 (by decide) ?_
      have hcc := outc_2 hc
      have hne : (pbZ S x y z).1 ≠ 0 := by omega
      exact W.widen (k := 1) (n := 6) (Nat.le_of_ble_eq_true rfl) (Nat.le_of_ble_eq_true rfl) (W.iret (v := _) hx hb hr (fun t9 ht9 hW9 => ⟨⟨_, (((if (outc O (pbZ S x y z).1 (pbZ S x y z).2.1) 0 = 3 then (upO (upO (upO Z 1 ((outc O (pbZ S x y z).1 (pbZ S x y z).2.1) 2)) 2 ((outc O (pbZ S x y z).1 (pbZ S x y z).2.1) 3)) 3 0) else Z), (outc O (pbZ S x y z).1 (pbZ S x y z).2.1), U, X, S, (pbZ S x y z).2.2, P, I, V, N, Y, Q)), rfl, ⟨congrArg zI (ansK_2 hcc).symm, ⟨(actZ_k (S := S) (k := 0) (a := x) (b := y) (d := z) hne), if_neg hne, if_neg hne, rfl, zkt_0 Z _, ⟨hln, htx, hkv⟩, hu0, hY⟩⟩, by rw [ht9]; exact hP, by rw [hAe]; exact hD⟩, hS.F ht9⟩) hS.2.2 dL_addBench_17)
    · refine vx_catch (own := RL) (name := "java/lang/UnsupportedOperationException") hown [⟨0, 7, 8, 20⟩, ⟨0, 7, 13, 22⟩] ⟨0, 7, 18, 24⟩ [] (by rw [htab]; rfl) (by intro z hz; simp only [List.mem_cons, List.not_mem_nil, or_false] at hz; exact hz.elim (fun e9 => by subst e9; exact Or.inr ⟨by decide, "java/lang/IndexOutOfBoundsException", htg _ wq_341, hC.nc (by decide +kernel)⟩) (fun e9 => by subst e9; exact Or.inr ⟨by decide, "java/lang/IllegalArgumentException", htg _ wq_566, hC.nc (by decide +kernel)⟩)) (by decide) (by decide) (htg _ wq_655) (va_Nw.use rfl (hC.nw (w := .castable "java/lang/UnsupportedOperationException" "java/lang/UnsupportedOperationException") (by decide +kernel))) g1 g2 g3 ?_
      refine W.eq (g2 := F0 m 18 ls [.ref q9]) rfl ?_
      refine lv_astore (lv' := [(4, .ref q9), (0, .ref ((ad 7) 0)), (1, .int (zI x)), (2, .int (zI y)), (3, .int (zI z))]) hx hb dL_addBench_18 hl (by decide) rfl (fun ls hl => ?_)
      refine x_bipush hx hb dL_addBench_20 (by decide) ?_
      have hcc := outc_4 (pbZ_r S x y z).1 hc
      have hne : (pbZ S x y z).1 ≠ 0 := by omega
      exact W.widen (k := 1) (n := 6) (Nat.le_of_ble_eq_true rfl) (Nat.le_of_ble_eq_true rfl) (W.iret (v := _) hx hb hr (fun t9 ht9 hW9 => ⟨⟨_, (((if (outc O (pbZ S x y z).1 (pbZ S x y z).2.1) 0 = 3 then (upO (upO (upO Z 1 ((outc O (pbZ S x y z).1 (pbZ S x y z).2.1) 2)) 2 ((outc O (pbZ S x y z).1 (pbZ S x y z).2.1) 3)) 3 0) else Z), (outc O (pbZ S x y z).1 (pbZ S x y z).2.1), U, X, S, (pbZ S x y z).2.2, P, I, V, N, Y, Q)), rfl, ⟨congrArg zI (ansK_3 hcc).symm, ⟨(actZ_k (S := S) (k := 0) (a := x) (b := y) (d := z) hne), if_neg hne, if_neg hne, rfl, zkt_0 Z _, ⟨hln, htx, hkv⟩, hu0, hY⟩⟩, by rw [ht9]; exact hP, by rw [hAe]; exact hD⟩, hS.F ht9⟩) hS.2.2 dL_addBench_22)
  have hP : va_P dg vwCl (brkW ck ka ad ra Z (outc O (pbZ S x y z).1 (pbZ S x y z).2.1) U (upO (upO X 0 (((X 0) + 1) % 8)) 1 (k1Z (X 1))) (pbZ S x y z).2.2 (pbZ S x y z).2.2 P I V N Y (upQ Q (X 0) S)) H := hP
  have hD : va_D A (brkW ck ka ad ra Z (outc O (pbZ S x y z).1 (pbZ S x y z).2.1) U (upO (upO X 0 (((X 0) + 1) % 8)) 1 (k1Z (X 1))) (pbZ S x y z).2.2 (pbZ S x y z).2.2 P I V N Y (upQ Q (X 0) S)) := hD
  have hoc := outc_c0 (pbZ_r S x y z) hn9.2
  exact W.widen (k := 1) (n := 6) (Nat.le_of_ble_eq_true rfl) (Nat.le_of_ble_eq_true rfl) (W.iret (v := _) hx hb hr (fun t9 ht9 hW9 => ⟨⟨_, ((Z, (outc O (pbZ S x y z).1 (pbZ S x y z).2.1), U, (upO (upO X 0 (((X 0) + 1) % 8)) 1 (k1Z (X 1))), (pbZ S x y z).2.2, (pbZ S x y z).2.2, P, I, V, N, Y, (upQ Q (X 0) S))), rfl, ⟨hn9.1.trans (congrArg zI (hoc.2.trans (ansK_0 hoc.1).symm)), ⟨rfl, if_pos hoc.1, if_pos hoc.1, rfl, rfl, ⟨hln, htx, hkv⟩, hu0, hY⟩⟩, by rw [ht9]; exact hP, by rw [hAe]; exact hD⟩, hS.F ht9⟩) hS.2.2 dL_addBench_7)

theorem wqL_setRent : (Jvm.Cond.codeWith ({ cls := "BenchBrokerLaw", name := "setRent", desc := "(LBenchBroker;II)I" } : Jvm.MethodName) method_5_code (4 : Nat) (Option.some Jvm.ClassFile.FieldType.int) [((0 : Nat), (6 : Nat), (7 : Nat), (20 : Nat)), ((0 : Nat), (6 : Nat), (11 : Nat), (22 : Nat))]) ∈ GW := tq_4 121 rfl rfl
set_option maxHeartbeats 4000000 in
set_option maxRecDepth 100000 in
/-- the law's setRent -/
theorem w_setRent (l : Launch) (dg : va_G) (ck : Nat → ClassId) (ka : Nat → Nat) (ad ra : Nat → Nat → Nat) (S : St) (X : Nat → Int) (Q : Nat → St) (P : St) (zs : Int) (b : BU) (x y : Int) (sz : Nat) {n : Int} (hκ : KI n S X Q P zs) (hR : RO S X Q P zs b) (hM9 : n + 99 ≤ 4000000) (rg_x : -2147483648 ≤ x ∧ x < 2147483648) (rg_y : -2147483648 ≤ y ∧ y < 2147483648) (hst : l.stackTraces = false) : Met l yL_setRent (.codeWith yL_setRent cL_setRent 4 (some .int) [(0, 6, 7, 20), (0, 6, 11, 22)] :: GW) ({ frames := 8, cells := 1, slots := 6, locals := 152 }) (va_Pc [.ref ((ad 7) 0), .int (zI x), .int (zI y)] (wrK dg ck ka sz (brkU ck ka ad ra b))) (va_Qi (fun r (u : BU) => r = zI (ansK (crZ S x y)) ∧ RO (crZ S x y).2.2 (phX X (crZ S x y).1) (phQ Q X S (crZ S x y).1) P zs u) (fun u t9 => wrQ dg sz (brkU ck ka ad ra b) (brkU ck ka ad ra u) t9) (va_A (brkU ck ka ad ra b) sz)) 1 6 (va_A (brkU ck ka ad ra b) sz) := by
  obtain ⟨Z, O, U, X', S', T, P', I, V, N, Y, Q'⟩ := b
  obtain ⟨e1, e2, e3, e4, e5, ⟨hln, htx, hkv⟩, hu0, hY⟩ := hR
  have e1 : S = S' := e1
  have e2 : X = X' := e2
  have e3 : Q = Q' := e3
  have e4 : P = P' := e4
  have e5 : zs = Z 0 := e5
  subst e1 e2 e3 e4 e5
  have hln : 0 ≤ I 0 0 ∧ I 0 0 ≤ 60 := hln
  have htx : ∀ i, 0 ≤ i → i < 60 → 0 ≤ I 1 i ∧ I 1 i ≤ 126 := htx
  have hkv : 0 ≤ I 0 2 ∧ I 0 2 ≤ 9 := hkv
  have hu0 : 0 ≤ U 0 ∧ U 0 ≤ 16 := hu0
  have hY : y7Z Y := hY
  obtain ⟨⟨hV, hV2⟩, ⟨hn, hz⟩, hq10, hhist, hz0, hp10, hsn⟩ := id hκ
  have hI := hV.bd
  have hs10 : ∀ i, 0 ≤ S 10 i ∧ S 10 i ≤ 1 := hI.2.2.2.2.2.2.2.2.2.2.2.2.2.1
  refine x_ofWH (cc := cL_setRent) (maxL := 4) (ret := (some .int)) (by decide) rfl ?_
  intro p e s m args below meth c s₁ B hml htab hv
  obtain ⟨rfl, ⟨hsz, hP, hK, hD0⟩, hC⟩ := hv
  have hx := B.exec
  have hb := B.bytes
  have hr := B.returns
  have hts := atoms_spec (ws := .codeWith yL_setRent cL_setRent 4 (some .int) [(0, 6, 7, 20), (0, 6, 11, 22)] :: GW) B.pre
  have htg : ∀ w ∈ GW, w.before _ s = true := fun w h => hts w (List.mem_cons_of_mem _ h)
  have hown : s.vm.findClass RL = some m.cls := findClass_of_methodNamed B.named
  have hlocks := B.notSynchronized
  subst hsz
  have hD := hD0.self (sz := s.heap.size)
  generalize hAe : va_A (brkU ck ka ad ra (Z, O, U, X, S, T, P, I, V, N, Y, Q)) s.heap.size = A at hD hC ⊢
  have hA : ∀ q : Nat, s.heap.size ≤ q → A q := fun q h => by rw [← hAe]; exact Or.inr h
  have hS : va_S A s.heap s.heap [] := va_S.rf
  have hP : va_P dg vwCl (brkW ck ka ad ra Z O U X S T P I V N Y Q) s.heap := hP
  have hD : va_D A (brkW ck ka ad ra Z O U X S T P I V N Y Q) := hD
  have hl := lv_entry ([.ref ((ad 7) 0), .int (zI x), .int (zI y)]) (n := 4) (Nat.le_of_ble_eq_true rfl)
  rw [lg_entry_eq]
  generalize (lg_sl ([.ref ((ad 7) 0), .int (zI x), .int (zI y)]) ++ List.replicate (4 - (lg_sl ([.ref ((ad 7) 0), .int (zI x), .int (zI y)])).length) Slot.unset).toArray = ls at hl ⊢
  have hl : lv_has ls 4 [(0, .ref ((ad 7) 0)), (1, .int (zI x)), (2, .int (zI y))] := hl
  refine lv_aload_n hx hb dL_setRent_0 rfl (lv_at hl 0 rfl) ?_
  refine lv_iload_n hx hb dL_setRent_1 rfl (lv_at hl 1 rfl) ?_
  refine lv_iload_n hx hb dL_setRent_2 rfl (lv_at hl 2 rfl) ?_
  refine xl_calli0 (M := brkW ck ka ad ra Z O U X S T P I V N Y Q) (Mf := fun u : Unit => brkW ck ka ad ra Z (outc O (crZ S x y).1 (crZ S x y).2.1) U (upO (upO X 0 (((X 0) + 1) % 8)) 1 (k1Z (X 1))) (crZ S x y).2.2 (crZ S x y).2.2 P I V N Y (upQ Q (X 0) S)) (MX := fun u : Unit => brkW ck ka ad ra (if (outc O (crZ S x y).1 (crZ S x y).2.1) 0 = 3 then (upO (upO (upO Z 1 ((outc O (crZ S x y).1 (crZ S x y).2.1) 2)) 2 ((outc O (crZ S x y).1 (crZ S x y).2.1) 3)) 3 0) else Z) (outc O (crZ S x y).1 (crZ S x y).2.1) U X S (crZ S x y).2.2 P I V N Y Q) hP hD hS hA (fun hPm hDm => vx_runV (As := [.int (zI x), .int (zI y)]) (rest := []) ⟨hx, hb, hml, hown, htg⟩ (x_setRent l dg ck ka ad ra Z O U X S T P I V N Y Q x y _ hV hM9 hn hz rg_x rg_y hst) (cwV 2 htg (gwV wq_842 wq_843 wq_844 wq_1 wq_845) rfl rfl rfl (by decide +kernel) ⟨Nat.le_of_ble_eq_true rfl, Nat.le_of_ble_eq_true rfl⟩) (wrK_preV hK hPm hDm hC hS hA 0 10 rfl rfl) rfl rfl hl.1 rfl (lv_room (Nat.le_of_ble_eq_true rfl)) dL_setRent_3 ⟨Nat.le_of_ble_eq_true rfl, Nat.le_of_ble_eq_true rfl⟩) (fun E9 ce9 q9 u9 H locs hE9 hP hD hS g1 g2 g3 => ?_) (fun r9 u9 H locs hn9 hP hD hS => ?_)
  · rcases hE9 with ⟨rfl, hc⟩ | ⟨rfl, hc⟩ | ⟨rfl, hc⟩
    · refine vx_catch (own := RL) (name := "java/lang/IndexOutOfBoundsException") hown [] ⟨0, 6, 7, 20⟩ [⟨0, 6, 11, 22⟩] (by rw [htab]; rfl) (fun z hz => absurd hz List.not_mem_nil) (by decide) (by decide) (htg _ wq_341) (va_Nw.use rfl (hC.nw (w := .castable "java/lang/IndexOutOfBoundsException" "java/lang/IndexOutOfBoundsException") (by decide +kernel))) g1 g2 g3 ?_
      refine W.eq (g2 := F0 m 7 ls [.ref q9]) rfl ?_
      refine lv_astore_n (lv' := [(3, .ref q9), (0, .ref ((ad 7) 0)), (1, .int (zI x)), (2, .int (zI y))]) hx hb dL_setRent_7 rfl hl (by decide) rfl (fun ls hl => ?_)
      refine x_bipush hx hb dL_setRent_8 (by decide) ?_
      have hcc := outc_1 hc
      have hne : (crZ S x y).1 ≠ 0 := by omega
      exact W.widen (k := 1) (n := 6) (Nat.le_of_ble_eq_true rfl) (Nat.le_of_ble_eq_true rfl) (W.iret (v := _) hx hb hr (fun t9 ht9 hW9 => ⟨⟨_, (((if (outc O (crZ S x y).1 (crZ S x y).2.1) 0 = 3 then (upO (upO (upO Z 1 ((outc O (crZ S x y).1 (crZ S x y).2.1) 2)) 2 ((outc O (crZ S x y).1 (crZ S x y).2.1) 3)) 3 0) else Z), (outc O (crZ S x y).1 (crZ S x y).2.1), U, X, S, (crZ S x y).2.2, P, I, V, N, Y, Q)), rfl, ⟨congrArg zI (ansK_1 hcc).symm, ⟨(cr_k hne), if_neg hne, if_neg hne, rfl, zkt_0 Z _, ⟨hln, htx, hkv⟩, hu0, hY⟩⟩, by rw [ht9]; exact hP, by rw [hAe]; exact hD⟩, hS.F ht9⟩) hS.2.2 dL_setRent_10)
    · refine vx_catch (own := RL) (name := "java/lang/IllegalArgumentException") hown [⟨0, 6, 7, 20⟩] ⟨0, 6, 11, 22⟩ [] (by rw [htab]; rfl) (by intro z hz; simp only [List.mem_cons, List.not_mem_nil, or_false] at hz; subst hz; exact Or.inr ⟨by decide, "java/lang/IndexOutOfBoundsException", htg _ wq_341, hC.nc (by decide +kernel)⟩) (by decide) (by decide) (htg _ wq_566) (va_Nw.use rfl (hC.nw (w := .castable "java/lang/IllegalArgumentException" "java/lang/IllegalArgumentException") (by decide +kernel))) g1 g2 g3 ?_
      refine W.eq (g2 := F0 m 11 ls [.ref q9]) rfl ?_
      refine lv_astore_n (lv' := [(3, .ref q9), (0, .ref ((ad 7) 0)), (1, .int (zI x)), (2, .int (zI y))]) hx hb dL_setRent_11 rfl hl (by decide) rfl (fun ls hl => ?_)
      refine x_bipush hx hb dL_setRent_12 (by decide) ?_
      have hcc := outc_2 hc
      have hne : (crZ S x y).1 ≠ 0 := by omega
      exact W.widen (k := 1) (n := 6) (Nat.le_of_ble_eq_true rfl) (Nat.le_of_ble_eq_true rfl) (W.iret (v := _) hx hb hr (fun t9 ht9 hW9 => ⟨⟨_, (((if (outc O (crZ S x y).1 (crZ S x y).2.1) 0 = 3 then (upO (upO (upO Z 1 ((outc O (crZ S x y).1 (crZ S x y).2.1) 2)) 2 ((outc O (crZ S x y).1 (crZ S x y).2.1) 3)) 3 0) else Z), (outc O (crZ S x y).1 (crZ S x y).2.1), U, X, S, (crZ S x y).2.2, P, I, V, N, Y, Q)), rfl, ⟨congrArg zI (ansK_2 hcc).symm, ⟨(cr_k hne), if_neg hne, if_neg hne, rfl, zkt_0 Z _, ⟨hln, htx, hkv⟩, hu0, hY⟩⟩, by rw [ht9]; exact hP, by rw [hAe]; exact hD⟩, hS.F ht9⟩) hS.2.2 dL_setRent_14)
    · exact absurd (outc_4 (crZ_r S x y).1 hc) (Int.not_lt.mpr (cr_c S x y))
  have hP : va_P dg vwCl (brkW ck ka ad ra Z (outc O (crZ S x y).1 (crZ S x y).2.1) U (upO (upO X 0 (((X 0) + 1) % 8)) 1 (k1Z (X 1))) (crZ S x y).2.2 (crZ S x y).2.2 P I V N Y (upQ Q (X 0) S)) H := hP
  have hD : va_D A (brkW ck ka ad ra Z (outc O (crZ S x y).1 (crZ S x y).2.1) U (upO (upO X 0 (((X 0) + 1) % 8)) 1 (k1Z (X 1))) (crZ S x y).2.2 (crZ S x y).2.2 P I V N Y (upQ Q (X 0) S)) := hD
  have hoc := outc_c0 (crZ_r S x y) hn9.2
  exact W.widen (k := 1) (n := 6) (Nat.le_of_ble_eq_true rfl) (Nat.le_of_ble_eq_true rfl) (W.iret (v := _) hx hb hr (fun t9 ht9 hW9 => ⟨⟨_, ((Z, (outc O (crZ S x y).1 (crZ S x y).2.1), U, (upO (upO X 0 (((X 0) + 1) % 8)) 1 (k1Z (X 1))), (crZ S x y).2.2, (crZ S x y).2.2, P, I, V, N, Y, (upQ Q (X 0) S))), rfl, ⟨hn9.1.trans (congrArg zI (hoc.2.trans (ansK_0 hoc.1).symm)), ⟨rfl, if_pos hoc.1, if_pos hoc.1, rfl, rfl, ⟨hln, htx, hkv⟩, hu0, hY⟩⟩, by rw [ht9]; exact hP, by rw [hAe]; exact hD⟩, hS.F ht9⟩) hS.2.2 dL_setRent_6)

theorem wqL_addFountain : (Jvm.Cond.codeWith ({ cls := "BenchBrokerLaw", name := "addFountain", desc := "(LBenchBroker;III)I" } : Jvm.MethodName) method_6_code (5 : Nat) (Option.some Jvm.ClassFile.FieldType.int) [((0 : Nat), (7 : Nat), (8 : Nat), (20 : Nat)), ((0 : Nat), (7 : Nat), (13 : Nat), (22 : Nat)), ((0 : Nat), (7 : Nat), (18 : Nat), (24 : Nat))]) ∈ GW := tq_4 2 rfl rfl
set_option maxHeartbeats 4000000 in
set_option maxRecDepth 100000 in
/-- the law's addFountain -/
theorem w_addFountain (l : Launch) (dg : va_G) (ck : Nat → ClassId) (ka : Nat → Nat) (ad ra : Nat → Nat → Nat) (S : St) (X : Nat → Int) (Q : Nat → St) (P : St) (zs : Int) (b : BU) (x y z : Int) (sz : Nat) {n : Int} (hκ : KI n S X Q P zs) (hR : RO S X Q P zs b) (hM9 : n + 99 ≤ 4000000) (rg_x : -2147483648 ≤ x ∧ x < 2147483648) (rg_y : -2147483648 ≤ y ∧ y < 2147483648) (rg_z : -2147483648 ≤ z ∧ z < 2147483648) (hst : l.stackTraces = false) : Met l yL_addFountain (.codeWith yL_addFountain cL_addFountain 5 (some .int) [(0, 7, 8, 20), (0, 7, 13, 22), (0, 7, 18, 24)] :: GW) ({ frames := 8, cells := 1, slots := 6, locals := 153 }) (va_Pc [.ref ((ad 7) 0), .int (zI x), .int (zI y), .int (zI z)] (wrK dg ck ka sz (brkU ck ka ad ra b))) (va_Qi (fun r (u : BU) => r = zI (ansK (pfZ S x y z)) ∧ RO (pfZ S x y z).2.2 (phX X (pfZ S x y z).1) (phQ Q X S (pfZ S x y z).1) P zs u) (fun u t9 => wrQ dg sz (brkU ck ka ad ra b) (brkU ck ka ad ra u) t9) (va_A (brkU ck ka ad ra b) sz)) 1 6 (va_A (brkU ck ka ad ra b) sz) := by
  obtain ⟨Z, O, U, X', S', T, P', I, V, N, Y, Q'⟩ := b
  obtain ⟨e1, e2, e3, e4, e5, ⟨hln, htx, hkv⟩, hu0, hY⟩ := hR
  have e1 : S = S' := e1
  have e2 : X = X' := e2
  have e3 : Q = Q' := e3
  have e4 : P = P' := e4
  have e5 : zs = Z 0 := e5
  subst e1 e2 e3 e4 e5
  have hln : 0 ≤ I 0 0 ∧ I 0 0 ≤ 60 := hln
  have htx : ∀ i, 0 ≤ i → i < 60 → 0 ≤ I 1 i ∧ I 1 i ≤ 126 := htx
  have hkv : 0 ≤ I 0 2 ∧ I 0 2 ≤ 9 := hkv
  have hu0 : 0 ≤ U 0 ∧ U 0 ≤ 16 := hu0
  have hY : y7Z Y := hY
  obtain ⟨⟨hV, hV2⟩, ⟨hn, hz⟩, hq10, hhist, hz0, hp10, hsn⟩ := id hκ
  have hI := hV.bd
  have hs10 : ∀ i, 0 ≤ S 10 i ∧ S 10 i ≤ 1 := hI.2.2.2.2.2.2.2.2.2.2.2.2.2.1
  refine x_ofWH (cc := cL_addFountain) (maxL := 5) (ret := (some .int)) (by decide) rfl ?_
  intro p e s m args below meth c s₁ B hml htab hv
  obtain ⟨rfl, ⟨hsz, hP, hK, hD0⟩, hC⟩ := hv
  have hx := B.exec
  have hb := B.bytes
  have hr := B.returns
  have hts := atoms_spec (ws := .codeWith yL_addFountain cL_addFountain 5 (some .int) [(0, 7, 8, 20), (0, 7, 13, 22), (0, 7, 18, 24)] :: GW) B.pre
  have htg : ∀ w ∈ GW, w.before _ s = true := fun w h => hts w (List.mem_cons_of_mem _ h)
  have hown : s.vm.findClass RL = some m.cls := findClass_of_methodNamed B.named
  have hlocks := B.notSynchronized
  subst hsz
  have hD := hD0.self (sz := s.heap.size)
  generalize hAe : va_A (brkU ck ka ad ra (Z, O, U, X, S, T, P, I, V, N, Y, Q)) s.heap.size = A at hD hC ⊢
  have hA : ∀ q : Nat, s.heap.size ≤ q → A q := fun q h => by rw [← hAe]; exact Or.inr h
  have hS : va_S A s.heap s.heap [] := va_S.rf
  have hP : va_P dg vwCl (brkW ck ka ad ra Z O U X S T P I V N Y Q) s.heap := hP
  have hD : va_D A (brkW ck ka ad ra Z O U X S T P I V N Y Q) := hD
  have hl := lv_entry ([.ref ((ad 7) 0), .int (zI x), .int (zI y), .int (zI z)]) (n := 5) (Nat.le_of_ble_eq_true rfl)
  rw [lg_entry_eq]
  generalize (lg_sl ([.ref ((ad 7) 0), .int (zI x), .int (zI y), .int (zI z)]) ++ List.replicate (5 - (lg_sl ([.ref ((ad 7) 0), .int (zI x), .int (zI y), .int (zI z)])).length) Slot.unset).toArray = ls at hl ⊢
  have hl : lv_has ls 5 [(0, .ref ((ad 7) 0)), (1, .int (zI x)), (2, .int (zI y)), (3, .int (zI z))] := hl
  refine lv_aload_n hx hb dL_addFountain_0 rfl (lv_at hl 0 rfl) ?_
  refine lv_iload_n hx hb dL_addFountain_1 rfl (lv_at hl 1 rfl) ?_
  refine lv_iload_n hx hb dL_addFountain_2 rfl (lv_at hl 2 rfl) ?_
  refine lv_iload_n hx hb dL_addFountain_3 rfl (lv_at hl 3 rfl) ?_
  refine xl_calli0 (M := brkW ck ka ad ra Z O U X S T P I V N Y Q) (Mf := fun u : Unit => brkW ck ka ad ra Z (outc O (pfZ S x y z).1 (pfZ S x y z).2.1) U (upO (upO X 0 (((X 0) + 1) % 8)) 1 (k1Z (X 1))) (pfZ S x y z).2.2 (pfZ S x y z).2.2 P I V N Y (upQ Q (X 0) S)) (MX := fun u : Unit => brkW ck ka ad ra (if (outc O (pfZ S x y z).1 (pfZ S x y z).2.1) 0 = 3 then (upO (upO (upO Z 1 ((outc O (pfZ S x y z).1 (pfZ S x y z).2.1) 2)) 2 ((outc O (pfZ S x y z).1 (pfZ S x y z).2.1) 3)) 3 0) else Z) (outc O (pfZ S x y z).1 (pfZ S x y z).2.1) U X S (pfZ S x y z).2.2 P I V N Y Q) hP hD hS hA (fun hPm hDm => vx_runV (As := [.int (zI x), .int (zI y), .int (zI z)]) (rest := []) ⟨hx, hb, hml, hown, htg⟩ (x_addFountain l dg ck ka ad ra Z O U X S T P I V N Y Q x y z _ hV hM9 hn hz rg_x rg_y rg_z hst) (cwV 3 htg (gwV wq_723 wq_724 wq_725 wq_1 wq_726) rfl rfl rfl (by decide +kernel) ⟨Nat.le_of_ble_eq_true rfl, Nat.le_of_ble_eq_true rfl⟩) (wrK_preV hK hPm hDm hC hS hA 0 10 rfl rfl) rfl rfl hl.1 rfl (lv_room (Nat.le_of_ble_eq_true rfl)) dL_addFountain_4 ⟨Nat.le_of_ble_eq_true rfl, Nat.le_of_ble_eq_true rfl⟩) (fun E9 ce9 q9 u9 H locs hE9 hP hD hS g1 g2 g3 => ?_) (fun r9 u9 H locs hn9 hP hD hS => ?_)
  · rcases hE9 with ⟨rfl, hc⟩ | ⟨rfl, hc⟩ | ⟨rfl, hc⟩
    · refine vx_catch (own := RL) (name := "java/lang/IndexOutOfBoundsException") hown [] ⟨0, 7, 8, 20⟩ [⟨0, 7, 13, 22⟩, ⟨0, 7, 18, 24⟩] (by rw [htab]; rfl) (fun z hz => absurd hz List.not_mem_nil) (by decide) (by decide) (htg _ wq_341) (va_Nw.use rfl (hC.nw (w := .castable "java/lang/IndexOutOfBoundsException" "java/lang/IndexOutOfBoundsException") (by decide +kernel))) g1 g2 g3 ?_
      refine W.eq (g2 := F0 m 8 ls [.ref q9]) rfl ?_
      refine lv_astore (lv' := [(4, .ref q9), (0, .ref ((ad 7) 0)), (1, .int (zI x)), (2, .int (zI y)), (3, .int (zI z))]) hx hb dL_addFountain_8 hl (by decide) rfl (fun ls hl => ?_)
      refine x_bipush hx hb dL_addFountain_10 (by decide) ?_
      have hcc := outc_1 hc
      have hne : (pfZ S x y z).1 ≠ 0 := by omega
      exact W.widen (k := 1) (n := 6) (Nat.le_of_ble_eq_true rfl) (Nat.le_of_ble_eq_true rfl) (W.iret (v := _) hx hb hr (fun t9 ht9 hW9 => ⟨⟨_, (((if (outc O (pfZ S x y z).1 (pfZ S x y z).2.1) 0 = 3 then (upO (upO (upO Z 1 ((outc O (pfZ S x y z).1 (pfZ S x y z).2.1) 2)) 2 ((outc O (pfZ S x y z).1 (pfZ S x y z).2.1) 3)) 3 0) else Z), (outc O (pfZ S x y z).1 (pfZ S x y z).2.1), U, X, S, (pfZ S x y z).2.2, P, I, V, N, Y, Q)), rfl, ⟨congrArg zI (ansK_1 hcc).symm, ⟨(actZ_k (S := S) (k := 1) (a := x) (b := y) (d := z) hne), if_neg hne, if_neg hne, rfl, zkt_0 Z _, ⟨hln, htx, hkv⟩, hu0, hY⟩⟩, by rw [ht9]; exact hP, by rw [hAe]; exact hD⟩, hS.F ht9⟩) hS.2.2 dL_addFountain_12)
    · refine vx_catch (own := RL) (name := "java/lang/IllegalArgumentException") hown [⟨0, 7, 8, 20⟩] ⟨0, 7, 13, 22⟩ [⟨0, 7, 18, 24⟩] (by rw [htab]; rfl) (by intro z hz; simp only [List.mem_cons, List.not_mem_nil, or_false] at hz; subst hz; exact Or.inr ⟨by decide, "java/lang/IndexOutOfBoundsException", htg _ wq_341, hC.nc (by decide +kernel)⟩) (by decide) (by decide) (htg _ wq_566) (va_Nw.use rfl (hC.nw (w := .castable "java/lang/IllegalArgumentException" "java/lang/IllegalArgumentException") (by decide +kernel))) g1 g2 g3 ?_
      refine W.eq (g2 := F0 m 13 ls [.ref q9]) rfl ?_
      refine lv_astore (lv' := [(4, .ref q9), (0, .ref ((ad 7) 0)), (1, .int (zI x)), (2, .int (zI y)), (3, .int (zI z))]) hx hb dL_addFountain_13 hl (by decide) rfl (fun ls hl => ?_)
      refine x_bipush hx hb dL_addFountain_15 (by decide) ?_
      have hcc := outc_2 hc
      have hne : (pfZ S x y z).1 ≠ 0 := by omega
      exact W.widen (k := 1) (n := 6) (Nat.le_of_ble_eq_true rfl) (Nat.le_of_ble_eq_true rfl) (W.iret (v := _) hx hb hr (fun t9 ht9 hW9 => ⟨⟨_, (((if (outc O (pfZ S x y z).1 (pfZ S x y z).2.1) 0 = 3 then (upO (upO (upO Z 1 ((outc O (pfZ S x y z).1 (pfZ S x y z).2.1) 2)) 2 ((outc O (pfZ S x y z).1 (pfZ S x y z).2.1) 3)) 3 0) else Z), (outc O (pfZ S x y z).1 (pfZ S x y z).2.1), U, X, S, (pfZ S x y z).2.2, P, I, V, N, Y, Q)), rfl, ⟨congrArg zI (ansK_2 hcc).symm, ⟨(actZ_k (S := S) (k := 1) (a := x) (b := y) (d := z) hne), if_neg hne, if_neg hne, rfl, zkt_0 Z _, ⟨hln, htx, hkv⟩, hu0, hY⟩⟩, by rw [ht9]; exact hP, by rw [hAe]; exact hD⟩, hS.F ht9⟩) hS.2.2 dL_addFountain_17)
    · refine vx_catch (own := RL) (name := "java/lang/UnsupportedOperationException") hown [⟨0, 7, 8, 20⟩, ⟨0, 7, 13, 22⟩] ⟨0, 7, 18, 24⟩ [] (by rw [htab]; rfl) (by intro z hz; simp only [List.mem_cons, List.not_mem_nil, or_false] at hz; exact hz.elim (fun e9 => by subst e9; exact Or.inr ⟨by decide, "java/lang/IndexOutOfBoundsException", htg _ wq_341, hC.nc (by decide +kernel)⟩) (fun e9 => by subst e9; exact Or.inr ⟨by decide, "java/lang/IllegalArgumentException", htg _ wq_566, hC.nc (by decide +kernel)⟩)) (by decide) (by decide) (htg _ wq_655) (va_Nw.use rfl (hC.nw (w := .castable "java/lang/UnsupportedOperationException" "java/lang/UnsupportedOperationException") (by decide +kernel))) g1 g2 g3 ?_
      refine W.eq (g2 := F0 m 18 ls [.ref q9]) rfl ?_
      refine lv_astore (lv' := [(4, .ref q9), (0, .ref ((ad 7) 0)), (1, .int (zI x)), (2, .int (zI y)), (3, .int (zI z))]) hx hb dL_addFountain_18 hl (by decide) rfl (fun ls hl => ?_)
      refine x_bipush hx hb dL_addFountain_20 (by decide) ?_
      have hcc := outc_4 (pfZ_r S x y z).1 hc
      have hne : (pfZ S x y z).1 ≠ 0 := by omega
      exact W.widen (k := 1) (n := 6) (Nat.le_of_ble_eq_true rfl) (Nat.le_of_ble_eq_true rfl) (W.iret (v := _) hx hb hr (fun t9 ht9 hW9 => ⟨⟨_, (((if (outc O (pfZ S x y z).1 (pfZ S x y z).2.1) 0 = 3 then (upO (upO (upO Z 1 ((outc O (pfZ S x y z).1 (pfZ S x y z).2.1) 2)) 2 ((outc O (pfZ S x y z).1 (pfZ S x y z).2.1) 3)) 3 0) else Z), (outc O (pfZ S x y z).1 (pfZ S x y z).2.1), U, X, S, (pfZ S x y z).2.2, P, I, V, N, Y, Q)), rfl, ⟨congrArg zI (ansK_3 hcc).symm, ⟨(actZ_k (S := S) (k := 1) (a := x) (b := y) (d := z) hne), if_neg hne, if_neg hne, rfl, zkt_0 Z _, ⟨hln, htx, hkv⟩, hu0, hY⟩⟩, by rw [ht9]; exact hP, by rw [hAe]; exact hD⟩, hS.F ht9⟩) hS.2.2 dL_addFountain_22)
  have hP : va_P dg vwCl (brkW ck ka ad ra Z (outc O (pfZ S x y z).1 (pfZ S x y z).2.1) U (upO (upO X 0 (((X 0) + 1) % 8)) 1 (k1Z (X 1))) (pfZ S x y z).2.2 (pfZ S x y z).2.2 P I V N Y (upQ Q (X 0) S)) H := hP
  have hD : va_D A (brkW ck ka ad ra Z (outc O (pfZ S x y z).1 (pfZ S x y z).2.1) U (upO (upO X 0 (((X 0) + 1) % 8)) 1 (k1Z (X 1))) (pfZ S x y z).2.2 (pfZ S x y z).2.2 P I V N Y (upQ Q (X 0) S)) := hD
  have hoc := outc_c0 (pfZ_r S x y z) hn9.2
  exact W.widen (k := 1) (n := 6) (Nat.le_of_ble_eq_true rfl) (Nat.le_of_ble_eq_true rfl) (W.iret (v := _) hx hb hr (fun t9 ht9 hW9 => ⟨⟨_, ((Z, (outc O (pfZ S x y z).1 (pfZ S x y z).2.1), U, (upO (upO X 0 (((X 0) + 1) % 8)) 1 (k1Z (X 1))), (pfZ S x y z).2.2, (pfZ S x y z).2.2, P, I, V, N, Y, (upQ Q (X 0) S))), rfl, ⟨hn9.1.trans (congrArg zI (hoc.2.trans (ansK_0 hoc.1).symm)), ⟨rfl, if_pos hoc.1, if_pos hoc.1, rfl, rfl, ⟨hln, htx, hkv⟩, hu0, hY⟩⟩, by rw [ht9]; exact hP, by rw [hAe]; exact hD⟩, hS.F ht9⟩) hS.2.2 dL_addFountain_7)

theorem wqL_setLoudness : (Jvm.Cond.codeWith ({ cls := "BenchBrokerLaw", name := "setLoudness", desc := "(LBenchBroker;II)I" } : Jvm.MethodName) method_7_code (4 : Nat) (Option.some Jvm.ClassFile.FieldType.int) [((0 : Nat), (6 : Nat), (7 : Nat), (20 : Nat)), ((0 : Nat), (6 : Nat), (11 : Nat), (22 : Nat))]) ∈ GW := tq_4 51 rfl rfl
set_option maxHeartbeats 4000000 in
set_option maxRecDepth 100000 in
/-- the law's setLoudness -/
theorem w_setLoudness (l : Launch) (dg : va_G) (ck : Nat → ClassId) (ka : Nat → Nat) (ad ra : Nat → Nat → Nat) (S : St) (X : Nat → Int) (Q : Nat → St) (P : St) (zs : Int) (b : BU) (x y : Int) (sz : Nat) {n : Int} (hκ : KI n S X Q P zs) (hR : RO S X Q P zs b) (hM9 : n + 99 ≤ 4000000) (rg_x : -2147483648 ≤ x ∧ x < 2147483648) (rg_y : -2147483648 ≤ y ∧ y < 2147483648) (hst : l.stackTraces = false) : Met l yL_setLoudness (.codeWith yL_setLoudness cL_setLoudness 4 (some .int) [(0, 6, 7, 20), (0, 6, 11, 22)] :: GW) ({ frames := 8, cells := 1, slots := 6, locals := 152 }) (va_Pc [.ref ((ad 7) 0), .int (zI x), .int (zI y)] (wrK dg ck ka sz (brkU ck ka ad ra b))) (va_Qi (fun r (u : BU) => r = zI (ansK (clZ S x y)) ∧ RO (clZ S x y).2.2 (phX X (clZ S x y).1) (phQ Q X S (clZ S x y).1) P zs u) (fun u t9 => wrQ dg sz (brkU ck ka ad ra b) (brkU ck ka ad ra u) t9) (va_A (brkU ck ka ad ra b) sz)) 1 6 (va_A (brkU ck ka ad ra b) sz) := by
  obtain ⟨Z, O, U, X', S', T, P', I, V, N, Y, Q'⟩ := b
  obtain ⟨e1, e2, e3, e4, e5, ⟨hln, htx, hkv⟩, hu0, hY⟩ := hR
  have e1 : S = S' := e1
  have e2 : X = X' := e2
  have e3 : Q = Q' := e3
  have e4 : P = P' := e4
  have e5 : zs = Z 0 := e5
  subst e1 e2 e3 e4 e5
  have hln : 0 ≤ I 0 0 ∧ I 0 0 ≤ 60 := hln
  have htx : ∀ i, 0 ≤ i → i < 60 → 0 ≤ I 1 i ∧ I 1 i ≤ 126 := htx
  have hkv : 0 ≤ I 0 2 ∧ I 0 2 ≤ 9 := hkv
  have hu0 : 0 ≤ U 0 ∧ U 0 ≤ 16 := hu0
  have hY : y7Z Y := hY
  obtain ⟨⟨hV, hV2⟩, ⟨hn, hz⟩, hq10, hhist, hz0, hp10, hsn⟩ := id hκ
  have hI := hV.bd
  have hs10 : ∀ i, 0 ≤ S 10 i ∧ S 10 i ≤ 1 := hI.2.2.2.2.2.2.2.2.2.2.2.2.2.1
  refine x_ofWH (cc := cL_setLoudness) (maxL := 4) (ret := (some .int)) (by decide) rfl ?_
  intro p e s m args below meth c s₁ B hml htab hv
  obtain ⟨rfl, ⟨hsz, hP, hK, hD0⟩, hC⟩ := hv
  have hx := B.exec
  have hb := B.bytes
  have hr := B.returns
  have hts := atoms_spec (ws := .codeWith yL_setLoudness cL_setLoudness 4 (some .int) [(0, 6, 7, 20), (0, 6, 11, 22)] :: GW) B.pre
  have htg : ∀ w ∈ GW, w.before _ s = true := fun w h => hts w (List.mem_cons_of_mem _ h)
  have hown : s.vm.findClass RL = some m.cls := findClass_of_methodNamed B.named
  have hlocks := B.notSynchronized
  subst hsz
  have hD := hD0.self (sz := s.heap.size)
  generalize hAe : va_A (brkU ck ka ad ra (Z, O, U, X, S, T, P, I, V, N, Y, Q)) s.heap.size = A at hD hC ⊢
  have hA : ∀ q : Nat, s.heap.size ≤ q → A q := fun q h => by rw [← hAe]; exact Or.inr h
  have hS : va_S A s.heap s.heap [] := va_S.rf
  have hP : va_P dg vwCl (brkW ck ka ad ra Z O U X S T P I V N Y Q) s.heap := hP
  have hD : va_D A (brkW ck ka ad ra Z O U X S T P I V N Y Q) := hD
  have hl := lv_entry ([.ref ((ad 7) 0), .int (zI x), .int (zI y)]) (n := 4) (Nat.le_of_ble_eq_true rfl)
  rw [lg_entry_eq]
  generalize (lg_sl ([.ref ((ad 7) 0), .int (zI x), .int (zI y)]) ++ List.replicate (4 - (lg_sl ([.ref ((ad 7) 0), .int (zI x), .int (zI y)])).length) Slot.unset).toArray = ls at hl ⊢
  have hl : lv_has ls 4 [(0, .ref ((ad 7) 0)), (1, .int (zI x)), (2, .int (zI y))] := hl
  refine lv_aload_n hx hb dL_setLoudness_0 rfl (lv_at hl 0 rfl) ?_
  refine lv_iload_n hx hb dL_setLoudness_1 rfl (lv_at hl 1 rfl) ?_
  refine lv_iload_n hx hb dL_setLoudness_2 rfl (lv_at hl 2 rfl) ?_
  refine xl_calli0 (M := brkW ck ka ad ra Z O U X S T P I V N Y Q) (Mf := fun u : Unit => brkW ck ka ad ra Z (outc O (clZ S x y).1 (clZ S x y).2.1) U (upO (upO X 0 (((X 0) + 1) % 8)) 1 (k1Z (X 1))) (clZ S x y).2.2 (clZ S x y).2.2 P I V N Y (upQ Q (X 0) S)) (MX := fun u : Unit => brkW ck ka ad ra (if (outc O (clZ S x y).1 (clZ S x y).2.1) 0 = 3 then (upO (upO (upO Z 1 ((outc O (clZ S x y).1 (clZ S x y).2.1) 2)) 2 ((outc O (clZ S x y).1 (clZ S x y).2.1) 3)) 3 0) else Z) (outc O (clZ S x y).1 (clZ S x y).2.1) U X S (clZ S x y).2.2 P I V N Y Q) hP hD hS hA (fun hPm hDm => vx_runV (As := [.int (zI x), .int (zI y)]) (rest := []) ⟨hx, hb, hml, hown, htg⟩ (x_setLoudness l dg ck ka ad ra Z O U X S T P I V N Y Q x y _ hV hM9 hn hz rg_x rg_y hst) (cwV 2 htg (gwV wq_772 wq_773 wq_774 wq_1 wq_775) rfl rfl rfl (by decide +kernel) ⟨Nat.le_of_ble_eq_true rfl, Nat.le_of_ble_eq_true rfl⟩) (wrK_preV hK hPm hDm hC hS hA 0 10 rfl rfl) rfl rfl hl.1 rfl (lv_room (Nat.le_of_ble_eq_true rfl)) dL_setLoudness_3 ⟨Nat.le_of_ble_eq_true rfl, Nat.le_of_ble_eq_true rfl⟩) (fun E9 ce9 q9 u9 H locs hE9 hP hD hS g1 g2 g3 => ?_) (fun r9 u9 H locs hn9 hP hD hS => ?_)
  · rcases hE9 with ⟨rfl, hc⟩ | ⟨rfl, hc⟩ | ⟨rfl, hc⟩
    · refine vx_catch (own := RL) (name := "java/lang/IndexOutOfBoundsException") hown [] ⟨0, 6, 7, 20⟩ [⟨0, 6, 11, 22⟩] (by rw [htab]; rfl) (fun z hz => absurd hz List.not_mem_nil) (by decide) (by decide) (htg _ wq_341) (va_Nw.use rfl (hC.nw (w := .castable "java/lang/IndexOutOfBoundsException" "java/lang/IndexOutOfBoundsException") (by decide +kernel))) g1 g2 g3 ?_
      refine W.eq (g2 := F0 m 7 ls [.ref q9]) rfl ?_
      refine lv_astore_n (lv' := [(3, .ref q9), (0, .ref ((ad 7) 0)), (1, .int (zI x)), (2, .int (zI y))]) hx hb dL_setLoudness_7 rfl hl (by decide) rfl (fun ls hl => ?_)
      refine x_bipush hx hb dL_setLoudness_8 (by decide) ?_
      have hcc := outc_1 hc
      have hne : (clZ S x y).1 ≠ 0 := by omega
      exact W.widen (k := 1) (n := 6) (Nat.le_of_ble_eq_true rfl) (Nat.le_of_ble_eq_true rfl) (W.iret (v := _) hx hb hr (fun t9 ht9 hW9 => ⟨⟨_, (((if (outc O (clZ S x y).1 (clZ S x y).2.1) 0 = 3 then (upO (upO (upO Z 1 ((outc O (clZ S x y).1 (clZ S x y).2.1) 2)) 2 ((outc O (clZ S x y).1 (clZ S x y).2.1) 3)) 3 0) else Z), (outc O (clZ S x y).1 (clZ S x y).2.1), U, X, S, (clZ S x y).2.2, P, I, V, N, Y, Q)), rfl, ⟨congrArg zI (ansK_1 hcc).symm, ⟨(cl_k hne), if_neg hne, if_neg hne, rfl, zkt_0 Z _, ⟨hln, htx, hkv⟩, hu0, hY⟩⟩, by rw [ht9]; exact hP, by rw [hAe]; exact hD⟩, hS.F ht9⟩) hS.2.2 dL_setLoudness_10)
    · refine vx_catch (own := RL) (name := "java/lang/IllegalArgumentException") hown [⟨0, 6, 7, 20⟩] ⟨0, 6, 11, 22⟩ [] (by rw [htab]; rfl) (by intro z hz; simp only [List.mem_cons, List.not_mem_nil, or_false] at hz; subst hz; exact Or.inr ⟨by decide, "java/lang/IndexOutOfBoundsException", htg _ wq_341, hC.nc (by decide +kernel)⟩) (by decide) (by decide) (htg _ wq_566) (va_Nw.use rfl (hC.nw (w := .castable "java/lang/IllegalArgumentException" "java/lang/IllegalArgumentException") (by decide +kernel))) g1 g2 g3 ?_
      refine W.eq (g2 := F0 m 11 ls [.ref q9]) rfl ?_
      refine lv_astore_n (lv' := [(3, .ref q9), (0, .ref ((ad 7) 0)), (1, .int (zI x)), (2, .int (zI y))]) hx hb dL_setLoudness_11 rfl hl (by decide) rfl (fun ls hl => ?_)
      refine x_bipush hx hb dL_setLoudness_12 (by decide) ?_
      have hcc := outc_2 hc
      have hne : (clZ S x y).1 ≠ 0 := by omega
      exact W.widen (k := 1) (n := 6) (Nat.le_of_ble_eq_true rfl) (Nat.le_of_ble_eq_true rfl) (W.iret (v := _) hx hb hr (fun t9 ht9 hW9 => ⟨⟨_, (((if (outc O (clZ S x y).1 (clZ S x y).2.1) 0 = 3 then (upO (upO (upO Z 1 ((outc O (clZ S x y).1 (clZ S x y).2.1) 2)) 2 ((outc O (clZ S x y).1 (clZ S x y).2.1) 3)) 3 0) else Z), (outc O (clZ S x y).1 (clZ S x y).2.1), U, X, S, (clZ S x y).2.2, P, I, V, N, Y, Q)), rfl, ⟨congrArg zI (ansK_2 hcc).symm, ⟨(cl_k hne), if_neg hne, if_neg hne, rfl, zkt_0 Z _, ⟨hln, htx, hkv⟩, hu0, hY⟩⟩, by rw [ht9]; exact hP, by rw [hAe]; exact hD⟩, hS.F ht9⟩) hS.2.2 dL_setLoudness_14)
    · exact absurd (outc_4 (clZ_r S x y).1 hc) (Int.not_lt.mpr (cl_c S x y))
  have hP : va_P dg vwCl (brkW ck ka ad ra Z (outc O (clZ S x y).1 (clZ S x y).2.1) U (upO (upO X 0 (((X 0) + 1) % 8)) 1 (k1Z (X 1))) (clZ S x y).2.2 (clZ S x y).2.2 P I V N Y (upQ Q (X 0) S)) H := hP
  have hD : va_D A (brkW ck ka ad ra Z (outc O (clZ S x y).1 (clZ S x y).2.1) U (upO (upO X 0 (((X 0) + 1) % 8)) 1 (k1Z (X 1))) (clZ S x y).2.2 (clZ S x y).2.2 P I V N Y (upQ Q (X 0) S)) := hD
  have hoc := outc_c0 (clZ_r S x y) hn9.2
  exact W.widen (k := 1) (n := 6) (Nat.le_of_ble_eq_true rfl) (Nat.le_of_ble_eq_true rfl) (W.iret (v := _) hx hb hr (fun t9 ht9 hW9 => ⟨⟨_, ((Z, (outc O (clZ S x y).1 (clZ S x y).2.1), U, (upO (upO X 0 (((X 0) + 1) % 8)) 1 (k1Z (X 1))), (clZ S x y).2.2, (clZ S x y).2.2, P, I, V, N, Y, (upQ Q (X 0) S))), rfl, ⟨hn9.1.trans (congrArg zI (hoc.2.trans (ansK_0 hoc.1).symm)), ⟨rfl, if_pos hoc.1, if_pos hoc.1, rfl, rfl, ⟨hln, htx, hkv⟩, hu0, hY⟩⟩, by rw [ht9]; exact hP, by rw [hAe]; exact hD⟩, hS.F ht9⟩) hS.2.2 dL_setLoudness_6)

theorem wqL_switchFountain : (Jvm.Cond.codeWith ({ cls := "BenchBrokerLaw", name := "switchFountain", desc := "(LBenchBroker;I)I" } : Jvm.MethodName) method_8_code (3 : Nat) (Option.some Jvm.ClassFile.FieldType.int) [((0 : Nat), (13 : Nat), (14 : Nat), (20 : Nat))]) ∈ GW := tq_4 36 rfl rfl
set_option maxHeartbeats 4000000 in
set_option maxRecDepth 100000 in
/-- the law's switchFountain -/
theorem w_switchFountain (l : Launch) (dg : va_G) (ck : Nat → ClassId) (ka : Nat → Nat) (ad ra : Nat → Nat → Nat) (S : St) (X : Nat → Int) (Q : Nat → St) (P : St) (zs : Int) (b : BU) (f : Int) (sz : Nat) {n : Int} (hκ : KI n S X Q P zs) (hR : RO S X Q P zs b) (hM9 : n + 99 ≤ 4000000) (rg_f : -2147483648 ≤ f ∧ f < 2147483648) (hst : l.stackTraces = false) : Met l yL_switchFountain (.codeWith yL_switchFountain cL_switchFountain 3 (some .int) [(0, 13, 14, 20)] :: GW) ({ frames := 8, cells := 1, slots := 6, locals := 151 }) (va_Pc [.ref ((ad 7) 0), .int (zI f)] (wrK dg ck ka sz (brkU ck ka ad ra b))) (va_Qi (fun r (u : BU) => r = zI (ansK (tgZ S f)) ∧ RO (tgZ S f).2.2 (phX X (tgZ S f).1) (phQ Q X S (tgZ S f).1) P zs u) (fun u t9 => wrQ dg sz (brkU ck ka ad ra b) (brkU ck ka ad ra u) t9) (va_A (brkU ck ka ad ra b) sz)) 1 6 (va_A (brkU ck ka ad ra b) sz) := by
  obtain ⟨Z, O, U, X', S', T, P', I, V, N, Y, Q'⟩ := b
  obtain ⟨e1, e2, e3, e4, e5, ⟨hln, htx, hkv⟩, hu0, hY⟩ := hR
  have e1 : S = S' := e1
  have e2 : X = X' := e2
  have e3 : Q = Q' := e3
  have e4 : P = P' := e4
  have e5 : zs = Z 0 := e5
  subst e1 e2 e3 e4 e5
  have hln : 0 ≤ I 0 0 ∧ I 0 0 ≤ 60 := hln
  have htx : ∀ i, 0 ≤ i → i < 60 → 0 ≤ I 1 i ∧ I 1 i ≤ 126 := htx
  have hkv : 0 ≤ I 0 2 ∧ I 0 2 ≤ 9 := hkv
  have hu0 : 0 ≤ U 0 ∧ U 0 ≤ 16 := hu0
  have hY : y7Z Y := hY
  obtain ⟨⟨hV, hV2⟩, ⟨hn, hz⟩, hq10, hhist, hz0, hp10, hsn⟩ := id hκ
  have hI := hV.bd
  have hs10 : ∀ i, 0 ≤ S 10 i ∧ S 10 i ≤ 1 := hI.2.2.2.2.2.2.2.2.2.2.2.2.2.1
  refine x_ofWH (cc := cL_switchFountain) (maxL := 3) (ret := (some .int)) (by decide) rfl ?_
  intro p e s m args below meth c s₁ B hml htab hv
  obtain ⟨rfl, ⟨hsz, hP, hK, hD0⟩, hC⟩ := hv
  have hx := B.exec
  have hb := B.bytes
  have hr := B.returns
  have hts := atoms_spec (ws := .codeWith yL_switchFountain cL_switchFountain 3 (some .int) [(0, 13, 14, 20)] :: GW) B.pre
  have htg : ∀ w ∈ GW, w.before _ s = true := fun w h => hts w (List.mem_cons_of_mem _ h)
  have hown : s.vm.findClass RL = some m.cls := findClass_of_methodNamed B.named
  have hlocks := B.notSynchronized
  subst hsz
  have hD := hD0.self (sz := s.heap.size)
  generalize hAe : va_A (brkU ck ka ad ra (Z, O, U, X, S, T, P, I, V, N, Y, Q)) s.heap.size = A at hD hC ⊢
  have hA : ∀ q : Nat, s.heap.size ≤ q → A q := fun q h => by rw [← hAe]; exact Or.inr h
  have hS : va_S A s.heap s.heap [] := va_S.rf
  have hP : va_P dg vwCl (brkW ck ka ad ra Z O U X S T P I V N Y Q) s.heap := hP
  have hD : va_D A (brkW ck ka ad ra Z O U X S T P I V N Y Q) := hD
  have hl := lv_entry ([.ref ((ad 7) 0), .int (zI f)]) (n := 3) (Nat.le_of_ble_eq_true rfl)
  rw [lg_entry_eq]
  generalize (lg_sl ([.ref ((ad 7) 0), .int (zI f)]) ++ List.replicate (3 - (lg_sl ([.ref ((ad 7) 0), .int (zI f)])).length) Slot.unset).toArray = ls at hl ⊢
  have hl : lv_has ls 3 [(0, .ref ((ad 7) 0)), (1, .int (zI f))] := hl
  refine lv_aload_n hx hb dL_switchFountain_0 rfl (lv_at hl 0 rfl) ?_
  refine lv_iload_n hx hb dL_switchFountain_1 rfl (lv_at hl 1 rfl) ?_
  refine xl_calli0 (M := brkW ck ka ad ra Z O U X S T P I V N Y Q) (Mf := fun u : Unit => brkW ck ka ad ra Z (outc O (tgZ S f).1 (tgZ S f).2.1) U (upO (upO X 0 (((X 0) + 1) % 8)) 1 (k1Z (X 1))) (tgZ S f).2.2 (tgZ S f).2.2 P I V N Y (upQ Q (X 0) S)) (MX := fun u : Unit => brkW ck ka ad ra (if (outc O (tgZ S f).1 (tgZ S f).2.1) 0 = 3 then (upO (upO (upO Z 1 ((outc O (tgZ S f).1 (tgZ S f).2.1) 2)) 2 ((outc O (tgZ S f).1 (tgZ S f).2.1) 3)) 3 0) else Z) (outc O (tgZ S f).1 (tgZ S f).2.1) U X S (tgZ S f).2.2 P I V N Y Q) hP hD hS hA (fun hPm hDm => vx_runV (As := [.int (zI f)]) (rest := []) ⟨hx, hb, hml, hown, htg⟩ (x_switchFountain l dg ck ka ad ra Z O U X S T P I V N Y Q f _ hV hM9 hn hz rg_f hst) (cwV 1 htg (gwV wq_757 wq_758 wq_759 wq_1 wq_760) rfl rfl rfl (by decide +kernel) ⟨Nat.le_of_ble_eq_true rfl, Nat.le_of_ble_eq_true rfl⟩) (wrK_preV hK hPm hDm hC hS hA 0 10 rfl rfl) rfl rfl hl.1 rfl (lv_room (Nat.le_of_ble_eq_true rfl)) dL_switchFountain_2 ⟨Nat.le_of_ble_eq_true rfl, Nat.le_of_ble_eq_true rfl⟩) (fun E9 ce9 q9 u9 H locs hE9 hP hD hS g1 g2 g3 => ?_) (fun r9 u9 H locs hn9 hP hD hS => ?_)
  · rcases hE9 with ⟨rfl, hc⟩ | ⟨rfl, hc⟩ | ⟨rfl, hc⟩
    · refine vx_catch (own := RL) (name := "java/lang/IndexOutOfBoundsException") hown [] ⟨0, 13, 14, 20⟩ [] (by rw [htab]; rfl) (fun z hz => absurd hz List.not_mem_nil) (by decide) (by decide) (htg _ wq_341) (va_Nw.use rfl (hC.nw (w := .castable "java/lang/IndexOutOfBoundsException" "java/lang/IndexOutOfBoundsException") (by decide +kernel))) g1 g2 g3 ?_
      refine W.eq (g2 := F0 m 14 ls [.ref q9]) rfl ?_
      refine lv_astore_n (lv' := [(2, .ref q9), (0, .ref ((ad 7) 0)), (1, .int (zI f))]) hx hb dL_switchFountain_14 rfl hl (by decide) rfl (fun ls hl => ?_)
      refine x_bipush hx hb dL_switchFountain_15 (by decide) ?_
      have hcc := outc_1 hc
      have hne : (tgZ S f).1 ≠ 0 := by omega
      exact W.widen (k := 1) (n := 6) (Nat.le_of_ble_eq_true rfl) (Nat.le_of_ble_eq_true rfl) (W.iret (v := _) hx hb hr (fun t9 ht9 hW9 => ⟨⟨_, (((if (outc O (tgZ S f).1 (tgZ S f).2.1) 0 = 3 then (upO (upO (upO Z 1 ((outc O (tgZ S f).1 (tgZ S f).2.1) 2)) 2 ((outc O (tgZ S f).1 (tgZ S f).2.1) 3)) 3 0) else Z), (outc O (tgZ S f).1 (tgZ S f).2.1), U, X, S, (tgZ S f).2.2, P, I, V, N, Y, Q)), rfl, ⟨congrArg zI (ansK_1 hcc).symm, ⟨(actZ_k (S := S) (k := 7) (a := f) (b := 0) (d := 0) hne), if_neg hne, if_neg hne, rfl, zkt_0 Z _, ⟨hln, htx, hkv⟩, hu0, hY⟩⟩, by rw [ht9]; exact hP, by rw [hAe]; exact hD⟩, hS.F ht9⟩) hS.2.2 dL_switchFountain_17)
    · exact absurd (outc_2 hc) (by rcases tg_c S f with h | h <;> rw [h] <;> decide)
    · exact absurd (outc_4 (tgZ_r S f).1 hc) (by rcases tg_c S f with h | h <;> rw [h] <;> decide)
  have hP : va_P dg vwCl (brkW ck ka ad ra Z (outc O (tgZ S f).1 (tgZ S f).2.1) U (upO (upO X 0 (((X 0) + 1) % 8)) 1 (k1Z (X 1))) (tgZ S f).2.2 (tgZ S f).2.2 P I V N Y (upQ Q (X 0) S)) H := hP
  have hD : va_D A (brkW ck ka ad ra Z (outc O (tgZ S f).1 (tgZ S f).2.1) U (upO (upO X 0 (((X 0) + 1) % 8)) 1 (k1Z (X 1))) (tgZ S f).2.2 (tgZ S f).2.2 P I V N Y (upQ Q (X 0) S)) := hD
  have hoc := outc_c0 (tgZ_r S f) hn9.2
  obtain ⟨rfl, hok⟩ := hn9
  have hv9 := bI_r ((outc O (tgZ S f).1 (tgZ S f).2.1) 1 = 1)
  rcases (show (bI ((outc O (tgZ S f).1 (tgZ S f).2.1) 1 = 1)) = 1 ∨ (bI ((outc O (tgZ S f).1 (tgZ S f).2.1) 1 = 1)) = 0 by omega) with h9 | h9
  · refine x_is h9 ?_
    refine x_if_eq (tgt := 12) hx hb dL_switchFountain_5 (by decide) (by omega) (fun c => absurd c (by decide)) (fun _ => ?_)
    refine x_iconst hx hb dL_switchFountain_8 ?_
    refine lv_goto (tgt := 13) hx hb dL_switchFountain_9 (by decide) ?_
    exact W.widen (k := 1) (n := 6) (Nat.le_of_ble_eq_true rfl) (Nat.le_of_ble_eq_true rfl) (W.iret (v := _) hx hb hr (fun t9 ht9 hW9 => ⟨⟨_, ((Z, (outc O (tgZ S f).1 (tgZ S f).2.1), U, (upO (upO X 0 (((X 0) + 1) % 8)) 1 (k1Z (X 1))), (tgZ S f).2.2, (tgZ S f).2.2, P, I, V, N, Y, (upQ Q (X 0) S))), rfl, ⟨congrArg zI (by rw [ansK_0 hoc.1]; have h8 := tg_v S f hoc.1; have h7 := hs10 f; have h6 := hoc.2; first | (have h5 := bI_1.mp h9; omega) | (have h5 := bI_0.mp h9; omega)), ⟨rfl, if_pos hoc.1, if_pos hoc.1, rfl, rfl, ⟨hln, htx, hkv⟩, hu0, hY⟩⟩, by rw [ht9]; exact hP, by rw [hAe]; exact hD⟩, hS.F ht9⟩) hS.2.2 dL_switchFountain_13)
  · refine x_is h9 ?_
    refine x_if_eq (tgt := 12) hx hb dL_switchFountain_5 (by decide) (by omega) (fun _ => ?_) (fun c => absurd c (by decide))
    refine x_iconst hx hb dL_switchFountain_12 ?_
    exact W.widen (k := 1) (n := 6) (Nat.le_of_ble_eq_true rfl) (Nat.le_of_ble_eq_true rfl) (W.iret (v := _) hx hb hr (fun t9 ht9 hW9 => ⟨⟨_, ((Z, (outc O (tgZ S f).1 (tgZ S f).2.1), U, (upO (upO X 0 (((X 0) + 1) % 8)) 1 (k1Z (X 1))), (tgZ S f).2.2, (tgZ S f).2.2, P, I, V, N, Y, (upQ Q (X 0) S))), rfl, ⟨congrArg zI (by rw [ansK_0 hoc.1]; have h8 := tg_v S f hoc.1; have h7 := hs10 f; have h6 := hoc.2; first | (have h5 := bI_1.mp h9; omega) | (have h5 := bI_0.mp h9; omega)), ⟨rfl, if_pos hoc.1, if_pos hoc.1, rfl, rfl, ⟨hln, htx, hkv⟩, hu0, hY⟩⟩, by rw [ht9]; exact hP, by rw [hAe]; exact hD⟩, hS.F ht9⟩) hS.2.2 dL_switchFountain_13)

theorem wqL_setNoiseLimit : (Jvm.Cond.codeWith ({ cls := "BenchBrokerLaw", name := "setNoiseLimit", desc := "(LBenchBroker;I)I" } : Jvm.MethodName) method_9_code (3 : Nat) (Option.some Jvm.ClassFile.FieldType.int) [((0 : Nat), (5 : Nat), (6 : Nat), (22 : Nat))]) ∈ GW := tq_4 13 rfl rfl
set_option maxHeartbeats 4000000 in
set_option maxRecDepth 100000 in
/-- the law's setNoiseLimit -/
theorem w_setNoiseLimit (l : Launch) (dg : va_G) (ck : Nat → ClassId) (ka : Nat → Nat) (ad ra : Nat → Nat → Nat) (S : St) (X : Nat → Int) (Q : Nat → St) (P : St) (zs : Int) (b : BU) (x : Int) (sz : Nat) {n : Int} (hκ : KI n S X Q P zs) (hR : RO S X Q P zs b) (hM9 : n + 99 ≤ 4000000) (rg_x : -2147483648 ≤ x ∧ x < 2147483648) (hst : l.stackTraces = false) : Met l yL_setNoiseLimit (.codeWith yL_setNoiseLimit cL_setNoiseLimit 3 (some .int) [(0, 5, 6, 22)] :: GW) ({ frames := 8, cells := 1, slots := 6, locals := 151 }) (va_Pc [.ref ((ad 7) 0), .int (zI x)] (wrK dg ck ka sz (brkU ck ka ad ra b))) (va_Qi (fun r (u : BU) => r = zI (ansK (cmZ S x)) ∧ RO (cmZ S x).2.2 (phX X (cmZ S x).1) (phQ Q X S (cmZ S x).1) P zs u) (fun u t9 => wrQ dg sz (brkU ck ka ad ra b) (brkU ck ka ad ra u) t9) (va_A (brkU ck ka ad ra b) sz)) 1 6 (va_A (brkU ck ka ad ra b) sz) := by
  obtain ⟨Z, O, U, X', S', T, P', I, V, N, Y, Q'⟩ := b
  obtain ⟨e1, e2, e3, e4, e5, ⟨hln, htx, hkv⟩, hu0, hY⟩ := hR
  have e1 : S = S' := e1
  have e2 : X = X' := e2
  have e3 : Q = Q' := e3
  have e4 : P = P' := e4
  have e5 : zs = Z 0 := e5
  subst e1 e2 e3 e4 e5
  have hln : 0 ≤ I 0 0 ∧ I 0 0 ≤ 60 := hln
  have htx : ∀ i, 0 ≤ i → i < 60 → 0 ≤ I 1 i ∧ I 1 i ≤ 126 := htx
  have hkv : 0 ≤ I 0 2 ∧ I 0 2 ≤ 9 := hkv
  have hu0 : 0 ≤ U 0 ∧ U 0 ≤ 16 := hu0
  have hY : y7Z Y := hY
  obtain ⟨⟨hV, hV2⟩, ⟨hn, hz⟩, hq10, hhist, hz0, hp10, hsn⟩ := id hκ
  have hI := hV.bd
  have hs10 : ∀ i, 0 ≤ S 10 i ∧ S 10 i ≤ 1 := hI.2.2.2.2.2.2.2.2.2.2.2.2.2.1
  refine x_ofWH (cc := cL_setNoiseLimit) (maxL := 3) (ret := (some .int)) (by decide) rfl ?_
  intro p e s m args below meth c s₁ B hml htab hv
  obtain ⟨rfl, ⟨hsz, hP, hK, hD0⟩, hC⟩ := hv
  have hx := B.exec
  have hb := B.bytes
  have hr := B.returns
  have hts := atoms_spec (ws := .codeWith yL_setNoiseLimit cL_setNoiseLimit 3 (some .int) [(0, 5, 6, 22)] :: GW) B.pre
  have htg : ∀ w ∈ GW, w.before _ s = true := fun w h => hts w (List.mem_cons_of_mem _ h)
  have hown : s.vm.findClass RL = some m.cls := findClass_of_methodNamed B.named
  have hlocks := B.notSynchronized
  subst hsz
  have hD := hD0.self (sz := s.heap.size)
  generalize hAe : va_A (brkU ck ka ad ra (Z, O, U, X, S, T, P, I, V, N, Y, Q)) s.heap.size = A at hD hC ⊢
  have hA : ∀ q : Nat, s.heap.size ≤ q → A q := fun q h => by rw [← hAe]; exact Or.inr h
  have hS : va_S A s.heap s.heap [] := va_S.rf
  have hP : va_P dg vwCl (brkW ck ka ad ra Z O U X S T P I V N Y Q) s.heap := hP
  have hD : va_D A (brkW ck ka ad ra Z O U X S T P I V N Y Q) := hD
  have hl := lv_entry ([.ref ((ad 7) 0), .int (zI x)]) (n := 3) (Nat.le_of_ble_eq_true rfl)
  rw [lg_entry_eq]
  generalize (lg_sl ([.ref ((ad 7) 0), .int (zI x)]) ++ List.replicate (3 - (lg_sl ([.ref ((ad 7) 0), .int (zI x)])).length) Slot.unset).toArray = ls at hl ⊢
  have hl : lv_has ls 3 [(0, .ref ((ad 7) 0)), (1, .int (zI x))] := hl
  refine lv_aload_n hx hb dL_setNoiseLimit_0 rfl (lv_at hl 0 rfl) ?_
  refine lv_iload_n hx hb dL_setNoiseLimit_1 rfl (lv_at hl 1 rfl) ?_
  refine xl_calli0 (M := brkW ck ka ad ra Z O U X S T P I V N Y Q) (Mf := fun u : Unit => brkW ck ka ad ra Z (outc O (cmZ S x).1 (cmZ S x).2.1) U (upO (upO X 0 (((X 0) + 1) % 8)) 1 (k1Z (X 1))) (cmZ S x).2.2 (cmZ S x).2.2 P I V N Y (upQ Q (X 0) S)) (MX := fun u : Unit => brkW ck ka ad ra (if (outc O (cmZ S x).1 (cmZ S x).2.1) 0 = 3 then (upO (upO (upO Z 1 ((outc O (cmZ S x).1 (cmZ S x).2.1) 2)) 2 ((outc O (cmZ S x).1 (cmZ S x).2.1) 3)) 3 0) else Z) (outc O (cmZ S x).1 (cmZ S x).2.1) U X S (cmZ S x).2.2 P I V N Y Q) hP hD hS hA (fun hPm hDm => vx_runV (As := [.int (zI x)]) (rest := []) ⟨hx, hb, hml, hown, htg⟩ (x_setNoiseLimit l dg ck ka ad ra Z O U X S T P I V N Y Q x _ hV hM9 hn hz rg_x hst) (cwV 1 htg (gwV wq_734 wq_735 wq_736 wq_1 wq_737) rfl rfl rfl (by decide +kernel) ⟨Nat.le_of_ble_eq_true rfl, Nat.le_of_ble_eq_true rfl⟩) (wrK_preV hK hPm hDm hC hS hA 0 10 rfl rfl) rfl rfl hl.1 rfl (lv_room (Nat.le_of_ble_eq_true rfl)) dL_setNoiseLimit_2 ⟨Nat.le_of_ble_eq_true rfl, Nat.le_of_ble_eq_true rfl⟩) (fun E9 ce9 q9 u9 H locs hE9 hP hD hS g1 g2 g3 => ?_) (fun r9 u9 H locs hn9 hP hD hS => ?_)
  · rcases hE9 with ⟨rfl, hc⟩ | ⟨rfl, hc⟩ | ⟨rfl, hc⟩
    · exact absurd (outc_1 hc) (by rcases cm_c S x with h | h <;> rw [h] <;> decide)
    · refine vx_catch (own := RL) (name := "java/lang/IllegalArgumentException") hown [] ⟨0, 5, 6, 22⟩ [] (by rw [htab]; rfl) (fun z hz => absurd hz List.not_mem_nil) (by decide) (by decide) (htg _ wq_566) (va_Nw.use rfl (hC.nw (w := .castable "java/lang/IllegalArgumentException" "java/lang/IllegalArgumentException") (by decide +kernel))) g1 g2 g3 ?_
      refine W.eq (g2 := F0 m 6 ls [.ref q9]) rfl ?_
      refine lv_astore_n (lv' := [(2, .ref q9), (0, .ref ((ad 7) 0)), (1, .int (zI x))]) hx hb dL_setNoiseLimit_6 rfl hl (by decide) rfl (fun ls hl => ?_)
      refine x_bipush hx hb dL_setNoiseLimit_7 (by decide) ?_
      have hcc := outc_2 hc
      have hne : (cmZ S x).1 ≠ 0 := by omega
      exact W.widen (k := 1) (n := 6) (Nat.le_of_ble_eq_true rfl) (Nat.le_of_ble_eq_true rfl) (W.iret (v := _) hx hb hr (fun t9 ht9 hW9 => ⟨⟨_, (((if (outc O (cmZ S x).1 (cmZ S x).2.1) 0 = 3 then (upO (upO (upO Z 1 ((outc O (cmZ S x).1 (cmZ S x).2.1) 2)) 2 ((outc O (cmZ S x).1 (cmZ S x).2.1) 3)) 3 0) else Z), (outc O (cmZ S x).1 (cmZ S x).2.1), U, X, S, (cmZ S x).2.2, P, I, V, N, Y, Q)), rfl, ⟨congrArg zI (ansK_2 hcc).symm, ⟨(actZ_k (S := S) (k := 8) (a := x) (b := 0) (d := 0) hne), if_neg hne, if_neg hne, rfl, zkt_0 Z _, ⟨hln, htx, hkv⟩, hu0, hY⟩⟩, by rw [ht9]; exact hP, by rw [hAe]; exact hD⟩, hS.F ht9⟩) hS.2.2 dL_setNoiseLimit_9)
    · exact absurd (outc_4 (cmZ_r S x).1 hc) (by rcases cm_c S x with h | h <;> rw [h] <;> decide)
  have hP : va_P dg vwCl (brkW ck ka ad ra Z (outc O (cmZ S x).1 (cmZ S x).2.1) U (upO (upO X 0 (((X 0) + 1) % 8)) 1 (k1Z (X 1))) (cmZ S x).2.2 (cmZ S x).2.2 P I V N Y (upQ Q (X 0) S)) H := hP
  have hD : va_D A (brkW ck ka ad ra Z (outc O (cmZ S x).1 (cmZ S x).2.1) U (upO (upO X 0 (((X 0) + 1) % 8)) 1 (k1Z (X 1))) (cmZ S x).2.2 (cmZ S x).2.2 P I V N Y (upQ Q (X 0) S)) := hD
  have hoc := outc_c0 (cmZ_r S x) hn9.2
  exact W.widen (k := 1) (n := 6) (Nat.le_of_ble_eq_true rfl) (Nat.le_of_ble_eq_true rfl) (W.iret (v := _) hx hb hr (fun t9 ht9 hW9 => ⟨⟨_, ((Z, (outc O (cmZ S x).1 (cmZ S x).2.1), U, (upO (upO X 0 (((X 0) + 1) % 8)) 1 (k1Z (X 1))), (cmZ S x).2.2, (cmZ S x).2.2, P, I, V, N, Y, (upQ Q (X 0) S))), rfl, ⟨hn9.1.trans (congrArg zI (hoc.2.trans (ansK_0 hoc.1).symm)), ⟨rfl, if_pos hoc.1, if_pos hoc.1, rfl, rfl, ⟨hln, htx, hkv⟩, hu0, hY⟩⟩, by rw [ht9]; exact hP, by rw [hAe]; exact hD⟩, hS.F ht9⟩) hS.2.2 dL_setNoiseLimit_5)

theorem wqL_addTenant : (Jvm.Cond.codeWith ({ cls := "BenchBrokerLaw", name := "addTenant", desc := "(LBenchBroker;I)I" } : Jvm.MethodName) method_19_code (3 : Nat) (Option.some Jvm.ClassFile.FieldType.int) [((0 : Nat), (5 : Nat), (6 : Nat), (22 : Nat)), ((0 : Nat), (5 : Nat), (10 : Nat), (24 : Nat))]) ∈ GW := tq_4 24 rfl rfl
set_option maxHeartbeats 4000000 in
set_option maxRecDepth 100000 in
/-- the law's addTenant -/
theorem w_addTenant (l : Launch) (dg : va_G) (ck : Nat → ClassId) (ka : Nat → Nat) (ad ra : Nat → Nat → Nat) (S : St) (X : Nat → Int) (Q : Nat → St) (P : St) (zs : Int) (b : BU) (x : Int) (sz : Nat) {n : Int} (hκ : KI n S X Q P zs) (hR : RO S X Q P zs b) (hM9 : n + 99 ≤ 4000000) (rg_x : -2147483648 ≤ x ∧ x < 2147483648) (hst : l.stackTraces = false) : Met l yL_addTenant (.codeWith yL_addTenant cL_addTenant 3 (some .int) [(0, 5, 6, 22), (0, 5, 10, 24)] :: GW) ({ frames := 8, cells := 1, slots := 6, locals := 151 }) (va_Pc [.ref ((ad 7) 0), .int (zI x)] (wrK dg ck ka sz (brkU ck ka ad ra b))) (va_Qi (fun r (u : BU) => r = zI (ansK (teZ S x)) ∧ RO (teZ S x).2.2 (phX X (teZ S x).1) (phQ Q X S (teZ S x).1) P zs u) (fun u t9 => wrQ dg sz (brkU ck ka ad ra b) (brkU ck ka ad ra u) t9) (va_A (brkU ck ka ad ra b) sz)) 1 6 (va_A (brkU ck ka ad ra b) sz) := by
  obtain ⟨Z, O, U, X', S', T, P', I, V, N, Y, Q'⟩ := b
  obtain ⟨e1, e2, e3, e4, e5, ⟨hln, htx, hkv⟩, hu0, hY⟩ := hR
  have e1 : S = S' := e1
  have e2 : X = X' := e2
  have e3 : Q = Q' := e3
  have e4 : P = P' := e4
  have e5 : zs = Z 0 := e5
  subst e1 e2 e3 e4 e5
  have hln : 0 ≤ I 0 0 ∧ I 0 0 ≤ 60 := hln
  have htx : ∀ i, 0 ≤ i → i < 60 → 0 ≤ I 1 i ∧ I 1 i ≤ 126 := htx
  have hkv : 0 ≤ I 0 2 ∧ I 0 2 ≤ 9 := hkv
  have hu0 : 0 ≤ U 0 ∧ U 0 ≤ 16 := hu0
  have hY : y7Z Y := hY
  obtain ⟨⟨hV, hV2⟩, ⟨hn, hz⟩, hq10, hhist, hz0, hp10, hsn⟩ := id hκ
  have hI := hV.bd
  have hs10 : ∀ i, 0 ≤ S 10 i ∧ S 10 i ≤ 1 := hI.2.2.2.2.2.2.2.2.2.2.2.2.2.1
  refine x_ofWH (cc := cL_addTenant) (maxL := 3) (ret := (some .int)) (by decide) rfl ?_
  intro p e s m args below meth c s₁ B hml htab hv
  obtain ⟨rfl, ⟨hsz, hP, hK, hD0⟩, hC⟩ := hv
  have hx := B.exec
  have hb := B.bytes
  have hr := B.returns
  have hts := atoms_spec (ws := .codeWith yL_addTenant cL_addTenant 3 (some .int) [(0, 5, 6, 22), (0, 5, 10, 24)] :: GW) B.pre
  have htg : ∀ w ∈ GW, w.before _ s = true := fun w h => hts w (List.mem_cons_of_mem _ h)
  have hown : s.vm.findClass RL = some m.cls := findClass_of_methodNamed B.named
  have hlocks := B.notSynchronized
  subst hsz
  have hD := hD0.self (sz := s.heap.size)
  generalize hAe : va_A (brkU ck ka ad ra (Z, O, U, X, S, T, P, I, V, N, Y, Q)) s.heap.size = A at hD hC ⊢
  have hA : ∀ q : Nat, s.heap.size ≤ q → A q := fun q h => by rw [← hAe]; exact Or.inr h
  have hS : va_S A s.heap s.heap [] := va_S.rf
  have hP : va_P dg vwCl (brkW ck ka ad ra Z O U X S T P I V N Y Q) s.heap := hP
  have hD : va_D A (brkW ck ka ad ra Z O U X S T P I V N Y Q) := hD
  have hl := lv_entry ([.ref ((ad 7) 0), .int (zI x)]) (n := 3) (Nat.le_of_ble_eq_true rfl)
  rw [lg_entry_eq]
  generalize (lg_sl ([.ref ((ad 7) 0), .int (zI x)]) ++ List.replicate (3 - (lg_sl ([.ref ((ad 7) 0), .int (zI x)])).length) Slot.unset).toArray = ls at hl ⊢
  have hl : lv_has ls 3 [(0, .ref ((ad 7) 0)), (1, .int (zI x))] := hl
  refine lv_aload_n hx hb dL_addTenant_0 rfl (lv_at hl 0 rfl) ?_
  refine lv_iload_n hx hb dL_addTenant_1 rfl (lv_at hl 1 rfl) ?_
  refine xl_calli0 (M := brkW ck ka ad ra Z O U X S T P I V N Y Q) (Mf := fun u : Unit => brkW ck ka ad ra Z (outc O (teZ S x).1 (teZ S x).2.1) U (upO (upO X 0 (((X 0) + 1) % 8)) 1 (k1Z (X 1))) (teZ S x).2.2 (teZ S x).2.2 P I V N Y (upQ Q (X 0) S)) (MX := fun u : Unit => brkW ck ka ad ra (if (outc O (teZ S x).1 (teZ S x).2.1) 0 = 3 then (upO (upO (upO Z 1 ((outc O (teZ S x).1 (teZ S x).2.1) 2)) 2 ((outc O (teZ S x).1 (teZ S x).2.1) 3)) 3 0) else Z) (outc O (teZ S x).1 (teZ S x).2.1) U X S (teZ S x).2.2 P I V N Y Q) hP hD hS hA (fun hPm hDm => vx_runV (As := [.int (zI x)]) (rest := []) ⟨hx, hb, hml, hown, htg⟩ (x_addTenant l dg ck ka ad ra Z O U X S T P I V N Y Q x _ hV hM9 hn hz rg_x hst) (cwV 1 htg (gwV wq_745 wq_746 wq_747 wq_1 wq_748) rfl rfl rfl (by decide +kernel) ⟨Nat.le_of_ble_eq_true rfl, Nat.le_of_ble_eq_true rfl⟩) (wrK_preV hK hPm hDm hC hS hA 0 10 rfl rfl) rfl rfl hl.1 rfl (lv_room (Nat.le_of_ble_eq_true rfl)) dL_addTenant_2 ⟨Nat.le_of_ble_eq_true rfl, Nat.le_of_ble_eq_true rfl⟩) (fun E9 ce9 q9 u9 H locs hE9 hP hD hS g1 g2 g3 => ?_) (fun r9 u9 H locs hn9 hP hD hS => ?_)
  · rcases hE9 with ⟨rfl, hc⟩ | ⟨rfl, hc⟩ | ⟨rfl, hc⟩
    · exact absurd (outc_1 hc) (te_c S x)
    · refine vx_catch (own := RL) (name := "java/lang/IllegalArgumentException") hown [] ⟨0, 5, 6, 22⟩ [⟨0, 5, 10, 24⟩] (by rw [htab]; rfl) (fun z hz => absurd hz List.not_mem_nil) (by decide) (by decide) (htg _ wq_566) (va_Nw.use rfl (hC.nw (w := .castable "java/lang/IllegalArgumentException" "java/lang/IllegalArgumentException") (by decide +kernel))) g1 g2 g3 ?_
      refine W.eq (g2 := F0 m 6 ls [.ref q9]) rfl ?_
      refine lv_astore_n (lv' := [(2, .ref q9), (0, .ref ((ad 7) 0)), (1, .int (zI x))]) hx hb dL_addTenant_6 rfl hl (by decide) rfl (fun ls hl => ?_)
      refine x_bipush hx hb dL_addTenant_7 (by decide) ?_
      have hcc := outc_2 hc
      have hne : (teZ S x).1 ≠ 0 := by omega
      exact W.widen (k := 1) (n := 6) (Nat.le_of_ble_eq_true rfl) (Nat.le_of_ble_eq_true rfl) (W.iret (v := _) hx hb hr (fun t9 ht9 hW9 => ⟨⟨_, (((if (outc O (teZ S x).1 (teZ S x).2.1) 0 = 3 then (upO (upO (upO Z 1 ((outc O (teZ S x).1 (teZ S x).2.1) 2)) 2 ((outc O (teZ S x).1 (teZ S x).2.1) 3)) 3 0) else Z), (outc O (teZ S x).1 (teZ S x).2.1), U, X, S, (teZ S x).2.2, P, I, V, N, Y, Q)), rfl, ⟨congrArg zI (ansK_2 hcc).symm, ⟨(actZ_k (S := S) (k := 2) (a := x) (b := 0) (d := 0) hne), if_neg hne, if_neg hne, rfl, zkt_0 Z _, ⟨hln, htx, hkv⟩, hu0, hY⟩⟩, by rw [ht9]; exact hP, by rw [hAe]; exact hD⟩, hS.F ht9⟩) hS.2.2 dL_addTenant_9)
    · refine vx_catch (own := RL) (name := "java/lang/UnsupportedOperationException") hown [⟨0, 5, 6, 22⟩] ⟨0, 5, 10, 24⟩ [] (by rw [htab]; rfl) (by intro z hz; simp only [List.mem_cons, List.not_mem_nil, or_false] at hz; subst hz; exact Or.inr ⟨by decide, "java/lang/IllegalArgumentException", htg _ wq_566, hC.nc (by decide +kernel)⟩) (by decide) (by decide) (htg _ wq_655) (va_Nw.use rfl (hC.nw (w := .castable "java/lang/UnsupportedOperationException" "java/lang/UnsupportedOperationException") (by decide +kernel))) g1 g2 g3 ?_
      refine W.eq (g2 := F0 m 10 ls [.ref q9]) rfl ?_
      refine lv_astore_n (lv' := [(2, .ref q9), (0, .ref ((ad 7) 0)), (1, .int (zI x))]) hx hb dL_addTenant_10 rfl hl (by decide) rfl (fun ls hl => ?_)
      refine x_bipush hx hb dL_addTenant_11 (by decide) ?_
      have hcc := outc_4 (teZ_r S x).1 hc
      have hne : (teZ S x).1 ≠ 0 := by omega
      exact W.widen (k := 1) (n := 6) (Nat.le_of_ble_eq_true rfl) (Nat.le_of_ble_eq_true rfl) (W.iret (v := _) hx hb hr (fun t9 ht9 hW9 => ⟨⟨_, (((if (outc O (teZ S x).1 (teZ S x).2.1) 0 = 3 then (upO (upO (upO Z 1 ((outc O (teZ S x).1 (teZ S x).2.1) 2)) 2 ((outc O (teZ S x).1 (teZ S x).2.1) 3)) 3 0) else Z), (outc O (teZ S x).1 (teZ S x).2.1), U, X, S, (teZ S x).2.2, P, I, V, N, Y, Q)), rfl, ⟨congrArg zI (ansK_3 hcc).symm, ⟨(actZ_k (S := S) (k := 2) (a := x) (b := 0) (d := 0) hne), if_neg hne, if_neg hne, rfl, zkt_0 Z _, ⟨hln, htx, hkv⟩, hu0, hY⟩⟩, by rw [ht9]; exact hP, by rw [hAe]; exact hD⟩, hS.F ht9⟩) hS.2.2 dL_addTenant_13)
  have hP : va_P dg vwCl (brkW ck ka ad ra Z (outc O (teZ S x).1 (teZ S x).2.1) U (upO (upO X 0 (((X 0) + 1) % 8)) 1 (k1Z (X 1))) (teZ S x).2.2 (teZ S x).2.2 P I V N Y (upQ Q (X 0) S)) H := hP
  have hD : va_D A (brkW ck ka ad ra Z (outc O (teZ S x).1 (teZ S x).2.1) U (upO (upO X 0 (((X 0) + 1) % 8)) 1 (k1Z (X 1))) (teZ S x).2.2 (teZ S x).2.2 P I V N Y (upQ Q (X 0) S)) := hD
  have hoc := outc_c0 (teZ_r S x) hn9.2
  exact W.widen (k := 1) (n := 6) (Nat.le_of_ble_eq_true rfl) (Nat.le_of_ble_eq_true rfl) (W.iret (v := _) hx hb hr (fun t9 ht9 hW9 => ⟨⟨_, ((Z, (outc O (teZ S x).1 (teZ S x).2.1), U, (upO (upO X 0 (((X 0) + 1) % 8)) 1 (k1Z (X 1))), (teZ S x).2.2, (teZ S x).2.2, P, I, V, N, Y, (upQ Q (X 0) S))), rfl, ⟨hn9.1.trans (congrArg zI (hoc.2.trans (ansK_0 hoc.1).symm)), ⟨rfl, if_pos hoc.1, if_pos hoc.1, rfl, rfl, ⟨hln, htx, hkv⟩, hu0, hY⟩⟩, by rw [ht9]; exact hP, by rw [hAe]; exact hD⟩, hS.F ht9⟩) hS.2.2 dL_addTenant_5)

theorem wqL_giveCoins : (Jvm.Cond.codeWith ({ cls := "BenchBrokerLaw", name := "giveCoins", desc := "(LBenchBroker;II)I" } : Jvm.MethodName) method_20_code (4 : Nat) (Option.some Jvm.ClassFile.FieldType.int) [((0 : Nat), (6 : Nat), (7 : Nat), (20 : Nat)), ((0 : Nat), (6 : Nat), (11 : Nat), (22 : Nat))]) ∈ GW := tq_4 69 rfl rfl
set_option maxHeartbeats 4000000 in
set_option maxRecDepth 100000 in
/-- the law's giveCoins -/
theorem w_giveCoins (l : Launch) (dg : va_G) (ck : Nat → ClassId) (ka : Nat → Nat) (ad ra : Nat → Nat → Nat) (S : St) (X : Nat → Int) (Q : Nat → St) (P : St) (zs : Int) (b : BU) (x y : Int) (sz : Nat) {n : Int} (hκ : KI n S X Q P zs) (hR : RO S X Q P zs b) (hM9 : n + 99 ≤ 4000000) (rg_x : -2147483648 ≤ x ∧ x < 2147483648) (rg_y : -2147483648 ≤ y ∧ y < 2147483648) (hst : l.stackTraces = false) : Met l yL_giveCoins (.codeWith yL_giveCoins cL_giveCoins 4 (some .int) [(0, 6, 7, 20), (0, 6, 11, 22)] :: GW) ({ frames := 8, cells := 1, slots := 6, locals := 152 }) (va_Pc [.ref ((ad 7) 0), .int (zI x), .int (zI y)] (wrK dg ck ka sz (brkU ck ka ad ra b))) (va_Qi (fun r (u : BU) => r = zI (ansK (giZ S x y)) ∧ RO (giZ S x y).2.2 (phX X (giZ S x y).1) (phQ Q X S (giZ S x y).1) P zs u) (fun u t9 => wrQ dg sz (brkU ck ka ad ra b) (brkU ck ka ad ra u) t9) (va_A (brkU ck ka ad ra b) sz)) 1 6 (va_A (brkU ck ka ad ra b) sz) := by
  obtain ⟨Z, O, U, X', S', T, P', I, V, N, Y, Q'⟩ := b
  obtain ⟨e1, e2, e3, e4, e5, ⟨hln, htx, hkv⟩, hu0, hY⟩ := hR
  have e1 : S = S' := e1
  have e2 : X = X' := e2
  have e3 : Q = Q' := e3
  have e4 : P = P' := e4
  have e5 : zs = Z 0 := e5
  subst e1 e2 e3 e4 e5
  have hln : 0 ≤ I 0 0 ∧ I 0 0 ≤ 60 := hln
  have htx : ∀ i, 0 ≤ i → i < 60 → 0 ≤ I 1 i ∧ I 1 i ≤ 126 := htx
  have hkv : 0 ≤ I 0 2 ∧ I 0 2 ≤ 9 := hkv
  have hu0 : 0 ≤ U 0 ∧ U 0 ≤ 16 := hu0
  have hY : y7Z Y := hY
  obtain ⟨⟨hV, hV2⟩, ⟨hn, hz⟩, hq10, hhist, hz0, hp10, hsn⟩ := id hκ
  have hI := hV.bd
  have hs10 : ∀ i, 0 ≤ S 10 i ∧ S 10 i ≤ 1 := hI.2.2.2.2.2.2.2.2.2.2.2.2.2.1
  refine x_ofWH (cc := cL_giveCoins) (maxL := 4) (ret := (some .int)) (by decide) rfl ?_
  intro p e s m args below meth c s₁ B hml htab hv
  obtain ⟨rfl, ⟨hsz, hP, hK, hD0⟩, hC⟩ := hv
  have hx := B.exec
  have hb := B.bytes
  have hr := B.returns
  have hts := atoms_spec (ws := .codeWith yL_giveCoins cL_giveCoins 4 (some .int) [(0, 6, 7, 20), (0, 6, 11, 22)] :: GW) B.pre
  have htg : ∀ w ∈ GW, w.before _ s = true := fun w h => hts w (List.mem_cons_of_mem _ h)
  have hown : s.vm.findClass RL = some m.cls := findClass_of_methodNamed B.named
  have hlocks := B.notSynchronized
  subst hsz
  have hD := hD0.self (sz := s.heap.size)
  generalize hAe : va_A (brkU ck ka ad ra (Z, O, U, X, S, T, P, I, V, N, Y, Q)) s.heap.size = A at hD hC ⊢
  have hA : ∀ q : Nat, s.heap.size ≤ q → A q := fun q h => by rw [← hAe]; exact Or.inr h
  have hS : va_S A s.heap s.heap [] := va_S.rf
  have hP : va_P dg vwCl (brkW ck ka ad ra Z O U X S T P I V N Y Q) s.heap := hP
  have hD : va_D A (brkW ck ka ad ra Z O U X S T P I V N Y Q) := hD
  have hl := lv_entry ([.ref ((ad 7) 0), .int (zI x), .int (zI y)]) (n := 4) (Nat.le_of_ble_eq_true rfl)
  rw [lg_entry_eq]
  generalize (lg_sl ([.ref ((ad 7) 0), .int (zI x), .int (zI y)]) ++ List.replicate (4 - (lg_sl ([.ref ((ad 7) 0), .int (zI x), .int (zI y)])).length) Slot.unset).toArray = ls at hl ⊢
  have hl : lv_has ls 4 [(0, .ref ((ad 7) 0)), (1, .int (zI x)), (2, .int (zI y))] := hl
  refine lv_aload_n hx hb dL_giveCoins_0 rfl (lv_at hl 0 rfl) ?_
  refine lv_iload_n hx hb dL_giveCoins_1 rfl (lv_at hl 1 rfl) ?_
  refine lv_iload_n hx hb dL_giveCoins_2 rfl (lv_at hl 2 rfl) ?_
  refine xl_calli0 (M := brkW ck ka ad ra Z O U X S T P I V N Y Q) (Mf := fun u : Unit => brkW ck ka ad ra Z (outc O (giZ S x y).1 (giZ S x y).2.1) U (upO (upO X 0 (((X 0) + 1) % 8)) 1 (k1Z (X 1))) (giZ S x y).2.2 (giZ S x y).2.2 P I V N Y (upQ Q (X 0) S)) (MX := fun u : Unit => brkW ck ka ad ra (if (outc O (giZ S x y).1 (giZ S x y).2.1) 0 = 3 then (upO (upO (upO Z 1 ((outc O (giZ S x y).1 (giZ S x y).2.1) 2)) 2 ((outc O (giZ S x y).1 (giZ S x y).2.1) 3)) 3 0) else Z) (outc O (giZ S x y).1 (giZ S x y).2.1) U X S (giZ S x y).2.2 P I V N Y Q) hP hD hS hA (fun hPm hDm => vx_runV (As := [.int (zI x), .int (zI y)]) (rest := []) ⟨hx, hb, hml, hown, htg⟩ (x_giveCoins l dg ck ka ad ra Z O U X S T P I V N Y Q x y _ hV hM9 hn hz rg_x rg_y hst) (cwV 2 htg (gwV wq_790 wq_791 wq_792 wq_1 wq_793) rfl rfl rfl (by decide +kernel) ⟨Nat.le_of_ble_eq_true rfl, Nat.le_of_ble_eq_true rfl⟩) (wrK_preV hK hPm hDm hC hS hA 0 10 rfl rfl) rfl rfl hl.1 rfl (lv_room (Nat.le_of_ble_eq_true rfl)) dL_giveCoins_3 ⟨Nat.le_of_ble_eq_true rfl, Nat.le_of_ble_eq_true rfl⟩) (fun E9 ce9 q9 u9 H locs hE9 hP hD hS g1 g2 g3 => ?_) (fun r9 u9 H locs hn9 hP hD hS => ?_)
  · rcases hE9 with ⟨rfl, hc⟩ | ⟨rfl, hc⟩ | ⟨rfl, hc⟩
    · refine vx_catch (own := RL) (name := "java/lang/IndexOutOfBoundsException") hown [] ⟨0, 6, 7, 20⟩ [⟨0, 6, 11, 22⟩] (by rw [htab]; rfl) (fun z hz => absurd hz List.not_mem_nil) (by decide) (by decide) (htg _ wq_341) (va_Nw.use rfl (hC.nw (w := .castable "java/lang/IndexOutOfBoundsException" "java/lang/IndexOutOfBoundsException") (by decide +kernel))) g1 g2 g3 ?_
      refine W.eq (g2 := F0 m 7 ls [.ref q9]) rfl ?_
      refine lv_astore_n (lv' := [(3, .ref q9), (0, .ref ((ad 7) 0)), (1, .int (zI x)), (2, .int (zI y))]) hx hb dL_giveCoins_7 rfl hl (by decide) rfl (fun ls hl => ?_)
      refine x_bipush hx hb dL_giveCoins_8 (by decide) ?_
      have hcc := outc_1 hc
      have hne : (giZ S x y).1 ≠ 0 := by omega
      exact W.widen (k := 1) (n := 6) (Nat.le_of_ble_eq_true rfl) (Nat.le_of_ble_eq_true rfl) (W.iret (v := _) hx hb hr (fun t9 ht9 hW9 => ⟨⟨_, (((if (outc O (giZ S x y).1 (giZ S x y).2.1) 0 = 3 then (upO (upO (upO Z 1 ((outc O (giZ S x y).1 (giZ S x y).2.1) 2)) 2 ((outc O (giZ S x y).1 (giZ S x y).2.1) 3)) 3 0) else Z), (outc O (giZ S x y).1 (giZ S x y).2.1), U, X, S, (giZ S x y).2.2, P, I, V, N, Y, Q)), rfl, ⟨congrArg zI (ansK_1 hcc).symm, ⟨(actZ_k (S := S) (k := 3) (a := x) (b := y) (d := 0) hne), if_neg hne, if_neg hne, rfl, zkt_0 Z _, ⟨hln, htx, hkv⟩, hu0, hY⟩⟩, by rw [ht9]; exact hP, by rw [hAe]; exact hD⟩, hS.F ht9⟩) hS.2.2 dL_giveCoins_10)
    · refine vx_catch (own := RL) (name := "java/lang/IllegalArgumentException") hown [⟨0, 6, 7, 20⟩] ⟨0, 6, 11, 22⟩ [] (by rw [htab]; rfl) (by intro z hz; simp only [List.mem_cons, List.not_mem_nil, or_false] at hz; subst hz; exact Or.inr ⟨by decide, "java/lang/IndexOutOfBoundsException", htg _ wq_341, hC.nc (by decide +kernel)⟩) (by decide) (by decide) (htg _ wq_566) (va_Nw.use rfl (hC.nw (w := .castable "java/lang/IllegalArgumentException" "java/lang/IllegalArgumentException") (by decide +kernel))) g1 g2 g3 ?_
      refine W.eq (g2 := F0 m 11 ls [.ref q9]) rfl ?_
      refine lv_astore_n (lv' := [(3, .ref q9), (0, .ref ((ad 7) 0)), (1, .int (zI x)), (2, .int (zI y))]) hx hb dL_giveCoins_11 rfl hl (by decide) rfl (fun ls hl => ?_)
      refine x_bipush hx hb dL_giveCoins_12 (by decide) ?_
      have hcc := outc_2 hc
      have hne : (giZ S x y).1 ≠ 0 := by omega
      exact W.widen (k := 1) (n := 6) (Nat.le_of_ble_eq_true rfl) (Nat.le_of_ble_eq_true rfl) (W.iret (v := _) hx hb hr (fun t9 ht9 hW9 => ⟨⟨_, (((if (outc O (giZ S x y).1 (giZ S x y).2.1) 0 = 3 then (upO (upO (upO Z 1 ((outc O (giZ S x y).1 (giZ S x y).2.1) 2)) 2 ((outc O (giZ S x y).1 (giZ S x y).2.1) 3)) 3 0) else Z), (outc O (giZ S x y).1 (giZ S x y).2.1), U, X, S, (giZ S x y).2.2, P, I, V, N, Y, Q)), rfl, ⟨congrArg zI (ansK_2 hcc).symm, ⟨(actZ_k (S := S) (k := 3) (a := x) (b := y) (d := 0) hne), if_neg hne, if_neg hne, rfl, zkt_0 Z _, ⟨hln, htx, hkv⟩, hu0, hY⟩⟩, by rw [ht9]; exact hP, by rw [hAe]; exact hD⟩, hS.F ht9⟩) hS.2.2 dL_giveCoins_14)
    · exact absurd (outc_4 (giZ_r S x y).1 hc) (Int.not_lt.mpr (gi_c S x y))
  have hP : va_P dg vwCl (brkW ck ka ad ra Z (outc O (giZ S x y).1 (giZ S x y).2.1) U (upO (upO X 0 (((X 0) + 1) % 8)) 1 (k1Z (X 1))) (giZ S x y).2.2 (giZ S x y).2.2 P I V N Y (upQ Q (X 0) S)) H := hP
  have hD : va_D A (brkW ck ka ad ra Z (outc O (giZ S x y).1 (giZ S x y).2.1) U (upO (upO X 0 (((X 0) + 1) % 8)) 1 (k1Z (X 1))) (giZ S x y).2.2 (giZ S x y).2.2 P I V N Y (upQ Q (X 0) S)) := hD
  have hoc := outc_c0 (giZ_r S x y) hn9.2
  exact W.widen (k := 1) (n := 6) (Nat.le_of_ble_eq_true rfl) (Nat.le_of_ble_eq_true rfl) (W.iret (v := _) hx hb hr (fun t9 ht9 hW9 => ⟨⟨_, ((Z, (outc O (giZ S x y).1 (giZ S x y).2.1), U, (upO (upO X 0 (((X 0) + 1) % 8)) 1 (k1Z (X 1))), (giZ S x y).2.2, (giZ S x y).2.2, P, I, V, N, Y, (upQ Q (X 0) S))), rfl, ⟨hn9.1.trans (congrArg zI (hoc.2.trans (ansK_0 hoc.1).symm)), ⟨rfl, if_pos hoc.1, if_pos hoc.1, rfl, rfl, ⟨hln, htx, hkv⟩, hu0, hY⟩⟩, by rw [ht9]; exact hP, by rw [hAe]; exact hD⟩, hS.F ht9⟩) hS.2.2 dL_giveCoins_6)

theorem wqL_lease : (Jvm.Cond.codeWith ({ cls := "BenchBrokerLaw", name := "lease", desc := "(LBenchBroker;III)I" } : Jvm.MethodName) method_26_code (5 : Nat) (Option.some Jvm.ClassFile.FieldType.int) [((0 : Nat), (7 : Nat), (8 : Nat), (20 : Nat)), ((0 : Nat), (7 : Nat), (13 : Nat), (22 : Nat)), ((0 : Nat), (7 : Nat), (18 : Nat), (24 : Nat))]) ∈ GW := tq_4 81 rfl rfl
set_option maxHeartbeats 4000000 in
set_option maxRecDepth 100000 in
/-- the law's lease -/
theorem w_lease (l : Launch) (dg : va_G) (ck : Nat → ClassId) (ka : Nat → Nat) (ad ra : Nat → Nat → Nat) (S : St) (X : Nat → Int) (Q : Nat → St) (P : St) (zs : Int) (b : BU) (x y z : Int) (sz : Nat) {n : Int} (hκ : KI n S X Q P zs) (hR : RO S X Q P zs b) (hM9 : n + 99 ≤ 4000000) (rg_x : -2147483648 ≤ x ∧ x < 2147483648) (rg_y : -2147483648 ≤ y ∧ y < 2147483648) (rg_z : -2147483648 ≤ z ∧ z < 2147483648) (hst : l.stackTraces = false) : Met l yL_lease (.codeWith yL_lease cL_lease 5 (some .int) [(0, 7, 8, 20), (0, 7, 13, 22), (0, 7, 18, 24)] :: GW) ({ frames := 8, cells := 1, slots := 6, locals := 153 }) (va_Pc [.ref ((ad 7) 0), .int (zI x), .int (zI y), .int (zI z)] (wrK dg ck ka sz (brkU ck ka ad ra b))) (va_Qi (fun r (u : BU) => r = zI (ansK (leZ S x y z)) ∧ RO (leZ S x y z).2.2 (phX X (leZ S x y z).1) (phQ Q X S (leZ S x y z).1) P zs u) (fun u t9 => wrQ dg sz (brkU ck ka ad ra b) (brkU ck ka ad ra u) t9) (va_A (brkU ck ka ad ra b) sz)) 1 6 (va_A (brkU ck ka ad ra b) sz) := by
  obtain ⟨Z, O, U, X', S', T, P', I, V, N, Y, Q'⟩ := b
  obtain ⟨e1, e2, e3, e4, e5, ⟨hln, htx, hkv⟩, hu0, hY⟩ := hR
  have e1 : S = S' := e1
  have e2 : X = X' := e2
  have e3 : Q = Q' := e3
  have e4 : P = P' := e4
  have e5 : zs = Z 0 := e5
  subst e1 e2 e3 e4 e5
  have hln : 0 ≤ I 0 0 ∧ I 0 0 ≤ 60 := hln
  have htx : ∀ i, 0 ≤ i → i < 60 → 0 ≤ I 1 i ∧ I 1 i ≤ 126 := htx
  have hkv : 0 ≤ I 0 2 ∧ I 0 2 ≤ 9 := hkv
  have hu0 : 0 ≤ U 0 ∧ U 0 ≤ 16 := hu0
  have hY : y7Z Y := hY
  obtain ⟨⟨hV, hV2⟩, ⟨hn, hz⟩, hq10, hhist, hz0, hp10, hsn⟩ := id hκ
  have hI := hV.bd
  have hs10 : ∀ i, 0 ≤ S 10 i ∧ S 10 i ≤ 1 := hI.2.2.2.2.2.2.2.2.2.2.2.2.2.1
  refine x_ofWH (cc := cL_lease) (maxL := 5) (ret := (some .int)) (by decide) rfl ?_
  intro p e s m args below meth c s₁ B hml htab hv
  obtain ⟨rfl, ⟨hsz, hP, hK, hD0⟩, hC⟩ := hv
  have hx := B.exec
  have hb := B.bytes
  have hr := B.returns
  have hts := atoms_spec (ws := .codeWith yL_lease cL_lease 5 (some .int) [(0, 7, 8, 20), (0, 7, 13, 22), (0, 7, 18, 24)] :: GW) B.pre
  have htg : ∀ w ∈ GW, w.before _ s = true := fun w h => hts w (List.mem_cons_of_mem _ h)
  have hown : s.vm.findClass RL = some m.cls := findClass_of_methodNamed B.named
  have hlocks := B.notSynchronized
  subst hsz
  have hD := hD0.self (sz := s.heap.size)
  generalize hAe : va_A (brkU ck ka ad ra (Z, O, U, X, S, T, P, I, V, N, Y, Q)) s.heap.size = A at hD hC ⊢
  have hA : ∀ q : Nat, s.heap.size ≤ q → A q := fun q h => by rw [← hAe]; exact Or.inr h
  have hS : va_S A s.heap s.heap [] := va_S.rf
  have hP : va_P dg vwCl (brkW ck ka ad ra Z O U X S T P I V N Y Q) s.heap := hP
  have hD : va_D A (brkW ck ka ad ra Z O U X S T P I V N Y Q) := hD
  have hl := lv_entry ([.ref ((ad 7) 0), .int (zI x), .int (zI y), .int (zI z)]) (n := 5) (Nat.le_of_ble_eq_true rfl)
  rw [lg_entry_eq]
  generalize (lg_sl ([.ref ((ad 7) 0), .int (zI x), .int (zI y), .int (zI z)]) ++ List.replicate (5 - (lg_sl ([.ref ((ad 7) 0), .int (zI x), .int (zI y), .int (zI z)])).length) Slot.unset).toArray = ls at hl ⊢
  have hl : lv_has ls 5 [(0, .ref ((ad 7) 0)), (1, .int (zI x)), (2, .int (zI y)), (3, .int (zI z))] := hl
  refine lv_aload_n hx hb dL_lease_0 rfl (lv_at hl 0 rfl) ?_
  refine lv_iload_n hx hb dL_lease_1 rfl (lv_at hl 1 rfl) ?_
  refine lv_iload_n hx hb dL_lease_2 rfl (lv_at hl 2 rfl) ?_
  refine lv_iload_n hx hb dL_lease_3 rfl (lv_at hl 3 rfl) ?_
  refine xl_calli0 (M := brkW ck ka ad ra Z O U X S T P I V N Y Q) (Mf := fun u : Unit => brkW ck ka ad ra Z (outc O (leZ S x y z).1 (leZ S x y z).2.1) U (upO (upO X 0 (((X 0) + 1) % 8)) 1 (k1Z (X 1))) (leZ S x y z).2.2 (leZ S x y z).2.2 P I V N Y (upQ Q (X 0) S)) (MX := fun u : Unit => brkW ck ka ad ra (if (outc O (leZ S x y z).1 (leZ S x y z).2.1) 0 = 3 then (upO (upO (upO Z 1 ((outc O (leZ S x y z).1 (leZ S x y z).2.1) 2)) 2 ((outc O (leZ S x y z).1 (leZ S x y z).2.1) 3)) 3 0) else Z) (outc O (leZ S x y z).1 (leZ S x y z).2.1) U X S (leZ S x y z).2.2 P I V N Y Q) hP hD hS hA (fun hPm hDm => vx_runV (As := [.int (zI x), .int (zI y), .int (zI z)]) (rest := []) ⟨hx, hb, hml, hown, htg⟩ (x_lease l dg ck ka ad ra Z O U X S T P I V N Y Q x y z _ hV hM9 hn hz rg_x rg_y rg_z hst) (cwV 3 htg (gwV wq_802 wq_803 wq_804 wq_1 wq_805) rfl rfl rfl (by decide +kernel) ⟨Nat.le_of_ble_eq_true rfl, Nat.le_of_ble_eq_true rfl⟩) (wrK_preV hK hPm hDm hC hS hA 0 10 rfl rfl) rfl rfl hl.1 rfl (lv_room (Nat.le_of_ble_eq_true rfl)) dL_lease_4 ⟨Nat.le_of_ble_eq_true rfl, Nat.le_of_ble_eq_true rfl⟩) (fun E9 ce9 q9 u9 H locs hE9 hP hD hS g1 g2 g3 => ?_) (fun r9 u9 H locs hn9 hP hD hS => ?_)
  · rcases hE9 with ⟨rfl, hc⟩ | ⟨rfl, hc⟩ | ⟨rfl, hc⟩
    · refine vx_catch (own := RL) (name := "java/lang/IndexOutOfBoundsException") hown [] ⟨0, 7, 8, 20⟩ [⟨0, 7, 13, 22⟩, ⟨0, 7, 18, 24⟩] (by rw [htab]; rfl) (fun z hz => absurd hz List.not_mem_nil) (by decide) (by decide) (htg _ wq_341) (va_Nw.use rfl (hC.nw (w := .castable "java/lang/IndexOutOfBoundsException" "java/lang/IndexOutOfBoundsException") (by decide +kernel))) g1 g2 g3 ?_
      refine W.eq (g2 := F0 m 8 ls [.ref q9]) rfl ?_
      refine lv_astore (lv' := [(4, .ref q9), (0, .ref ((ad 7) 0)), (1, .int (zI x)), (2, .int (zI y)), (3, .int (zI z))]) hx hb dL_lease_8 hl (by decide) rfl (fun ls hl => ?_)
      refine x_bipush hx hb dL_lease_10 (by decide) ?_
      have hcc := outc_1 hc
      have hne : (leZ S x y z).1 ≠ 0 := by omega
      exact W.widen (k := 1) (n := 6) (Nat.le_of_ble_eq_true rfl) (Nat.le_of_ble_eq_true rfl) (W.iret (v := _) hx hb hr (fun t9 ht9 hW9 => ⟨⟨_, (((if (outc O (leZ S x y z).1 (leZ S x y z).2.1) 0 = 3 then (upO (upO (upO Z 1 ((outc O (leZ S x y z).1 (leZ S x y z).2.1) 2)) 2 ((outc O (leZ S x y z).1 (leZ S x y z).2.1) 3)) 3 0) else Z), (outc O (leZ S x y z).1 (leZ S x y z).2.1), U, X, S, (leZ S x y z).2.2, P, I, V, N, Y, Q)), rfl, ⟨congrArg zI (ansK_1 hcc).symm, ⟨(actZ_k (S := S) (k := 4) (a := x) (b := y) (d := z) hne), if_neg hne, if_neg hne, rfl, zkt_0 Z _, ⟨hln, htx, hkv⟩, hu0, hY⟩⟩, by rw [ht9]; exact hP, by rw [hAe]; exact hD⟩, hS.F ht9⟩) hS.2.2 dL_lease_12)
    · refine vx_catch (own := RL) (name := "java/lang/IllegalArgumentException") hown [⟨0, 7, 8, 20⟩] ⟨0, 7, 13, 22⟩ [⟨0, 7, 18, 24⟩] (by rw [htab]; rfl) (by intro z hz; simp only [List.mem_cons, List.not_mem_nil, or_false] at hz; subst hz; exact Or.inr ⟨by decide, "java/lang/IndexOutOfBoundsException", htg _ wq_341, hC.nc (by decide +kernel)⟩) (by decide) (by decide) (htg _ wq_566) (va_Nw.use rfl (hC.nw (w := .castable "java/lang/IllegalArgumentException" "java/lang/IllegalArgumentException") (by decide +kernel))) g1 g2 g3 ?_
      refine W.eq (g2 := F0 m 13 ls [.ref q9]) rfl ?_
      refine lv_astore (lv' := [(4, .ref q9), (0, .ref ((ad 7) 0)), (1, .int (zI x)), (2, .int (zI y)), (3, .int (zI z))]) hx hb dL_lease_13 hl (by decide) rfl (fun ls hl => ?_)
      refine x_bipush hx hb dL_lease_15 (by decide) ?_
      have hcc := outc_2 hc
      have hne : (leZ S x y z).1 ≠ 0 := by omega
      exact W.widen (k := 1) (n := 6) (Nat.le_of_ble_eq_true rfl) (Nat.le_of_ble_eq_true rfl) (W.iret (v := _) hx hb hr (fun t9 ht9 hW9 => ⟨⟨_, (((if (outc O (leZ S x y z).1 (leZ S x y z).2.1) 0 = 3 then (upO (upO (upO Z 1 ((outc O (leZ S x y z).1 (leZ S x y z).2.1) 2)) 2 ((outc O (leZ S x y z).1 (leZ S x y z).2.1) 3)) 3 0) else Z), (outc O (leZ S x y z).1 (leZ S x y z).2.1), U, X, S, (leZ S x y z).2.2, P, I, V, N, Y, Q)), rfl, ⟨congrArg zI (ansK_2 hcc).symm, ⟨(actZ_k (S := S) (k := 4) (a := x) (b := y) (d := z) hne), if_neg hne, if_neg hne, rfl, zkt_0 Z _, ⟨hln, htx, hkv⟩, hu0, hY⟩⟩, by rw [ht9]; exact hP, by rw [hAe]; exact hD⟩, hS.F ht9⟩) hS.2.2 dL_lease_17)
    · refine vx_catch (own := RL) (name := "java/lang/UnsupportedOperationException") hown [⟨0, 7, 8, 20⟩, ⟨0, 7, 13, 22⟩] ⟨0, 7, 18, 24⟩ [] (by rw [htab]; rfl) (by intro z hz; simp only [List.mem_cons, List.not_mem_nil, or_false] at hz; exact hz.elim (fun e9 => by subst e9; exact Or.inr ⟨by decide, "java/lang/IndexOutOfBoundsException", htg _ wq_341, hC.nc (by decide +kernel)⟩) (fun e9 => by subst e9; exact Or.inr ⟨by decide, "java/lang/IllegalArgumentException", htg _ wq_566, hC.nc (by decide +kernel)⟩)) (by decide) (by decide) (htg _ wq_655) (va_Nw.use rfl (hC.nw (w := .castable "java/lang/UnsupportedOperationException" "java/lang/UnsupportedOperationException") (by decide +kernel))) g1 g2 g3 ?_
      refine W.eq (g2 := F0 m 18 ls [.ref q9]) rfl ?_
      refine lv_astore (lv' := [(4, .ref q9), (0, .ref ((ad 7) 0)), (1, .int (zI x)), (2, .int (zI y)), (3, .int (zI z))]) hx hb dL_lease_18 hl (by decide) rfl (fun ls hl => ?_)
      refine x_bipush hx hb dL_lease_20 (by decide) ?_
      have hcc := outc_4 (leZ_r S x y z).1 hc
      have hne : (leZ S x y z).1 ≠ 0 := by omega
      exact W.widen (k := 1) (n := 6) (Nat.le_of_ble_eq_true rfl) (Nat.le_of_ble_eq_true rfl) (W.iret (v := _) hx hb hr (fun t9 ht9 hW9 => ⟨⟨_, (((if (outc O (leZ S x y z).1 (leZ S x y z).2.1) 0 = 3 then (upO (upO (upO Z 1 ((outc O (leZ S x y z).1 (leZ S x y z).2.1) 2)) 2 ((outc O (leZ S x y z).1 (leZ S x y z).2.1) 3)) 3 0) else Z), (outc O (leZ S x y z).1 (leZ S x y z).2.1), U, X, S, (leZ S x y z).2.2, P, I, V, N, Y, Q)), rfl, ⟨congrArg zI (ansK_3 hcc).symm, ⟨(actZ_k (S := S) (k := 4) (a := x) (b := y) (d := z) hne), if_neg hne, if_neg hne, rfl, zkt_0 Z _, ⟨hln, htx, hkv⟩, hu0, hY⟩⟩, by rw [ht9]; exact hP, by rw [hAe]; exact hD⟩, hS.F ht9⟩) hS.2.2 dL_lease_22)
  have hP : va_P dg vwCl (brkW ck ka ad ra Z (outc O (leZ S x y z).1 (leZ S x y z).2.1) U (upO (upO X 0 (((X 0) + 1) % 8)) 1 (k1Z (X 1))) (leZ S x y z).2.2 (leZ S x y z).2.2 P I V N Y (upQ Q (X 0) S)) H := hP
  have hD : va_D A (brkW ck ka ad ra Z (outc O (leZ S x y z).1 (leZ S x y z).2.1) U (upO (upO X 0 (((X 0) + 1) % 8)) 1 (k1Z (X 1))) (leZ S x y z).2.2 (leZ S x y z).2.2 P I V N Y (upQ Q (X 0) S)) := hD
  have hoc := outc_c0 (leZ_r S x y z) hn9.2
  exact W.widen (k := 1) (n := 6) (Nat.le_of_ble_eq_true rfl) (Nat.le_of_ble_eq_true rfl) (W.iret (v := _) hx hb hr (fun t9 ht9 hW9 => ⟨⟨_, ((Z, (outc O (leZ S x y z).1 (leZ S x y z).2.1), U, (upO (upO X 0 (((X 0) + 1) % 8)) 1 (k1Z (X 1))), (leZ S x y z).2.2, (leZ S x y z).2.2, P, I, V, N, Y, (upQ Q (X 0) S))), rfl, ⟨hn9.1.trans (congrArg zI (hoc.2.trans (ansK_0 hoc.1).symm)), ⟨rfl, if_pos hoc.1, if_pos hoc.1, rfl, rfl, ⟨hln, htx, hkv⟩, hu0, hY⟩⟩, by rw [ht9]; exact hP, by rw [hAe]; exact hD⟩, hS.F ht9⟩) hS.2.2 dL_lease_7)

theorem wqL_endLease : (Jvm.Cond.codeWith ({ cls := "BenchBrokerLaw", name := "endLease", desc := "(LBenchBroker;I)I" } : Jvm.MethodName) method_27_code (3 : Nat) (Option.some Jvm.ClassFile.FieldType.int) [((0 : Nat), (5 : Nat), (6 : Nat), (20 : Nat)), ((0 : Nat), (5 : Nat), (10 : Nat), (24 : Nat))]) ∈ GW := tq_4 99 rfl rfl
set_option maxHeartbeats 4000000 in
set_option maxRecDepth 100000 in
/-- the law's endLease -/
theorem w_endLease (l : Launch) (dg : va_G) (ck : Nat → ClassId) (ka : Nat → Nat) (ad ra : Nat → Nat → Nat) (S : St) (X : Nat → Int) (Q : Nat → St) (P : St) (zs : Int) (b : BU) (x : Int) (sz : Nat) {n : Int} (hκ : KI n S X Q P zs) (hR : RO S X Q P zs b) (hM9 : n + 99 ≤ 4000000) (rg_x : -2147483648 ≤ x ∧ x < 2147483648) (hst : l.stackTraces = false) : Met l yL_endLease (.codeWith yL_endLease cL_endLease 3 (some .int) [(0, 5, 6, 20), (0, 5, 10, 24)] :: GW) ({ frames := 8, cells := 1, slots := 6, locals := 151 }) (va_Pc [.ref ((ad 7) 0), .int (zI x)] (wrK dg ck ka sz (brkU ck ka ad ra b))) (va_Qi (fun r (u : BU) => r = zI (ansK (enZ S x)) ∧ RO (enZ S x).2.2 (phX X (enZ S x).1) (phQ Q X S (enZ S x).1) P zs u) (fun u t9 => wrQ dg sz (brkU ck ka ad ra b) (brkU ck ka ad ra u) t9) (va_A (brkU ck ka ad ra b) sz)) 1 6 (va_A (brkU ck ka ad ra b) sz) := by
  obtain ⟨Z, O, U, X', S', T, P', I, V, N, Y, Q'⟩ := b
  obtain ⟨e1, e2, e3, e4, e5, ⟨hln, htx, hkv⟩, hu0, hY⟩ := hR
  have e1 : S = S' := e1
  have e2 : X = X' := e2
  have e3 : Q = Q' := e3
  have e4 : P = P' := e4
  have e5 : zs = Z 0 := e5
  subst e1 e2 e3 e4 e5
  have hln : 0 ≤ I 0 0 ∧ I 0 0 ≤ 60 := hln
  have htx : ∀ i, 0 ≤ i → i < 60 → 0 ≤ I 1 i ∧ I 1 i ≤ 126 := htx
  have hkv : 0 ≤ I 0 2 ∧ I 0 2 ≤ 9 := hkv
  have hu0 : 0 ≤ U 0 ∧ U 0 ≤ 16 := hu0
  have hY : y7Z Y := hY
  obtain ⟨⟨hV, hV2⟩, ⟨hn, hz⟩, hq10, hhist, hz0, hp10, hsn⟩ := id hκ
  have hI := hV.bd
  have hs10 : ∀ i, 0 ≤ S 10 i ∧ S 10 i ≤ 1 := hI.2.2.2.2.2.2.2.2.2.2.2.2.2.1
  refine x_ofWH (cc := cL_endLease) (maxL := 3) (ret := (some .int)) (by decide) rfl ?_
  intro p e s m args below meth c s₁ B hml htab hv
  obtain ⟨rfl, ⟨hsz, hP, hK, hD0⟩, hC⟩ := hv
  have hx := B.exec
  have hb := B.bytes
  have hr := B.returns
  have hts := atoms_spec (ws := .codeWith yL_endLease cL_endLease 3 (some .int) [(0, 5, 6, 20), (0, 5, 10, 24)] :: GW) B.pre
  have htg : ∀ w ∈ GW, w.before _ s = true := fun w h => hts w (List.mem_cons_of_mem _ h)
  have hown : s.vm.findClass RL = some m.cls := findClass_of_methodNamed B.named
  have hlocks := B.notSynchronized
  subst hsz
  have hD := hD0.self (sz := s.heap.size)
  generalize hAe : va_A (brkU ck ka ad ra (Z, O, U, X, S, T, P, I, V, N, Y, Q)) s.heap.size = A at hD hC ⊢
  have hA : ∀ q : Nat, s.heap.size ≤ q → A q := fun q h => by rw [← hAe]; exact Or.inr h
  have hS : va_S A s.heap s.heap [] := va_S.rf
  have hP : va_P dg vwCl (brkW ck ka ad ra Z O U X S T P I V N Y Q) s.heap := hP
  have hD : va_D A (brkW ck ka ad ra Z O U X S T P I V N Y Q) := hD
  have hl := lv_entry ([.ref ((ad 7) 0), .int (zI x)]) (n := 3) (Nat.le_of_ble_eq_true rfl)
  rw [lg_entry_eq]
  generalize (lg_sl ([.ref ((ad 7) 0), .int (zI x)]) ++ List.replicate (3 - (lg_sl ([.ref ((ad 7) 0), .int (zI x)])).length) Slot.unset).toArray = ls at hl ⊢
  have hl : lv_has ls 3 [(0, .ref ((ad 7) 0)), (1, .int (zI x))] := hl
  refine lv_aload_n hx hb dL_endLease_0 rfl (lv_at hl 0 rfl) ?_
  refine lv_iload_n hx hb dL_endLease_1 rfl (lv_at hl 1 rfl) ?_
  refine xl_calli0 (M := brkW ck ka ad ra Z O U X S T P I V N Y Q) (Mf := fun u : Unit => brkW ck ka ad ra Z (outc O (enZ S x).1 (enZ S x).2.1) U (upO (upO X 0 (((X 0) + 1) % 8)) 1 (k1Z (X 1))) (enZ S x).2.2 (enZ S x).2.2 P I V N Y (upQ Q (X 0) S)) (MX := fun u : Unit => brkW ck ka ad ra (if (outc O (enZ S x).1 (enZ S x).2.1) 0 = 3 then (upO (upO (upO Z 1 ((outc O (enZ S x).1 (enZ S x).2.1) 2)) 2 ((outc O (enZ S x).1 (enZ S x).2.1) 3)) 3 0) else Z) (outc O (enZ S x).1 (enZ S x).2.1) U X S (enZ S x).2.2 P I V N Y Q) hP hD hS hA (fun hPm hDm => vx_runV (As := [.int (zI x)]) (rest := []) ⟨hx, hb, hml, hown, htg⟩ (x_endLease l dg ck ka ad ra Z O U X S T P I V N Y Q x _ hV hM9 hn hz rg_x hst) (cwV 1 htg (gwV wq_820 wq_821 wq_822 wq_1 wq_823) rfl rfl rfl (by decide +kernel) ⟨Nat.le_of_ble_eq_true rfl, Nat.le_of_ble_eq_true rfl⟩) (wrK_preV hK hPm hDm hC hS hA 0 10 rfl rfl) rfl rfl hl.1 rfl (lv_room (Nat.le_of_ble_eq_true rfl)) dL_endLease_2 ⟨Nat.le_of_ble_eq_true rfl, Nat.le_of_ble_eq_true rfl⟩) (fun E9 ce9 q9 u9 H locs hE9 hP hD hS g1 g2 g3 => ?_) (fun r9 u9 H locs hn9 hP hD hS => ?_)
  · rcases hE9 with ⟨rfl, hc⟩ | ⟨rfl, hc⟩ | ⟨rfl, hc⟩
    · refine vx_catch (own := RL) (name := "java/lang/IndexOutOfBoundsException") hown [] ⟨0, 5, 6, 20⟩ [⟨0, 5, 10, 24⟩] (by rw [htab]; rfl) (fun z hz => absurd hz List.not_mem_nil) (by decide) (by decide) (htg _ wq_341) (va_Nw.use rfl (hC.nw (w := .castable "java/lang/IndexOutOfBoundsException" "java/lang/IndexOutOfBoundsException") (by decide +kernel))) g1 g2 g3 ?_
      refine W.eq (g2 := F0 m 6 ls [.ref q9]) rfl ?_
      refine lv_astore_n (lv' := [(2, .ref q9), (0, .ref ((ad 7) 0)), (1, .int (zI x))]) hx hb dL_endLease_6 rfl hl (by decide) rfl (fun ls hl => ?_)
      refine x_bipush hx hb dL_endLease_7 (by decide) ?_
      have hcc := outc_1 hc
      have hne : (enZ S x).1 ≠ 0 := by omega
      exact W.widen (k := 1) (n := 6) (Nat.le_of_ble_eq_true rfl) (Nat.le_of_ble_eq_true rfl) (W.iret (v := _) hx hb hr (fun t9 ht9 hW9 => ⟨⟨_, (((if (outc O (enZ S x).1 (enZ S x).2.1) 0 = 3 then (upO (upO (upO Z 1 ((outc O (enZ S x).1 (enZ S x).2.1) 2)) 2 ((outc O (enZ S x).1 (enZ S x).2.1) 3)) 3 0) else Z), (outc O (enZ S x).1 (enZ S x).2.1), U, X, S, (enZ S x).2.2, P, I, V, N, Y, Q)), rfl, ⟨congrArg zI (ansK_1 hcc).symm, ⟨(actZ_k (S := S) (k := 5) (a := x) (b := 0) (d := 0) hne), if_neg hne, if_neg hne, rfl, zkt_0 Z _, ⟨hln, htx, hkv⟩, hu0, hY⟩⟩, by rw [ht9]; exact hP, by rw [hAe]; exact hD⟩, hS.F ht9⟩) hS.2.2 dL_endLease_9)
    · exact absurd (outc_2 hc) (en_c S x)
    · refine vx_catch (own := RL) (name := "java/lang/UnsupportedOperationException") hown [⟨0, 5, 6, 20⟩] ⟨0, 5, 10, 24⟩ [] (by rw [htab]; rfl) (by intro z hz; simp only [List.mem_cons, List.not_mem_nil, or_false] at hz; subst hz; exact Or.inr ⟨by decide, "java/lang/IndexOutOfBoundsException", htg _ wq_341, hC.nc (by decide +kernel)⟩) (by decide) (by decide) (htg _ wq_655) (va_Nw.use rfl (hC.nw (w := .castable "java/lang/UnsupportedOperationException" "java/lang/UnsupportedOperationException") (by decide +kernel))) g1 g2 g3 ?_
      refine W.eq (g2 := F0 m 10 ls [.ref q9]) rfl ?_
      refine lv_astore_n (lv' := [(2, .ref q9), (0, .ref ((ad 7) 0)), (1, .int (zI x))]) hx hb dL_endLease_10 rfl hl (by decide) rfl (fun ls hl => ?_)
      refine x_bipush hx hb dL_endLease_11 (by decide) ?_
      have hcc := outc_4 (enZ_r S x).1 hc
      have hne : (enZ S x).1 ≠ 0 := by omega
      exact W.widen (k := 1) (n := 6) (Nat.le_of_ble_eq_true rfl) (Nat.le_of_ble_eq_true rfl) (W.iret (v := _) hx hb hr (fun t9 ht9 hW9 => ⟨⟨_, (((if (outc O (enZ S x).1 (enZ S x).2.1) 0 = 3 then (upO (upO (upO Z 1 ((outc O (enZ S x).1 (enZ S x).2.1) 2)) 2 ((outc O (enZ S x).1 (enZ S x).2.1) 3)) 3 0) else Z), (outc O (enZ S x).1 (enZ S x).2.1), U, X, S, (enZ S x).2.2, P, I, V, N, Y, Q)), rfl, ⟨congrArg zI (ansK_3 hcc).symm, ⟨(actZ_k (S := S) (k := 5) (a := x) (b := 0) (d := 0) hne), if_neg hne, if_neg hne, rfl, zkt_0 Z _, ⟨hln, htx, hkv⟩, hu0, hY⟩⟩, by rw [ht9]; exact hP, by rw [hAe]; exact hD⟩, hS.F ht9⟩) hS.2.2 dL_endLease_13)
  have hP : va_P dg vwCl (brkW ck ka ad ra Z (outc O (enZ S x).1 (enZ S x).2.1) U (upO (upO X 0 (((X 0) + 1) % 8)) 1 (k1Z (X 1))) (enZ S x).2.2 (enZ S x).2.2 P I V N Y (upQ Q (X 0) S)) H := hP
  have hD : va_D A (brkW ck ka ad ra Z (outc O (enZ S x).1 (enZ S x).2.1) U (upO (upO X 0 (((X 0) + 1) % 8)) 1 (k1Z (X 1))) (enZ S x).2.2 (enZ S x).2.2 P I V N Y (upQ Q (X 0) S)) := hD
  have hoc := outc_c0 (enZ_r S x) hn9.2
  exact W.widen (k := 1) (n := 6) (Nat.le_of_ble_eq_true rfl) (Nat.le_of_ble_eq_true rfl) (W.iret (v := _) hx hb hr (fun t9 ht9 hW9 => ⟨⟨_, ((Z, (outc O (enZ S x).1 (enZ S x).2.1), U, (upO (upO X 0 (((X 0) + 1) % 8)) 1 (k1Z (X 1))), (enZ S x).2.2, (enZ S x).2.2, P, I, V, N, Y, (upQ Q (X 0) S))), rfl, ⟨hn9.1.trans (congrArg zI (hoc.2.trans (ansK_0 hoc.1).symm)), ⟨rfl, if_pos hoc.1, if_pos hoc.1, rfl, rfl, ⟨hln, htx, hkv⟩, hu0, hY⟩⟩, by rw [ht9]; exact hP, by rw [hAe]; exact hD⟩, hS.F ht9⟩) hS.2.2 dL_endLease_5)

theorem wqL_renew : (Jvm.Cond.codeWith ({ cls := "BenchBrokerLaw", name := "renew", desc := "(LBenchBroker;II)I" } : Jvm.MethodName) method_28_code (4 : Nat) (Option.some Jvm.ClassFile.FieldType.int) [((0 : Nat), (6 : Nat), (7 : Nat), (20 : Nat)), ((0 : Nat), (6 : Nat), (11 : Nat), (22 : Nat)), ((0 : Nat), (6 : Nat), (15 : Nat), (24 : Nat))]) ∈ GW := tq_4 110 rfl rfl
set_option maxHeartbeats 4000000 in
set_option maxRecDepth 100000 in
/-- the law's renew -/
theorem w_renew (l : Launch) (dg : va_G) (ck : Nat → ClassId) (ka : Nat → Nat) (ad ra : Nat → Nat → Nat) (S : St) (X : Nat → Int) (Q : Nat → St) (P : St) (zs : Int) (b : BU) (x y : Int) (sz : Nat) {n : Int} (hκ : KI n S X Q P zs) (hR : RO S X Q P zs b) (hM9 : n + 99 ≤ 4000000) (rg_x : -2147483648 ≤ x ∧ x < 2147483648) (rg_y : -2147483648 ≤ y ∧ y < 2147483648) (hst : l.stackTraces = false) : Met l yL_renew (.codeWith yL_renew cL_renew 4 (some .int) [(0, 6, 7, 20), (0, 6, 11, 22), (0, 6, 15, 24)] :: GW) ({ frames := 8, cells := 1, slots := 6, locals := 152 }) (va_Pc [.ref ((ad 7) 0), .int (zI x), .int (zI y)] (wrK dg ck ka sz (brkU ck ka ad ra b))) (va_Qi (fun r (u : BU) => r = zI (ansK (reZ S x y)) ∧ RO (reZ S x y).2.2 (phX X (reZ S x y).1) (phQ Q X S (reZ S x y).1) P zs u) (fun u t9 => wrQ dg sz (brkU ck ka ad ra b) (brkU ck ka ad ra u) t9) (va_A (brkU ck ka ad ra b) sz)) 1 6 (va_A (brkU ck ka ad ra b) sz) := by
  obtain ⟨Z, O, U, X', S', T, P', I, V, N, Y, Q'⟩ := b
  obtain ⟨e1, e2, e3, e4, e5, ⟨hln, htx, hkv⟩, hu0, hY⟩ := hR
  have e1 : S = S' := e1
  have e2 : X = X' := e2
  have e3 : Q = Q' := e3
  have e4 : P = P' := e4
  have e5 : zs = Z 0 := e5
  subst e1 e2 e3 e4 e5
  have hln : 0 ≤ I 0 0 ∧ I 0 0 ≤ 60 := hln
  have htx : ∀ i, 0 ≤ i → i < 60 → 0 ≤ I 1 i ∧ I 1 i ≤ 126 := htx
  have hkv : 0 ≤ I 0 2 ∧ I 0 2 ≤ 9 := hkv
  have hu0 : 0 ≤ U 0 ∧ U 0 ≤ 16 := hu0
  have hY : y7Z Y := hY
  obtain ⟨⟨hV, hV2⟩, ⟨hn, hz⟩, hq10, hhist, hz0, hp10, hsn⟩ := id hκ
  have hI := hV.bd
  have hs10 : ∀ i, 0 ≤ S 10 i ∧ S 10 i ≤ 1 := hI.2.2.2.2.2.2.2.2.2.2.2.2.2.1
  refine x_ofWH (cc := cL_renew) (maxL := 4) (ret := (some .int)) (by decide) rfl ?_
  intro p e s m args below meth c s₁ B hml htab hv
  obtain ⟨rfl, ⟨hsz, hP, hK, hD0⟩, hC⟩ := hv
  have hx := B.exec
  have hb := B.bytes
  have hr := B.returns
  have hts := atoms_spec (ws := .codeWith yL_renew cL_renew 4 (some .int) [(0, 6, 7, 20), (0, 6, 11, 22), (0, 6, 15, 24)] :: GW) B.pre
  have htg : ∀ w ∈ GW, w.before _ s = true := fun w h => hts w (List.mem_cons_of_mem _ h)
  have hown : s.vm.findClass RL = some m.cls := findClass_of_methodNamed B.named
  have hlocks := B.notSynchronized
  subst hsz
  have hD := hD0.self (sz := s.heap.size)
  generalize hAe : va_A (brkU ck ka ad ra (Z, O, U, X, S, T, P, I, V, N, Y, Q)) s.heap.size = A at hD hC ⊢
  have hA : ∀ q : Nat, s.heap.size ≤ q → A q := fun q h => by rw [← hAe]; exact Or.inr h
  have hS : va_S A s.heap s.heap [] := va_S.rf
  have hP : va_P dg vwCl (brkW ck ka ad ra Z O U X S T P I V N Y Q) s.heap := hP
  have hD : va_D A (brkW ck ka ad ra Z O U X S T P I V N Y Q) := hD
  have hl := lv_entry ([.ref ((ad 7) 0), .int (zI x), .int (zI y)]) (n := 4) (Nat.le_of_ble_eq_true rfl)
  rw [lg_entry_eq]
  generalize (lg_sl ([.ref ((ad 7) 0), .int (zI x), .int (zI y)]) ++ List.replicate (4 - (lg_sl ([.ref ((ad 7) 0), .int (zI x), .int (zI y)])).length) Slot.unset).toArray = ls at hl ⊢
  have hl : lv_has ls 4 [(0, .ref ((ad 7) 0)), (1, .int (zI x)), (2, .int (zI y))] := hl
  refine lv_aload_n hx hb dL_renew_0 rfl (lv_at hl 0 rfl) ?_
  refine lv_iload_n hx hb dL_renew_1 rfl (lv_at hl 1 rfl) ?_
  refine lv_iload_n hx hb dL_renew_2 rfl (lv_at hl 2 rfl) ?_
  refine xl_calli0 (M := brkW ck ka ad ra Z O U X S T P I V N Y Q) (Mf := fun u : Unit => brkW ck ka ad ra Z (outc O (reZ S x y).1 (reZ S x y).2.1) U (upO (upO X 0 (((X 0) + 1) % 8)) 1 (k1Z (X 1))) (reZ S x y).2.2 (reZ S x y).2.2 P I V N Y (upQ Q (X 0) S)) (MX := fun u : Unit => brkW ck ka ad ra (if (outc O (reZ S x y).1 (reZ S x y).2.1) 0 = 3 then (upO (upO (upO Z 1 ((outc O (reZ S x y).1 (reZ S x y).2.1) 2)) 2 ((outc O (reZ S x y).1 (reZ S x y).2.1) 3)) 3 0) else Z) (outc O (reZ S x y).1 (reZ S x y).2.1) U X S (reZ S x y).2.2 P I V N Y Q) hP hD hS hA (fun hPm hDm => vx_runV (As := [.int (zI x), .int (zI y)]) (rest := []) ⟨hx, hb, hml, hown, htg⟩ (x_renew l dg ck ka ad ra Z O U X S T P I V N Y Q x y _ hV hM9 hn hz rg_x rg_y hst) (cwV 2 htg (gwV wq_831 wq_832 wq_833 wq_1 wq_834) rfl rfl rfl (by decide +kernel) ⟨Nat.le_of_ble_eq_true rfl, Nat.le_of_ble_eq_true rfl⟩) (wrK_preV hK hPm hDm hC hS hA 0 10 rfl rfl) rfl rfl hl.1 rfl (lv_room (Nat.le_of_ble_eq_true rfl)) dL_renew_3 ⟨Nat.le_of_ble_eq_true rfl, Nat.le_of_ble_eq_true rfl⟩) (fun E9 ce9 q9 u9 H locs hE9 hP hD hS g1 g2 g3 => ?_) (fun r9 u9 H locs hn9 hP hD hS => ?_)
  · rcases hE9 with ⟨rfl, hc⟩ | ⟨rfl, hc⟩ | ⟨rfl, hc⟩
    · refine vx_catch (own := RL) (name := "java/lang/IndexOutOfBoundsException") hown [] ⟨0, 6, 7, 20⟩ [⟨0, 6, 11, 22⟩, ⟨0, 6, 15, 24⟩] (by rw [htab]; rfl) (fun z hz => absurd hz List.not_mem_nil) (by decide) (by decide) (htg _ wq_341) (va_Nw.use rfl (hC.nw (w := .castable "java/lang/IndexOutOfBoundsException" "java/lang/IndexOutOfBoundsException") (by decide +kernel))) g1 g2 g3 ?_
      refine W.eq (g2 := F0 m 7 ls [.ref q9]) rfl ?_
      refine lv_astore_n (lv' := [(3, .ref q9), (0, .ref ((ad 7) 0)), (1, .int (zI x)), (2, .int (zI y))]) hx hb dL_renew_7 rfl hl (by decide) rfl (fun ls hl => ?_)
      refine x_bipush hx hb dL_renew_8 (by decide) ?_
      have hcc := outc_1 hc
      have hne : (reZ S x y).1 ≠ 0 := by omega
      exact W.widen (k := 1) (n := 6) (Nat.le_of_ble_eq_true rfl) (Nat.le_of_ble_eq_true rfl) (W.iret (v := _) hx hb hr (fun t9 ht9 hW9 => ⟨⟨_, (((if (outc O (reZ S x y).1 (reZ S x y).2.1) 0 = 3 then (upO (upO (upO Z 1 ((outc O (reZ S x y).1 (reZ S x y).2.1) 2)) 2 ((outc O (reZ S x y).1 (reZ S x y).2.1) 3)) 3 0) else Z), (outc O (reZ S x y).1 (reZ S x y).2.1), U, X, S, (reZ S x y).2.2, P, I, V, N, Y, Q)), rfl, ⟨congrArg zI (ansK_1 hcc).symm, ⟨(actZ_k (S := S) (k := 6) (a := x) (b := y) (d := 0) hne), if_neg hne, if_neg hne, rfl, zkt_0 Z _, ⟨hln, htx, hkv⟩, hu0, hY⟩⟩, by rw [ht9]; exact hP, by rw [hAe]; exact hD⟩, hS.F ht9⟩) hS.2.2 dL_renew_10)
    · refine vx_catch (own := RL) (name := "java/lang/IllegalArgumentException") hown [⟨0, 6, 7, 20⟩] ⟨0, 6, 11, 22⟩ [⟨0, 6, 15, 24⟩] (by rw [htab]; rfl) (by intro z hz; simp only [List.mem_cons, List.not_mem_nil, or_false] at hz; subst hz; exact Or.inr ⟨by decide, "java/lang/IndexOutOfBoundsException", htg _ wq_341, hC.nc (by decide +kernel)⟩) (by decide) (by decide) (htg _ wq_566) (va_Nw.use rfl (hC.nw (w := .castable "java/lang/IllegalArgumentException" "java/lang/IllegalArgumentException") (by decide +kernel))) g1 g2 g3 ?_
      refine W.eq (g2 := F0 m 11 ls [.ref q9]) rfl ?_
      refine lv_astore_n (lv' := [(3, .ref q9), (0, .ref ((ad 7) 0)), (1, .int (zI x)), (2, .int (zI y))]) hx hb dL_renew_11 rfl hl (by decide) rfl (fun ls hl => ?_)
      refine x_bipush hx hb dL_renew_12 (by decide) ?_
      have hcc := outc_2 hc
      have hne : (reZ S x y).1 ≠ 0 := by omega
      exact W.widen (k := 1) (n := 6) (Nat.le_of_ble_eq_true rfl) (Nat.le_of_ble_eq_true rfl) (W.iret (v := _) hx hb hr (fun t9 ht9 hW9 => ⟨⟨_, (((if (outc O (reZ S x y).1 (reZ S x y).2.1) 0 = 3 then (upO (upO (upO Z 1 ((outc O (reZ S x y).1 (reZ S x y).2.1) 2)) 2 ((outc O (reZ S x y).1 (reZ S x y).2.1) 3)) 3 0) else Z), (outc O (reZ S x y).1 (reZ S x y).2.1), U, X, S, (reZ S x y).2.2, P, I, V, N, Y, Q)), rfl, ⟨congrArg zI (ansK_2 hcc).symm, ⟨(actZ_k (S := S) (k := 6) (a := x) (b := y) (d := 0) hne), if_neg hne, if_neg hne, rfl, zkt_0 Z _, ⟨hln, htx, hkv⟩, hu0, hY⟩⟩, by rw [ht9]; exact hP, by rw [hAe]; exact hD⟩, hS.F ht9⟩) hS.2.2 dL_renew_14)
    · refine vx_catch (own := RL) (name := "java/lang/UnsupportedOperationException") hown [⟨0, 6, 7, 20⟩, ⟨0, 6, 11, 22⟩] ⟨0, 6, 15, 24⟩ [] (by rw [htab]; rfl) (by intro z hz; simp only [List.mem_cons, List.not_mem_nil, or_false] at hz; exact hz.elim (fun e9 => by subst e9; exact Or.inr ⟨by decide, "java/lang/IndexOutOfBoundsException", htg _ wq_341, hC.nc (by decide +kernel)⟩) (fun e9 => by subst e9; exact Or.inr ⟨by decide, "java/lang/IllegalArgumentException", htg _ wq_566, hC.nc (by decide +kernel)⟩)) (by decide) (by decide) (htg _ wq_655) (va_Nw.use rfl (hC.nw (w := .castable "java/lang/UnsupportedOperationException" "java/lang/UnsupportedOperationException") (by decide +kernel))) g1 g2 g3 ?_
      refine W.eq (g2 := F0 m 15 ls [.ref q9]) rfl ?_
      refine lv_astore_n (lv' := [(3, .ref q9), (0, .ref ((ad 7) 0)), (1, .int (zI x)), (2, .int (zI y))]) hx hb dL_renew_15 rfl hl (by decide) rfl (fun ls hl => ?_)
      refine x_bipush hx hb dL_renew_16 (by decide) ?_
      have hcc := outc_4 (reZ_r S x y).1 hc
      have hne : (reZ S x y).1 ≠ 0 := by omega
      exact W.widen (k := 1) (n := 6) (Nat.le_of_ble_eq_true rfl) (Nat.le_of_ble_eq_true rfl) (W.iret (v := _) hx hb hr (fun t9 ht9 hW9 => ⟨⟨_, (((if (outc O (reZ S x y).1 (reZ S x y).2.1) 0 = 3 then (upO (upO (upO Z 1 ((outc O (reZ S x y).1 (reZ S x y).2.1) 2)) 2 ((outc O (reZ S x y).1 (reZ S x y).2.1) 3)) 3 0) else Z), (outc O (reZ S x y).1 (reZ S x y).2.1), U, X, S, (reZ S x y).2.2, P, I, V, N, Y, Q)), rfl, ⟨congrArg zI (ansK_3 hcc).symm, ⟨(actZ_k (S := S) (k := 6) (a := x) (b := y) (d := 0) hne), if_neg hne, if_neg hne, rfl, zkt_0 Z _, ⟨hln, htx, hkv⟩, hu0, hY⟩⟩, by rw [ht9]; exact hP, by rw [hAe]; exact hD⟩, hS.F ht9⟩) hS.2.2 dL_renew_18)
  have hP : va_P dg vwCl (brkW ck ka ad ra Z (outc O (reZ S x y).1 (reZ S x y).2.1) U (upO (upO X 0 (((X 0) + 1) % 8)) 1 (k1Z (X 1))) (reZ S x y).2.2 (reZ S x y).2.2 P I V N Y (upQ Q (X 0) S)) H := hP
  have hD : va_D A (brkW ck ka ad ra Z (outc O (reZ S x y).1 (reZ S x y).2.1) U (upO (upO X 0 (((X 0) + 1) % 8)) 1 (k1Z (X 1))) (reZ S x y).2.2 (reZ S x y).2.2 P I V N Y (upQ Q (X 0) S)) := hD
  have hoc := outc_c0 (reZ_r S x y) hn9.2
  exact W.widen (k := 1) (n := 6) (Nat.le_of_ble_eq_true rfl) (Nat.le_of_ble_eq_true rfl) (W.iret (v := _) hx hb hr (fun t9 ht9 hW9 => ⟨⟨_, ((Z, (outc O (reZ S x y).1 (reZ S x y).2.1), U, (upO (upO X 0 (((X 0) + 1) % 8)) 1 (k1Z (X 1))), (reZ S x y).2.2, (reZ S x y).2.2, P, I, V, N, Y, (upQ Q (X 0) S))), rfl, ⟨hn9.1.trans (congrArg zI (hoc.2.trans (ansK_0 hoc.1).symm)), ⟨rfl, if_pos hoc.1, if_pos hoc.1, rfl, rfl, ⟨hln, htx, hkv⟩, hu0, hY⟩⟩, by rw [ht9]; exact hP, by rw [hAe]; exact hD⟩, hS.F ht9⟩) hS.2.2 dL_renew_6)

theorem wqL_passMonths : (Jvm.Cond.codeWith ({ cls := "BenchBrokerLaw", name := "passMonths", desc := "(LBenchBroker;I)I" } : Jvm.MethodName) method_34_code (3 : Nat) (Option.some Jvm.ClassFile.FieldType.int) [((0 : Nat), (5 : Nat), (6 : Nat), (22 : Nat))]) ∈ GW := tq_4 62 rfl rfl
set_option maxHeartbeats 4000000 in
set_option maxRecDepth 100000 in
/-- the law's passMonths -/
theorem w_passMonths (l : Launch) (dg : va_G) (ck : Nat → ClassId) (ka : Nat → Nat) (ad ra : Nat → Nat → Nat) (S : St) (X : Nat → Int) (Q : Nat → St) (P : St) (zs : Int) (b : BU) (x : Int) (sz : Nat) {n : Int} (hκ : KI n S X Q P zs) (hR : RO S X Q P zs b) (hM9 : n + 99 ≤ 4000000) (rg_x : -2147483648 ≤ x ∧ x < 2147483648) (hst : l.stackTraces = false) : Met l yL_passMonths (.codeWith yL_passMonths cL_passMonths 3 (some .int) [(0, 5, 6, 22)] :: GW) ({ frames := 8, cells := 1, slots := 6, locals := 151 }) (va_Pc [.ref ((ad 7) 0), .int (zI x)] (wrK dg ck ka sz (brkU ck ka ad ra b))) (va_Qi (fun r (u : BU) => r = zI (ansK (elZ S x)) ∧ RO (elZ S x).2.2 (phX X (elZ S x).1) (phQ Q X S (elZ S x).1) P zs u) (fun u t9 => wrQ dg sz (brkU ck ka ad ra b) (brkU ck ka ad ra u) t9) (va_A (brkU ck ka ad ra b) sz)) 1 6 (va_A (brkU ck ka ad ra b) sz) := by
  obtain ⟨Z, O, U, X', S', T, P', I, V, N, Y, Q'⟩ := b
  obtain ⟨e1, e2, e3, e4, e5, ⟨hln, htx, hkv⟩, hu0, hY⟩ := hR
  have e1 : S = S' := e1
  have e2 : X = X' := e2
  have e3 : Q = Q' := e3
  have e4 : P = P' := e4
  have e5 : zs = Z 0 := e5
  subst e1 e2 e3 e4 e5
  have hln : 0 ≤ I 0 0 ∧ I 0 0 ≤ 60 := hln
  have htx : ∀ i, 0 ≤ i → i < 60 → 0 ≤ I 1 i ∧ I 1 i ≤ 126 := htx
  have hkv : 0 ≤ I 0 2 ∧ I 0 2 ≤ 9 := hkv
  have hu0 : 0 ≤ U 0 ∧ U 0 ≤ 16 := hu0
  have hY : y7Z Y := hY
  obtain ⟨⟨hV, hV2⟩, ⟨hn, hz⟩, hq10, hhist, hz0, hp10, hsn⟩ := id hκ
  have hI := hV.bd
  have hs10 : ∀ i, 0 ≤ S 10 i ∧ S 10 i ≤ 1 := hI.2.2.2.2.2.2.2.2.2.2.2.2.2.1
  refine x_ofWH (cc := cL_passMonths) (maxL := 3) (ret := (some .int)) (by decide) rfl ?_
  intro p e s m args below meth c s₁ B hml htab hv
  obtain ⟨rfl, ⟨hsz, hP, hK, hD0⟩, hC⟩ := hv
  have hx := B.exec
  have hb := B.bytes
  have hr := B.returns
  have hts := atoms_spec (ws := .codeWith yL_passMonths cL_passMonths 3 (some .int) [(0, 5, 6, 22)] :: GW) B.pre
  have htg : ∀ w ∈ GW, w.before _ s = true := fun w h => hts w (List.mem_cons_of_mem _ h)
  have hown : s.vm.findClass RL = some m.cls := findClass_of_methodNamed B.named
  have hlocks := B.notSynchronized
  subst hsz
  have hD := hD0.self (sz := s.heap.size)
  generalize hAe : va_A (brkU ck ka ad ra (Z, O, U, X, S, T, P, I, V, N, Y, Q)) s.heap.size = A at hD hC ⊢
  have hA : ∀ q : Nat, s.heap.size ≤ q → A q := fun q h => by rw [← hAe]; exact Or.inr h
  have hS : va_S A s.heap s.heap [] := va_S.rf
  have hP : va_P dg vwCl (brkW ck ka ad ra Z O U X S T P I V N Y Q) s.heap := hP
  have hD : va_D A (brkW ck ka ad ra Z O U X S T P I V N Y Q) := hD
  have hl := lv_entry ([.ref ((ad 7) 0), .int (zI x)]) (n := 3) (Nat.le_of_ble_eq_true rfl)
  rw [lg_entry_eq]
  generalize (lg_sl ([.ref ((ad 7) 0), .int (zI x)]) ++ List.replicate (3 - (lg_sl ([.ref ((ad 7) 0), .int (zI x)])).length) Slot.unset).toArray = ls at hl ⊢
  have hl : lv_has ls 3 [(0, .ref ((ad 7) 0)), (1, .int (zI x))] := hl
  refine lv_aload_n hx hb dL_passMonths_0 rfl (lv_at hl 0 rfl) ?_
  refine lv_iload_n hx hb dL_passMonths_1 rfl (lv_at hl 1 rfl) ?_
  refine xl_calli0 (M := brkW ck ka ad ra Z O U X S T P I V N Y Q) (Mf := fun u : Unit => brkW ck ka ad ra Z (outc O (elZ S x).1 (elZ S x).2.1) U (upO (upO X 0 (((X 0) + 1) % 8)) 1 (k1Z (X 1))) (elZ S x).2.2 (elZ S x).2.2 P I V N Y (upQ Q (X 0) S)) (MX := fun u : Unit => brkW ck ka ad ra (if (outc O (elZ S x).1 (elZ S x).2.1) 0 = 3 then (upO (upO (upO Z 1 ((outc O (elZ S x).1 (elZ S x).2.1) 2)) 2 ((outc O (elZ S x).1 (elZ S x).2.1) 3)) 3 0) else Z) (outc O (elZ S x).1 (elZ S x).2.1) U X S (elZ S x).2.2 P I V N Y Q) hP hD hS hA (fun hPm hDm => vx_runV (As := [.int (zI x)]) (rest := []) ⟨hx, hb, hml, hown, htg⟩ (x_passMonths l dg ck ka ad ra Z O U X S T P I V N Y Q x _ hV hM9 hn hz rg_x hst) (cwV 1 htg (gwV wq_783 wq_784 wq_785 wq_1 wq_786) rfl rfl rfl (by decide +kernel) ⟨Nat.le_of_ble_eq_true rfl, Nat.le_of_ble_eq_true rfl⟩) (wrK_preV hK hPm hDm hC hS hA 0 10 rfl rfl) rfl rfl hl.1 rfl (lv_room (Nat.le_of_ble_eq_true rfl)) dL_passMonths_2 ⟨Nat.le_of_ble_eq_true rfl, Nat.le_of_ble_eq_true rfl⟩) (fun E9 ce9 q9 u9 H locs hE9 hP hD hS g1 g2 g3 => ?_) (fun r9 u9 H locs hn9 hP hD hS => ?_)
  · rcases hE9 with ⟨rfl, hc⟩ | ⟨rfl, hc⟩ | ⟨rfl, hc⟩
    · exact absurd (outc_1 hc) (by rcases el_c S x with h | h <;> rw [h] <;> decide)
    · refine vx_catch (own := RL) (name := "java/lang/IllegalArgumentException") hown [] ⟨0, 5, 6, 22⟩ [] (by rw [htab]; rfl) (fun z hz => absurd hz List.not_mem_nil) (by decide) (by decide) (htg _ wq_566) (va_Nw.use rfl (hC.nw (w := .castable "java/lang/IllegalArgumentException" "java/lang/IllegalArgumentException") (by decide +kernel))) g1 g2 g3 ?_
      refine W.eq (g2 := F0 m 6 ls [.ref q9]) rfl ?_
      refine lv_astore_n (lv' := [(2, .ref q9), (0, .ref ((ad 7) 0)), (1, .int (zI x))]) hx hb dL_passMonths_6 rfl hl (by decide) rfl (fun ls hl => ?_)
      refine x_bipush hx hb dL_passMonths_7 (by decide) ?_
      have hcc := outc_2 hc
      have hne : (elZ S x).1 ≠ 0 := by omega
      exact W.widen (k := 1) (n := 6) (Nat.le_of_ble_eq_true rfl) (Nat.le_of_ble_eq_true rfl) (W.iret (v := _) hx hb hr (fun t9 ht9 hW9 => ⟨⟨_, (((if (outc O (elZ S x).1 (elZ S x).2.1) 0 = 3 then (upO (upO (upO Z 1 ((outc O (elZ S x).1 (elZ S x).2.1) 2)) 2 ((outc O (elZ S x).1 (elZ S x).2.1) 3)) 3 0) else Z), (outc O (elZ S x).1 (elZ S x).2.1), U, X, S, (elZ S x).2.2, P, I, V, N, Y, Q)), rfl, ⟨congrArg zI (ansK_2 hcc).symm, ⟨(actZ_k (S := S) (k := 9) (a := x) (b := 0) (d := 0) hne), if_neg hne, if_neg hne, rfl, zkt_0 Z _, ⟨hln, htx, hkv⟩, hu0, hY⟩⟩, by rw [ht9]; exact hP, by rw [hAe]; exact hD⟩, hS.F ht9⟩) hS.2.2 dL_passMonths_9)
    · exact absurd (outc_4 (elZ_r S x).1 hc) (by rcases el_c S x with h | h <;> rw [h] <;> decide)
  have hP : va_P dg vwCl (brkW ck ka ad ra Z (outc O (elZ S x).1 (elZ S x).2.1) U (upO (upO X 0 (((X 0) + 1) % 8)) 1 (k1Z (X 1))) (elZ S x).2.2 (elZ S x).2.2 P I V N Y (upQ Q (X 0) S)) H := hP
  have hD : va_D A (brkW ck ka ad ra Z (outc O (elZ S x).1 (elZ S x).2.1) U (upO (upO X 0 (((X 0) + 1) % 8)) 1 (k1Z (X 1))) (elZ S x).2.2 (elZ S x).2.2 P I V N Y (upQ Q (X 0) S)) := hD
  have hoc := outc_c0 (elZ_r S x) hn9.2
  exact W.widen (k := 1) (n := 6) (Nat.le_of_ble_eq_true rfl) (Nat.le_of_ble_eq_true rfl) (W.iret (v := _) hx hb hr (fun t9 ht9 hW9 => ⟨⟨_, ((Z, (outc O (elZ S x).1 (elZ S x).2.1), U, (upO (upO X 0 (((X 0) + 1) % 8)) 1 (k1Z (X 1))), (elZ S x).2.2, (elZ S x).2.2, P, I, V, N, Y, (upQ Q (X 0) S))), rfl, ⟨hn9.1.trans (congrArg zI (hoc.2.trans (ansK_0 hoc.1).symm)), ⟨rfl, if_pos hoc.1, if_pos hoc.1, rfl, rfl, ⟨hln, htx, hkv⟩, hu0, hY⟩⟩, by rw [ht9]; exact hP, by rw [hAe]; exact hD⟩, hS.F ht9⟩) hS.2.2 dL_passMonths_5)
