/-! the law: its own methods -/

theorem wqL_addBench : (Jvm.Cond.codeWith ({ cls := "BenchBrokerLaw", name := "addBench", desc := "(LBenchBroker;III[J)I" } : Jvm.MethodName) method_3_code (6 : Nat) (Option.some Jvm.ClassFile.FieldType.int) [((0 : Nat), (12 : Nat), (15 : Nat), (13 : Nat)), ((0 : Nat), (12 : Nat), (19 : Nat), (15 : Nat)), ((0 : Nat), (12 : Nat), (23 : Nat), (17 : Nat))]) ∈ GW := tq_3 33 rfl rfl
set_option maxHeartbeats 4000000 in
set_option maxRecDepth 100000 in
/-- the law's addBench -/
theorem w_addBench (l : Launch) (dg : va_G) (ck : Nat → ClassId) (ka : Nat → Nat) (ad ra : Nat → Nat → Nat) (Z O U X : Nat → Int) (S T P I : St) (V N Y : Int → Int) (Q : Nat → St) (oa : Nat) (D : Nat → Int64) (x y z : Int) (sz : Nat) {Mx : Int} (hV : Inv Mx S) (hM9 : Mx + 99 ≤ 4000000) (hn : 0 ≤ X 0 ∧ X 0 < 8) (hz : 0 ≤ X 1 ∧ X 1 ≤ 8) (rg_x : -2147483648 ≤ x ∧ x < 2147483648) (rg_y : -2147483648 ≤ y ∧ y < 2147483648) (rg_z : -2147483648 ≤ z ∧ z < 2147483648) (hst : l.stackTraces = false) : Met l yL_addBench (.codeWith yL_addBench cL_addBench 6 (some .int) [(0, 12, 15, 13), (0, 12, 19, 15), (0, 12, 23, 17)] :: GW) ({ frames := 8, cells := 1, slots := 6, locals := 153 }) (va_Pc [.ref ((ad 7) 0), .int (zI x), .int (zI y), .int (zI z), .ref oa] (wrK dg ck ka sz (brkW ck ka ad ra Z O U X S T P I V N Y Q ++ lngC ck oa D))) (va_Qi (fun r (u : BU × (Nat → Int64)) => (r = zI 0 ∧ ∃ r1 : Int32, (r1 = zI ((outc O (pbZ S x y z).1 (pbZ S x y z).2.1) 1) ∧ (outc O (pbZ S x y z).1 (pbZ S x y z).2.1) 0 = 0) ∧ u.1 = (Z, (outc O (pbZ S x y z).1 (pbZ S x y z).2.1), U, (upO (upO X 0 (((X 0) + 1) % 8)) 1 (k1Z (X 1))), (pbZ S x y z).2.2, (pbZ S x y z).2.2, P, I, V, N, Y, (upQ Q (X 0) S)) ∧ u.2 0 = r1.toInt64) ∨ (r = zI 1 ∧ ((outc O (pbZ S x y z).1 (pbZ S x y z).2.1) 0 = 1) ∧ u.1 = ((if (outc O (pbZ S x y z).1 (pbZ S x y z).2.1) 0 = 3 then (upO (upO (upO Z 1 ((outc O (pbZ S x y z).1 (pbZ S x y z).2.1) 2)) 2 ((outc O (pbZ S x y z).1 (pbZ S x y z).2.1) 3)) 3 0) else Z), (outc O (pbZ S x y z).1 (pbZ S x y z).2.1), U, X, S, (pbZ S x y z).2.2, P, I, V, N, Y, Q)) ∨ (r = zI 2 ∧ ((outc O (pbZ S x y z).1 (pbZ S x y z).2.1) 0 = 2) ∧ u.1 = ((if (outc O (pbZ S x y z).1 (pbZ S x y z).2.1) 0 = 3 then (upO (upO (upO Z 1 ((outc O (pbZ S x y z).1 (pbZ S x y z).2.1) 2)) 2 ((outc O (pbZ S x y z).1 (pbZ S x y z).2.1) 3)) 3 0) else Z), (outc O (pbZ S x y z).1 (pbZ S x y z).2.1), U, X, S, (pbZ S x y z).2.2, P, I, V, N, Y, Q)) ∨ (r = zI 3 ∧ ((outc O (pbZ S x y z).1 (pbZ S x y z).2.1) 0 = 3) ∧ u.1 = ((if (outc O (pbZ S x y z).1 (pbZ S x y z).2.1) 0 = 3 then (upO (upO (upO Z 1 ((outc O (pbZ S x y z).1 (pbZ S x y z).2.1) 2)) 2 ((outc O (pbZ S x y z).1 (pbZ S x y z).2.1) 3)) 3 0) else Z), (outc O (pbZ S x y z).1 (pbZ S x y z).2.1), U, X, S, (pbZ S x y z).2.2, P, I, V, N, Y, Q))) (fun u t9 => wrQ dg sz (brkW ck ka ad ra Z O U X S T P I V N Y Q ++ lngC ck oa D) (brkU ck ka ad ra u.1 ++ lngC ck oa u.2) t9) (va_A (brkW ck ka ad ra Z O U X S T P I V N Y Q ++ lngC ck oa D) sz)) 1 6 (va_A (brkW ck ka ad ra Z O U X S T P I V N Y Q ++ lngC ck oa D) sz) := by
  refine x_ofWH (cc := cL_addBench) (maxL := 6) (ret := (some .int)) (by decide) rfl ?_
  intro p e s m args below meth c s₁ B hml htab hv
  obtain ⟨rfl, ⟨hsz, hP, hK, hD0⟩, hC⟩ := hv
  have hx := B.exec
  have hb := B.bytes
  have hr := B.returns
  have hts := atoms_spec (ws := .codeWith yL_addBench cL_addBench 6 (some .int) [(0, 12, 15, 13), (0, 12, 19, 15), (0, 12, 23, 17)] :: GW) B.pre
  have htg : ∀ w ∈ GW, w.before _ s = true := fun w h => hts w (List.mem_cons_of_mem _ h)
  have hown : s.vm.findClass RL = some m.cls := findClass_of_methodNamed B.named
  have hlocks := B.notSynchronized
  subst hsz
  have hD := hD0.self (sz := s.heap.size)
  generalize hAe : va_A (brkW ck ka ad ra Z O U X S T P I V N Y Q ++ lngC ck oa D) s.heap.size = A at hD hC ⊢
  have hA : ∀ q : Nat, s.heap.size ≤ q → A q := fun q h => by rw [← hAe]; exact Or.inr h
  have hS : va_S A s.heap s.heap [] := va_S.rf
  have hP : va_P dg vwCl (brkW ck ka ad ra Z O U X S T P I V N Y Q ++ lngC ck oa D) s.heap := hP
  have hl := lv_entry ([.ref ((ad 7) 0), .int (zI x), .int (zI y), .int (zI z), .ref oa]) (n := 6) (Nat.le_of_ble_eq_true rfl)
  rw [lg_entry_eq]
  generalize (lg_sl ([.ref ((ad 7) 0), .int (zI x), .int (zI y), .int (zI z), .ref oa]) ++ List.replicate (6 - (lg_sl ([.ref ((ad 7) 0), .int (zI x), .int (zI y), .int (zI z), .ref oa])).length) Slot.unset).toArray = ls at hl ⊢
  have hl : lv_has ls 6 [(0, .ref ((ad 7) 0)), (1, .int (zI x)), (2, .int (zI y)), (3, .int (zI z)), (4, .ref oa)] := hl
  refine lv_aload hx hb dL_addBench_0 (lv_at hl 4 rfl) ?_
  refine x_iconst hx hb dL_addBench_2 ?_
  refine lv_aload_n hx hb dL_addBench_3 rfl (lv_at hl 0 rfl) ?_
  refine lv_iload_n hx hb dL_addBench_4 rfl (lv_at hl 1 rfl) ?_
  refine lv_iload_n hx hb dL_addBench_5 rfl (lv_at hl 2 rfl) ?_
  refine lv_iload_n hx hb dL_addBench_6 rfl (lv_at hl 3 rfl) ?_
  refine xl_calli (M := brkW ck ka ad ra Z O U X S T P I V N Y Q) (N := lngC ck oa D) (Mf := fun u : Unit => brkW ck ka ad ra Z (outc O (pbZ S x y z).1 (pbZ S x y z).2.1) U (upO (upO X 0 (((X 0) + 1) % 8)) 1 (k1Z (X 1))) (pbZ S x y z).2.2 (pbZ S x y z).2.2 P I V N Y (upQ Q (X 0) S)) (MX := fun u : Unit => brkW ck ka ad ra (if (outc O (pbZ S x y z).1 (pbZ S x y z).2.1) 0 = 3 then (upO (upO (upO Z 1 ((outc O (pbZ S x y z).1 (pbZ S x y z).2.1) 2)) 2 ((outc O (pbZ S x y z).1 (pbZ S x y z).2.1) 3)) 3 0) else Z) (outc O (pbZ S x y z).1 (pbZ S x y z).2.1) U X S (pbZ S x y z).2.2 P I V N Y Q) hP hD hS hA (fun hPm hDm => vx_runV (As := [.int (zI x), .int (zI y), .int (zI z)]) (rest := [.int (zI 0), .ref oa]) ⟨hx, hb, hml, hown, htg⟩ (x_addBench l dg ck ka ad ra Z O U X S T P I V N Y Q x y z _ hV hM9 hn hz rg_x rg_y rg_z hst) (cwV 3 htg (gwV wq_596 wq_597 wq_598 wq_1 wq_599) rfl rfl rfl (by decide +kernel) ⟨Nat.le_of_ble_eq_true rfl, Nat.le_of_ble_eq_true rfl⟩) (wrK_preV hK hPm hDm hC hS hA 0 10 rfl rfl) rfl rfl hl.1 rfl (lv_room (Nat.le_of_ble_eq_true rfl)) dL_addBench_7 ⟨Nat.le_of_ble_eq_true rfl, Nat.le_of_ble_eq_true rfl⟩) (fun E9 ce9 q9 u9 H locs hE9 hP hD hS g1 g2 g3 => ?_) (fun r9 u9 H locs hn9 hP hD hS => ?_)
  · rcases hE9 with ⟨rfl, hc⟩ | ⟨rfl, hc⟩ | ⟨rfl, hc⟩
    · refine vx_catch (own := RL) (name := "java/lang/IndexOutOfBoundsException") hown [] ⟨0, 12, 15, 13⟩ [⟨0, 12, 19, 15⟩, ⟨0, 12, 23, 17⟩] (by rw [htab]; rfl) (fun z hz => absurd hz List.not_mem_nil) (by decide) (by decide) (htg _ wq_514) (va_Nw.use rfl (hC.nw (w := .castable "java/lang/IndexOutOfBoundsException" "java/lang/IndexOutOfBoundsException") (by decide +kernel))) g1 g2 g3 ?_
      refine W.eq (g2 := F0 m 15 ls [.ref q9]) rfl ?_
      refine lv_astore (lv' := [(5, .ref q9), (0, .ref ((ad 7) 0)), (1, .int (zI x)), (2, .int (zI y)), (3, .int (zI z)), (4, .ref oa)]) hx hb dL_addBench_15 hl (by decide) rfl (fun ls hl => ?_)
      refine x_iconst hx hb dL_addBench_17 ?_
      exact W.widen (k := 1) (n := 6) (Nat.le_of_ble_eq_true rfl) (Nat.le_of_ble_eq_true rfl) (W.iret (v := _) hx hb hr (fun t9 ht9 hW9 => ⟨⟨_, (((if (outc O (pbZ S x y z).1 (pbZ S x y z).2.1) 0 = 3 then (upO (upO (upO Z 1 ((outc O (pbZ S x y z).1 (pbZ S x y z).2.1) 2)) 2 ((outc O (pbZ S x y z).1 (pbZ S x y z).2.1) 3)) 3 0) else Z), (outc O (pbZ S x y z).1 (pbZ S x y z).2.1), U, X, S, (pbZ S x y z).2.2, P, I, V, N, Y, Q), D), rfl, (Or.inr (Or.inl ⟨rfl, hc, rfl⟩)), by rw [ht9]; exact hP, by rw [hAe]; exact hD⟩, hS.F ht9⟩) hS.2.2 dL_addBench_18)
    · refine vx_catch (own := RL) (name := "java/lang/IllegalArgumentException") hown [⟨0, 12, 15, 13⟩] ⟨0, 12, 19, 15⟩ [⟨0, 12, 23, 17⟩] (by rw [htab]; rfl) (by intro z hz; simp only [List.mem_cons, List.not_mem_nil, or_false] at hz; subst hz; exact Or.inr ⟨by decide, "java/lang/IndexOutOfBoundsException", htg _ wq_514, hC.nc (by decide +kernel)⟩) (by decide) (by decide) (htg _ wq_594) (va_Nw.use rfl (hC.nw (w := .castable "java/lang/IllegalArgumentException" "java/lang/IllegalArgumentException") (by decide +kernel))) g1 g2 g3 ?_
      refine W.eq (g2 := F0 m 19 ls [.ref q9]) rfl ?_
      refine lv_astore (lv' := [(5, .ref q9), (0, .ref ((ad 7) 0)), (1, .int (zI x)), (2, .int (zI y)), (3, .int (zI z)), (4, .ref oa)]) hx hb dL_addBench_19 hl (by decide) rfl (fun ls hl => ?_)
      refine x_iconst hx hb dL_addBench_21 ?_
      exact W.widen (k := 1) (n := 6) (Nat.le_of_ble_eq_true rfl) (Nat.le_of_ble_eq_true rfl) (W.iret (v := _) hx hb hr (fun t9 ht9 hW9 => ⟨⟨_, (((if (outc O (pbZ S x y z).1 (pbZ S x y z).2.1) 0 = 3 then (upO (upO (upO Z 1 ((outc O (pbZ S x y z).1 (pbZ S x y z).2.1) 2)) 2 ((outc O (pbZ S x y z).1 (pbZ S x y z).2.1) 3)) 3 0) else Z), (outc O (pbZ S x y z).1 (pbZ S x y z).2.1), U, X, S, (pbZ S x y z).2.2, P, I, V, N, Y, Q), D), rfl, (Or.inr (Or.inr (Or.inl ⟨rfl, hc, rfl⟩))), by rw [ht9]; exact hP, by rw [hAe]; exact hD⟩, hS.F ht9⟩) hS.2.2 dL_addBench_22)
    · refine vx_catch (own := RL) (name := "java/lang/UnsupportedOperationException") hown [⟨0, 12, 15, 13⟩, ⟨0, 12, 19, 15⟩] ⟨0, 12, 23, 17⟩ [] (by rw [htab]; rfl) (by intro z hz; simp only [List.mem_cons, List.not_mem_nil, or_false] at hz; exact hz.elim (fun e9 => by subst e9; exact Or.inr ⟨by decide, "java/lang/IndexOutOfBoundsException", htg _ wq_514, hC.nc (by decide +kernel)⟩) (fun e9 => by subst e9; exact Or.inr ⟨by decide, "java/lang/IllegalArgumentException", htg _ wq_594, hC.nc (by decide +kernel)⟩)) (by decide) (by decide) (htg _ wq_595) (va_Nw.use rfl (hC.nw (w := .castable "java/lang/UnsupportedOperationException" "java/lang/UnsupportedOperationException") (by decide +kernel))) g1 g2 g3 ?_
      refine W.eq (g2 := F0 m 23 ls [.ref q9]) rfl ?_
      refine lv_astore (lv' := [(5, .ref q9), (0, .ref ((ad 7) 0)), (1, .int (zI x)), (2, .int (zI y)), (3, .int (zI z)), (4, .ref oa)]) hx hb dL_addBench_23 hl (by decide) rfl (fun ls hl => ?_)
      refine x_iconst hx hb dL_addBench_25 ?_
      exact W.widen (k := 1) (n := 6) (Nat.le_of_ble_eq_true rfl) (Nat.le_of_ble_eq_true rfl) (W.iret (v := _) hx hb hr (fun t9 ht9 hW9 => ⟨⟨_, (((if (outc O (pbZ S x y z).1 (pbZ S x y z).2.1) 0 = 3 then (upO (upO (upO Z 1 ((outc O (pbZ S x y z).1 (pbZ S x y z).2.1) 2)) 2 ((outc O (pbZ S x y z).1 (pbZ S x y z).2.1) 3)) 3 0) else Z), (outc O (pbZ S x y z).1 (pbZ S x y z).2.1), U, X, S, (pbZ S x y z).2.2, P, I, V, N, Y, Q), D), rfl, (Or.inr (Or.inr (Or.inr ⟨rfl, hc, rfl⟩))), by rw [ht9]; exact hP, by rw [hAe]; exact hD⟩, hS.F ht9⟩) hS.2.2 dL_addBench_26)
  have hP : va_P dg vwCl (brkW ck ka ad ra Z (outc O (pbZ S x y z).1 (pbZ S x y z).2.1) U (upO (upO X 0 (((X 0) + 1) % 8)) 1 (k1Z (X 1))) (pbZ S x y z).2.2 (pbZ S x y z).2.2 P I V N Y (upQ Q (X 0) S) ++ lngC ck oa D) H := hP
  have hD : va_D A (brkW ck ka ad ra Z (outc O (pbZ S x y z).1 (pbZ S x y z).2.1) U (upO (upO X 0 (((X 0) + 1) % 8)) 1 (k1Z (X 1))) (pbZ S x y z).2.2 (pbZ S x y z).2.2 P I V N Y (upQ Q (X 0) S) ++ lngC ck oa D) := hD
  refine lv_i2l hx hb dL_addBench_10 rfl ?_
  refine va_last hx hb hK hP hD hS 166 5 rfl rfl (zI_in (z := 0) (by decide) (by decide)) dL_addBench_11 (fun H locs hP hD hS => ?_)
  have hP : va_P dg vwCl (brkW ck ka ad ra Z (outc O (pbZ S x y z).1 (pbZ S x y z).2.1) U (upO (upO X 0 (((X 0) + 1) % 8)) 1 (k1Z (X 1))) (pbZ S x y z).2.2 (pbZ S x y z).2.2 P I V N Y (upQ Q (X 0) S) ++ lngC ck oa (vp_updL D (zI 0).toNatClampNeg r9.toInt64)) H := hP
  have hD : va_D A (brkW ck ka ad ra Z (outc O (pbZ S x y z).1 (pbZ S x y z).2.1) U (upO (upO X 0 (((X 0) + 1) % 8)) 1 (k1Z (X 1))) (pbZ S x y z).2.2 (pbZ S x y z).2.2 P I V N Y (upQ Q (X 0) S) ++ lngC ck oa (vp_updL D (zI 0).toNatClampNeg r9.toInt64)) := hD
  refine lv_goto (tgt := 27) hx hb dL_addBench_12 (by decide) ?_
  refine x_iconst hx hb dL_addBench_27 ?_
  exact W.widen (k := 1) (n := 6) (Nat.le_of_ble_eq_true rfl) (Nat.le_of_ble_eq_true rfl) (W.iret (v := _) hx hb hr (fun t9 ht9 hW9 => ⟨⟨_, ((Z, (outc O (pbZ S x y z).1 (pbZ S x y z).2.1), U, (upO (upO X 0 (((X 0) + 1) % 8)) 1 (k1Z (X 1))), (pbZ S x y z).2.2, (pbZ S x y z).2.2, P, I, V, N, Y, (upQ Q (X 0) S)), (vp_updL D (zI 0).toNatClampNeg r9.toInt64)), rfl, (Or.inl ⟨rfl, r9, hn9, rfl, rfl⟩), by rw [ht9]; exact hP, by rw [hAe]; exact hD⟩, hS.F ht9⟩) hS.2.2 dL_addBench_28)

theorem wqL_setRent : (Jvm.Cond.codeWith ({ cls := "BenchBrokerLaw", name := "setRent", desc := "(LBenchBroker;II[J)I" } : Jvm.MethodName) method_4_code (5 : Nat) (Option.some Jvm.ClassFile.FieldType.int) [((0 : Nat), (10 : Nat), (13 : Nat), (13 : Nat)), ((0 : Nat), (10 : Nat), (17 : Nat), (15 : Nat))]) ∈ GW := tq_3 214 rfl rfl
set_option maxHeartbeats 4000000 in
set_option maxRecDepth 100000 in
/-- the law's setRent -/
theorem w_setRent (l : Launch) (dg : va_G) (ck : Nat → ClassId) (ka : Nat → Nat) (ad ra : Nat → Nat → Nat) (Z O U X : Nat → Int) (S T P I : St) (V N Y : Int → Int) (Q : Nat → St) (oa : Nat) (D : Nat → Int64) (x y : Int) (sz : Nat) {Mx : Int} (hV : Inv Mx S) (hM9 : Mx + 99 ≤ 4000000) (hn : 0 ≤ X 0 ∧ X 0 < 8) (hz : 0 ≤ X 1 ∧ X 1 ≤ 8) (rg_x : -2147483648 ≤ x ∧ x < 2147483648) (rg_y : -2147483648 ≤ y ∧ y < 2147483648) (hst : l.stackTraces = false) : Met l yL_setRent (.codeWith yL_setRent cL_setRent 5 (some .int) [(0, 10, 13, 13), (0, 10, 17, 15)] :: GW) ({ frames := 8, cells := 1, slots := 6, locals := 152 }) (va_Pc [.ref ((ad 7) 0), .int (zI x), .int (zI y), .ref oa] (wrK dg ck ka sz (brkW ck ka ad ra Z O U X S T P I V N Y Q ++ lngC ck oa D))) (va_Qi (fun r (u : BU × (Nat → Int64)) => (r = zI 0 ∧ ∃ r1 : Int32, (r1 = zI ((outc O (crZ S x y).1 (crZ S x y).2.1) 1) ∧ (outc O (crZ S x y).1 (crZ S x y).2.1) 0 = 0) ∧ u.1 = (Z, (outc O (crZ S x y).1 (crZ S x y).2.1), U, (upO (upO X 0 (((X 0) + 1) % 8)) 1 (k1Z (X 1))), (crZ S x y).2.2, (crZ S x y).2.2, P, I, V, N, Y, (upQ Q (X 0) S)) ∧ u.2 0 = r1.toInt64) ∨ (r = zI 1 ∧ ((outc O (crZ S x y).1 (crZ S x y).2.1) 0 = 1) ∧ u.1 = ((if (outc O (crZ S x y).1 (crZ S x y).2.1) 0 = 3 then (upO (upO (upO Z 1 ((outc O (crZ S x y).1 (crZ S x y).2.1) 2)) 2 ((outc O (crZ S x y).1 (crZ S x y).2.1) 3)) 3 0) else Z), (outc O (crZ S x y).1 (crZ S x y).2.1), U, X, S, (crZ S x y).2.2, P, I, V, N, Y, Q)) ∨ (r = zI 2 ∧ ((outc O (crZ S x y).1 (crZ S x y).2.1) 0 = 2) ∧ u.1 = ((if (outc O (crZ S x y).1 (crZ S x y).2.1) 0 = 3 then (upO (upO (upO Z 1 ((outc O (crZ S x y).1 (crZ S x y).2.1) 2)) 2 ((outc O (crZ S x y).1 (crZ S x y).2.1) 3)) 3 0) else Z), (outc O (crZ S x y).1 (crZ S x y).2.1), U, X, S, (crZ S x y).2.2, P, I, V, N, Y, Q))) (fun u t9 => wrQ dg sz (brkW ck ka ad ra Z O U X S T P I V N Y Q ++ lngC ck oa D) (brkU ck ka ad ra u.1 ++ lngC ck oa u.2) t9) (va_A (brkW ck ka ad ra Z O U X S T P I V N Y Q ++ lngC ck oa D) sz)) 1 6 (va_A (brkW ck ka ad ra Z O U X S T P I V N Y Q ++ lngC ck oa D) sz) := by
  refine x_ofWH (cc := cL_setRent) (maxL := 5) (ret := (some .int)) (by decide) rfl ?_
  intro p e s m args below meth c s₁ B hml htab hv
  obtain ⟨rfl, ⟨hsz, hP, hK, hD0⟩, hC⟩ := hv
  have hx := B.exec
  have hb := B.bytes
  have hr := B.returns
  have hts := atoms_spec (ws := .codeWith yL_setRent cL_setRent 5 (some .int) [(0, 10, 13, 13), (0, 10, 17, 15)] :: GW) B.pre
  have htg : ∀ w ∈ GW, w.before _ s = true := fun w h => hts w (List.mem_cons_of_mem _ h)
  have hown : s.vm.findClass RL = some m.cls := findClass_of_methodNamed B.named
  have hlocks := B.notSynchronized
  subst hsz
  have hD := hD0.self (sz := s.heap.size)
  generalize hAe : va_A (brkW ck ka ad ra Z O U X S T P I V N Y Q ++ lngC ck oa D) s.heap.size = A at hD hC ⊢
  have hA : ∀ q : Nat, s.heap.size ≤ q → A q := fun q h => by rw [← hAe]; exact Or.inr h
  have hS : va_S A s.heap s.heap [] := va_S.rf
  have hP : va_P dg vwCl (brkW ck ka ad ra Z O U X S T P I V N Y Q ++ lngC ck oa D) s.heap := hP
  have hl := lv_entry ([.ref ((ad 7) 0), .int (zI x), .int (zI y), .ref oa]) (n := 5) (Nat.le_of_ble_eq_true rfl)
  rw [lg_entry_eq]
  generalize (lg_sl ([.ref ((ad 7) 0), .int (zI x), .int (zI y), .ref oa]) ++ List.replicate (5 - (lg_sl ([.ref ((ad 7) 0), .int (zI x), .int (zI y), .ref oa])).length) Slot.unset).toArray = ls at hl ⊢
  have hl : lv_has ls 5 [(0, .ref ((ad 7) 0)), (1, .int (zI x)), (2, .int (zI y)), (3, .ref oa)] := hl
  refine lv_aload_n hx hb dL_setRent_0 rfl (lv_at hl 3 rfl) ?_
  refine x_iconst hx hb dL_setRent_1 ?_
  refine lv_aload_n hx hb dL_setRent_2 rfl (lv_at hl 0 rfl) ?_
  refine lv_iload_n hx hb dL_setRent_3 rfl (lv_at hl 1 rfl) ?_
  refine lv_iload_n hx hb dL_setRent_4 rfl (lv_at hl 2 rfl) ?_
  refine xl_calli (M := brkW ck ka ad ra Z O U X S T P I V N Y Q) (N := lngC ck oa D) (Mf := fun u : Unit => brkW ck ka ad ra Z (outc O (crZ S x y).1 (crZ S x y).2.1) U (upO (upO X 0 (((X 0) + 1) % 8)) 1 (k1Z (X 1))) (crZ S x y).2.2 (crZ S x y).2.2 P I V N Y (upQ Q (X 0) S)) (MX := fun u : Unit => brkW ck ka ad ra (if (outc O (crZ S x y).1 (crZ S x y).2.1) 0 = 3 then (upO (upO (upO Z 1 ((outc O (crZ S x y).1 (crZ S x y).2.1) 2)) 2 ((outc O (crZ S x y).1 (crZ S x y).2.1) 3)) 3 0) else Z) (outc O (crZ S x y).1 (crZ S x y).2.1) U X S (crZ S x y).2.2 P I V N Y Q) hP hD hS hA (fun hPm hDm => vx_runV (As := [.int (zI x), .int (zI y)]) (rest := [.int (zI 0), .ref oa]) ⟨hx, hb, hml, hown, htg⟩ (x_setRent l dg ck ka ad ra Z O U X S T P I V N Y Q x y _ hV hM9 hn hz rg_x rg_y hst) (cwV 2 htg (gwV wq_695 wq_696 wq_697 wq_1 wq_698) rfl rfl rfl (by decide +kernel) ⟨Nat.le_of_ble_eq_true rfl, Nat.le_of_ble_eq_true rfl⟩) (wrK_preV hK hPm hDm hC hS hA 0 10 rfl rfl) rfl rfl hl.1 rfl (lv_room (Nat.le_of_ble_eq_true rfl)) dL_setRent_5 ⟨Nat.le_of_ble_eq_true rfl, Nat.le_of_ble_eq_true rfl⟩) (fun E9 ce9 q9 u9 H locs hE9 hP hD hS g1 g2 g3 => ?_) (fun r9 u9 H locs hn9 hP hD hS => ?_)
  · rcases hE9 with ⟨rfl, hc⟩ | ⟨rfl, hc⟩ | ⟨rfl, hc⟩
    · refine vx_catch (own := RL) (name := "java/lang/IndexOutOfBoundsException") hown [] ⟨0, 10, 13, 13⟩ [⟨0, 10, 17, 15⟩] (by rw [htab]; rfl) (fun z hz => absurd hz List.not_mem_nil) (by decide) (by decide) (htg _ wq_514) (va_Nw.use rfl (hC.nw (w := .castable "java/lang/IndexOutOfBoundsException" "java/lang/IndexOutOfBoundsException") (by decide +kernel))) g1 g2 g3 ?_
      refine W.eq (g2 := F0 m 13 ls [.ref q9]) rfl ?_
      refine lv_astore (lv' := [(4, .ref q9), (0, .ref ((ad 7) 0)), (1, .int (zI x)), (2, .int (zI y)), (3, .ref oa)]) hx hb dL_setRent_13 hl (by decide) rfl (fun ls hl => ?_)
      refine x_iconst hx hb dL_setRent_15 ?_
      exact W.widen (k := 1) (n := 6) (Nat.le_of_ble_eq_true rfl) (Nat.le_of_ble_eq_true rfl) (W.iret (v := _) hx hb hr (fun t9 ht9 hW9 => ⟨⟨_, (((if (outc O (crZ S x y).1 (crZ S x y).2.1) 0 = 3 then (upO (upO (upO Z 1 ((outc O (crZ S x y).1 (crZ S x y).2.1) 2)) 2 ((outc O (crZ S x y).1 (crZ S x y).2.1) 3)) 3 0) else Z), (outc O (crZ S x y).1 (crZ S x y).2.1), U, X, S, (crZ S x y).2.2, P, I, V, N, Y, Q), D), rfl, (Or.inr (Or.inl ⟨rfl, hc, rfl⟩)), by rw [ht9]; exact hP, by rw [hAe]; exact hD⟩, hS.F ht9⟩) hS.2.2 dL_setRent_16)
    · refine vx_catch (own := RL) (name := "java/lang/IllegalArgumentException") hown [⟨0, 10, 13, 13⟩] ⟨0, 10, 17, 15⟩ [] (by rw [htab]; rfl) (by intro z hz; simp only [List.mem_cons, List.not_mem_nil, or_false] at hz; subst hz; exact Or.inr ⟨by decide, "java/lang/IndexOutOfBoundsException", htg _ wq_514, hC.nc (by decide +kernel)⟩) (by decide) (by decide) (htg _ wq_594) (va_Nw.use rfl (hC.nw (w := .castable "java/lang/IllegalArgumentException" "java/lang/IllegalArgumentException") (by decide +kernel))) g1 g2 g3 ?_
      refine W.eq (g2 := F0 m 17 ls [.ref q9]) rfl ?_
      refine lv_astore (lv' := [(4, .ref q9), (0, .ref ((ad 7) 0)), (1, .int (zI x)), (2, .int (zI y)), (3, .ref oa)]) hx hb dL_setRent_17 hl (by decide) rfl (fun ls hl => ?_)
      refine x_iconst hx hb dL_setRent_19 ?_
      exact W.widen (k := 1) (n := 6) (Nat.le_of_ble_eq_true rfl) (Nat.le_of_ble_eq_true rfl) (W.iret (v := _) hx hb hr (fun t9 ht9 hW9 => ⟨⟨_, (((if (outc O (crZ S x y).1 (crZ S x y).2.1) 0 = 3 then (upO (upO (upO Z 1 ((outc O (crZ S x y).1 (crZ S x y).2.1) 2)) 2 ((outc O (crZ S x y).1 (crZ S x y).2.1) 3)) 3 0) else Z), (outc O (crZ S x y).1 (crZ S x y).2.1), U, X, S, (crZ S x y).2.2, P, I, V, N, Y, Q), D), rfl, (Or.inr (Or.inr ⟨rfl, hc, rfl⟩)), by rw [ht9]; exact hP, by rw [hAe]; exact hD⟩, hS.F ht9⟩) hS.2.2 dL_setRent_20)
    · exact absurd (outc_4 (crZ_r S x y).1 hc) (Int.not_lt.mpr (cr_c S x y))
  have hP : va_P dg vwCl (brkW ck ka ad ra Z (outc O (crZ S x y).1 (crZ S x y).2.1) U (upO (upO X 0 (((X 0) + 1) % 8)) 1 (k1Z (X 1))) (crZ S x y).2.2 (crZ S x y).2.2 P I V N Y (upQ Q (X 0) S) ++ lngC ck oa D) H := hP
  have hD : va_D A (brkW ck ka ad ra Z (outc O (crZ S x y).1 (crZ S x y).2.1) U (upO (upO X 0 (((X 0) + 1) % 8)) 1 (k1Z (X 1))) (crZ S x y).2.2 (crZ S x y).2.2 P I V N Y (upQ Q (X 0) S) ++ lngC ck oa D) := hD
  refine lv_i2l hx hb dL_setRent_8 rfl ?_
  refine va_last hx hb hK hP hD hS 166 5 rfl rfl (zI_in (z := 0) (by decide) (by decide)) dL_setRent_9 (fun H locs hP hD hS => ?_)
  have hP : va_P dg vwCl (brkW ck ka ad ra Z (outc O (crZ S x y).1 (crZ S x y).2.1) U (upO (upO X 0 (((X 0) + 1) % 8)) 1 (k1Z (X 1))) (crZ S x y).2.2 (crZ S x y).2.2 P I V N Y (upQ Q (X 0) S) ++ lngC ck oa (vp_updL D (zI 0).toNatClampNeg r9.toInt64)) H := hP
  have hD : va_D A (brkW ck ka ad ra Z (outc O (crZ S x y).1 (crZ S x y).2.1) U (upO (upO X 0 (((X 0) + 1) % 8)) 1 (k1Z (X 1))) (crZ S x y).2.2 (crZ S x y).2.2 P I V N Y (upQ Q (X 0) S) ++ lngC ck oa (vp_updL D (zI 0).toNatClampNeg r9.toInt64)) := hD
  refine lv_goto (tgt := 21) hx hb dL_setRent_10 (by decide) ?_
  refine x_iconst hx hb dL_setRent_21 ?_
  exact W.widen (k := 1) (n := 6) (Nat.le_of_ble_eq_true rfl) (Nat.le_of_ble_eq_true rfl) (W.iret (v := _) hx hb hr (fun t9 ht9 hW9 => ⟨⟨_, ((Z, (outc O (crZ S x y).1 (crZ S x y).2.1), U, (upO (upO X 0 (((X 0) + 1) % 8)) 1 (k1Z (X 1))), (crZ S x y).2.2, (crZ S x y).2.2, P, I, V, N, Y, (upQ Q (X 0) S)), (vp_updL D (zI 0).toNatClampNeg r9.toInt64)), rfl, (Or.inl ⟨rfl, r9, hn9, rfl, rfl⟩), by rw [ht9]; exact hP, by rw [hAe]; exact hD⟩, hS.F ht9⟩) hS.2.2 dL_setRent_22)

theorem wqL_addFountain : (Jvm.Cond.codeWith ({ cls := "BenchBrokerLaw", name := "addFountain", desc := "(LBenchBroker;III[J)I" } : Jvm.MethodName) method_5_code (6 : Nat) (Option.some Jvm.ClassFile.FieldType.int) [((0 : Nat), (12 : Nat), (15 : Nat), (13 : Nat)), ((0 : Nat), (12 : Nat), (19 : Nat), (15 : Nat)), ((0 : Nat), (12 : Nat), (23 : Nat), (17 : Nat))]) ∈ GW := tq_3 229 rfl rfl
set_option maxHeartbeats 4000000 in
set_option maxRecDepth 100000 in
/-- the law's addFountain -/
theorem w_addFountain (l : Launch) (dg : va_G) (ck : Nat → ClassId) (ka : Nat → Nat) (ad ra : Nat → Nat → Nat) (Z O U X : Nat → Int) (S T P I : St) (V N Y : Int → Int) (Q : Nat → St) (oa : Nat) (D : Nat → Int64) (x y z : Int) (sz : Nat) {Mx : Int} (hV : Inv Mx S) (hM9 : Mx + 99 ≤ 4000000) (hn : 0 ≤ X 0 ∧ X 0 < 8) (hz : 0 ≤ X 1 ∧ X 1 ≤ 8) (rg_x : -2147483648 ≤ x ∧ x < 2147483648) (rg_y : -2147483648 ≤ y ∧ y < 2147483648) (rg_z : -2147483648 ≤ z ∧ z < 2147483648) (hst : l.stackTraces = false) : Met l yL_addFountain (.codeWith yL_addFountain cL_addFountain 6 (some .int) [(0, 12, 15, 13), (0, 12, 19, 15), (0, 12, 23, 17)] :: GW) ({ frames := 8, cells := 1, slots := 6, locals := 153 }) (va_Pc [.ref ((ad 7) 0), .int (zI x), .int (zI y), .int (zI z), .ref oa] (wrK dg ck ka sz (brkW ck ka ad ra Z O U X S T P I V N Y Q ++ lngC ck oa D))) (va_Qi (fun r (u : BU × (Nat → Int64)) => (r = zI 0 ∧ ∃ r1 : Int32, (r1 = zI ((outc O (pfZ S x y z).1 (pfZ S x y z).2.1) 1) ∧ (outc O (pfZ S x y z).1 (pfZ S x y z).2.1) 0 = 0) ∧ u.1 = (Z, (outc O (pfZ S x y z).1 (pfZ S x y z).2.1), U, (upO (upO X 0 (((X 0) + 1) % 8)) 1 (k1Z (X 1))), (pfZ S x y z).2.2, (pfZ S x y z).2.2, P, I, V, N, Y, (upQ Q (X 0) S)) ∧ u.2 0 = r1.toInt64) ∨ (r = zI 1 ∧ ((outc O (pfZ S x y z).1 (pfZ S x y z).2.1) 0 = 1) ∧ u.1 = ((if (outc O (pfZ S x y z).1 (pfZ S x y z).2.1) 0 = 3 then (upO (upO (upO Z 1 ((outc O (pfZ S x y z).1 (pfZ S x y z).2.1) 2)) 2 ((outc O (pfZ S x y z).1 (pfZ S x y z).2.1) 3)) 3 0) else Z), (outc O (pfZ S x y z).1 (pfZ S x y z).2.1), U, X, S, (pfZ S x y z).2.2, P, I, V, N, Y, Q)) ∨ (r = zI 2 ∧ ((outc O (pfZ S x y z).1 (pfZ S x y z).2.1) 0 = 2) ∧ u.1 = ((if (outc O (pfZ S x y z).1 (pfZ S x y z).2.1) 0 = 3 then (upO (upO (upO Z 1 ((outc O (pfZ S x y z).1 (pfZ S x y z).2.1) 2)) 2 ((outc O (pfZ S x y z).1 (pfZ S x y z).2.1) 3)) 3 0) else Z), (outc O (pfZ S x y z).1 (pfZ S x y z).2.1), U, X, S, (pfZ S x y z).2.2, P, I, V, N, Y, Q)) ∨ (r = zI 3 ∧ ((outc O (pfZ S x y z).1 (pfZ S x y z).2.1) 0 = 3) ∧ u.1 = ((if (outc O (pfZ S x y z).1 (pfZ S x y z).2.1) 0 = 3 then (upO (upO (upO Z 1 ((outc O (pfZ S x y z).1 (pfZ S x y z).2.1) 2)) 2 ((outc O (pfZ S x y z).1 (pfZ S x y z).2.1) 3)) 3 0) else Z), (outc O (pfZ S x y z).1 (pfZ S x y z).2.1), U, X, S, (pfZ S x y z).2.2, P, I, V, N, Y, Q))) (fun u t9 => wrQ dg sz (brkW ck ka ad ra Z O U X S T P I V N Y Q ++ lngC ck oa D) (brkU ck ka ad ra u.1 ++ lngC ck oa u.2) t9) (va_A (brkW ck ka ad ra Z O U X S T P I V N Y Q ++ lngC ck oa D) sz)) 1 6 (va_A (brkW ck ka ad ra Z O U X S T P I V N Y Q ++ lngC ck oa D) sz) := by
  refine x_ofWH (cc := cL_addFountain) (maxL := 6) (ret := (some .int)) (by decide) rfl ?_
  intro p e s m args below meth c s₁ B hml htab hv
  obtain ⟨rfl, ⟨hsz, hP, hK, hD0⟩, hC⟩ := hv
  have hx := B.exec
  have hb := B.bytes
  have hr := B.returns
  have hts := atoms_spec (ws := .codeWith yL_addFountain cL_addFountain 6 (some .int) [(0, 12, 15, 13), (0, 12, 19, 15), (0, 12, 23, 17)] :: GW) B.pre
  have htg : ∀ w ∈ GW, w.before _ s = true := fun w h => hts w (List.mem_cons_of_mem _ h)
  have hown : s.vm.findClass RL = some m.cls := findClass_of_methodNamed B.named
  have hlocks := B.notSynchronized
  subst hsz
  have hD := hD0.self (sz := s.heap.size)
  generalize hAe : va_A (brkW ck ka ad ra Z O U X S T P I V N Y Q ++ lngC ck oa D) s.heap.size = A at hD hC ⊢
  have hA : ∀ q : Nat, s.heap.size ≤ q → A q := fun q h => by rw [← hAe]; exact Or.inr h
  have hS : va_S A s.heap s.heap [] := va_S.rf
  have hP : va_P dg vwCl (brkW ck ka ad ra Z O U X S T P I V N Y Q ++ lngC ck oa D) s.heap := hP
  have hl := lv_entry ([.ref ((ad 7) 0), .int (zI x), .int (zI y), .int (zI z), .ref oa]) (n := 6) (Nat.le_of_ble_eq_true rfl)
  rw [lg_entry_eq]
  generalize (lg_sl ([.ref ((ad 7) 0), .int (zI x), .int (zI y), .int (zI z), .ref oa]) ++ List.replicate (6 - (lg_sl ([.ref ((ad 7) 0), .int (zI x), .int (zI y), .int (zI z), .ref oa])).length) Slot.unset).toArray = ls at hl ⊢
  have hl : lv_has ls 6 [(0, .ref ((ad 7) 0)), (1, .int (zI x)), (2, .int (zI y)), (3, .int (zI z)), (4, .ref oa)] := hl
  refine lv_aload hx hb dL_addFountain_0 (lv_at hl 4 rfl) ?_
  refine x_iconst hx hb dL_addFountain_2 ?_
  refine lv_aload_n hx hb dL_addFountain_3 rfl (lv_at hl 0 rfl) ?_
  refine lv_iload_n hx hb dL_addFountain_4 rfl (lv_at hl 1 rfl) ?_
  refine lv_iload_n hx hb dL_addFountain_5 rfl (lv_at hl 2 rfl) ?_
  refine lv_iload_n hx hb dL_addFountain_6 rfl (lv_at hl 3 rfl) ?_
  refine xl_calli (M := brkW ck ka ad ra Z O U X S T P I V N Y Q) (N := lngC ck oa D) (Mf := fun u : Unit => brkW ck ka ad ra Z (outc O (pfZ S x y z).1 (pfZ S x y z).2.1) U (upO (upO X 0 (((X 0) + 1) % 8)) 1 (k1Z (X 1))) (pfZ S x y z).2.2 (pfZ S x y z).2.2 P I V N Y (upQ Q (X 0) S)) (MX := fun u : Unit => brkW ck ka ad ra (if (outc O (pfZ S x y z).1 (pfZ S x y z).2.1) 0 = 3 then (upO (upO (upO Z 1 ((outc O (pfZ S x y z).1 (pfZ S x y z).2.1) 2)) 2 ((outc O (pfZ S x y z).1 (pfZ S x y z).2.1) 3)) 3 0) else Z) (outc O (pfZ S x y z).1 (pfZ S x y z).2.1) U X S (pfZ S x y z).2.2 P I V N Y Q) hP hD hS hA (fun hPm hDm => vx_runV (As := [.int (zI x), .int (zI y), .int (zI z)]) (rest := [.int (zI 0), .ref oa]) ⟨hx, hb, hml, hown, htg⟩ (x_addFountain l dg ck ka ad ra Z O U X S T P I V N Y Q x y z _ hV hM9 hn hz rg_x rg_y rg_z hst) (cwV 3 htg (gwV wq_710 wq_711 wq_712 wq_1 wq_713) rfl rfl rfl (by decide +kernel) ⟨Nat.le_of_ble_eq_true rfl, Nat.le_of_ble_eq_true rfl⟩) (wrK_preV hK hPm hDm hC hS hA 0 10 rfl rfl) rfl rfl hl.1 rfl (lv_room (Nat.le_of_ble_eq_true rfl)) dL_addFountain_7 ⟨Nat.le_of_ble_eq_true rfl, Nat.le_of_ble_eq_true rfl⟩) (fun E9 ce9 q9 u9 H locs hE9 hP hD hS g1 g2 g3 => ?_) (fun r9 u9 H locs hn9 hP hD hS => ?_)
  · rcases hE9 with ⟨rfl, hc⟩ | ⟨rfl, hc⟩ | ⟨rfl, hc⟩
    · refine vx_catch (own := RL) (name := "java/lang/IndexOutOfBoundsException") hown [] ⟨0, 12, 15, 13⟩ [⟨0, 12, 19, 15⟩, ⟨0, 12, 23, 17⟩] (by rw [htab]; rfl) (fun z hz => absurd hz List.not_mem_nil) (by decide) (by decide) (htg _ wq_514) (va_Nw.use rfl (hC.nw (w := .castable "java/lang/IndexOutOfBoundsException" "java/lang/IndexOutOfBoundsException") (by decide +kernel))) g1 g2 g3 ?_
      refine W.eq (g2 := F0 m 15 ls [.ref q9]) rfl ?_
      refine lv_astore (lv' := [(5, .ref q9), (0, .ref ((ad 7) 0)), (1, .int (zI x)), (2, .int (zI y)), (3, .int (zI z)), (4, .ref oa)]) hx hb dL_addFountain_15 hl (by decide) rfl (fun ls hl => ?_)
      refine x_iconst hx hb dL_addFountain_17 ?_
      exact W.widen (k := 1) (n := 6) (Nat.le_of_ble_eq_true rfl) (Nat.le_of_ble_eq_true rfl) (W.iret (v := _) hx hb hr (fun t9 ht9 hW9 => ⟨⟨_, (((if (outc O (pfZ S x y z).1 (pfZ S x y z).2.1) 0 = 3 then (upO (upO (upO Z 1 ((outc O (pfZ S x y z).1 (pfZ S x y z).2.1) 2)) 2 ((outc O (pfZ S x y z).1 (pfZ S x y z).2.1) 3)) 3 0) else Z), (outc O (pfZ S x y z).1 (pfZ S x y z).2.1), U, X, S, (pfZ S x y z).2.2, P, I, V, N, Y, Q), D), rfl, (Or.inr (Or.inl ⟨rfl, hc, rfl⟩)), by rw [ht9]; exact hP, by rw [hAe]; exact hD⟩, hS.F ht9⟩) hS.2.2 dL_addFountain_18)
    · refine vx_catch (own := RL) (name := "java/lang/IllegalArgumentException") hown [⟨0, 12, 15, 13⟩] ⟨0, 12, 19, 15⟩ [⟨0, 12, 23, 17⟩] (by rw [htab]; rfl) (by intro z hz; simp only [List.mem_cons, List.not_mem_nil, or_false] at hz; subst hz; exact Or.inr ⟨by decide, "java/lang/IndexOutOfBoundsException", htg _ wq_514, hC.nc (by decide +kernel)⟩) (by decide) (by decide) (htg _ wq_594) (va_Nw.use rfl (hC.nw (w := .castable "java/lang/IllegalArgumentException" "java/lang/IllegalArgumentException") (by decide +kernel))) g1 g2 g3 ?_
      refine W.eq (g2 := F0 m 19 ls [.ref q9]) rfl ?_
      refine lv_astore (lv' := [(5, .ref q9), (0, .ref ((ad 7) 0)), (1, .int (zI x)), (2, .int (zI y)), (3, .int (zI z)), (4, .ref oa)]) hx hb dL_addFountain_19 hl (by decide) rfl (fun ls hl => ?_)
      refine x_iconst hx hb dL_addFountain_21 ?_
      exact W.widen (k := 1) (n := 6) (Nat.le_of_ble_eq_true rfl) (Nat.le_of_ble_eq_true rfl) (W.iret (v := _) hx hb hr (fun t9 ht9 hW9 => ⟨⟨_, (((if (outc O (pfZ S x y z).1 (pfZ S x y z).2.1) 0 = 3 then (upO (upO (upO Z 1 ((outc O (pfZ S x y z).1 (pfZ S x y z).2.1) 2)) 2 ((outc O (pfZ S x y z).1 (pfZ S x y z).2.1) 3)) 3 0) else Z), (outc O (pfZ S x y z).1 (pfZ S x y z).2.1), U, X, S, (pfZ S x y z).2.2, P, I, V, N, Y, Q), D), rfl, (Or.inr (Or.inr (Or.inl ⟨rfl, hc, rfl⟩))), by rw [ht9]; exact hP, by rw [hAe]; exact hD⟩, hS.F ht9⟩) hS.2.2 dL_addFountain_22)
    · refine vx_catch (own := RL) (name := "java/lang/UnsupportedOperationException") hown [⟨0, 12, 15, 13⟩, ⟨0, 12, 19, 15⟩] ⟨0, 12, 23, 17⟩ [] (by rw [htab]; rfl) (by intro z hz; simp only [List.mem_cons, List.not_mem_nil, or_false] at hz; exact hz.elim (fun e9 => by subst e9; exact Or.inr ⟨by decide, "java/lang/IndexOutOfBoundsException", htg _ wq_514, hC.nc (by decide +kernel)⟩) (fun e9 => by subst e9; exact Or.inr ⟨by decide, "java/lang/IllegalArgumentException", htg _ wq_594, hC.nc (by decide +kernel)⟩)) (by decide) (by decide) (htg _ wq_595) (va_Nw.use rfl (hC.nw (w := .castable "java/lang/UnsupportedOperationException" "java/lang/UnsupportedOperationException") (by decide +kernel))) g1 g2 g3 ?_
      refine W.eq (g2 := F0 m 23 ls [.ref q9]) rfl ?_
      refine lv_astore (lv' := [(5, .ref q9), (0, .ref ((ad 7) 0)), (1, .int (zI x)), (2, .int (zI y)), (3, .int (zI z)), (4, .ref oa)]) hx hb dL_addFountain_23 hl (by decide) rfl (fun ls hl => ?_)
      refine x_iconst hx hb dL_addFountain_25 ?_
      exact W.widen (k := 1) (n := 6) (Nat.le_of_ble_eq_true rfl) (Nat.le_of_ble_eq_true rfl) (W.iret (v := _) hx hb hr (fun t9 ht9 hW9 => ⟨⟨_, (((if (outc O (pfZ S x y z).1 (pfZ S x y z).2.1) 0 = 3 then (upO (upO (upO Z 1 ((outc O (pfZ S x y z).1 (pfZ S x y z).2.1) 2)) 2 ((outc O (pfZ S x y z).1 (pfZ S x y z).2.1) 3)) 3 0) else Z), (outc O (pfZ S x y z).1 (pfZ S x y z).2.1), U, X, S, (pfZ S x y z).2.2, P, I, V, N, Y, Q), D), rfl, (Or.inr (Or.inr (Or.inr ⟨rfl, hc, rfl⟩))), by rw [ht9]; exact hP, by rw [hAe]; exact hD⟩, hS.F ht9⟩) hS.2.2 dL_addFountain_26)
  have hP : va_P dg vwCl (brkW ck ka ad ra Z (outc O (pfZ S x y z).1 (pfZ S x y z).2.1) U (upO (upO X 0 (((X 0) + 1) % 8)) 1 (k1Z (X 1))) (pfZ S x y z).2.2 (pfZ S x y z).2.2 P I V N Y (upQ Q (X 0) S) ++ lngC ck oa D) H := hP
  have hD : va_D A (brkW ck ka ad ra Z (outc O (pfZ S x y z).1 (pfZ S x y z).2.1) U (upO (upO X 0 (((X 0) + 1) % 8)) 1 (k1Z (X 1))) (pfZ S x y z).2.2 (pfZ S x y z).2.2 P I V N Y (upQ Q (X 0) S) ++ lngC ck oa D) := hD
  refine lv_i2l hx hb dL_addFountain_10 rfl ?_
  refine va_last hx hb hK hP hD hS 166 5 rfl rfl (zI_in (z := 0) (by decide) (by decide)) dL_addFountain_11 (fun H locs hP hD hS => ?_)
  have hP : va_P dg vwCl (brkW ck ka ad ra Z (outc O (pfZ S x y z).1 (pfZ S x y z).2.1) U (upO (upO X 0 (((X 0) + 1) % 8)) 1 (k1Z (X 1))) (pfZ S x y z).2.2 (pfZ S x y z).2.2 P I V N Y (upQ Q (X 0) S) ++ lngC ck oa (vp_updL D (zI 0).toNatClampNeg r9.toInt64)) H := hP
  have hD : va_D A (brkW ck ka ad ra Z (outc O (pfZ S x y z).1 (pfZ S x y z).2.1) U (upO (upO X 0 (((X 0) + 1) % 8)) 1 (k1Z (X 1))) (pfZ S x y z).2.2 (pfZ S x y z).2.2 P I V N Y (upQ Q (X 0) S) ++ lngC ck oa (vp_updL D (zI 0).toNatClampNeg r9.toInt64)) := hD
  refine lv_goto (tgt := 27) hx hb dL_addFountain_12 (by decide) ?_
  refine x_iconst hx hb dL_addFountain_27 ?_
  exact W.widen (k := 1) (n := 6) (Nat.le_of_ble_eq_true rfl) (Nat.le_of_ble_eq_true rfl) (W.iret (v := _) hx hb hr (fun t9 ht9 hW9 => ⟨⟨_, ((Z, (outc O (pfZ S x y z).1 (pfZ S x y z).2.1), U, (upO (upO X 0 (((X 0) + 1) % 8)) 1 (k1Z (X 1))), (pfZ S x y z).2.2, (pfZ S x y z).2.2, P, I, V, N, Y, (upQ Q (X 0) S)), (vp_updL D (zI 0).toNatClampNeg r9.toInt64)), rfl, (Or.inl ⟨rfl, r9, hn9, rfl, rfl⟩), by rw [ht9]; exact hP, by rw [hAe]; exact hD⟩, hS.F ht9⟩) hS.2.2 dL_addFountain_28)

theorem wqL_setLoudness : (Jvm.Cond.codeWith ({ cls := "BenchBrokerLaw", name := "setLoudness", desc := "(LBenchBroker;II[J)I" } : Jvm.MethodName) method_6_code (5 : Nat) (Option.some Jvm.ClassFile.FieldType.int) [((0 : Nat), (10 : Nat), (13 : Nat), (13 : Nat)), ((0 : Nat), (10 : Nat), (17 : Nat), (15 : Nat))]) ∈ GW := tq_4 0 rfl rfl
set_option maxHeartbeats 4000000 in
set_option maxRecDepth 100000 in
/-- the law's setLoudness -/
theorem w_setLoudness (l : Launch) (dg : va_G) (ck : Nat → ClassId) (ka : Nat → Nat) (ad ra : Nat → Nat → Nat) (Z O U X : Nat → Int) (S T P I : St) (V N Y : Int → Int) (Q : Nat → St) (oa : Nat) (D : Nat → Int64) (x y : Int) (sz : Nat) {Mx : Int} (hV : Inv Mx S) (hM9 : Mx + 99 ≤ 4000000) (hn : 0 ≤ X 0 ∧ X 0 < 8) (hz : 0 ≤ X 1 ∧ X 1 ≤ 8) (rg_x : -2147483648 ≤ x ∧ x < 2147483648) (rg_y : -2147483648 ≤ y ∧ y < 2147483648) (hst : l.stackTraces = false) : Met l yL_setLoudness (.codeWith yL_setLoudness cL_setLoudness 5 (some .int) [(0, 10, 13, 13), (0, 10, 17, 15)] :: GW) ({ frames := 8, cells := 1, slots := 6, locals := 152 }) (va_Pc [.ref ((ad 7) 0), .int (zI x), .int (zI y), .ref oa] (wrK dg ck ka sz (brkW ck ka ad ra Z O U X S T P I V N Y Q ++ lngC ck oa D))) (va_Qi (fun r (u : BU × (Nat → Int64)) => (r = zI 0 ∧ ∃ r1 : Int32, (r1 = zI ((outc O (clZ S x y).1 (clZ S x y).2.1) 1) ∧ (outc O (clZ S x y).1 (clZ S x y).2.1) 0 = 0) ∧ u.1 = (Z, (outc O (clZ S x y).1 (clZ S x y).2.1), U, (upO (upO X 0 (((X 0) + 1) % 8)) 1 (k1Z (X 1))), (clZ S x y).2.2, (clZ S x y).2.2, P, I, V, N, Y, (upQ Q (X 0) S)) ∧ u.2 0 = r1.toInt64) ∨ (r = zI 1 ∧ ((outc O (clZ S x y).1 (clZ S x y).2.1) 0 = 1) ∧ u.1 = ((if (outc O (clZ S x y).1 (clZ S x y).2.1) 0 = 3 then (upO (upO (upO Z 1 ((outc O (clZ S x y).1 (clZ S x y).2.1) 2)) 2 ((outc O (clZ S x y).1 (clZ S x y).2.1) 3)) 3 0) else Z), (outc O (clZ S x y).1 (clZ S x y).2.1), U, X, S, (clZ S x y).2.2, P, I, V, N, Y, Q)) ∨ (r = zI 2 ∧ ((outc O (clZ S x y).1 (clZ S x y).2.1) 0 = 2) ∧ u.1 = ((if (outc O (clZ S x y).1 (clZ S x y).2.1) 0 = 3 then (upO (upO (upO Z 1 ((outc O (clZ S x y).1 (clZ S x y).2.1) 2)) 2 ((outc O (clZ S x y).1 (clZ S x y).2.1) 3)) 3 0) else Z), (outc O (clZ S x y).1 (clZ S x y).2.1), U, X, S, (clZ S x y).2.2, P, I, V, N, Y, Q))) (fun u t9 => wrQ dg sz (brkW ck ka ad ra Z O U X S T P I V N Y Q ++ lngC ck oa D) (brkU ck ka ad ra u.1 ++ lngC ck oa u.2) t9) (va_A (brkW ck ka ad ra Z O U X S T P I V N Y Q ++ lngC ck oa D) sz)) 1 6 (va_A (brkW ck ka ad ra Z O U X S T P I V N Y Q ++ lngC ck oa D) sz) := by
  refine x_ofWH (cc := cL_setLoudness) (maxL := 5) (ret := (some .int)) (by decide) rfl ?_
  intro p e s m args below meth c s₁ B hml htab hv
  obtain ⟨rfl, ⟨hsz, hP, hK, hD0⟩, hC⟩ := hv
  have hx := B.exec
  have hb := B.bytes
  have hr := B.returns
  have hts := atoms_spec (ws := .codeWith yL_setLoudness cL_setLoudness 5 (some .int) [(0, 10, 13, 13), (0, 10, 17, 15)] :: GW) B.pre
  have htg : ∀ w ∈ GW, w.before _ s = true := fun w h => hts w (List.mem_cons_of_mem _ h)
  have hown : s.vm.findClass RL = some m.cls := findClass_of_methodNamed B.named
  have hlocks := B.notSynchronized
  subst hsz
  have hD := hD0.self (sz := s.heap.size)
  generalize hAe : va_A (brkW ck ka ad ra Z O U X S T P I V N Y Q ++ lngC ck oa D) s.heap.size = A at hD hC ⊢
  have hA : ∀ q : Nat, s.heap.size ≤ q → A q := fun q h => by rw [← hAe]; exact Or.inr h
  have hS : va_S A s.heap s.heap [] := va_S.rf
  have hP : va_P dg vwCl (brkW ck ka ad ra Z O U X S T P I V N Y Q ++ lngC ck oa D) s.heap := hP
  have hl := lv_entry ([.ref ((ad 7) 0), .int (zI x), .int (zI y), .ref oa]) (n := 5) (Nat.le_of_ble_eq_true rfl)
  rw [lg_entry_eq]
  generalize (lg_sl ([.ref ((ad 7) 0), .int (zI x), .int (zI y), .ref oa]) ++ List.replicate (5 - (lg_sl ([.ref ((ad 7) 0), .int (zI x), .int (zI y), .ref oa])).length) Slot.unset).toArray = ls at hl ⊢
  have hl : lv_has ls 5 [(0, .ref ((ad 7) 0)), (1, .int (zI x)), (2, .int (zI y)), (3, .ref oa)] := hl
  refine lv_aload_n hx hb dL_setLoudness_0 rfl (lv_at hl 3 rfl) ?_
  refine x_iconst hx hb dL_setLoudness_1 ?_
  refine lv_aload_n hx hb dL_setLoudness_2 rfl (lv_at hl 0 rfl) ?_
  refine lv_iload_n hx hb dL_setLoudness_3 rfl (lv_at hl 1 rfl) ?_
  refine lv_iload_n hx hb dL_setLoudness_4 rfl (lv_at hl 2 rfl) ?_
  refine xl_calli (M := brkW ck ka ad ra Z O U X S T P I V N Y Q) (N := lngC ck oa D) (Mf := fun u : Unit => brkW ck ka ad ra Z (outc O (clZ S x y).1 (clZ S x y).2.1) U (upO (upO X 0 (((X 0) + 1) % 8)) 1 (k1Z (X 1))) (clZ S x y).2.2 (clZ S x y).2.2 P I V N Y (upQ Q (X 0) S)) (MX := fun u : Unit => brkW ck ka ad ra (if (outc O (clZ S x y).1 (clZ S x y).2.1) 0 = 3 then (upO (upO (upO Z 1 ((outc O (clZ S x y).1 (clZ S x y).2.1) 2)) 2 ((outc O (clZ S x y).1 (clZ S x y).2.1) 3)) 3 0) else Z) (outc O (clZ S x y).1 (clZ S x y).2.1) U X S (clZ S x y).2.2 P I V N Y Q) hP hD hS hA (fun hPm hDm => vx_runV (As := [.int (zI x), .int (zI y)]) (rest := [.int (zI 0), .ref oa]) ⟨hx, hb, hml, hown, htg⟩ (x_setLoudness l dg ck ka ad ra Z O U X S T P I V N Y Q x y _ hV hM9 hn hz rg_x rg_y hst) (cwV 2 htg (gwV wq_721 wq_722 wq_723 wq_1 wq_724) rfl rfl rfl (by decide +kernel) ⟨Nat.le_of_ble_eq_true rfl, Nat.le_of_ble_eq_true rfl⟩) (wrK_preV hK hPm hDm hC hS hA 0 10 rfl rfl) rfl rfl hl.1 rfl (lv_room (Nat.le_of_ble_eq_true rfl)) dL_setLoudness_5 ⟨Nat.le_of_ble_eq_true rfl, Nat.le_of_ble_eq_true rfl⟩) (fun E9 ce9 q9 u9 H locs hE9 hP hD hS g1 g2 g3 => ?_) (fun r9 u9 H locs hn9 hP hD hS => ?_)
  · rcases hE9 with ⟨rfl, hc⟩ | ⟨rfl, hc⟩ | ⟨rfl, hc⟩
    · refine vx_catch (own := RL) (name := "java/lang/IndexOutOfBoundsException") hown [] ⟨0, 10, 13, 13⟩ [⟨0, 10, 17, 15⟩] (by rw [htab]; rfl) (fun z hz => absurd hz List.not_mem_nil) (by decide) (by decide) (htg _ wq_514) (va_Nw.use rfl (hC.nw (w := .castable "java/lang/IndexOutOfBoundsException" "java/lang/IndexOutOfBoundsException") (by decide +kernel))) g1 g2 g3 ?_
      refine W.eq (g2 := F0 m 13 ls [.ref q9]) rfl ?_
      refine lv_astore (lv' := [(4, .ref q9), (0, .ref ((ad 7) 0)), (1, .int (zI x)), (2, .int (zI y)), (3, .ref oa)]) hx hb dL_setLoudness_13 hl (by decide) rfl (fun ls hl => ?_)
      refine x_iconst hx hb dL_setLoudness_15 ?_
      exact W.widen (k := 1) (n := 6) (Nat.le_of_ble_eq_true rfl) (Nat.le_of_ble_eq_true rfl) (W.iret (v := _) hx hb hr (fun t9 ht9 hW9 => ⟨⟨_, (((if (outc O (clZ S x y).1 (clZ S x y).2.1) 0 = 3 then (upO (upO (upO Z 1 ((outc O (clZ S x y).1 (clZ S x y).2.1) 2)) 2 ((outc O (clZ S x y).1 (clZ S x y).2.1) 3)) 3 0) else Z), (outc O (clZ S x y).1 (clZ S x y).2.1), U, X, S, (clZ S x y).2.2, P, I, V, N, Y, Q), D), rfl, (Or.inr (Or.inl ⟨rfl, hc, rfl⟩)), by rw [ht9]; exact hP, by rw [hAe]; exact hD⟩, hS.F ht9⟩) hS.2.2 dL_setLoudness_16)
    · refine vx_catch (own := RL) (name := "java/lang/IllegalArgumentException") hown [⟨0, 10, 13, 13⟩] ⟨0, 10, 17, 15⟩ [] (by rw [htab]; rfl) (by intro z hz; simp only [List.mem_cons, List.not_mem_nil, or_false] at hz; subst hz; exact Or.inr ⟨by decide, "java/lang/IndexOutOfBoundsException", htg _ wq_514, hC.nc (by decide +kernel)⟩) (by decide) (by decide) (htg _ wq_594) (va_Nw.use rfl (hC.nw (w := .castable "java/lang/IllegalArgumentException" "java/lang/IllegalArgumentException") (by decide +kernel))) g1 g2 g3 ?_
      refine W.eq (g2 := F0 m 17 ls [.ref q9]) rfl ?_
      refine lv_astore (lv' := [(4, .ref q9), (0, .ref ((ad 7) 0)), (1, .int (zI x)), (2, .int (zI y)), (3, .ref oa)]) hx hb dL_setLoudness_17 hl (by decide) rfl (fun ls hl => ?_)
      refine x_iconst hx hb dL_setLoudness_19 ?_
      exact W.widen (k := 1) (n := 6) (Nat.le_of_ble_eq_true rfl) (Nat.le_of_ble_eq_true rfl) (W.iret (v := _) hx hb hr (fun t9 ht9 hW9 => ⟨⟨_, (((if (outc O (clZ S x y).1 (clZ S x y).2.1) 0 = 3 then (upO (upO (upO Z 1 ((outc O (clZ S x y).1 (clZ S x y).2.1) 2)) 2 ((outc O (clZ S x y).1 (clZ S x y).2.1) 3)) 3 0) else Z), (outc O (clZ S x y).1 (clZ S x y).2.1), U, X, S, (clZ S x y).2.2, P, I, V, N, Y, Q), D), rfl, (Or.inr (Or.inr ⟨rfl, hc, rfl⟩)), by rw [ht9]; exact hP, by rw [hAe]; exact hD⟩, hS.F ht9⟩) hS.2.2 dL_setLoudness_20)
    · exact absurd (outc_4 (clZ_r S x y).1 hc) (Int.not_lt.mpr (cl_c S x y))
  have hP : va_P dg vwCl (brkW ck ka ad ra Z (outc O (clZ S x y).1 (clZ S x y).2.1) U (upO (upO X 0 (((X 0) + 1) % 8)) 1 (k1Z (X 1))) (clZ S x y).2.2 (clZ S x y).2.2 P I V N Y (upQ Q (X 0) S) ++ lngC ck oa D) H := hP
  have hD : va_D A (brkW ck ka ad ra Z (outc O (clZ S x y).1 (clZ S x y).2.1) U (upO (upO X 0 (((X 0) + 1) % 8)) 1 (k1Z (X 1))) (clZ S x y).2.2 (clZ S x y).2.2 P I V N Y (upQ Q (X 0) S) ++ lngC ck oa D) := hD
  refine lv_i2l hx hb dL_setLoudness_8 rfl ?_
  refine va_last hx hb hK hP hD hS 166 5 rfl rfl (zI_in (z := 0) (by decide) (by decide)) dL_setLoudness_9 (fun H locs hP hD hS => ?_)
  have hP : va_P dg vwCl (brkW ck ka ad ra Z (outc O (clZ S x y).1 (clZ S x y).2.1) U (upO (upO X 0 (((X 0) + 1) % 8)) 1 (k1Z (X 1))) (clZ S x y).2.2 (clZ S x y).2.2 P I V N Y (upQ Q (X 0) S) ++ lngC ck oa (vp_updL D (zI 0).toNatClampNeg r9.toInt64)) H := hP
  have hD : va_D A (brkW ck ka ad ra Z (outc O (clZ S x y).1 (clZ S x y).2.1) U (upO (upO X 0 (((X 0) + 1) % 8)) 1 (k1Z (X 1))) (clZ S x y).2.2 (clZ S x y).2.2 P I V N Y (upQ Q (X 0) S) ++ lngC ck oa (vp_updL D (zI 0).toNatClampNeg r9.toInt64)) := hD
  refine lv_goto (tgt := 21) hx hb dL_setLoudness_10 (by decide) ?_
  refine x_iconst hx hb dL_setLoudness_21 ?_
  exact W.widen (k := 1) (n := 6) (Nat.le_of_ble_eq_true rfl) (Nat.le_of_ble_eq_true rfl) (W.iret (v := _) hx hb hr (fun t9 ht9 hW9 => ⟨⟨_, ((Z, (outc O (clZ S x y).1 (clZ S x y).2.1), U, (upO (upO X 0 (((X 0) + 1) % 8)) 1 (k1Z (X 1))), (clZ S x y).2.2, (clZ S x y).2.2, P, I, V, N, Y, (upQ Q (X 0) S)), (vp_updL D (zI 0).toNatClampNeg r9.toInt64)), rfl, (Or.inl ⟨rfl, r9, hn9, rfl, rfl⟩), by rw [ht9]; exact hP, by rw [hAe]; exact hD⟩, hS.F ht9⟩) hS.2.2 dL_setLoudness_22)

theorem wqL_switchFountain : (Jvm.Cond.codeWith ({ cls := "BenchBrokerLaw", name := "switchFountain", desc := "(LBenchBroker;I[J)I" } : Jvm.MethodName) method_7_code (4 : Nat) (Option.some Jvm.ClassFile.FieldType.int) [((0 : Nat), (16 : Nat), (19 : Nat), (13 : Nat))]) ∈ GW := tq_4 15 rfl rfl
set_option maxHeartbeats 4000000 in
set_option maxRecDepth 100000 in
/-- the law's switchFountain -/
theorem w_switchFountain (l : Launch) (dg : va_G) (ck : Nat → ClassId) (ka : Nat → Nat) (ad ra : Nat → Nat → Nat) (Z O U X : Nat → Int) (S T P I : St) (V N Y : Int → Int) (Q : Nat → St) (oa : Nat) (D : Nat → Int64) (f : Int) (sz : Nat) {Mx : Int} (hV : Inv Mx S) (hM9 : Mx + 99 ≤ 4000000) (hn : 0 ≤ X 0 ∧ X 0 < 8) (hz : 0 ≤ X 1 ∧ X 1 ≤ 8) (rg_f : -2147483648 ≤ f ∧ f < 2147483648) (hst : l.stackTraces = false) : Met l yL_switchFountain (.codeWith yL_switchFountain cL_switchFountain 4 (some .int) [(0, 16, 19, 13)] :: GW) ({ frames := 8, cells := 1, slots := 6, locals := 151 }) (va_Pc [.ref ((ad 7) 0), .int (zI f), .ref oa] (wrK dg ck ka sz (brkW ck ka ad ra Z O U X S T P I V N Y Q ++ lngC ck oa D))) (va_Qi (fun r (u : BU × (Nat → Int64)) => (r = zI 0 ∧ ∃ r1 : Int32, (r1 = zI (bI ((outc O (tgZ S f).1 (tgZ S f).2.1) 1 = 1)) ∧ (outc O (tgZ S f).1 (tgZ S f).2.1) 0 = 0) ∧ u.1 = (Z, (outc O (tgZ S f).1 (tgZ S f).2.1), U, (upO (upO X 0 (((X 0) + 1) % 8)) 1 (k1Z (X 1))), (tgZ S f).2.2, (tgZ S f).2.2, P, I, V, N, Y, (upQ Q (X 0) S)) ∧ u.2 0 = r1.toInt64) ∨ (r = zI 1 ∧ ((outc O (tgZ S f).1 (tgZ S f).2.1) 0 = 1) ∧ u.1 = ((if (outc O (tgZ S f).1 (tgZ S f).2.1) 0 = 3 then (upO (upO (upO Z 1 ((outc O (tgZ S f).1 (tgZ S f).2.1) 2)) 2 ((outc O (tgZ S f).1 (tgZ S f).2.1) 3)) 3 0) else Z), (outc O (tgZ S f).1 (tgZ S f).2.1), U, X, S, (tgZ S f).2.2, P, I, V, N, Y, Q))) (fun u t9 => wrQ dg sz (brkW ck ka ad ra Z O U X S T P I V N Y Q ++ lngC ck oa D) (brkU ck ka ad ra u.1 ++ lngC ck oa u.2) t9) (va_A (brkW ck ka ad ra Z O U X S T P I V N Y Q ++ lngC ck oa D) sz)) 1 6 (va_A (brkW ck ka ad ra Z O U X S T P I V N Y Q ++ lngC ck oa D) sz) := by
  refine x_ofWH (cc := cL_switchFountain) (maxL := 4) (ret := (some .int)) (by decide) rfl ?_
  intro p e s m args below meth c s₁ B hml htab hv
  obtain ⟨rfl, ⟨hsz, hP, hK, hD0⟩, hC⟩ := hv
  have hx := B.exec
  have hb := B.bytes
  have hr := B.returns
  have hts := atoms_spec (ws := .codeWith yL_switchFountain cL_switchFountain 4 (some .int) [(0, 16, 19, 13)] :: GW) B.pre
  have htg : ∀ w ∈ GW, w.before _ s = true := fun w h => hts w (List.mem_cons_of_mem _ h)
  have hown : s.vm.findClass RL = some m.cls := findClass_of_methodNamed B.named
  have hlocks := B.notSynchronized
  subst hsz
  have hD := hD0.self (sz := s.heap.size)
  generalize hAe : va_A (brkW ck ka ad ra Z O U X S T P I V N Y Q ++ lngC ck oa D) s.heap.size = A at hD hC ⊢
  have hA : ∀ q : Nat, s.heap.size ≤ q → A q := fun q h => by rw [← hAe]; exact Or.inr h
  have hS : va_S A s.heap s.heap [] := va_S.rf
  have hP : va_P dg vwCl (brkW ck ka ad ra Z O U X S T P I V N Y Q ++ lngC ck oa D) s.heap := hP
  have hl := lv_entry ([.ref ((ad 7) 0), .int (zI f), .ref oa]) (n := 4) (Nat.le_of_ble_eq_true rfl)
  rw [lg_entry_eq]
  generalize (lg_sl ([.ref ((ad 7) 0), .int (zI f), .ref oa]) ++ List.replicate (4 - (lg_sl ([.ref ((ad 7) 0), .int (zI f), .ref oa])).length) Slot.unset).toArray = ls at hl ⊢
  have hl : lv_has ls 4 [(0, .ref ((ad 7) 0)), (1, .int (zI f)), (2, .ref oa)] := hl
  refine lv_aload_n hx hb dL_switchFountain_0 rfl (lv_at hl 2 rfl) ?_
  refine x_iconst hx hb dL_switchFountain_1 ?_
  refine lv_aload_n hx hb dL_switchFountain_2 rfl (lv_at hl 0 rfl) ?_
  refine lv_iload_n hx hb dL_switchFountain_3 rfl (lv_at hl 1 rfl) ?_
  refine xl_calli (M := brkW ck ka ad ra Z O U X S T P I V N Y Q) (N := lngC ck oa D) (Mf := fun u : Unit => brkW ck ka ad ra Z (outc O (tgZ S f).1 (tgZ S f).2.1) U (upO (upO X 0 (((X 0) + 1) % 8)) 1 (k1Z (X 1))) (tgZ S f).2.2 (tgZ S f).2.2 P I V N Y (upQ Q (X 0) S)) (MX := fun u : Unit => brkW ck ka ad ra (if (outc O (tgZ S f).1 (tgZ S f).2.1) 0 = 3 then (upO (upO (upO Z 1 ((outc O (tgZ S f).1 (tgZ S f).2.1) 2)) 2 ((outc O (tgZ S f).1 (tgZ S f).2.1) 3)) 3 0) else Z) (outc O (tgZ S f).1 (tgZ S f).2.1) U X S (tgZ S f).2.2 P I V N Y Q) hP hD hS hA (fun hPm hDm => vx_runV (As := [.int (zI f)]) (rest := [.int (zI 0), .ref oa]) ⟨hx, hb, hml, hown, htg⟩ (x_switchFountain l dg ck ka ad ra Z O U X S T P I V N Y Q f _ hV hM9 hn hz rg_f hst) (cwV 1 htg (gwV wq_736 wq_737 wq_738 wq_1 wq_739) rfl rfl rfl (by decide +kernel) ⟨Nat.le_of_ble_eq_true rfl, Nat.le_of_ble_eq_true rfl⟩) (wrK_preV hK hPm hDm hC hS hA 0 10 rfl rfl) rfl rfl hl.1 rfl (lv_room (Nat.le_of_ble_eq_true rfl)) dL_switchFountain_4 ⟨Nat.le_of_ble_eq_true rfl, Nat.le_of_ble_eq_true rfl⟩) (fun E9 ce9 q9 u9 H locs hE9 hP hD hS g1 g2 g3 => ?_) (fun r9 u9 H locs hn9 hP hD hS => ?_)
  · rcases hE9 with ⟨rfl, hc⟩ | ⟨rfl, hc⟩ | ⟨rfl, hc⟩
    · refine vx_catch (own := RL) (name := "java/lang/IndexOutOfBoundsException") hown [] ⟨0, 16, 19, 13⟩ [] (by rw [htab]; rfl) (fun z hz => absurd hz List.not_mem_nil) (by decide) (by decide) (htg _ wq_514) (va_Nw.use rfl (hC.nw (w := .castable "java/lang/IndexOutOfBoundsException" "java/lang/IndexOutOfBoundsException") (by decide +kernel))) g1 g2 g3 ?_
      refine W.eq (g2 := F0 m 19 ls [.ref q9]) rfl ?_
      refine lv_astore_n (lv' := [(3, .ref q9), (0, .ref ((ad 7) 0)), (1, .int (zI f)), (2, .ref oa)]) hx hb dL_switchFountain_19 rfl hl (by decide) rfl (fun ls hl => ?_)
      refine x_iconst hx hb dL_switchFountain_20 ?_
      exact W.widen (k := 1) (n := 6) (Nat.le_of_ble_eq_true rfl) (Nat.le_of_ble_eq_true rfl) (W.iret (v := _) hx hb hr (fun t9 ht9 hW9 => ⟨⟨_, (((if (outc O (tgZ S f).1 (tgZ S f).2.1) 0 = 3 then (upO (upO (upO Z 1 ((outc O (tgZ S f).1 (tgZ S f).2.1) 2)) 2 ((outc O (tgZ S f).1 (tgZ S f).2.1) 3)) 3 0) else Z), (outc O (tgZ S f).1 (tgZ S f).2.1), U, X, S, (tgZ S f).2.2, P, I, V, N, Y, Q), D), rfl, (Or.inr ⟨rfl, hc, rfl⟩), by rw [ht9]; exact hP, by rw [hAe]; exact hD⟩, hS.F ht9⟩) hS.2.2 dL_switchFountain_21)
    · exact absurd (outc_2 hc) (by rcases tg_c S f with h | h <;> rw [h] <;> decide)
    · exact absurd (outc_4 (tgZ_r S f).1 hc) (by rcases tg_c S f with h | h <;> rw [h] <;> decide)
  have hP : va_P dg vwCl (brkW ck ka ad ra Z (outc O (tgZ S f).1 (tgZ S f).2.1) U (upO (upO X 0 (((X 0) + 1) % 8)) 1 (k1Z (X 1))) (tgZ S f).2.2 (tgZ S f).2.2 P I V N Y (upQ Q (X 0) S) ++ lngC ck oa D) H := hP
  have hD : va_D A (brkW ck ka ad ra Z (outc O (tgZ S f).1 (tgZ S f).2.1) U (upO (upO X 0 (((X 0) + 1) % 8)) 1 (k1Z (X 1))) (tgZ S f).2.2 (tgZ S f).2.2 P I V N Y (upQ Q (X 0) S) ++ lngC ck oa D) := hD
  have hn0 := hn9
  obtain ⟨rfl, -⟩ := hn9
  have hv9 := bI_r ((outc O (tgZ S f).1 (tgZ S f).2.1) 1 = 1)
  rcases (show (bI ((outc O (tgZ S f).1 (tgZ S f).2.1) 1 = 1)) = 1 ∨ (bI ((outc O (tgZ S f).1 (tgZ S f).2.1) 1 = 1)) = 0 by omega) with h9 | h9
  · refine x_is h9 ?_
    refine x_if_eq (tgt := 14) hx hb dL_switchFountain_7 (by decide) (by omega) (fun c => absurd c (by decide)) (fun _ => ?_)
    refine lv_lconst (v := 1) hx hb dL_switchFountain_10 (by decide) ?_
    refine lv_goto (tgt := 15) hx hb dL_switchFountain_11 (by decide) ?_
    refine va_last hx hb hK hP hD hS 166 5 rfl rfl (zI_in (z := 0) (by decide) (by decide)) dL_switchFountain_15 (fun H locs hP hD hS => ?_)
    have hP : va_P dg vwCl (brkW ck ka ad ra Z (outc O (tgZ S f).1 (tgZ S f).2.1) U (upO (upO X 0 (((X 0) + 1) % 8)) 1 (k1Z (X 1))) (tgZ S f).2.2 (tgZ S f).2.2 P I V N Y (upQ Q (X 0) S) ++ lngC ck oa (vp_updL D (zI 0).toNatClampNeg 1)) H := hP
    have hD : va_D A (brkW ck ka ad ra Z (outc O (tgZ S f).1 (tgZ S f).2.1) U (upO (upO X 0 (((X 0) + 1) % 8)) 1 (k1Z (X 1))) (tgZ S f).2.2 (tgZ S f).2.2 P I V N Y (upQ Q (X 0) S) ++ lngC ck oa (vp_updL D (zI 0).toNatClampNeg 1)) := hD
    refine lv_goto (tgt := 22) hx hb dL_switchFountain_16 (by decide) ?_
    refine x_iconst hx hb dL_switchFountain_22 ?_
    exact W.widen (k := 1) (n := 6) (Nat.le_of_ble_eq_true rfl) (Nat.le_of_ble_eq_true rfl) (W.iret (v := _) hx hb hr (fun t9 ht9 hW9 => ⟨⟨_, ((Z, (outc O (tgZ S f).1 (tgZ S f).2.1), U, (upO (upO X 0 (((X 0) + 1) % 8)) 1 (k1Z (X 1))), (tgZ S f).2.2, (tgZ S f).2.2, P, I, V, N, Y, (upQ Q (X 0) S)), (vp_updL D (zI 0).toNatClampNeg 1)), rfl, (Or.inl ⟨rfl, _, hn0, rfl, by rw [h9]; rfl⟩), by rw [ht9]; exact hP, by rw [hAe]; exact hD⟩, hS.F ht9⟩) hS.2.2 dL_switchFountain_23)
  · refine x_is h9 ?_
    refine x_if_eq (tgt := 14) hx hb dL_switchFountain_7 (by decide) (by omega) (fun _ => ?_) (fun c => absurd c (by decide))
    refine lv_lconst (v := 0) hx hb dL_switchFountain_14 (by decide) ?_
    refine va_last hx hb hK hP hD hS 166 5 rfl rfl (zI_in (z := 0) (by decide) (by decide)) dL_switchFountain_15 (fun H locs hP hD hS => ?_)
    have hP : va_P dg vwCl (brkW ck ka ad ra Z (outc O (tgZ S f).1 (tgZ S f).2.1) U (upO (upO X 0 (((X 0) + 1) % 8)) 1 (k1Z (X 1))) (tgZ S f).2.2 (tgZ S f).2.2 P I V N Y (upQ Q (X 0) S) ++ lngC ck oa (vp_updL D (zI 0).toNatClampNeg 0)) H := hP
    have hD : va_D A (brkW ck ka ad ra Z (outc O (tgZ S f).1 (tgZ S f).2.1) U (upO (upO X 0 (((X 0) + 1) % 8)) 1 (k1Z (X 1))) (tgZ S f).2.2 (tgZ S f).2.2 P I V N Y (upQ Q (X 0) S) ++ lngC ck oa (vp_updL D (zI 0).toNatClampNeg 0)) := hD
    refine lv_goto (tgt := 22) hx hb dL_switchFountain_16 (by decide) ?_
    refine x_iconst hx hb dL_switchFountain_22 ?_
    exact W.widen (k := 1) (n := 6) (Nat.le_of_ble_eq_true rfl) (Nat.le_of_ble_eq_true rfl) (W.iret (v := _) hx hb hr (fun t9 ht9 hW9 => ⟨⟨_, ((Z, (outc O (tgZ S f).1 (tgZ S f).2.1), U, (upO (upO X 0 (((X 0) + 1) % 8)) 1 (k1Z (X 1))), (tgZ S f).2.2, (tgZ S f).2.2, P, I, V, N, Y, (upQ Q (X 0) S)), (vp_updL D (zI 0).toNatClampNeg 0)), rfl, (Or.inl ⟨rfl, _, hn0, rfl, by rw [h9]; rfl⟩), by rw [ht9]; exact hP, by rw [hAe]; exact hD⟩, hS.F ht9⟩) hS.2.2 dL_switchFountain_23)

theorem wqL_setNoiseLimit : (Jvm.Cond.codeWith ({ cls := "BenchBrokerLaw", name := "setNoiseLimit", desc := "(LBenchBroker;I[J)I" } : Jvm.MethodName) method_8_code (4 : Nat) (Option.some Jvm.ClassFile.FieldType.int) [((0 : Nat), (9 : Nat), (12 : Nat), (15 : Nat))]) ∈ GW := tq_4 26 rfl rfl
set_option maxHeartbeats 4000000 in
set_option maxRecDepth 100000 in
/-- the law's setNoiseLimit -/
theorem w_setNoiseLimit (l : Launch) (dg : va_G) (ck : Nat → ClassId) (ka : Nat → Nat) (ad ra : Nat → Nat → Nat) (Z O U X : Nat → Int) (S T P I : St) (V N Y : Int → Int) (Q : Nat → St) (oa : Nat) (D : Nat → Int64) (x : Int) (sz : Nat) {Mx : Int} (hV : Inv Mx S) (hM9 : Mx + 99 ≤ 4000000) (hn : 0 ≤ X 0 ∧ X 0 < 8) (hz : 0 ≤ X 1 ∧ X 1 ≤ 8) (rg_x : -2147483648 ≤ x ∧ x < 2147483648) (hst : l.stackTraces = false) : Met l yL_setNoiseLimit (.codeWith yL_setNoiseLimit cL_setNoiseLimit 4 (some .int) [(0, 9, 12, 15)] :: GW) ({ frames := 8, cells := 1, slots := 6, locals := 151 }) (va_Pc [.ref ((ad 7) 0), .int (zI x), .ref oa] (wrK dg ck ka sz (brkW ck ka ad ra Z O U X S T P I V N Y Q ++ lngC ck oa D))) (va_Qi (fun r (u : BU × (Nat → Int64)) => (r = zI 0 ∧ ∃ r1 : Int32, (r1 = zI ((outc O (cmZ S x).1 (cmZ S x).2.1) 1) ∧ (outc O (cmZ S x).1 (cmZ S x).2.1) 0 = 0) ∧ u.1 = (Z, (outc O (cmZ S x).1 (cmZ S x).2.1), U, (upO (upO X 0 (((X 0) + 1) % 8)) 1 (k1Z (X 1))), (cmZ S x).2.2, (cmZ S x).2.2, P, I, V, N, Y, (upQ Q (X 0) S)) ∧ u.2 0 = r1.toInt64) ∨ (r = zI 1 ∧ ((outc O (cmZ S x).1 (cmZ S x).2.1) 0 = 2) ∧ u.1 = ((if (outc O (cmZ S x).1 (cmZ S x).2.1) 0 = 3 then (upO (upO (upO Z 1 ((outc O (cmZ S x).1 (cmZ S x).2.1) 2)) 2 ((outc O (cmZ S x).1 (cmZ S x).2.1) 3)) 3 0) else Z), (outc O (cmZ S x).1 (cmZ S x).2.1), U, X, S, (cmZ S x).2.2, P, I, V, N, Y, Q))) (fun u t9 => wrQ dg sz (brkW ck ka ad ra Z O U X S T P I V N Y Q ++ lngC ck oa D) (brkU ck ka ad ra u.1 ++ lngC ck oa u.2) t9) (va_A (brkW ck ka ad ra Z O U X S T P I V N Y Q ++ lngC ck oa D) sz)) 1 6 (va_A (brkW ck ka ad ra Z O U X S T P I V N Y Q ++ lngC ck oa D) sz) := by
  refine x_ofWH (cc := cL_setNoiseLimit) (maxL := 4) (ret := (some .int)) (by decide) rfl ?_
  intro p e s m args below meth c s₁ B hml htab hv
  obtain ⟨rfl, ⟨hsz, hP, hK, hD0⟩, hC⟩ := hv
  have hx := B.exec
  have hb := B.bytes
  have hr := B.returns
  have hts := atoms_spec (ws := .codeWith yL_setNoiseLimit cL_setNoiseLimit 4 (some .int) [(0, 9, 12, 15)] :: GW) B.pre
  have htg : ∀ w ∈ GW, w.before _ s = true := fun w h => hts w (List.mem_cons_of_mem _ h)
  have hown : s.vm.findClass RL = some m.cls := findClass_of_methodNamed B.named
  have hlocks := B.notSynchronized
  subst hsz
  have hD := hD0.self (sz := s.heap.size)
  generalize hAe : va_A (brkW ck ka ad ra Z O U X S T P I V N Y Q ++ lngC ck oa D) s.heap.size = A at hD hC ⊢
  have hA : ∀ q : Nat, s.heap.size ≤ q → A q := fun q h => by rw [← hAe]; exact Or.inr h
  have hS : va_S A s.heap s.heap [] := va_S.rf
  have hP : va_P dg vwCl (brkW ck ka ad ra Z O U X S T P I V N Y Q ++ lngC ck oa D) s.heap := hP
  have hl := lv_entry ([.ref ((ad 7) 0), .int (zI x), .ref oa]) (n := 4) (Nat.le_of_ble_eq_true rfl)
  rw [lg_entry_eq]
  generalize (lg_sl ([.ref ((ad 7) 0), .int (zI x), .ref oa]) ++ List.replicate (4 - (lg_sl ([.ref ((ad 7) 0), .int (zI x), .ref oa])).length) Slot.unset).toArray = ls at hl ⊢
  have hl : lv_has ls 4 [(0, .ref ((ad 7) 0)), (1, .int (zI x)), (2, .ref oa)] := hl
  refine lv_aload_n hx hb dL_setNoiseLimit_0 rfl (lv_at hl 2 rfl) ?_
  refine x_iconst hx hb dL_setNoiseLimit_1 ?_
  refine lv_aload_n hx hb dL_setNoiseLimit_2 rfl (lv_at hl 0 rfl) ?_
  refine lv_iload_n hx hb dL_setNoiseLimit_3 rfl (lv_at hl 1 rfl) ?_
  refine xl_calli (M := brkW ck ka ad ra Z O U X S T P I V N Y Q) (N := lngC ck oa D) (Mf := fun u : Unit => brkW ck ka ad ra Z (outc O (cmZ S x).1 (cmZ S x).2.1) U (upO (upO X 0 (((X 0) + 1) % 8)) 1 (k1Z (X 1))) (cmZ S x).2.2 (cmZ S x).2.2 P I V N Y (upQ Q (X 0) S)) (MX := fun u : Unit => brkW ck ka ad ra (if (outc O (cmZ S x).1 (cmZ S x).2.1) 0 = 3 then (upO (upO (upO Z 1 ((outc O (cmZ S x).1 (cmZ S x).2.1) 2)) 2 ((outc O (cmZ S x).1 (cmZ S x).2.1) 3)) 3 0) else Z) (outc O (cmZ S x).1 (cmZ S x).2.1) U X S (cmZ S x).2.2 P I V N Y Q) hP hD hS hA (fun hPm hDm => vx_runV (As := [.int (zI x)]) (rest := [.int (zI 0), .ref oa]) ⟨hx, hb, hml, hown, htg⟩ (x_setNoiseLimit l dg ck ka ad ra Z O U X S T P I V N Y Q x _ hV hM9 hn hz rg_x hst) (cwV 1 htg (gwV wq_747 wq_748 wq_749 wq_1 wq_750) rfl rfl rfl (by decide +kernel) ⟨Nat.le_of_ble_eq_true rfl, Nat.le_of_ble_eq_true rfl⟩) (wrK_preV hK hPm hDm hC hS hA 0 10 rfl rfl) rfl rfl hl.1 rfl (lv_room (Nat.le_of_ble_eq_true rfl)) dL_setNoiseLimit_4 ⟨Nat.le_of_ble_eq_true rfl, Nat.le_of_ble_eq_true rfl⟩) (fun E9 ce9 q9 u9 H locs hE9 hP hD hS g1 g2 g3 => ?_) (fun r9 u9 H locs hn9 hP hD hS => ?_)
  · rcases hE9 with ⟨rfl, hc⟩ | ⟨rfl, hc⟩ | ⟨rfl, hc⟩
    · exact absurd (outc_1 hc) (by rcases cm_c S x with h | h <;> rw [h] <;> decide)
    · refine vx_catch (own := RL) (name := "java/lang/IllegalArgumentException") hown [] ⟨0, 9, 12, 15⟩ [] (by rw [htab]; rfl) (fun z hz => absurd hz List.not_mem_nil) (by decide) (by decide) (htg _ wq_594) (va_Nw.use rfl (hC.nw (w := .castable "java/lang/IllegalArgumentException" "java/lang/IllegalArgumentException") (by decide +kernel))) g1 g2 g3 ?_
      refine W.eq (g2 := F0 m 12 ls [.ref q9]) rfl ?_
      refine lv_astore_n (lv' := [(3, .ref q9), (0, .ref ((ad 7) 0)), (1, .int (zI x)), (2, .ref oa)]) hx hb dL_setNoiseLimit_12 rfl hl (by decide) rfl (fun ls hl => ?_)
      refine x_iconst hx hb dL_setNoiseLimit_13 ?_
      exact W.widen (k := 1) (n := 6) (Nat.le_of_ble_eq_true rfl) (Nat.le_of_ble_eq_true rfl) (W.iret (v := _) hx hb hr (fun t9 ht9 hW9 => ⟨⟨_, (((if (outc O (cmZ S x).1 (cmZ S x).2.1) 0 = 3 then (upO (upO (upO Z 1 ((outc O (cmZ S x).1 (cmZ S x).2.1) 2)) 2 ((outc O (cmZ S x).1 (cmZ S x).2.1) 3)) 3 0) else Z), (outc O (cmZ S x).1 (cmZ S x).2.1), U, X, S, (cmZ S x).2.2, P, I, V, N, Y, Q), D), rfl, (Or.inr ⟨rfl, hc, rfl⟩), by rw [ht9]; exact hP, by rw [hAe]; exact hD⟩, hS.F ht9⟩) hS.2.2 dL_setNoiseLimit_14)
    · exact absurd (outc_4 (cmZ_r S x).1 hc) (by rcases cm_c S x with h | h <;> rw [h] <;> decide)
  have hP : va_P dg vwCl (brkW ck ka ad ra Z (outc O (cmZ S x).1 (cmZ S x).2.1) U (upO (upO X 0 (((X 0) + 1) % 8)) 1 (k1Z (X 1))) (cmZ S x).2.2 (cmZ S x).2.2 P I V N Y (upQ Q (X 0) S) ++ lngC ck oa D) H := hP
  have hD : va_D A (brkW ck ka ad ra Z (outc O (cmZ S x).1 (cmZ S x).2.1) U (upO (upO X 0 (((X 0) + 1) % 8)) 1 (k1Z (X 1))) (cmZ S x).2.2 (cmZ S x).2.2 P I V N Y (upQ Q (X 0) S) ++ lngC ck oa D) := hD
  refine lv_i2l hx hb dL_setNoiseLimit_7 rfl ?_
  refine va_last hx hb hK hP hD hS 166 5 rfl rfl (zI_in (z := 0) (by decide) (by decide)) dL_setNoiseLimit_8 (fun H locs hP hD hS => ?_)
  have hP : va_P dg vwCl (brkW ck ka ad ra Z (outc O (cmZ S x).1 (cmZ S x).2.1) U (upO (upO X 0 (((X 0) + 1) % 8)) 1 (k1Z (X 1))) (cmZ S x).2.2 (cmZ S x).2.2 P I V N Y (upQ Q (X 0) S) ++ lngC ck oa (vp_updL D (zI 0).toNatClampNeg r9.toInt64)) H := hP
  have hD : va_D A (brkW ck ka ad ra Z (outc O (cmZ S x).1 (cmZ S x).2.1) U (upO (upO X 0 (((X 0) + 1) % 8)) 1 (k1Z (X 1))) (cmZ S x).2.2 (cmZ S x).2.2 P I V N Y (upQ Q (X 0) S) ++ lngC ck oa (vp_updL D (zI 0).toNatClampNeg r9.toInt64)) := hD
  refine lv_goto (tgt := 15) hx hb dL_setNoiseLimit_9 (by decide) ?_
  refine x_iconst hx hb dL_setNoiseLimit_15 ?_
  exact W.widen (k := 1) (n := 6) (Nat.le_of_ble_eq_true rfl) (Nat.le_of_ble_eq_true rfl) (W.iret (v := _) hx hb hr (fun t9 ht9 hW9 => ⟨⟨_, ((Z, (outc O (cmZ S x).1 (cmZ S x).2.1), U, (upO (upO X 0 (((X 0) + 1) % 8)) 1 (k1Z (X 1))), (cmZ S x).2.2, (cmZ S x).2.2, P, I, V, N, Y, (upQ Q (X 0) S)), (vp_updL D (zI 0).toNatClampNeg r9.toInt64)), rfl, (Or.inl ⟨rfl, r9, hn9, rfl, rfl⟩), by rw [ht9]; exact hP, by rw [hAe]; exact hD⟩, hS.F ht9⟩) hS.2.2 dL_setNoiseLimit_16)

theorem wqL_addTenant : (Jvm.Cond.codeWith ({ cls := "BenchBrokerLaw", name := "addTenant", desc := "(LBenchBroker;I[J)I" } : Jvm.MethodName) method_18_code (4 : Nat) (Option.some Jvm.ClassFile.FieldType.int) [((0 : Nat), (9 : Nat), (12 : Nat), (15 : Nat)), ((0 : Nat), (9 : Nat), (15 : Nat), (17 : Nat))]) ∈ GW := tq_4 116 rfl rfl
set_option maxHeartbeats 4000000 in
set_option maxRecDepth 100000 in
/-- the law's addTenant -/
theorem w_addTenant (l : Launch) (dg : va_G) (ck : Nat → ClassId) (ka : Nat → Nat) (ad ra : Nat → Nat → Nat) (Z O U X : Nat → Int) (S T P I : St) (V N Y : Int → Int) (Q : Nat → St) (oa : Nat) (D : Nat → Int64) (x : Int) (sz : Nat) {Mx : Int} (hV : Inv Mx S) (hM9 : Mx + 99 ≤ 4000000) (hn : 0 ≤ X 0 ∧ X 0 < 8) (hz : 0 ≤ X 1 ∧ X 1 ≤ 8) (rg_x : -2147483648 ≤ x ∧ x < 2147483648) (hst : l.stackTraces = false) : Met l yL_addTenant (.codeWith yL_addTenant cL_addTenant 4 (some .int) [(0, 9, 12, 15), (0, 9, 15, 17)] :: GW) ({ frames := 8, cells := 1, slots := 6, locals := 151 }) (va_Pc [.ref ((ad 7) 0), .int (zI x), .ref oa] (wrK dg ck ka sz (brkW ck ka ad ra Z O U X S T P I V N Y Q ++ lngC ck oa D))) (va_Qi (fun r (u : BU × (Nat → Int64)) => (r = zI 0 ∧ ∃ r1 : Int32, (r1 = zI ((outc O (teZ S x).1 (teZ S x).2.1) 1) ∧ (outc O (teZ S x).1 (teZ S x).2.1) 0 = 0) ∧ u.1 = (Z, (outc O (teZ S x).1 (teZ S x).2.1), U, (upO (upO X 0 (((X 0) + 1) % 8)) 1 (k1Z (X 1))), (teZ S x).2.2, (teZ S x).2.2, P, I, V, N, Y, (upQ Q (X 0) S)) ∧ u.2 0 = r1.toInt64) ∨ (r = zI 1 ∧ ((outc O (teZ S x).1 (teZ S x).2.1) 0 = 2) ∧ u.1 = ((if (outc O (teZ S x).1 (teZ S x).2.1) 0 = 3 then (upO (upO (upO Z 1 ((outc O (teZ S x).1 (teZ S x).2.1) 2)) 2 ((outc O (teZ S x).1 (teZ S x).2.1) 3)) 3 0) else Z), (outc O (teZ S x).1 (teZ S x).2.1), U, X, S, (teZ S x).2.2, P, I, V, N, Y, Q)) ∨ (r = zI 2 ∧ ((outc O (teZ S x).1 (teZ S x).2.1) 0 = 3) ∧ u.1 = ((if (outc O (teZ S x).1 (teZ S x).2.1) 0 = 3 then (upO (upO (upO Z 1 ((outc O (teZ S x).1 (teZ S x).2.1) 2)) 2 ((outc O (teZ S x).1 (teZ S x).2.1) 3)) 3 0) else Z), (outc O (teZ S x).1 (teZ S x).2.1), U, X, S, (teZ S x).2.2, P, I, V, N, Y, Q))) (fun u t9 => wrQ dg sz (brkW ck ka ad ra Z O U X S T P I V N Y Q ++ lngC ck oa D) (brkU ck ka ad ra u.1 ++ lngC ck oa u.2) t9) (va_A (brkW ck ka ad ra Z O U X S T P I V N Y Q ++ lngC ck oa D) sz)) 1 6 (va_A (brkW ck ka ad ra Z O U X S T P I V N Y Q ++ lngC ck oa D) sz) := by
  refine x_ofWH (cc := cL_addTenant) (maxL := 4) (ret := (some .int)) (by decide) rfl ?_
  intro p e s m args below meth c s₁ B hml htab hv
  obtain ⟨rfl, ⟨hsz, hP, hK, hD0⟩, hC⟩ := hv
  have hx := B.exec
  have hb := B.bytes
  have hr := B.returns
  have hts := atoms_spec (ws := .codeWith yL_addTenant cL_addTenant 4 (some .int) [(0, 9, 12, 15), (0, 9, 15, 17)] :: GW) B.pre
  have htg : ∀ w ∈ GW, w.before _ s = true := fun w h => hts w (List.mem_cons_of_mem _ h)
  have hown : s.vm.findClass RL = some m.cls := findClass_of_methodNamed B.named
  have hlocks := B.notSynchronized
  subst hsz
  have hD := hD0.self (sz := s.heap.size)
  generalize hAe : va_A (brkW ck ka ad ra Z O U X S T P I V N Y Q ++ lngC ck oa D) s.heap.size = A at hD hC ⊢
  have hA : ∀ q : Nat, s.heap.size ≤ q → A q := fun q h => by rw [← hAe]; exact Or.inr h
  have hS : va_S A s.heap s.heap [] := va_S.rf
  have hP : va_P dg vwCl (brkW ck ka ad ra Z O U X S T P I V N Y Q ++ lngC ck oa D) s.heap := hP
  have hl := lv_entry ([.ref ((ad 7) 0), .int (zI x), .ref oa]) (n := 4) (Nat.le_of_ble_eq_true rfl)
  rw [lg_entry_eq]
  generalize (lg_sl ([.ref ((ad 7) 0), .int (zI x), .ref oa]) ++ List.replicate (4 - (lg_sl ([.ref ((ad 7) 0), .int (zI x), .ref oa])).length) Slot.unset).toArray = ls at hl ⊢
  have hl : lv_has ls 4 [(0, .ref ((ad 7) 0)), (1, .int (zI x)), (2, .ref oa)] := hl
  refine lv_aload_n hx hb dL_addTenant_0 rfl (lv_at hl 2 rfl) ?_
  refine x_iconst hx hb dL_addTenant_1 ?_
  refine lv_aload_n hx hb dL_addTenant_2 rfl (lv_at hl 0 rfl) ?_
  refine lv_iload_n hx hb dL_addTenant_3 rfl (lv_at hl 1 rfl) ?_
  refine xl_calli (M := brkW ck ka ad ra Z O U X S T P I V N Y Q) (N := lngC ck oa D) (Mf := fun u : Unit => brkW ck ka ad ra Z (outc O (teZ S x).1 (teZ S x).2.1) U (upO (upO X 0 (((X 0) + 1) % 8)) 1 (k1Z (X 1))) (teZ S x).2.2 (teZ S x).2.2 P I V N Y (upQ Q (X 0) S)) (MX := fun u : Unit => brkW ck ka ad ra (if (outc O (teZ S x).1 (teZ S x).2.1) 0 = 3 then (upO (upO (upO Z 1 ((outc O (teZ S x).1 (teZ S x).2.1) 2)) 2 ((outc O (teZ S x).1 (teZ S x).2.1) 3)) 3 0) else Z) (outc O (teZ S x).1 (teZ S x).2.1) U X S (teZ S x).2.2 P I V N Y Q) hP hD hS hA (fun hPm hDm => vx_runV (As := [.int (zI x)]) (rest := [.int (zI 0), .ref oa]) ⟨hx, hb, hml, hown, htg⟩ (x_addTenant l dg ck ka ad ra Z O U X S T P I V N Y Q x _ hV hM9 hn hz rg_x hst) (cwV 1 htg (gwV wq_837 wq_838 wq_839 wq_1 wq_840) rfl rfl rfl (by decide +kernel) ⟨Nat.le_of_ble_eq_true rfl, Nat.le_of_ble_eq_true rfl⟩) (wrK_preV hK hPm hDm hC hS hA 0 10 rfl rfl) rfl rfl hl.1 rfl (lv_room (Nat.le_of_ble_eq_true rfl)) dL_addTenant_4 ⟨Nat.le_of_ble_eq_true rfl, Nat.le_of_ble_eq_true rfl⟩) (fun E9 ce9 q9 u9 H locs hE9 hP hD hS g1 g2 g3 => ?_) (fun r9 u9 H locs hn9 hP hD hS => ?_)
  · rcases hE9 with ⟨rfl, hc⟩ | ⟨rfl, hc⟩ | ⟨rfl, hc⟩
    · exact absurd (outc_1 hc) (te_c S x)
    · refine vx_catch (own := RL) (name := "java/lang/IllegalArgumentException") hown [] ⟨0, 9, 12, 15⟩ [⟨0, 9, 15, 17⟩] (by rw [htab]; rfl) (fun z hz => absurd hz List.not_mem_nil) (by decide) (by decide) (htg _ wq_594) (va_Nw.use rfl (hC.nw (w := .castable "java/lang/IllegalArgumentException" "java/lang/IllegalArgumentException") (by decide +kernel))) g1 g2 g3 ?_
      refine W.eq (g2 := F0 m 12 ls [.ref q9]) rfl ?_
      refine lv_astore_n (lv' := [(3, .ref q9), (0, .ref ((ad 7) 0)), (1, .int (zI x)), (2, .ref oa)]) hx hb dL_addTenant_12 rfl hl (by decide) rfl (fun ls hl => ?_)
      refine x_iconst hx hb dL_addTenant_13 ?_
      exact W.widen (k := 1) (n := 6) (Nat.le_of_ble_eq_true rfl) (Nat.le_of_ble_eq_true rfl) (W.iret (v := _) hx hb hr (fun t9 ht9 hW9 => ⟨⟨_, (((if (outc O (teZ S x).1 (teZ S x).2.1) 0 = 3 then (upO (upO (upO Z 1 ((outc O (teZ S x).1 (teZ S x).2.1) 2)) 2 ((outc O (teZ S x).1 (teZ S x).2.1) 3)) 3 0) else Z), (outc O (teZ S x).1 (teZ S x).2.1), U, X, S, (teZ S x).2.2, P, I, V, N, Y, Q), D), rfl, (Or.inr (Or.inl ⟨rfl, hc, rfl⟩)), by rw [ht9]; exact hP, by rw [hAe]; exact hD⟩, hS.F ht9⟩) hS.2.2 dL_addTenant_14)
    · refine vx_catch (own := RL) (name := "java/lang/UnsupportedOperationException") hown [⟨0, 9, 12, 15⟩] ⟨0, 9, 15, 17⟩ [] (by rw [htab]; rfl) (by intro z hz; simp only [List.mem_cons, List.not_mem_nil, or_false] at hz; subst hz; exact Or.inr ⟨by decide, "java/lang/IllegalArgumentException", htg _ wq_594, hC.nc (by decide +kernel)⟩) (by decide) (by decide) (htg _ wq_595) (va_Nw.use rfl (hC.nw (w := .castable "java/lang/UnsupportedOperationException" "java/lang/UnsupportedOperationException") (by decide +kernel))) g1 g2 g3 ?_
      refine W.eq (g2 := F0 m 15 ls [.ref q9]) rfl ?_
      refine lv_astore_n (lv' := [(3, .ref q9), (0, .ref ((ad 7) 0)), (1, .int (zI x)), (2, .ref oa)]) hx hb dL_addTenant_15 rfl hl (by decide) rfl (fun ls hl => ?_)
      refine x_iconst hx hb dL_addTenant_16 ?_
      exact W.widen (k := 1) (n := 6) (Nat.le_of_ble_eq_true rfl) (Nat.le_of_ble_eq_true rfl) (W.iret (v := _) hx hb hr (fun t9 ht9 hW9 => ⟨⟨_, (((if (outc O (teZ S x).1 (teZ S x).2.1) 0 = 3 then (upO (upO (upO Z 1 ((outc O (teZ S x).1 (teZ S x).2.1) 2)) 2 ((outc O (teZ S x).1 (teZ S x).2.1) 3)) 3 0) else Z), (outc O (teZ S x).1 (teZ S x).2.1), U, X, S, (teZ S x).2.2, P, I, V, N, Y, Q), D), rfl, (Or.inr (Or.inr ⟨rfl, hc, rfl⟩)), by rw [ht9]; exact hP, by rw [hAe]; exact hD⟩, hS.F ht9⟩) hS.2.2 dL_addTenant_17)
  have hP : va_P dg vwCl (brkW ck ka ad ra Z (outc O (teZ S x).1 (teZ S x).2.1) U (upO (upO X 0 (((X 0) + 1) % 8)) 1 (k1Z (X 1))) (teZ S x).2.2 (teZ S x).2.2 P I V N Y (upQ Q (X 0) S) ++ lngC ck oa D) H := hP
  have hD : va_D A (brkW ck ka ad ra Z (outc O (teZ S x).1 (teZ S x).2.1) U (upO (upO X 0 (((X 0) + 1) % 8)) 1 (k1Z (X 1))) (teZ S x).2.2 (teZ S x).2.2 P I V N Y (upQ Q (X 0) S) ++ lngC ck oa D) := hD
  refine lv_i2l hx hb dL_addTenant_7 rfl ?_
  refine va_last hx hb hK hP hD hS 166 5 rfl rfl (zI_in (z := 0) (by decide) (by decide)) dL_addTenant_8 (fun H locs hP hD hS => ?_)
  have hP : va_P dg vwCl (brkW ck ka ad ra Z (outc O (teZ S x).1 (teZ S x).2.1) U (upO (upO X 0 (((X 0) + 1) % 8)) 1 (k1Z (X 1))) (teZ S x).2.2 (teZ S x).2.2 P I V N Y (upQ Q (X 0) S) ++ lngC ck oa (vp_updL D (zI 0).toNatClampNeg r9.toInt64)) H := hP
  have hD : va_D A (brkW ck ka ad ra Z (outc O (teZ S x).1 (teZ S x).2.1) U (upO (upO X 0 (((X 0) + 1) % 8)) 1 (k1Z (X 1))) (teZ S x).2.2 (teZ S x).2.2 P I V N Y (upQ Q (X 0) S) ++ lngC ck oa (vp_updL D (zI 0).toNatClampNeg r9.toInt64)) := hD
  refine lv_goto (tgt := 18) hx hb dL_addTenant_9 (by decide) ?_
  refine x_iconst hx hb dL_addTenant_18 ?_
  exact W.widen (k := 1) (n := 6) (Nat.le_of_ble_eq_true rfl) (Nat.le_of_ble_eq_true rfl) (W.iret (v := _) hx hb hr (fun t9 ht9 hW9 => ⟨⟨_, ((Z, (outc O (teZ S x).1 (teZ S x).2.1), U, (upO (upO X 0 (((X 0) + 1) % 8)) 1 (k1Z (X 1))), (teZ S x).2.2, (teZ S x).2.2, P, I, V, N, Y, (upQ Q (X 0) S)), (vp_updL D (zI 0).toNatClampNeg r9.toInt64)), rfl, (Or.inl ⟨rfl, r9, hn9, rfl, rfl⟩), by rw [ht9]; exact hP, by rw [hAe]; exact hD⟩, hS.F ht9⟩) hS.2.2 dL_addTenant_19)

theorem wqL_giveCoins : (Jvm.Cond.codeWith ({ cls := "BenchBrokerLaw", name := "giveCoins", desc := "(LBenchBroker;II[J)I" } : Jvm.MethodName) method_19_code (5 : Nat) (Option.some Jvm.ClassFile.FieldType.int) [((0 : Nat), (10 : Nat), (13 : Nat), (13 : Nat)), ((0 : Nat), (10 : Nat), (17 : Nat), (15 : Nat))]) ∈ GW := tq_4 128 rfl rfl
set_option maxHeartbeats 4000000 in
set_option maxRecDepth 100000 in
/-- the law's giveCoins -/
theorem w_giveCoins (l : Launch) (dg : va_G) (ck : Nat → ClassId) (ka : Nat → Nat) (ad ra : Nat → Nat → Nat) (Z O U X : Nat → Int) (S T P I : St) (V N Y : Int → Int) (Q : Nat → St) (oa : Nat) (D : Nat → Int64) (x y : Int) (sz : Nat) {Mx : Int} (hV : Inv Mx S) (hM9 : Mx + 99 ≤ 4000000) (hn : 0 ≤ X 0 ∧ X 0 < 8) (hz : 0 ≤ X 1 ∧ X 1 ≤ 8) (rg_x : -2147483648 ≤ x ∧ x < 2147483648) (rg_y : -2147483648 ≤ y ∧ y < 2147483648) (hst : l.stackTraces = false) : Met l yL_giveCoins (.codeWith yL_giveCoins cL_giveCoins 5 (some .int) [(0, 10, 13, 13), (0, 10, 17, 15)] :: GW) ({ frames := 8, cells := 1, slots := 6, locals := 152 }) (va_Pc [.ref ((ad 7) 0), .int (zI x), .int (zI y), .ref oa] (wrK dg ck ka sz (brkW ck ka ad ra Z O U X S T P I V N Y Q ++ lngC ck oa D))) (va_Qi (fun r (u : BU × (Nat → Int64)) => (r = zI 0 ∧ ∃ r1 : Int32, (r1 = zI ((outc O (giZ S x y).1 (giZ S x y).2.1) 1) ∧ (outc O (giZ S x y).1 (giZ S x y).2.1) 0 = 0) ∧ u.1 = (Z, (outc O (giZ S x y).1 (giZ S x y).2.1), U, (upO (upO X 0 (((X 0) + 1) % 8)) 1 (k1Z (X 1))), (giZ S x y).2.2, (giZ S x y).2.2, P, I, V, N, Y, (upQ Q (X 0) S)) ∧ u.2 0 = r1.toInt64) ∨ (r = zI 1 ∧ ((outc O (giZ S x y).1 (giZ S x y).2.1) 0 = 1) ∧ u.1 = ((if (outc O (giZ S x y).1 (giZ S x y).2.1) 0 = 3 then (upO (upO (upO Z 1 ((outc O (giZ S x y).1 (giZ S x y).2.1) 2)) 2 ((outc O (giZ S x y).1 (giZ S x y).2.1) 3)) 3 0) else Z), (outc O (giZ S x y).1 (giZ S x y).2.1), U, X, S, (giZ S x y).2.2, P, I, V, N, Y, Q)) ∨ (r = zI 2 ∧ ((outc O (giZ S x y).1 (giZ S x y).2.1) 0 = 2) ∧ u.1 = ((if (outc O (giZ S x y).1 (giZ S x y).2.1) 0 = 3 then (upO (upO (upO Z 1 ((outc O (giZ S x y).1 (giZ S x y).2.1) 2)) 2 ((outc O (giZ S x y).1 (giZ S x y).2.1) 3)) 3 0) else Z), (outc O (giZ S x y).1 (giZ S x y).2.1), U, X, S, (giZ S x y).2.2, P, I, V, N, Y, Q))) (fun u t9 => wrQ dg sz (brkW ck ka ad ra Z O U X S T P I V N Y Q ++ lngC ck oa D) (brkU ck ka ad ra u.1 ++ lngC ck oa u.2) t9) (va_A (brkW ck ka ad ra Z O U X S T P I V N Y Q ++ lngC ck oa D) sz)) 1 6 (va_A (brkW ck ka ad ra Z O U X S T P I V N Y Q ++ lngC ck oa D) sz) := by
  refine x_ofWH (cc := cL_giveCoins) (maxL := 5) (ret := (some .int)) (by decide) rfl ?_
  intro p e s m args below meth c s₁ B hml htab hv
  obtain ⟨rfl, ⟨hsz, hP, hK, hD0⟩, hC⟩ := hv
  have hx := B.exec
  have hb := B.bytes
  have hr := B.returns
  have hts := atoms_spec (ws := .codeWith yL_giveCoins cL_giveCoins 5 (some .int) [(0, 10, 13, 13), (0, 10, 17, 15)] :: GW) B.pre
  have htg : ∀ w ∈ GW, w.before _ s = true := fun w h => hts w (List.mem_cons_of_mem _ h)
  have hown : s.vm.findClass RL = some m.cls := findClass_of_methodNamed B.named
  have hlocks := B.notSynchronized
  subst hsz
  have hD := hD0.self (sz := s.heap.size)
  generalize hAe : va_A (brkW ck ka ad ra Z O U X S T P I V N Y Q ++ lngC ck oa D) s.heap.size = A at hD hC ⊢
  have hA : ∀ q : Nat, s.heap.size ≤ q → A q := fun q h => by rw [← hAe]; exact Or.inr h
  have hS : va_S A s.heap s.heap [] := va_S.rf
  have hP : va_P dg vwCl (brkW ck ka ad ra Z O U X S T P I V N Y Q ++ lngC ck oa D) s.heap := hP
  have hl := lv_entry ([.ref ((ad 7) 0), .int (zI x), .int (zI y), .ref oa]) (n := 5) (Nat.le_of_ble_eq_true rfl)
  rw [lg_entry_eq]
  generalize (lg_sl ([.ref ((ad 7) 0), .int (zI x), .int (zI y), .ref oa]) ++ List.replicate (5 - (lg_sl ([.ref ((ad 7) 0), .int (zI x), .int (zI y), .ref oa])).length) Slot.unset).toArray = ls at hl ⊢
  have hl : lv_has ls 5 [(0, .ref ((ad 7) 0)), (1, .int (zI x)), (2, .int (zI y)), (3, .ref oa)] := hl
  refine lv_aload_n hx hb dL_giveCoins_0 rfl (lv_at hl 3 rfl) ?_
  refine x_iconst hx hb dL_giveCoins_1 ?_
  refine lv_aload_n hx hb dL_giveCoins_2 rfl (lv_at hl 0 rfl) ?_
  refine lv_iload_n hx hb dL_giveCoins_3 rfl (lv_at hl 1 rfl) ?_
  refine lv_iload_n hx hb dL_giveCoins_4 rfl (lv_at hl 2 rfl) ?_
  refine xl_calli (M := brkW ck ka ad ra Z O U X S T P I V N Y Q) (N := lngC ck oa D) (Mf := fun u : Unit => brkW ck ka ad ra Z (outc O (giZ S x y).1 (giZ S x y).2.1) U (upO (upO X 0 (((X 0) + 1) % 8)) 1 (k1Z (X 1))) (giZ S x y).2.2 (giZ S x y).2.2 P I V N Y (upQ Q (X 0) S)) (MX := fun u : Unit => brkW ck ka ad ra (if (outc O (giZ S x y).1 (giZ S x y).2.1) 0 = 3 then (upO (upO (upO Z 1 ((outc O (giZ S x y).1 (giZ S x y).2.1) 2)) 2 ((outc O (giZ S x y).1 (giZ S x y).2.1) 3)) 3 0) else Z) (outc O (giZ S x y).1 (giZ S x y).2.1) U X S (giZ S x y).2.2 P I V N Y Q) hP hD hS hA (fun hPm hDm => vx_runV (As := [.int (zI x), .int (zI y)]) (rest := [.int (zI 0), .ref oa]) ⟨hx, hb, hml, hown, htg⟩ (x_giveCoins l dg ck ka ad ra Z O U X S T P I V N Y Q x y _ hV hM9 hn hz rg_x rg_y hst) (cwV 2 htg (gwV wq_849 wq_850 wq_851 wq_1 wq_852) rfl rfl rfl (by decide +kernel) ⟨Nat.le_of_ble_eq_true rfl, Nat.le_of_ble_eq_true rfl⟩) (wrK_preV hK hPm hDm hC hS hA 0 10 rfl rfl) rfl rfl hl.1 rfl (lv_room (Nat.le_of_ble_eq_true rfl)) dL_giveCoins_5 ⟨Nat.le_of_ble_eq_true rfl, Nat.le_of_ble_eq_true rfl⟩) (fun E9 ce9 q9 u9 H locs hE9 hP hD hS g1 g2 g3 => ?_) (fun r9 u9 H locs hn9 hP hD hS => ?_)
  · rcases hE9 with ⟨rfl, hc⟩ | ⟨rfl, hc⟩ | ⟨rfl, hc⟩
    · refine vx_catch (own := RL) (name := "java/lang/IndexOutOfBoundsException") hown [] ⟨0, 10, 13, 13⟩ [⟨0, 10, 17, 15⟩] (by rw [htab]; rfl) (fun z hz => absurd hz List.not_mem_nil) (by decide) (by decide) (htg _ wq_514) (va_Nw.use rfl (hC.nw (w := .castable "java/lang/IndexOutOfBoundsException" "java/lang/IndexOutOfBoundsException") (by decide +kernel))) g1 g2 g3 ?_
      refine W.eq (g2 := F0 m 13 ls [.ref q9]) rfl ?_
      refine lv_astore (lv' := [(4, .ref q9), (0, .ref ((ad 7) 0)), (1, .int (zI x)), (2, .int (zI y)), (3, .ref oa)]) hx hb dL_giveCoins_13 hl (by decide) rfl (fun ls hl => ?_)
      refine x_iconst hx hb dL_giveCoins_15 ?_
      exact W.widen (k := 1) (n := 6) (Nat.le_of_ble_eq_true rfl) (Nat.le_of_ble_eq_true rfl) (W.iret (v := _) hx hb hr (fun t9 ht9 hW9 => ⟨⟨_, (((if (outc O (giZ S x y).1 (giZ S x y).2.1) 0 = 3 then (upO (upO (upO Z 1 ((outc O (giZ S x y).1 (giZ S x y).2.1) 2)) 2 ((outc O (giZ S x y).1 (giZ S x y).2.1) 3)) 3 0) else Z), (outc O (giZ S x y).1 (giZ S x y).2.1), U, X, S, (giZ S x y).2.2, P, I, V, N, Y, Q), D), rfl, (Or.inr (Or.inl ⟨rfl, hc, rfl⟩)), by rw [ht9]; exact hP, by rw [hAe]; exact hD⟩, hS.F ht9⟩) hS.2.2 dL_giveCoins_16)
    · refine vx_catch (own := RL) (name := "java/lang/IllegalArgumentException") hown [⟨0, 10, 13, 13⟩] ⟨0, 10, 17, 15⟩ [] (by rw [htab]; rfl) (by intro z hz; simp only [List.mem_cons, List.not_mem_nil, or_false] at hz; subst hz; exact Or.inr ⟨by decide, "java/lang/IndexOutOfBoundsException", htg _ wq_514, hC.nc (by decide +kernel)⟩) (by decide) (by decide) (htg _ wq_594) (va_Nw.use rfl (hC.nw (w := .castable "java/lang/IllegalArgumentException" "java/lang/IllegalArgumentException") (by decide +kernel))) g1 g2 g3 ?_
      refine W.eq (g2 := F0 m 17 ls [.ref q9]) rfl ?_
      refine lv_astore (lv' := [(4, .ref q9), (0, .ref ((ad 7) 0)), (1, .int (zI x)), (2, .int (zI y)), (3, .ref oa)]) hx hb dL_giveCoins_17 hl (by decide) rfl (fun ls hl => ?_)
      refine x_iconst hx hb dL_giveCoins_19 ?_
      exact W.widen (k := 1) (n := 6) (Nat.le_of_ble_eq_true rfl) (Nat.le_of_ble_eq_true rfl) (W.iret (v := _) hx hb hr (fun t9 ht9 hW9 => ⟨⟨_, (((if (outc O (giZ S x y).1 (giZ S x y).2.1) 0 = 3 then (upO (upO (upO Z 1 ((outc O (giZ S x y).1 (giZ S x y).2.1) 2)) 2 ((outc O (giZ S x y).1 (giZ S x y).2.1) 3)) 3 0) else Z), (outc O (giZ S x y).1 (giZ S x y).2.1), U, X, S, (giZ S x y).2.2, P, I, V, N, Y, Q), D), rfl, (Or.inr (Or.inr ⟨rfl, hc, rfl⟩)), by rw [ht9]; exact hP, by rw [hAe]; exact hD⟩, hS.F ht9⟩) hS.2.2 dL_giveCoins_20)
    · exact absurd (outc_4 (giZ_r S x y).1 hc) (Int.not_lt.mpr (gi_c S x y))
  have hP : va_P dg vwCl (brkW ck ka ad ra Z (outc O (giZ S x y).1 (giZ S x y).2.1) U (upO (upO X 0 (((X 0) + 1) % 8)) 1 (k1Z (X 1))) (giZ S x y).2.2 (giZ S x y).2.2 P I V N Y (upQ Q (X 0) S) ++ lngC ck oa D) H := hP
  have hD : va_D A (brkW ck ka ad ra Z (outc O (giZ S x y).1 (giZ S x y).2.1) U (upO (upO X 0 (((X 0) + 1) % 8)) 1 (k1Z (X 1))) (giZ S x y).2.2 (giZ S x y).2.2 P I V N Y (upQ Q (X 0) S) ++ lngC ck oa D) := hD
  refine lv_i2l hx hb dL_giveCoins_8 rfl ?_
  refine va_last hx hb hK hP hD hS 166 5 rfl rfl (zI_in (z := 0) (by decide) (by decide)) dL_giveCoins_9 (fun H locs hP hD hS => ?_)
  have hP : va_P dg vwCl (brkW ck ka ad ra Z (outc O (giZ S x y).1 (giZ S x y).2.1) U (upO (upO X 0 (((X 0) + 1) % 8)) 1 (k1Z (X 1))) (giZ S x y).2.2 (giZ S x y).2.2 P I V N Y (upQ Q (X 0) S) ++ lngC ck oa (vp_updL D (zI 0).toNatClampNeg r9.toInt64)) H := hP
  have hD : va_D A (brkW ck ka ad ra Z (outc O (giZ S x y).1 (giZ S x y).2.1) U (upO (upO X 0 (((X 0) + 1) % 8)) 1 (k1Z (X 1))) (giZ S x y).2.2 (giZ S x y).2.2 P I V N Y (upQ Q (X 0) S) ++ lngC ck oa (vp_updL D (zI 0).toNatClampNeg r9.toInt64)) := hD
  refine lv_goto (tgt := 21) hx hb dL_giveCoins_10 (by decide) ?_
  refine x_iconst hx hb dL_giveCoins_21 ?_
  exact W.widen (k := 1) (n := 6) (Nat.le_of_ble_eq_true rfl) (Nat.le_of_ble_eq_true rfl) (W.iret (v := _) hx hb hr (fun t9 ht9 hW9 => ⟨⟨_, ((Z, (outc O (giZ S x y).1 (giZ S x y).2.1), U, (upO (upO X 0 (((X 0) + 1) % 8)) 1 (k1Z (X 1))), (giZ S x y).2.2, (giZ S x y).2.2, P, I, V, N, Y, (upQ Q (X 0) S)), (vp_updL D (zI 0).toNatClampNeg r9.toInt64)), rfl, (Or.inl ⟨rfl, r9, hn9, rfl, rfl⟩), by rw [ht9]; exact hP, by rw [hAe]; exact hD⟩, hS.F ht9⟩) hS.2.2 dL_giveCoins_22)

theorem wqL_lease : (Jvm.Cond.codeWith ({ cls := "BenchBrokerLaw", name := "lease", desc := "(LBenchBroker;III[J)I" } : Jvm.MethodName) method_25_code (6 : Nat) (Option.some Jvm.ClassFile.FieldType.int) [((0 : Nat), (12 : Nat), (15 : Nat), (13 : Nat)), ((0 : Nat), (12 : Nat), (19 : Nat), (15 : Nat)), ((0 : Nat), (12 : Nat), (23 : Nat), (17 : Nat))]) ∈ GW := tq_4 206 rfl rfl
set_option maxHeartbeats 4000000 in
set_option maxRecDepth 100000 in
/-- the law's lease -/
theorem w_lease (l : Launch) (dg : va_G) (ck : Nat → ClassId) (ka : Nat → Nat) (ad ra : Nat → Nat → Nat) (Z O U X : Nat → Int) (S T P I : St) (V N Y : Int → Int) (Q : Nat → St) (oa : Nat) (D : Nat → Int64) (x y z : Int) (sz : Nat) {Mx : Int} (hV : Inv Mx S) (hM9 : Mx + 99 ≤ 4000000) (hn : 0 ≤ X 0 ∧ X 0 < 8) (hz : 0 ≤ X 1 ∧ X 1 ≤ 8) (rg_x : -2147483648 ≤ x ∧ x < 2147483648) (rg_y : -2147483648 ≤ y ∧ y < 2147483648) (rg_z : -2147483648 ≤ z ∧ z < 2147483648) (hst : l.stackTraces = false) : Met l yL_lease (.codeWith yL_lease cL_lease 6 (some .int) [(0, 12, 15, 13), (0, 12, 19, 15), (0, 12, 23, 17)] :: GW) ({ frames := 8, cells := 1, slots := 6, locals := 153 }) (va_Pc [.ref ((ad 7) 0), .int (zI x), .int (zI y), .int (zI z), .ref oa] (wrK dg ck ka sz (brkW ck ka ad ra Z O U X S T P I V N Y Q ++ lngC ck oa D))) (va_Qi (fun r (u : BU × (Nat → Int64)) => (r = zI 0 ∧ ∃ r1 : Int32, (r1 = zI ((outc O (leZ S x y z).1 (leZ S x y z).2.1) 1) ∧ (outc O (leZ S x y z).1 (leZ S x y z).2.1) 0 = 0) ∧ u.1 = (Z, (outc O (leZ S x y z).1 (leZ S x y z).2.1), U, (upO (upO X 0 (((X 0) + 1) % 8)) 1 (k1Z (X 1))), (leZ S x y z).2.2, (leZ S x y z).2.2, P, I, V, N, Y, (upQ Q (X 0) S)) ∧ u.2 0 = r1.toInt64) ∨ (r = zI 1 ∧ ((outc O (leZ S x y z).1 (leZ S x y z).2.1) 0 = 1) ∧ u.1 = ((if (outc O (leZ S x y z).1 (leZ S x y z).2.1) 0 = 3 then (upO (upO (upO Z 1 ((outc O (leZ S x y z).1 (leZ S x y z).2.1) 2)) 2 ((outc O (leZ S x y z).1 (leZ S x y z).2.1) 3)) 3 0) else Z), (outc O (leZ S x y z).1 (leZ S x y z).2.1), U, X, S, (leZ S x y z).2.2, P, I, V, N, Y, Q)) ∨ (r = zI 2 ∧ ((outc O (leZ S x y z).1 (leZ S x y z).2.1) 0 = 2) ∧ u.1 = ((if (outc O (leZ S x y z).1 (leZ S x y z).2.1) 0 = 3 then (upO (upO (upO Z 1 ((outc O (leZ S x y z).1 (leZ S x y z).2.1) 2)) 2 ((outc O (leZ S x y z).1 (leZ S x y z).2.1) 3)) 3 0) else Z), (outc O (leZ S x y z).1 (leZ S x y z).2.1), U, X, S, (leZ S x y z).2.2, P, I, V, N, Y, Q)) ∨ (r = zI 3 ∧ ((outc O (leZ S x y z).1 (leZ S x y z).2.1) 0 = 3) ∧ u.1 = ((if (outc O (leZ S x y z).1 (leZ S x y z).2.1) 0 = 3 then (upO (upO (upO Z 1 ((outc O (leZ S x y z).1 (leZ S x y z).2.1) 2)) 2 ((outc O (leZ S x y z).1 (leZ S x y z).2.1) 3)) 3 0) else Z), (outc O (leZ S x y z).1 (leZ S x y z).2.1), U, X, S, (leZ S x y z).2.2, P, I, V, N, Y, Q))) (fun u t9 => wrQ dg sz (brkW ck ka ad ra Z O U X S T P I V N Y Q ++ lngC ck oa D) (brkU ck ka ad ra u.1 ++ lngC ck oa u.2) t9) (va_A (brkW ck ka ad ra Z O U X S T P I V N Y Q ++ lngC ck oa D) sz)) 1 6 (va_A (brkW ck ka ad ra Z O U X S T P I V N Y Q ++ lngC ck oa D) sz) := by
  refine x_ofWH (cc := cL_lease) (maxL := 6) (ret := (some .int)) (by decide) rfl ?_
  intro p e s m args below meth c s₁ B hml htab hv
  obtain ⟨rfl, ⟨hsz, hP, hK, hD0⟩, hC⟩ := hv
  have hx := B.exec
  have hb := B.bytes
  have hr := B.returns
  have hts := atoms_spec (ws := .codeWith yL_lease cL_lease 6 (some .int) [(0, 12, 15, 13), (0, 12, 19, 15), (0, 12, 23, 17)] :: GW) B.pre
  have htg : ∀ w ∈ GW, w.before _ s = true := fun w h => hts w (List.mem_cons_of_mem _ h)
  have hown : s.vm.findClass RL = some m.cls := findClass_of_methodNamed B.named
  have hlocks := B.notSynchronized
  subst hsz
  have hD := hD0.self (sz := s.heap.size)
  generalize hAe : va_A (brkW ck ka ad ra Z O U X S T P I V N Y Q ++ lngC ck oa D) s.heap.size = A at hD hC ⊢
  have hA : ∀ q : Nat, s.heap.size ≤ q → A q := fun q h => by rw [← hAe]; exact Or.inr h
  have hS : va_S A s.heap s.heap [] := va_S.rf
  have hP : va_P dg vwCl (brkW ck ka ad ra Z O U X S T P I V N Y Q ++ lngC ck oa D) s.heap := hP
  have hl := lv_entry ([.ref ((ad 7) 0), .int (zI x), .int (zI y), .int (zI z), .ref oa]) (n := 6) (Nat.le_of_ble_eq_true rfl)
  rw [lg_entry_eq]
  generalize (lg_sl ([.ref ((ad 7) 0), .int (zI x), .int (zI y), .int (zI z), .ref oa]) ++ List.replicate (6 - (lg_sl ([.ref ((ad 7) 0), .int (zI x), .int (zI y), .int (zI z), .ref oa])).length) Slot.unset).toArray = ls at hl ⊢
  have hl : lv_has ls 6 [(0, .ref ((ad 7) 0)), (1, .int (zI x)), (2, .int (zI y)), (3, .int (zI z)), (4, .ref oa)] := hl
  refine lv_aload hx hb dL_lease_0 (lv_at hl 4 rfl) ?_
  refine x_iconst hx hb dL_lease_2 ?_
  refine lv_aload_n hx hb dL_lease_3 rfl (lv_at hl 0 rfl) ?_
  refine lv_iload_n hx hb dL_lease_4 rfl (lv_at hl 1 rfl) ?_
  refine lv_iload_n hx hb dL_lease_5 rfl (lv_at hl 2 rfl) ?_
  refine lv_iload_n hx hb dL_lease_6 rfl (lv_at hl 3 rfl) ?_
  refine xl_calli (M := brkW ck ka ad ra Z O U X S T P I V N Y Q) (N := lngC ck oa D) (Mf := fun u : Unit => brkW ck ka ad ra Z (outc O (leZ S x y z).1 (leZ S x y z).2.1) U (upO (upO X 0 (((X 0) + 1) % 8)) 1 (k1Z (X 1))) (leZ S x y z).2.2 (leZ S x y z).2.2 P I V N Y (upQ Q (X 0) S)) (MX := fun u : Unit => brkW ck ka ad ra (if (outc O (leZ S x y z).1 (leZ S x y z).2.1) 0 = 3 then (upO (upO (upO Z 1 ((outc O (leZ S x y z).1 (leZ S x y z).2.1) 2)) 2 ((outc O (leZ S x y z).1 (leZ S x y z).2.1) 3)) 3 0) else Z) (outc O (leZ S x y z).1 (leZ S x y z).2.1) U X S (leZ S x y z).2.2 P I V N Y Q) hP hD hS hA (fun hPm hDm => vx_runV (As := [.int (zI x), .int (zI y), .int (zI z)]) (rest := [.int (zI 0), .ref oa]) ⟨hx, hb, hml, hown, htg⟩ (x_lease l dg ck ka ad ra Z O U X S T P I V N Y Q x y z _ hV hM9 hn hz rg_x rg_y rg_z hst) (cwV 3 htg (gwV wq_927 wq_928 wq_929 wq_1 wq_930) rfl rfl rfl (by decide +kernel) ⟨Nat.le_of_ble_eq_true rfl, Nat.le_of_ble_eq_true rfl⟩) (wrK_preV hK hPm hDm hC hS hA 0 10 rfl rfl) rfl rfl hl.1 rfl (lv_room (Nat.le_of_ble_eq_true rfl)) dL_lease_7 ⟨Nat.le_of_ble_eq_true rfl, Nat.le_of_ble_eq_true rfl⟩) (fun E9 ce9 q9 u9 H locs hE9 hP hD hS g1 g2 g3 => ?_) (fun r9 u9 H locs hn9 hP hD hS => ?_)
  · rcases hE9 with ⟨rfl, hc⟩ | ⟨rfl, hc⟩ | ⟨rfl, hc⟩
    · refine vx_catch (own := RL) (name := "java/lang/IndexOutOfBoundsException") hown [] ⟨0, 12, 15, 13⟩ [⟨0, 12, 19, 15⟩, ⟨0, 12, 23, 17⟩] (by rw [htab]; rfl) (fun z hz => absurd hz List.not_mem_nil) (by decide) (by decide) (htg _ wq_514) (va_Nw.use rfl (hC.nw (w := .castable "java/lang/IndexOutOfBoundsException" "java/lang/IndexOutOfBoundsException") (by decide +kernel))) g1 g2 g3 ?_
      refine W.eq (g2 := F0 m 15 ls [.ref q9]) rfl ?_
      refine lv_astore (lv' := [(5, .ref q9), (0, .ref ((ad 7) 0)), (1, .int (zI x)), (2, .int (zI y)), (3, .int (zI z)), (4, .ref oa)]) hx hb dL_lease_15 hl (by decide) rfl (fun ls hl => ?_)
      refine x_iconst hx hb dL_lease_17 ?_
      exact W.widen (k := 1) (n := 6) (Nat.le_of_ble_eq_true rfl) (Nat.le_of_ble_eq_true rfl) (W.iret (v := _) hx hb hr (fun t9 ht9 hW9 => ⟨⟨_, (((if (outc O (leZ S x y z).1 (leZ S x y z).2.1) 0 = 3 then (upO (upO (upO Z 1 ((outc O (leZ S x y z).1 (leZ S x y z).2.1) 2)) 2 ((outc O (leZ S x y z).1 (leZ S x y z).2.1) 3)) 3 0) else Z), (outc O (leZ S x y z).1 (leZ S x y z).2.1), U, X, S, (leZ S x y z).2.2, P, I, V, N, Y, Q), D), rfl, (Or.inr (Or.inl ⟨rfl, hc, rfl⟩)), by rw [ht9]; exact hP, by rw [hAe]; exact hD⟩, hS.F ht9⟩) hS.2.2 dL_lease_18)
    · refine vx_catch (own := RL) (name := "java/lang/IllegalArgumentException") hown [⟨0, 12, 15, 13⟩] ⟨0, 12, 19, 15⟩ [⟨0, 12, 23, 17⟩] (by rw [htab]; rfl) (by intro z hz; simp only [List.mem_cons, List.not_mem_nil, or_false] at hz; subst hz; exact Or.inr ⟨by decide, "java/lang/IndexOutOfBoundsException", htg _ wq_514, hC.nc (by decide +kernel)⟩) (by decide) (by decide) (htg _ wq_594) (va_Nw.use rfl (hC.nw (w := .castable "java/lang/IllegalArgumentException" "java/lang/IllegalArgumentException") (by decide +kernel))) g1 g2 g3 ?_
      refine W.eq (g2 := F0 m 19 ls [.ref q9]) rfl ?_
      refine lv_astore (lv' := [(5, .ref q9), (0, .ref ((ad 7) 0)), (1, .int (zI x)), (2, .int (zI y)), (3, .int (zI z)), (4, .ref oa)]) hx hb dL_lease_19 hl (by decide) rfl (fun ls hl => ?_)
      refine x_iconst hx hb dL_lease_21 ?_
      exact W.widen (k := 1) (n := 6) (Nat.le_of_ble_eq_true rfl) (Nat.le_of_ble_eq_true rfl) (W.iret (v := _) hx hb hr (fun t9 ht9 hW9 => ⟨⟨_, (((if (outc O (leZ S x y z).1 (leZ S x y z).2.1) 0 = 3 then (upO (upO (upO Z 1 ((outc O (leZ S x y z).1 (leZ S x y z).2.1) 2)) 2 ((outc O (leZ S x y z).1 (leZ S x y z).2.1) 3)) 3 0) else Z), (outc O (leZ S x y z).1 (leZ S x y z).2.1), U, X, S, (leZ S x y z).2.2, P, I, V, N, Y, Q), D), rfl, (Or.inr (Or.inr (Or.inl ⟨rfl, hc, rfl⟩))), by rw [ht9]; exact hP, by rw [hAe]; exact hD⟩, hS.F ht9⟩) hS.2.2 dL_lease_22)
    · refine vx_catch (own := RL) (name := "java/lang/UnsupportedOperationException") hown [⟨0, 12, 15, 13⟩, ⟨0, 12, 19, 15⟩] ⟨0, 12, 23, 17⟩ [] (by rw [htab]; rfl) (by intro z hz; simp only [List.mem_cons, List.not_mem_nil, or_false] at hz; exact hz.elim (fun e9 => by subst e9; exact Or.inr ⟨by decide, "java/lang/IndexOutOfBoundsException", htg _ wq_514, hC.nc (by decide +kernel)⟩) (fun e9 => by subst e9; exact Or.inr ⟨by decide, "java/lang/IllegalArgumentException", htg _ wq_594, hC.nc (by decide +kernel)⟩)) (by decide) (by decide) (htg _ wq_595) (va_Nw.use rfl (hC.nw (w := .castable "java/lang/UnsupportedOperationException" "java/lang/UnsupportedOperationException") (by decide +kernel))) g1 g2 g3 ?_
      refine W.eq (g2 := F0 m 23 ls [.ref q9]) rfl ?_
      refine lv_astore (lv' := [(5, .ref q9), (0, .ref ((ad 7) 0)), (1, .int (zI x)), (2, .int (zI y)), (3, .int (zI z)), (4, .ref oa)]) hx hb dL_lease_23 hl (by decide) rfl (fun ls hl => ?_)
      refine x_iconst hx hb dL_lease_25 ?_
      exact W.widen (k := 1) (n := 6) (Nat.le_of_ble_eq_true rfl) (Nat.le_of_ble_eq_true rfl) (W.iret (v := _) hx hb hr (fun t9 ht9 hW9 => ⟨⟨_, (((if (outc O (leZ S x y z).1 (leZ S x y z).2.1) 0 = 3 then (upO (upO (upO Z 1 ((outc O (leZ S x y z).1 (leZ S x y z).2.1) 2)) 2 ((outc O (leZ S x y z).1 (leZ S x y z).2.1) 3)) 3 0) else Z), (outc O (leZ S x y z).1 (leZ S x y z).2.1), U, X, S, (leZ S x y z).2.2, P, I, V, N, Y, Q), D), rfl, (Or.inr (Or.inr (Or.inr ⟨rfl, hc, rfl⟩))), by rw [ht9]; exact hP, by rw [hAe]; exact hD⟩, hS.F ht9⟩) hS.2.2 dL_lease_26)
  have hP : va_P dg vwCl (brkW ck ka ad ra Z (outc O (leZ S x y z).1 (leZ S x y z).2.1) U (upO (upO X 0 (((X 0) + 1) % 8)) 1 (k1Z (X 1))) (leZ S x y z).2.2 (leZ S x y z).2.2 P I V N Y (upQ Q (X 0) S) ++ lngC ck oa D) H := hP
  have hD : va_D A (brkW ck ka ad ra Z (outc O (leZ S x y z).1 (leZ S x y z).2.1) U (upO (upO X 0 (((X 0) + 1) % 8)) 1 (k1Z (X 1))) (leZ S x y z).2.2 (leZ S x y z).2.2 P I V N Y (upQ Q (X 0) S) ++ lngC ck oa D) := hD
  refine lv_i2l hx hb dL_lease_10 rfl ?_
  refine va_last hx hb hK hP hD hS 166 5 rfl rfl (zI_in (z := 0) (by decide) (by decide)) dL_lease_11 (fun H locs hP hD hS => ?_)
  have hP : va_P dg vwCl (brkW ck ka ad ra Z (outc O (leZ S x y z).1 (leZ S x y z).2.1) U (upO (upO X 0 (((X 0) + 1) % 8)) 1 (k1Z (X 1))) (leZ S x y z).2.2 (leZ S x y z).2.2 P I V N Y (upQ Q (X 0) S) ++ lngC ck oa (vp_updL D (zI 0).toNatClampNeg r9.toInt64)) H := hP
  have hD : va_D A (brkW ck ka ad ra Z (outc O (leZ S x y z).1 (leZ S x y z).2.1) U (upO (upO X 0 (((X 0) + 1) % 8)) 1 (k1Z (X 1))) (leZ S x y z).2.2 (leZ S x y z).2.2 P I V N Y (upQ Q (X 0) S) ++ lngC ck oa (vp_updL D (zI 0).toNatClampNeg r9.toInt64)) := hD
  refine lv_goto (tgt := 27) hx hb dL_lease_12 (by decide) ?_
  refine x_iconst hx hb dL_lease_27 ?_
  exact W.widen (k := 1) (n := 6) (Nat.le_of_ble_eq_true rfl) (Nat.le_of_ble_eq_true rfl) (W.iret (v := _) hx hb hr (fun t9 ht9 hW9 => ⟨⟨_, ((Z, (outc O (leZ S x y z).1 (leZ S x y z).2.1), U, (upO (upO X 0 (((X 0) + 1) % 8)) 1 (k1Z (X 1))), (leZ S x y z).2.2, (leZ S x y z).2.2, P, I, V, N, Y, (upQ Q (X 0) S)), (vp_updL D (zI 0).toNatClampNeg r9.toInt64)), rfl, (Or.inl ⟨rfl, r9, hn9, rfl, rfl⟩), by rw [ht9]; exact hP, by rw [hAe]; exact hD⟩, hS.F ht9⟩) hS.2.2 dL_lease_28)

theorem wqL_endLease : (Jvm.Cond.codeWith ({ cls := "BenchBrokerLaw", name := "endLease", desc := "(LBenchBroker;I[J)I" } : Jvm.MethodName) method_26_code (4 : Nat) (Option.some Jvm.ClassFile.FieldType.int) [((0 : Nat), (9 : Nat), (12 : Nat), (13 : Nat)), ((0 : Nat), (9 : Nat), (15 : Nat), (17 : Nat))]) ∈ GW := tq_4 223 rfl rfl
set_option maxHeartbeats 4000000 in
set_option maxRecDepth 100000 in
/-- the law's endLease -/
theorem w_endLease (l : Launch) (dg : va_G) (ck : Nat → ClassId) (ka : Nat → Nat) (ad ra : Nat → Nat → Nat) (Z O U X : Nat → Int) (S T P I : St) (V N Y : Int → Int) (Q : Nat → St) (oa : Nat) (D : Nat → Int64) (x : Int) (sz : Nat) {Mx : Int} (hV : Inv Mx S) (hM9 : Mx + 99 ≤ 4000000) (hn : 0 ≤ X 0 ∧ X 0 < 8) (hz : 0 ≤ X 1 ∧ X 1 ≤ 8) (rg_x : -2147483648 ≤ x ∧ x < 2147483648) (hst : l.stackTraces = false) : Met l yL_endLease (.codeWith yL_endLease cL_endLease 4 (some .int) [(0, 9, 12, 13), (0, 9, 15, 17)] :: GW) ({ frames := 8, cells := 1, slots := 6, locals := 151 }) (va_Pc [.ref ((ad 7) 0), .int (zI x), .ref oa] (wrK dg ck ka sz (brkW ck ka ad ra Z O U X S T P I V N Y Q ++ lngC ck oa D))) (va_Qi (fun r (u : BU × (Nat → Int64)) => (r = zI 0 ∧ ∃ r1 : Int32, (r1 = zI ((outc O (enZ S x).1 (enZ S x).2.1) 1) ∧ (outc O (enZ S x).1 (enZ S x).2.1) 0 = 0) ∧ u.1 = (Z, (outc O (enZ S x).1 (enZ S x).2.1), U, (upO (upO X 0 (((X 0) + 1) % 8)) 1 (k1Z (X 1))), (enZ S x).2.2, (enZ S x).2.2, P, I, V, N, Y, (upQ Q (X 0) S)) ∧ u.2 0 = r1.toInt64) ∨ (r = zI 1 ∧ ((outc O (enZ S x).1 (enZ S x).2.1) 0 = 1) ∧ u.1 = ((if (outc O (enZ S x).1 (enZ S x).2.1) 0 = 3 then (upO (upO (upO Z 1 ((outc O (enZ S x).1 (enZ S x).2.1) 2)) 2 ((outc O (enZ S x).1 (enZ S x).2.1) 3)) 3 0) else Z), (outc O (enZ S x).1 (enZ S x).2.1), U, X, S, (enZ S x).2.2, P, I, V, N, Y, Q)) ∨ (r = zI 2 ∧ ((outc O (enZ S x).1 (enZ S x).2.1) 0 = 3) ∧ u.1 = ((if (outc O (enZ S x).1 (enZ S x).2.1) 0 = 3 then (upO (upO (upO Z 1 ((outc O (enZ S x).1 (enZ S x).2.1) 2)) 2 ((outc O (enZ S x).1 (enZ S x).2.1) 3)) 3 0) else Z), (outc O (enZ S x).1 (enZ S x).2.1), U, X, S, (enZ S x).2.2, P, I, V, N, Y, Q))) (fun u t9 => wrQ dg sz (brkW ck ka ad ra Z O U X S T P I V N Y Q ++ lngC ck oa D) (brkU ck ka ad ra u.1 ++ lngC ck oa u.2) t9) (va_A (brkW ck ka ad ra Z O U X S T P I V N Y Q ++ lngC ck oa D) sz)) 1 6 (va_A (brkW ck ka ad ra Z O U X S T P I V N Y Q ++ lngC ck oa D) sz) := by
  refine x_ofWH (cc := cL_endLease) (maxL := 4) (ret := (some .int)) (by decide) rfl ?_
  intro p e s m args below meth c s₁ B hml htab hv
  obtain ⟨rfl, ⟨hsz, hP, hK, hD0⟩, hC⟩ := hv
  have hx := B.exec
  have hb := B.bytes
  have hr := B.returns
  have hts := atoms_spec (ws := .codeWith yL_endLease cL_endLease 4 (some .int) [(0, 9, 12, 13), (0, 9, 15, 17)] :: GW) B.pre
  have htg : ∀ w ∈ GW, w.before _ s = true := fun w h => hts w (List.mem_cons_of_mem _ h)
  have hown : s.vm.findClass RL = some m.cls := findClass_of_methodNamed B.named
  have hlocks := B.notSynchronized
  subst hsz
  have hD := hD0.self (sz := s.heap.size)
  generalize hAe : va_A (brkW ck ka ad ra Z O U X S T P I V N Y Q ++ lngC ck oa D) s.heap.size = A at hD hC ⊢
  have hA : ∀ q : Nat, s.heap.size ≤ q → A q := fun q h => by rw [← hAe]; exact Or.inr h
  have hS : va_S A s.heap s.heap [] := va_S.rf
  have hP : va_P dg vwCl (brkW ck ka ad ra Z O U X S T P I V N Y Q ++ lngC ck oa D) s.heap := hP
  have hl := lv_entry ([.ref ((ad 7) 0), .int (zI x), .ref oa]) (n := 4) (Nat.le_of_ble_eq_true rfl)
  rw [lg_entry_eq]
  generalize (lg_sl ([.ref ((ad 7) 0), .int (zI x), .ref oa]) ++ List.replicate (4 - (lg_sl ([.ref ((ad 7) 0), .int (zI x), .ref oa])).length) Slot.unset).toArray = ls at hl ⊢
  have hl : lv_has ls 4 [(0, .ref ((ad 7) 0)), (1, .int (zI x)), (2, .ref oa)] := hl
  refine lv_aload_n hx hb dL_endLease_0 rfl (lv_at hl 2 rfl) ?_
  refine x_iconst hx hb dL_endLease_1 ?_
  refine lv_aload_n hx hb dL_endLease_2 rfl (lv_at hl 0 rfl) ?_
  refine lv_iload_n hx hb dL_endLease_3 rfl (lv_at hl 1 rfl) ?_
  refine xl_calli (M := brkW ck ka ad ra Z O U X S T P I V N Y Q) (N := lngC ck oa D) (Mf := fun u : Unit => brkW ck ka ad ra Z (outc O (enZ S x).1 (enZ S x).2.1) U (upO (upO X 0 (((X 0) + 1) % 8)) 1 (k1Z (X 1))) (enZ S x).2.2 (enZ S x).2.2 P I V N Y (upQ Q (X 0) S)) (MX := fun u : Unit => brkW ck ka ad ra (if (outc O (enZ S x).1 (enZ S x).2.1) 0 = 3 then (upO (upO (upO Z 1 ((outc O (enZ S x).1 (enZ S x).2.1) 2)) 2 ((outc O (enZ S x).1 (enZ S x).2.1) 3)) 3 0) else Z) (outc O (enZ S x).1 (enZ S x).2.1) U X S (enZ S x).2.2 P I V N Y Q) hP hD hS hA (fun hPm hDm => vx_runV (As := [.int (zI x)]) (rest := [.int (zI 0), .ref oa]) ⟨hx, hb, hml, hown, htg⟩ (x_endLease l dg ck ka ad ra Z O U X S T P I V N Y Q x _ hV hM9 hn hz rg_x hst) (cwV 1 htg (gwV wq_944 wq_945 wq_946 wq_1 wq_947) rfl rfl rfl (by decide +kernel) ⟨Nat.le_of_ble_eq_true rfl, Nat.le_of_ble_eq_true rfl⟩) (wrK_preV hK hPm hDm hC hS hA 0 10 rfl rfl) rfl rfl hl.1 rfl (lv_room (Nat.le_of_ble_eq_true rfl)) dL_endLease_4 ⟨Nat.le_of_ble_eq_true rfl, Nat.le_of_ble_eq_true rfl⟩) (fun E9 ce9 q9 u9 H locs hE9 hP hD hS g1 g2 g3 => ?_) (fun r9 u9 H locs hn9 hP hD hS => ?_)
  · rcases hE9 with ⟨rfl, hc⟩ | ⟨rfl, hc⟩ | ⟨rfl, hc⟩
    · refine vx_catch (own := RL) (name := "java/lang/IndexOutOfBoundsException") hown [] ⟨0, 9, 12, 13⟩ [⟨0, 9, 15, 17⟩] (by rw [htab]; rfl) (fun z hz => absurd hz List.not_mem_nil) (by decide) (by decide) (htg _ wq_514) (va_Nw.use rfl (hC.nw (w := .castable "java/lang/IndexOutOfBoundsException" "java/lang/IndexOutOfBoundsException") (by decide +kernel))) g1 g2 g3 ?_
      refine W.eq (g2 := F0 m 12 ls [.ref q9]) rfl ?_
      refine lv_astore_n (lv' := [(3, .ref q9), (0, .ref ((ad 7) 0)), (1, .int (zI x)), (2, .ref oa)]) hx hb dL_endLease_12 rfl hl (by decide) rfl (fun ls hl => ?_)
      refine x_iconst hx hb dL_endLease_13 ?_
      exact W.widen (k := 1) (n := 6) (Nat.le_of_ble_eq_true rfl) (Nat.le_of_ble_eq_true rfl) (W.iret (v := _) hx hb hr (fun t9 ht9 hW9 => ⟨⟨_, (((if (outc O (enZ S x).1 (enZ S x).2.1) 0 = 3 then (upO (upO (upO Z 1 ((outc O (enZ S x).1 (enZ S x).2.1) 2)) 2 ((outc O (enZ S x).1 (enZ S x).2.1) 3)) 3 0) else Z), (outc O (enZ S x).1 (enZ S x).2.1), U, X, S, (enZ S x).2.2, P, I, V, N, Y, Q), D), rfl, (Or.inr (Or.inl ⟨rfl, hc, rfl⟩)), by rw [ht9]; exact hP, by rw [hAe]; exact hD⟩, hS.F ht9⟩) hS.2.2 dL_endLease_14)
    · exact absurd (outc_2 hc) (en_c S x)
    · refine vx_catch (own := RL) (name := "java/lang/UnsupportedOperationException") hown [⟨0, 9, 12, 13⟩] ⟨0, 9, 15, 17⟩ [] (by rw [htab]; rfl) (by intro z hz; simp only [List.mem_cons, List.not_mem_nil, or_false] at hz; subst hz; exact Or.inr ⟨by decide, "java/lang/IndexOutOfBoundsException", htg _ wq_514, hC.nc (by decide +kernel)⟩) (by decide) (by decide) (htg _ wq_595) (va_Nw.use rfl (hC.nw (w := .castable "java/lang/UnsupportedOperationException" "java/lang/UnsupportedOperationException") (by decide +kernel))) g1 g2 g3 ?_
      refine W.eq (g2 := F0 m 15 ls [.ref q9]) rfl ?_
      refine lv_astore_n (lv' := [(3, .ref q9), (0, .ref ((ad 7) 0)), (1, .int (zI x)), (2, .ref oa)]) hx hb dL_endLease_15 rfl hl (by decide) rfl (fun ls hl => ?_)
      refine x_iconst hx hb dL_endLease_16 ?_
      exact W.widen (k := 1) (n := 6) (Nat.le_of_ble_eq_true rfl) (Nat.le_of_ble_eq_true rfl) (W.iret (v := _) hx hb hr (fun t9 ht9 hW9 => ⟨⟨_, (((if (outc O (enZ S x).1 (enZ S x).2.1) 0 = 3 then (upO (upO (upO Z 1 ((outc O (enZ S x).1 (enZ S x).2.1) 2)) 2 ((outc O (enZ S x).1 (enZ S x).2.1) 3)) 3 0) else Z), (outc O (enZ S x).1 (enZ S x).2.1), U, X, S, (enZ S x).2.2, P, I, V, N, Y, Q), D), rfl, (Or.inr (Or.inr ⟨rfl, hc, rfl⟩)), by rw [ht9]; exact hP, by rw [hAe]; exact hD⟩, hS.F ht9⟩) hS.2.2 dL_endLease_17)
  have hP : va_P dg vwCl (brkW ck ka ad ra Z (outc O (enZ S x).1 (enZ S x).2.1) U (upO (upO X 0 (((X 0) + 1) % 8)) 1 (k1Z (X 1))) (enZ S x).2.2 (enZ S x).2.2 P I V N Y (upQ Q (X 0) S) ++ lngC ck oa D) H := hP
  have hD : va_D A (brkW ck ka ad ra Z (outc O (enZ S x).1 (enZ S x).2.1) U (upO (upO X 0 (((X 0) + 1) % 8)) 1 (k1Z (X 1))) (enZ S x).2.2 (enZ S x).2.2 P I V N Y (upQ Q (X 0) S) ++ lngC ck oa D) := hD
  refine lv_i2l hx hb dL_endLease_7 rfl ?_
  refine va_last hx hb hK hP hD hS 166 5 rfl rfl (zI_in (z := 0) (by decide) (by decide)) dL_endLease_8 (fun H locs hP hD hS => ?_)
  have hP : va_P dg vwCl (brkW ck ka ad ra Z (outc O (enZ S x).1 (enZ S x).2.1) U (upO (upO X 0 (((X 0) + 1) % 8)) 1 (k1Z (X 1))) (enZ S x).2.2 (enZ S x).2.2 P I V N Y (upQ Q (X 0) S) ++ lngC ck oa (vp_updL D (zI 0).toNatClampNeg r9.toInt64)) H := hP
  have hD : va_D A (brkW ck ka ad ra Z (outc O (enZ S x).1 (enZ S x).2.1) U (upO (upO X 0 (((X 0) + 1) % 8)) 1 (k1Z (X 1))) (enZ S x).2.2 (enZ S x).2.2 P I V N Y (upQ Q (X 0) S) ++ lngC ck oa (vp_updL D (zI 0).toNatClampNeg r9.toInt64)) := hD
  refine lv_goto (tgt := 18) hx hb dL_endLease_9 (by decide) ?_
  refine x_iconst hx hb dL_endLease_18 ?_
  exact W.widen (k := 1) (n := 6) (Nat.le_of_ble_eq_true rfl) (Nat.le_of_ble_eq_true rfl) (W.iret (v := _) hx hb hr (fun t9 ht9 hW9 => ⟨⟨_, ((Z, (outc O (enZ S x).1 (enZ S x).2.1), U, (upO (upO X 0 (((X 0) + 1) % 8)) 1 (k1Z (X 1))), (enZ S x).2.2, (enZ S x).2.2, P, I, V, N, Y, (upQ Q (X 0) S)), (vp_updL D (zI 0).toNatClampNeg r9.toInt64)), rfl, (Or.inl ⟨rfl, r9, hn9, rfl, rfl⟩), by rw [ht9]; exact hP, by rw [hAe]; exact hD⟩, hS.F ht9⟩) hS.2.2 dL_endLease_19)

theorem wqL_renew : (Jvm.Cond.codeWith ({ cls := "BenchBrokerLaw", name := "renew", desc := "(LBenchBroker;II[J)I" } : Jvm.MethodName) method_27_code (5 : Nat) (Option.some Jvm.ClassFile.FieldType.int) [((0 : Nat), (10 : Nat), (13 : Nat), (13 : Nat)), ((0 : Nat), (10 : Nat), (17 : Nat), (15 : Nat)), ((0 : Nat), (10 : Nat), (21 : Nat), (17 : Nat))]) ∈ GW := tq_4 234 rfl rfl
set_option maxHeartbeats 4000000 in
set_option maxRecDepth 100000 in
/-- the law's renew -/
theorem w_renew (l : Launch) (dg : va_G) (ck : Nat → ClassId) (ka : Nat → Nat) (ad ra : Nat → Nat → Nat) (Z O U X : Nat → Int) (S T P I : St) (V N Y : Int → Int) (Q : Nat → St) (oa : Nat) (D : Nat → Int64) (x y : Int) (sz : Nat) {Mx : Int} (hV : Inv Mx S) (hM9 : Mx + 99 ≤ 4000000) (hn : 0 ≤ X 0 ∧ X 0 < 8) (hz : 0 ≤ X 1 ∧ X 1 ≤ 8) (rg_x : -2147483648 ≤ x ∧ x < 2147483648) (rg_y : -2147483648 ≤ y ∧ y < 2147483648) (hst : l.stackTraces = false) : Met l yL_renew (.codeWith yL_renew cL_renew 5 (some .int) [(0, 10, 13, 13), (0, 10, 17, 15), (0, 10, 21, 17)] :: GW) ({ frames := 8, cells := 1, slots := 6, locals := 152 }) (va_Pc [.ref ((ad 7) 0), .int (zI x), .int (zI y), .ref oa] (wrK dg ck ka sz (brkW ck ka ad ra Z O U X S T P I V N Y Q ++ lngC ck oa D))) (va_Qi (fun r (u : BU × (Nat → Int64)) => (r = zI 0 ∧ ∃ r1 : Int32, (r1 = zI ((outc O (reZ S x y).1 (reZ S x y).2.1) 1) ∧ (outc O (reZ S x y).1 (reZ S x y).2.1) 0 = 0) ∧ u.1 = (Z, (outc O (reZ S x y).1 (reZ S x y).2.1), U, (upO (upO X 0 (((X 0) + 1) % 8)) 1 (k1Z (X 1))), (reZ S x y).2.2, (reZ S x y).2.2, P, I, V, N, Y, (upQ Q (X 0) S)) ∧ u.2 0 = r1.toInt64) ∨ (r = zI 1 ∧ ((outc O (reZ S x y).1 (reZ S x y).2.1) 0 = 1) ∧ u.1 = ((if (outc O (reZ S x y).1 (reZ S x y).2.1) 0 = 3 then (upO (upO (upO Z 1 ((outc O (reZ S x y).1 (reZ S x y).2.1) 2)) 2 ((outc O (reZ S x y).1 (reZ S x y).2.1) 3)) 3 0) else Z), (outc O (reZ S x y).1 (reZ S x y).2.1), U, X, S, (reZ S x y).2.2, P, I, V, N, Y, Q)) ∨ (r = zI 2 ∧ ((outc O (reZ S x y).1 (reZ S x y).2.1) 0 = 2) ∧ u.1 = ((if (outc O (reZ S x y).1 (reZ S x y).2.1) 0 = 3 then (upO (upO (upO Z 1 ((outc O (reZ S x y).1 (reZ S x y).2.1) 2)) 2 ((outc O (reZ S x y).1 (reZ S x y).2.1) 3)) 3 0) else Z), (outc O (reZ S x y).1 (reZ S x y).2.1), U, X, S, (reZ S x y).2.2, P, I, V, N, Y, Q)) ∨ (r = zI 3 ∧ ((outc O (reZ S x y).1 (reZ S x y).2.1) 0 = 3) ∧ u.1 = ((if (outc O (reZ S x y).1 (reZ S x y).2.1) 0 = 3 then (upO (upO (upO Z 1 ((outc O (reZ S x y).1 (reZ S x y).2.1) 2)) 2 ((outc O (reZ S x y).1 (reZ S x y).2.1) 3)) 3 0) else Z), (outc O (reZ S x y).1 (reZ S x y).2.1), U, X, S, (reZ S x y).2.2, P, I, V, N, Y, Q))) (fun u t9 => wrQ dg sz (brkW ck ka ad ra Z O U X S T P I V N Y Q ++ lngC ck oa D) (brkU ck ka ad ra u.1 ++ lngC ck oa u.2) t9) (va_A (brkW ck ka ad ra Z O U X S T P I V N Y Q ++ lngC ck oa D) sz)) 1 6 (va_A (brkW ck ka ad ra Z O U X S T P I V N Y Q ++ lngC ck oa D) sz) := by
  refine x_ofWH (cc := cL_renew) (maxL := 5) (ret := (some .int)) (by decide) rfl ?_
  intro p e s m args below meth c s₁ B hml htab hv
  obtain ⟨rfl, ⟨hsz, hP, hK, hD0⟩, hC⟩ := hv
  have hx := B.exec
  have hb := B.bytes
  have hr := B.returns
  have hts := atoms_spec (ws := .codeWith yL_renew cL_renew 5 (some .int) [(0, 10, 13, 13), (0, 10, 17, 15), (0, 10, 21, 17)] :: GW) B.pre
  have htg : ∀ w ∈ GW, w.before _ s = true := fun w h => hts w (List.mem_cons_of_mem _ h)
  have hown : s.vm.findClass RL = some m.cls := findClass_of_methodNamed B.named
  have hlocks := B.notSynchronized
  subst hsz
  have hD := hD0.self (sz := s.heap.size)
  generalize hAe : va_A (brkW ck ka ad ra Z O U X S T P I V N Y Q ++ lngC ck oa D) s.heap.size = A at hD hC ⊢
  have hA : ∀ q : Nat, s.heap.size ≤ q → A q := fun q h => by rw [← hAe]; exact Or.inr h
  have hS : va_S A s.heap s.heap [] := va_S.rf
  have hP : va_P dg vwCl (brkW ck ka ad ra Z O U X S T P I V N Y Q ++ lngC ck oa D) s.heap := hP
  have hl := lv_entry ([.ref ((ad 7) 0), .int (zI x), .int (zI y), .ref oa]) (n := 5) (Nat.le_of_ble_eq_true rfl)
  rw [lg_entry_eq]
  generalize (lg_sl ([.ref ((ad 7) 0), .int (zI x), .int (zI y), .ref oa]) ++ List.replicate (5 - (lg_sl ([.ref ((ad 7) 0), .int (zI x), .int (zI y), .ref oa])).length) Slot.unset).toArray = ls at hl ⊢
  have hl : lv_has ls 5 [(0, .ref ((ad 7) 0)), (1, .int (zI x)), (2, .int (zI y)), (3, .ref oa)] := hl
  refine lv_aload_n hx hb dL_renew_0 rfl (lv_at hl 3 rfl) ?_
  refine x_iconst hx hb dL_renew_1 ?_
  refine lv_aload_n hx hb dL_renew_2 rfl (lv_at hl 0 rfl) ?_
  refine lv_iload_n hx hb dL_renew_3 rfl (lv_at hl 1 rfl) ?_
  refine lv_iload_n hx hb dL_renew_4 rfl (lv_at hl 2 rfl) ?_
  refine xl_calli (M := brkW ck ka ad ra Z O U X S T P I V N Y Q) (N := lngC ck oa D) (Mf := fun u : Unit => brkW ck ka ad ra Z (outc O (reZ S x y).1 (reZ S x y).2.1) U (upO (upO X 0 (((X 0) + 1) % 8)) 1 (k1Z (X 1))) (reZ S x y).2.2 (reZ S x y).2.2 P I V N Y (upQ Q (X 0) S)) (MX := fun u : Unit => brkW ck ka ad ra (if (outc O (reZ S x y).1 (reZ S x y).2.1) 0 = 3 then (upO (upO (upO Z 1 ((outc O (reZ S x y).1 (reZ S x y).2.1) 2)) 2 ((outc O (reZ S x y).1 (reZ S x y).2.1) 3)) 3 0) else Z) (outc O (reZ S x y).1 (reZ S x y).2.1) U X S (reZ S x y).2.2 P I V N Y Q) hP hD hS hA (fun hPm hDm => vx_runV (As := [.int (zI x), .int (zI y)]) (rest := [.int (zI 0), .ref oa]) ⟨hx, hb, hml, hown, htg⟩ (x_renew l dg ck ka ad ra Z O U X S T P I V N Y Q x y _ hV hM9 hn hz rg_x rg_y hst) (cwV 2 htg (gwV wq_955 wq_956 wq_957 wq_1 wq_958) rfl rfl rfl (by decide +kernel) ⟨Nat.le_of_ble_eq_true rfl, Nat.le_of_ble_eq_true rfl⟩) (wrK_preV hK hPm hDm hC hS hA 0 10 rfl rfl) rfl rfl hl.1 rfl (lv_room (Nat.le_of_ble_eq_true rfl)) dL_renew_5 ⟨Nat.le_of_ble_eq_true rfl, Nat.le_of_ble_eq_true rfl⟩) (fun E9 ce9 q9 u9 H locs hE9 hP hD hS g1 g2 g3 => ?_) (fun r9 u9 H locs hn9 hP hD hS => ?_)
  · rcases hE9 with ⟨rfl, hc⟩ | ⟨rfl, hc⟩ | ⟨rfl, hc⟩
    · refine vx_catch (own := RL) (name := "java/lang/IndexOutOfBoundsException") hown [] ⟨0, 10, 13, 13⟩ [⟨0, 10, 17, 15⟩, ⟨0, 10, 21, 17⟩] (by rw [htab]; rfl) (fun z hz => absurd hz List.not_mem_nil) (by decide) (by decide) (htg _ wq_514) (va_Nw.use rfl (hC.nw (w := .castable "java/lang/IndexOutOfBoundsException" "java/lang/IndexOutOfBoundsException") (by decide +kernel))) g1 g2 g3 ?_
      refine W.eq (g2 := F0 m 13 ls [.ref q9]) rfl ?_
      refine lv_astore (lv' := [(4, .ref q9), (0, .ref ((ad 7) 0)), (1, .int (zI x)), (2, .int (zI y)), (3, .ref oa)]) hx hb dL_renew_13 hl (by decide) rfl (fun ls hl => ?_)
      refine x_iconst hx hb dL_renew_15 ?_
      exact W.widen (k := 1) (n := 6) (Nat.le_of_ble_eq_true rfl) (Nat.le_of_ble_eq_true rfl) (W.iret (v := _) hx hb hr (fun t9 ht9 hW9 => ⟨⟨_, (((if (outc O (reZ S x y).1 (reZ S x y).2.1) 0 = 3 then (upO (upO (upO Z 1 ((outc O (reZ S x y).1 (reZ S x y).2.1) 2)) 2 ((outc O (reZ S x y).1 (reZ S x y).2.1) 3)) 3 0) else Z), (outc O (reZ S x y).1 (reZ S x y).2.1), U, X, S, (reZ S x y).2.2, P, I, V, N, Y, Q), D), rfl, (Or.inr (Or.inl ⟨rfl, hc, rfl⟩)), by rw [ht9]; exact hP, by rw [hAe]; exact hD⟩, hS.F ht9⟩) hS.2.2 dL_renew_16)
    · refine vx_catch (own := RL) (name := "java/lang/IllegalArgumentException") hown [⟨0, 10, 13, 13⟩] ⟨0, 10, 17, 15⟩ [⟨0, 10, 21, 17⟩] (by rw [htab]; rfl) (by intro z hz; simp only [List.mem_cons, List.not_mem_nil, or_false] at hz; subst hz; exact Or.inr ⟨by decide, "java/lang/IndexOutOfBoundsException", htg _ wq_514, hC.nc (by decide +kernel)⟩) (by decide) (by decide) (htg _ wq_594) (va_Nw.use rfl (hC.nw (w := .castable "java/lang/IllegalArgumentException" "java/lang/IllegalArgumentException") (by decide +kernel))) g1 g2 g3 ?_
      refine W.eq (g2 := F0 m 17 ls [.ref q9]) rfl ?_
      refine lv_astore (lv' := [(4, .ref q9), (0, .ref ((ad 7) 0)), (1, .int (zI x)), (2, .int (zI y)), (3, .ref oa)]) hx hb dL_renew_17 hl (by decide) rfl (fun ls hl => ?_)
      refine x_iconst hx hb dL_renew_19 ?_
      exact W.widen (k := 1) (n := 6) (Nat.le_of_ble_eq_true rfl) (Nat.le_of_ble_eq_true rfl) (W.iret (v := _) hx hb hr (fun t9 ht9 hW9 => ⟨⟨_, (((if (outc O (reZ S x y).1 (reZ S x y).2.1) 0 = 3 then (upO (upO (upO Z 1 ((outc O (reZ S x y).1 (reZ S x y).2.1) 2)) 2 ((outc O (reZ S x y).1 (reZ S x y).2.1) 3)) 3 0) else Z), (outc O (reZ S x y).1 (reZ S x y).2.1), U, X, S, (reZ S x y).2.2, P, I, V, N, Y, Q), D), rfl, (Or.inr (Or.inr (Or.inl ⟨rfl, hc, rfl⟩))), by rw [ht9]; exact hP, by rw [hAe]; exact hD⟩, hS.F ht9⟩) hS.2.2 dL_renew_20)
    · refine vx_catch (own := RL) (name := "java/lang/UnsupportedOperationException") hown [⟨0, 10, 13, 13⟩, ⟨0, 10, 17, 15⟩] ⟨0, 10, 21, 17⟩ [] (by rw [htab]; rfl) (by intro z hz; simp only [List.mem_cons, List.not_mem_nil, or_false] at hz; exact hz.elim (fun e9 => by subst e9; exact Or.inr ⟨by decide, "java/lang/IndexOutOfBoundsException", htg _ wq_514, hC.nc (by decide +kernel)⟩) (fun e9 => by subst e9; exact Or.inr ⟨by decide, "java/lang/IllegalArgumentException", htg _ wq_594, hC.nc (by decide +kernel)⟩)) (by decide) (by decide) (htg _ wq_595) (va_Nw.use rfl (hC.nw (w := .castable "java/lang/UnsupportedOperationException" "java/lang/UnsupportedOperationException") (by decide +kernel))) g1 g2 g3 ?_
      refine W.eq (g2 := F0 m 21 ls [.ref q9]) rfl ?_
      refine lv_astore (lv' := [(4, .ref q9), (0, .ref ((ad 7) 0)), (1, .int (zI x)), (2, .int (zI y)), (3, .ref oa)]) hx hb dL_renew_21 hl (by decide) rfl (fun ls hl => ?_)
      refine x_iconst hx hb dL_renew_23 ?_
      exact W.widen (k := 1) (n := 6) (Nat.le_of_ble_eq_true rfl) (Nat.le_of_ble_eq_true rfl) (W.iret (v := _) hx hb hr (fun t9 ht9 hW9 => ⟨⟨_, (((if (outc O (reZ S x y).1 (reZ S x y).2.1) 0 = 3 then (upO (upO (upO Z 1 ((outc O (reZ S x y).1 (reZ S x y).2.1) 2)) 2 ((outc O (reZ S x y).1 (reZ S x y).2.1) 3)) 3 0) else Z), (outc O (reZ S x y).1 (reZ S x y).2.1), U, X, S, (reZ S x y).2.2, P, I, V, N, Y, Q), D), rfl, (Or.inr (Or.inr (Or.inr ⟨rfl, hc, rfl⟩))), by rw [ht9]; exact hP, by rw [hAe]; exact hD⟩, hS.F ht9⟩) hS.2.2 dL_renew_24)
  have hP : va_P dg vwCl (brkW ck ka ad ra Z (outc O (reZ S x y).1 (reZ S x y).2.1) U (upO (upO X 0 (((X 0) + 1) % 8)) 1 (k1Z (X 1))) (reZ S x y).2.2 (reZ S x y).2.2 P I V N Y (upQ Q (X 0) S) ++ lngC ck oa D) H := hP
  have hD : va_D A (brkW ck ka ad ra Z (outc O (reZ S x y).1 (reZ S x y).2.1) U (upO (upO X 0 (((X 0) + 1) % 8)) 1 (k1Z (X 1))) (reZ S x y).2.2 (reZ S x y).2.2 P I V N Y (upQ Q (X 0) S) ++ lngC ck oa D) := hD
  refine lv_i2l hx hb dL_renew_8 rfl ?_
  refine va_last hx hb hK hP hD hS 166 5 rfl rfl (zI_in (z := 0) (by decide) (by decide)) dL_renew_9 (fun H locs hP hD hS => ?_)
  have hP : va_P dg vwCl (brkW ck ka ad ra Z (outc O (reZ S x y).1 (reZ S x y).2.1) U (upO (upO X 0 (((X 0) + 1) % 8)) 1 (k1Z (X 1))) (reZ S x y).2.2 (reZ S x y).2.2 P I V N Y (upQ Q (X 0) S) ++ lngC ck oa (vp_updL D (zI 0).toNatClampNeg r9.toInt64)) H := hP
  have hD : va_D A (brkW ck ka ad ra Z (outc O (reZ S x y).1 (reZ S x y).2.1) U (upO (upO X 0 (((X 0) + 1) % 8)) 1 (k1Z (X 1))) (reZ S x y).2.2 (reZ S x y).2.2 P I V N Y (upQ Q (X 0) S) ++ lngC ck oa (vp_updL D (zI 0).toNatClampNeg r9.toInt64)) := hD
  refine lv_goto (tgt := 25) hx hb dL_renew_10 (by decide) ?_
  refine x_iconst hx hb dL_renew_25 ?_
  exact W.widen (k := 1) (n := 6) (Nat.le_of_ble_eq_true rfl) (Nat.le_of_ble_eq_true rfl) (W.iret (v := _) hx hb hr (fun t9 ht9 hW9 => ⟨⟨_, ((Z, (outc O (reZ S x y).1 (reZ S x y).2.1), U, (upO (upO X 0 (((X 0) + 1) % 8)) 1 (k1Z (X 1))), (reZ S x y).2.2, (reZ S x y).2.2, P, I, V, N, Y, (upQ Q (X 0) S)), (vp_updL D (zI 0).toNatClampNeg r9.toInt64)), rfl, (Or.inl ⟨rfl, r9, hn9, rfl, rfl⟩), by rw [ht9]; exact hP, by rw [hAe]; exact hD⟩, hS.F ht9⟩) hS.2.2 dL_renew_26)

theorem wqL_passMonths : (Jvm.Cond.codeWith ({ cls := "BenchBrokerLaw", name := "passMonths", desc := "(LBenchBroker;I[J)I" } : Jvm.MethodName) method_33_code (4 : Nat) (Option.some Jvm.ClassFile.FieldType.int) [((0 : Nat), (9 : Nat), (12 : Nat), (15 : Nat))]) ∈ GW := tq_5 46 rfl rfl
set_option maxHeartbeats 4000000 in
set_option maxRecDepth 100000 in
/-- the law's passMonths -/
theorem w_passMonths (l : Launch) (dg : va_G) (ck : Nat → ClassId) (ka : Nat → Nat) (ad ra : Nat → Nat → Nat) (Z O U X : Nat → Int) (S T P I : St) (V N Y : Int → Int) (Q : Nat → St) (oa : Nat) (D : Nat → Int64) (x : Int) (sz : Nat) {Mx : Int} (hV : Inv Mx S) (hM9 : Mx + 99 ≤ 4000000) (hn : 0 ≤ X 0 ∧ X 0 < 8) (hz : 0 ≤ X 1 ∧ X 1 ≤ 8) (rg_x : -2147483648 ≤ x ∧ x < 2147483648) (hst : l.stackTraces = false) : Met l yL_passMonths (.codeWith yL_passMonths cL_passMonths 4 (some .int) [(0, 9, 12, 15)] :: GW) ({ frames := 8, cells := 1, slots := 6, locals := 151 }) (va_Pc [.ref ((ad 7) 0), .int (zI x), .ref oa] (wrK dg ck ka sz (brkW ck ka ad ra Z O U X S T P I V N Y Q ++ lngC ck oa D))) (va_Qi (fun r (u : BU × (Nat → Int64)) => (r = zI 0 ∧ ∃ r1 : Int32, (r1 = zI ((outc O (elZ S x).1 (elZ S x).2.1) 1) ∧ (outc O (elZ S x).1 (elZ S x).2.1) 0 = 0) ∧ u.1 = (Z, (outc O (elZ S x).1 (elZ S x).2.1), U, (upO (upO X 0 (((X 0) + 1) % 8)) 1 (k1Z (X 1))), (elZ S x).2.2, (elZ S x).2.2, P, I, V, N, Y, (upQ Q (X 0) S)) ∧ u.2 0 = r1.toInt64) ∨ (r = zI 1 ∧ ((outc O (elZ S x).1 (elZ S x).2.1) 0 = 2) ∧ u.1 = ((if (outc O (elZ S x).1 (elZ S x).2.1) 0 = 3 then (upO (upO (upO Z 1 ((outc O (elZ S x).1 (elZ S x).2.1) 2)) 2 ((outc O (elZ S x).1 (elZ S x).2.1) 3)) 3 0) else Z), (outc O (elZ S x).1 (elZ S x).2.1), U, X, S, (elZ S x).2.2, P, I, V, N, Y, Q))) (fun u t9 => wrQ dg sz (brkW ck ka ad ra Z O U X S T P I V N Y Q ++ lngC ck oa D) (brkU ck ka ad ra u.1 ++ lngC ck oa u.2) t9) (va_A (brkW ck ka ad ra Z O U X S T P I V N Y Q ++ lngC ck oa D) sz)) 1 6 (va_A (brkW ck ka ad ra Z O U X S T P I V N Y Q ++ lngC ck oa D) sz) := by
  refine x_ofWH (cc := cL_passMonths) (maxL := 4) (ret := (some .int)) (by decide) rfl ?_
  intro p e s m args below meth c s₁ B hml htab hv
  obtain ⟨rfl, ⟨hsz, hP, hK, hD0⟩, hC⟩ := hv
  have hx := B.exec
  have hb := B.bytes
  have hr := B.returns
  have hts := atoms_spec (ws := .codeWith yL_passMonths cL_passMonths 4 (some .int) [(0, 9, 12, 15)] :: GW) B.pre
  have htg : ∀ w ∈ GW, w.before _ s = true := fun w h => hts w (List.mem_cons_of_mem _ h)
  have hown : s.vm.findClass RL = some m.cls := findClass_of_methodNamed B.named
  have hlocks := B.notSynchronized
  subst hsz
  have hD := hD0.self (sz := s.heap.size)
  generalize hAe : va_A (brkW ck ka ad ra Z O U X S T P I V N Y Q ++ lngC ck oa D) s.heap.size = A at hD hC ⊢
  have hA : ∀ q : Nat, s.heap.size ≤ q → A q := fun q h => by rw [← hAe]; exact Or.inr h
  have hS : va_S A s.heap s.heap [] := va_S.rf
  have hP : va_P dg vwCl (brkW ck ka ad ra Z O U X S T P I V N Y Q ++ lngC ck oa D) s.heap := hP
  have hl := lv_entry ([.ref ((ad 7) 0), .int (zI x), .ref oa]) (n := 4) (Nat.le_of_ble_eq_true rfl)
  rw [lg_entry_eq]
  generalize (lg_sl ([.ref ((ad 7) 0), .int (zI x), .ref oa]) ++ List.replicate (4 - (lg_sl ([.ref ((ad 7) 0), .int (zI x), .ref oa])).length) Slot.unset).toArray = ls at hl ⊢
  have hl : lv_has ls 4 [(0, .ref ((ad 7) 0)), (1, .int (zI x)), (2, .ref oa)] := hl
  refine lv_aload_n hx hb dL_passMonths_0 rfl (lv_at hl 2 rfl) ?_
  refine x_iconst hx hb dL_passMonths_1 ?_
  refine lv_aload_n hx hb dL_passMonths_2 rfl (lv_at hl 0 rfl) ?_
  refine lv_iload_n hx hb dL_passMonths_3 rfl (lv_at hl 1 rfl) ?_
  refine xl_calli (M := brkW ck ka ad ra Z O U X S T P I V N Y Q) (N := lngC ck oa D) (Mf := fun u : Unit => brkW ck ka ad ra Z (outc O (elZ S x).1 (elZ S x).2.1) U (upO (upO X 0 (((X 0) + 1) % 8)) 1 (k1Z (X 1))) (elZ S x).2.2 (elZ S x).2.2 P I V N Y (upQ Q (X 0) S)) (MX := fun u : Unit => brkW ck ka ad ra (if (outc O (elZ S x).1 (elZ S x).2.1) 0 = 3 then (upO (upO (upO Z 1 ((outc O (elZ S x).1 (elZ S x).2.1) 2)) 2 ((outc O (elZ S x).1 (elZ S x).2.1) 3)) 3 0) else Z) (outc O (elZ S x).1 (elZ S x).2.1) U X S (elZ S x).2.2 P I V N Y Q) hP hD hS hA (fun hPm hDm => vx_runV (As := [.int (zI x)]) (rest := [.int (zI 0), .ref oa]) ⟨hx, hb, hml, hown, htg⟩ (x_passMonths l dg ck ka ad ra Z O U X S T P I V N Y Q x _ hV hM9 hn hz rg_x hst) (cwV 1 htg (gwV wq_1007 wq_1008 wq_1009 wq_1 wq_1010) rfl rfl rfl (by decide +kernel) ⟨Nat.le_of_ble_eq_true rfl, Nat.le_of_ble_eq_true rfl⟩) (wrK_preV hK hPm hDm hC hS hA 0 10 rfl rfl) rfl rfl hl.1 rfl (lv_room (Nat.le_of_ble_eq_true rfl)) dL_passMonths_4 ⟨Nat.le_of_ble_eq_true rfl, Nat.le_of_ble_eq_true rfl⟩) (fun E9 ce9 q9 u9 H locs hE9 hP hD hS g1 g2 g3 => ?_) (fun r9 u9 H locs hn9 hP hD hS => ?_)
  · rcases hE9 with ⟨rfl, hc⟩ | ⟨rfl, hc⟩ | ⟨rfl, hc⟩
    · exact absurd (outc_1 hc) (by rcases el_c S x with h | h <;> rw [h] <;> decide)
    · refine vx_catch (own := RL) (name := "java/lang/IllegalArgumentException") hown [] ⟨0, 9, 12, 15⟩ [] (by rw [htab]; rfl) (fun z hz => absurd hz List.not_mem_nil) (by decide) (by decide) (htg _ wq_594) (va_Nw.use rfl (hC.nw (w := .castable "java/lang/IllegalArgumentException" "java/lang/IllegalArgumentException") (by decide +kernel))) g1 g2 g3 ?_
      refine W.eq (g2 := F0 m 12 ls [.ref q9]) rfl ?_
      refine lv_astore_n (lv' := [(3, .ref q9), (0, .ref ((ad 7) 0)), (1, .int (zI x)), (2, .ref oa)]) hx hb dL_passMonths_12 rfl hl (by decide) rfl (fun ls hl => ?_)
      refine x_iconst hx hb dL_passMonths_13 ?_
      exact W.widen (k := 1) (n := 6) (Nat.le_of_ble_eq_true rfl) (Nat.le_of_ble_eq_true rfl) (W.iret (v := _) hx hb hr (fun t9 ht9 hW9 => ⟨⟨_, (((if (outc O (elZ S x).1 (elZ S x).2.1) 0 = 3 then (upO (upO (upO Z 1 ((outc O (elZ S x).1 (elZ S x).2.1) 2)) 2 ((outc O (elZ S x).1 (elZ S x).2.1) 3)) 3 0) else Z), (outc O (elZ S x).1 (elZ S x).2.1), U, X, S, (elZ S x).2.2, P, I, V, N, Y, Q), D), rfl, (Or.inr ⟨rfl, hc, rfl⟩), by rw [ht9]; exact hP, by rw [hAe]; exact hD⟩, hS.F ht9⟩) hS.2.2 dL_passMonths_14)
    · exact absurd (outc_4 (elZ_r S x).1 hc) (by rcases el_c S x with h | h <;> rw [h] <;> decide)
  have hP : va_P dg vwCl (brkW ck ka ad ra Z (outc O (elZ S x).1 (elZ S x).2.1) U (upO (upO X 0 (((X 0) + 1) % 8)) 1 (k1Z (X 1))) (elZ S x).2.2 (elZ S x).2.2 P I V N Y (upQ Q (X 0) S) ++ lngC ck oa D) H := hP
  have hD : va_D A (brkW ck ka ad ra Z (outc O (elZ S x).1 (elZ S x).2.1) U (upO (upO X 0 (((X 0) + 1) % 8)) 1 (k1Z (X 1))) (elZ S x).2.2 (elZ S x).2.2 P I V N Y (upQ Q (X 0) S) ++ lngC ck oa D) := hD
  refine lv_i2l hx hb dL_passMonths_7 rfl ?_
  refine va_last hx hb hK hP hD hS 166 5 rfl rfl (zI_in (z := 0) (by decide) (by decide)) dL_passMonths_8 (fun H locs hP hD hS => ?_)
  have hP : va_P dg vwCl (brkW ck ka ad ra Z (outc O (elZ S x).1 (elZ S x).2.1) U (upO (upO X 0 (((X 0) + 1) % 8)) 1 (k1Z (X 1))) (elZ S x).2.2 (elZ S x).2.2 P I V N Y (upQ Q (X 0) S) ++ lngC ck oa (vp_updL D (zI 0).toNatClampNeg r9.toInt64)) H := hP
  have hD : va_D A (brkW ck ka ad ra Z (outc O (elZ S x).1 (elZ S x).2.1) U (upO (upO X 0 (((X 0) + 1) % 8)) 1 (k1Z (X 1))) (elZ S x).2.2 (elZ S x).2.2 P I V N Y (upQ Q (X 0) S) ++ lngC ck oa (vp_updL D (zI 0).toNatClampNeg r9.toInt64)) := hD
  refine lv_goto (tgt := 15) hx hb dL_passMonths_9 (by decide) ?_
  refine x_iconst hx hb dL_passMonths_15 ?_
  exact W.widen (k := 1) (n := 6) (Nat.le_of_ble_eq_true rfl) (Nat.le_of_ble_eq_true rfl) (W.iret (v := _) hx hb hr (fun t9 ht9 hW9 => ⟨⟨_, ((Z, (outc O (elZ S x).1 (elZ S x).2.1), U, (upO (upO X 0 (((X 0) + 1) % 8)) 1 (k1Z (X 1))), (elZ S x).2.2, (elZ S x).2.2, P, I, V, N, Y, (upQ Q (X 0) S)), (vp_updL D (zI 0).toNatClampNeg r9.toInt64)), rfl, (Or.inl ⟨rfl, r9, hn9, rfl, rfl⟩), by rw [ht9]; exact hP, by rw [hAe]; exact hD⟩, hS.F ht9⟩) hS.2.2 dL_passMonths_16)
