/-! the law, from its entry -/
set_option maxHeartbeats 4000000 in
set_option maxRecDepth 100000 in
theorem whole_start {p : Program} {e : Env} {s : State} {m : MethodId} {below : List Frame} {meth : Method} {c : Code} (l : Launch) (hflags : l.flags = flags0) {b L : Nat} {xs : Nat → Int32} (hL : L ≤ 260) (C0 : lw_At p s m meth c b L xs) : W p l e room_1 s m #[Value.ref b] below meth c s.heap [] 0 0 (lw_Z below #[Value.ref b] s) (entryFrame m ([Value.ref b] : List Value).toArray 23) := by
  obtain ⟨A, hAe⟩ : ∃ A : Nat → Prop, A = fun q => s.heap.size ≤ q := ⟨_, rfl⟩
  have hA : ∀ q : Nat, s.heap.size ≤ q → A q := fun q h => by rw [hAe]; exact h
  obtain ⟨ka, k4, hC⟩ := kc_all (A := A) hL C0.2.2.2.2.2.2.1 C0.2.2.2.2.2.2.2.1 C0.2.2.2.2.2.1 C0.2.2.2.2.2.2.2.2.2 (fun a h => by rw [hAe]; exact Nat.not_le.mpr h)
  subst k4
  obtain ⟨hx, hb, hr, hml, hown, hts, hX, hbl, hlocks, hgv⟩ := id C0
  have htg : ∀ w ∈ GW, w.before #[Value.ref (ka 4)] s = true := fun w h => hts w (gw_tbl h)
  have hst : l.stackTraces = false := by unfold Launch.stackTraces; rw [hflags]; decide +kernel
  have hAO : va_AO "BenchBroker$Books" s := va_AO.of (hts _ (tl_1 166 rfl))
  obtain ⟨dg, ck, hK⟩ := wh_K htg hAO
  have hend : ∀ (H : Heap) (locs : List Loc) (ls : Array Slot), va_S A s.heap H locs → W p l e room_1 s m #[Value.ref (ka 4)] below meth c H locs 747773 6848010 (lw_Z below #[Value.ref (ka 4)] s) (F0 m 594 ls [.int (zI 1)]) := by
    intro H locs ls hS
    refine va_forget (fun q hq => by have h9 := hS.2.2 q hq; rw [hAe] at h9; exact h9) ?_
    refine W.base ?_
    exact lw_ret (Drawn.sameBut.refl s.drawn lw_cs) hx hb hr hlocks dL_law_594
  have hS : va_S A s.heap s.heap [] := va_S.rf
  have hP : va_P dg vwCl [] s.heap := fun k q h => by simp at h
  have hD : va_D A [] := ⟨fun i j p q h => by simp at h, fun k q h => by simp at h⟩
  have hl := lv_entry [Value.ref (ka 4)] (n := 23) (Nat.le_of_ble_eq_true rfl)
  rw [lg_entry_eq]
  generalize (lg_sl [Value.ref (ka 4)] ++ List.replicate (23 - (lg_sl [Value.ref (ka 4)]).length) Slot.unset).toArray = ls at hl ⊢
  have hl : lv_has ls 23 [(0, .ref (ka 4))] := hl
  refine va_new (ci := 10) (fs := [.null, .null, .null, .null, .int (zI 0), .null, .null, .null, .null, .int (zI 0), .int (zI 0), .int (zI 0), .int (zI 0)]) (C := RX8) (T := TX8) (N := 13) hx hb htg inG_X8 tyX8 tyX8_ok hown (htg _ wq_34) (htg _ wq_35) (htg _ wq_1) hK hP hD hS hA rfl (fun j hj => by rcases (show j = 0 ∨ j = 1 ∨ j = 2 ∨ j = 3 ∨ j = 4 ∨ j = 5 ∨ j = 6 ∨ j = 7 ∨ j = 8 ∨ j = 9 ∨ j = 10 ∨ j = 11 ∨ j = 12 by omega) with rfl | rfl | rfl | rfl | rfl | rfl | rfl | rfl | rfl | rfl | rfl | rfl | rfl <;> rfl) (Nat.le_of_ble_eq_true rfl) (Nat.le_of_ble_eq_true rfl) dL_law_0 (fun q0 H hP hD hS => ?_)
  have hP : va_P dg vwCl ([(q0, .inr (10, [.null, .null, .null, .null, .int (zI 0), .null, .null, .null, .null, .int (zI 0), .int (zI 0), .int (zI 0), .int (zI 0)]))]) H := hP
  have hD : va_D A ([(q0, .inr (10, [.null, .null, .null, .null, .int (zI 0), .null, .null, .null, .null, .int (zI 0), .int (zI 0), .int (zI 0), .int (zI 0)]))]) := hD
  refine lv_dup hx hb dL_law_3 rfl ?_
  refine x_callvUB (wf := fun u4 : (Nat → Nat → Nat) × (Nat → Nat → Nat) => brkW ck ka u4.1 u4.2 Z0 (fun _ => 0) (fun _ => 0) (fun _ => 0) S0 S0 S0 (fun _ _ => 0) (fun _ => 0) (fun _ => 0) (fun _ => 0) (fun _ => S0)) (M := [(q0, .inr (10, [.null, .null, .null, .null, .int (zI 0), .null, .null, .null, .null, .int (zI 0), .int (zI 0), .int (zI 0), .int (zI 0)]))]) (Mf := fun u4 => brkW ck ka u4.1 u4.2 Z0 (fun _ => 0) (fun _ => 0) (fun _ => 0) S0 S0 S0 (fun _ _ => 0) (fun _ => 0) (fun _ => 0) (fun _ => 0) (fun _ => S0)) (N := []) (by rw [List.append_nil]) (fun u4 => by rw [List.append_nil]) hP hD hS hA (fun hPm hDm => va_runI (As := []) (rest := [.ref q0]) ⟨hx, hb, hml, hown, htg⟩ (k_Broker l dg ck ka q0 _) (cwI 0 htg (gwG wq_38) rfl rfl rfl (htg _ wq_1) (htg _ wq_36) (htg _ wq_37) rfl (by decide +kernel) ⟨Nat.le_of_ble_eq_true rfl, Nat.le_of_ble_eq_true rfl⟩) (wrA_preS (A := A) (locs := []) hAO (wrK_preS hK hPm hDm hC hS hA)) rfl rfl hl.1 rfl (lv_room (Nat.le_of_ble_eq_true rfl)) dL_law_4 ⟨Nat.le_of_ble_eq_true rfl, Nat.le_of_ble_eq_true rfl⟩) (fun u4 H locs hu4 hP hD hS => ?_)
  obtain ⟨ad, ra⟩ := u4
  refine W.as (k' := 166) (n' := 1455) rfl rfl ?_
  refine W.eq (g2 := F0 m 7 ls [.ref ((ad 7) 0)]) (by rw [show ad 7 0 = q0 from hu4] <;> rfl) ?_
  have hP : va_P dg vwCl (brkU ck ka ad ra bu0) H := hP
  have hD : va_D A (brkU ck ka ad ra bu0) := hD
  have hκ := ki0
  have hR := ro0
  refine lv_astore_n (lv' := [(1, .ref ((ad 7) 0)), (0, .ref (ka 4))]) hx hb dL_law_7 rfl hl (by decide) rfl (fun ls hl => ?_)
  refine x_bipush hx hb dL_law_8 (by decide) ?_
  refine x_newl (atype := .long) (ty := .long) (f := fun _ => 0) (N := 70) hx hb (htg _ wq_1567) rfl (fun _ h => h) hK hP hD hS hA 5 rfl (fun _ => rfl) (by decide) (by decide) (by decide) (by show _ ≤ 747773; omega) (by show _ ≤ 6848010; omega) dL_law_10 (fun oa H hP hD hS => ?_)
  have hP : va_P dg vwCl (brkU ck ka ad ra bu0 ++ lngC ck oa (fun _ => 0)) H := hP
  have hD : va_D A (brkU ck ka ad ra bu0 ++ lngC ck oa (fun _ => 0)) := hD
  refine lv_astore_n (lv' := [(2, .ref oa), (1, .ref ((ad 7) 0)), (0, .ref (ka 4))]) hx hb dL_law_12 rfl hl (by decide) rfl (fun ls hl => ?_)
  refine x_iconst hx hb dL_law_13 ?_
  refine lv_istore_n (lv' := [(3, .int (zI 0)), (2, .ref oa), (1, .ref ((ad 7) 0)), (0, .ref (ka 4))]) hx hb dL_law_14 rfl hl (by decide) rfl (fun ls hl => ?_)
  refine lv_aload_n hx hb dL_law_15 rfl (lv_at hl 1 rfl) ?_
  refine lv_iload_n hx hb dL_law_16 rfl (lv_at hl 0 rfl) ?_
  refine lv_aload_n hx hb dL_law_17 rfl (lv_at hl 2 rfl) ?_
  refine x_calllUB (wf := fun b18 : BU => brkU ck ka ad ra b18 ++ lngC ck oa (fun _ => 0)) (M := brkU ck ka ad ra bu0) (Mf := fun b18 => brkU ck ka ad ra b18) (N := lngC ck oa (fun _ => 0)) (List.Perm.refl _) (fun b18 => List.Perm.refl _) hP hD hS hA (fun hPm hDm => va_runS (As := [.ref ((ad 7) 0)]) (rest := [.int (zI 0), .ref oa]) ⟨hx, hb, hml, hown, htg⟩ (lf_sum l dg ck ka ad ra S0 (fun _ => 0) (fun _ => S0) S0 0 bu0  _ hκ hR  hst) (cwS 1 htg (gwS wq_1178 wq_1179 wq_0 wq_1180) rfl rfl rfl (by decide +kernel) ⟨Nat.le_of_ble_eq_true rfl, Nat.le_of_ble_eq_true rfl⟩) (wrK_preS hK hPm hDm hC hS hA) rfl rfl hl.1 rfl (lv_room (Nat.le_of_ble_eq_true rfl)) dL_law_18 ⟨by show _ ≤ 747773; omega, by show _ ≤ 6848010; omega⟩) (fun r18 b18 H locs hw18 hP hD hS => ?_)
  have hP : va_P dg vwCl (brkU ck ka ad ra b18 ++ lngC ck oa (fun _ => 0)) H := hP
  have hD : va_D A (brkU ck ka ad ra b18 ++ lngC ck oa (fun _ => 0)) := hD
  obtain ⟨rfl, hR⟩ := hw18
  refine va_last hx hb hK hP hD hS 166 5 rfl rfl (zI_in (z := 0) (by omega) (by decide)) dL_law_21 (fun H locs hP hD hS => ?_)
  rw [zI_clamp (by omega)] at hP hD
  have hP : va_P dg vwCl (brkU ck ka ad ra b18 ++ lngC ck oa (vp_updL (fun _ => 0) (0 : Int).toNat (sumF S0))) H := hP
  have hD : va_D A (brkU ck ka ad ra b18 ++ lngC ck oa (vp_updL (fun _ => 0) (0 : Int).toNat (sumF S0))) := hD
  refine x_iconst hx hb dL_law_22 ?_
  refine lv_istore (lv' := [(4, .int (zI 0)), (3, .int (zI 0)), (2, .ref oa), (1, .ref ((ad 7) 0)), (0, .ref (ka 4))]) hx hb dL_law_23 hl (by decide) rfl (fun ls hl => ?_)
  refine x_iconst hx hb dL_law_25 ?_
  refine lv_istore (lv' := [(5, .int (zI 0)), (4, .int (zI 0)), (3, .int (zI 0)), (2, .ref oa), (1, .ref ((ad 7) 0)), (0, .ref (ka 4))]) hx hb dL_law_26 hl (by decide) rfl (fun ls hl => ?_)
  exact W.widen (k := 330) (n := 5000) (by omega) (by omega) (law_loop hx hb hml hown htg hK hC hA hst hend b18 S0 (fun _ => 0) (fun _ => S0) (vp_updL (fun _ => 0) (0 : Int).toNat (sumF S0)) 0 0 0 H locs ls ⟨by rw [Int.mul_zero]; exact ki0, hR, by omega, by omega, by omega, Int.le_refl 0, Or.inr rfl, hs0 _, if_pos rfl⟩ hP hD hS (lv_sub hl [5, 4, 3, 2, 1, 0] rfl) rfl)
