/-! the law: calls that change -/

set_option maxHeartbeats 4000000 in
set_option maxRecDepth 100000 in
/-- the law: a call of addBench -/
theorem lc_0 {p : Program} {l : Launch} {e : Env} {s : State} {m : MethodId} {below : List Frame} {meth : Method} {c : Code} {dg : va_G} {ck : Nat → ClassId} {ka : Nat → Nat} {b L : Nat} {xs : Nat → Int32} {A : Nat → Prop} {ad ra : Nat → Nat → Nat} {mo : Nat → Nat} {oa od : Nat} {Qf : State → Prop} {i : Int} {cells slots : Nat} (C0 : LX p l s m c dg ck ka b L xs A) (hi : 0 ≤ i ∧ i + 4 ≤ L) (hcell : cells + 3 ≤ 603072) (hslot : slots + 18 ≤ 7207018) (kk : LKK p l e s m below meth c dg ck ka ad ra mo oa od b A Qf i cells slots) {Z O U X : Nat → Int} {S T P I : St} {V N Y : Int → Int} {Q : Nat → St} {F1 F2 F3 F4 : Int → Int} {M : St} {D : Nat → Int64} {E : Nat → UInt64} {H : Heap} {locs : List Loc} {ls : Array Slot} (hLI : LI (775 * i) Z U X S P I Y Q F2 F3 M) (hP : va_P dg vwCl (brkW ck ka ad ra Z O U X S T P I V N Y Q ++ (modelC ck mo (encZ S) F1 F2 F3 F4 M ++ (lngC ck oa D ++ (dblC ck od E)))) H) (hD : va_D A (brkW ck ka ad ra Z O U X S T P I V N Y Q ++ (modelC ck mo (encZ S) F1 F2 F3 F4 M ++ (lngC ck oa D ++ (dblC ck od E))))) (hS : va_S A s.heap H locs) (hl : lv_has ls 9 [(0, .ref b), (1, .ref (ad 7 0)), (2, .ref (mo 0)), (3, .ref oa), (4, .ref od), (5, .int (zI i))]) : W p l e room_1 s m #[Value.ref b] below meth c H locs cells slots Qf (F0 m 312 ls []) := by
  obtain ⟨hx, hb, hml, hown, htg, hX, hbl, hbA, hK, hC, hA, hst, hL⟩ := id C0
  obtain ⟨hV, hlh, hls, hlt, hlo, hlf⟩ := id hLI
  obtain ⟨hn, hz, hk1, hq10, hhist⟩ := id hlh
  obtain ⟨hk2, hz0, hp10, hsn⟩ := id hls
  obtain ⟨hk3, hln, hk5, htx, hkv⟩ := id hlt
  obtain ⟨hk4, hu0, hy7, hY⟩ := id hlo
  obtain ⟨⟨hk5a, hz4⟩, ⟨hk6, hz1⟩, hk7, hk8⟩ := id hlf
  have hI := hV.bd
  have hs10 : ∀ i, 0 ≤ S 10 i ∧ S 10 i ≤ 1 := hI.2.2.2.2.2.2.2.2.2.2.2.2.2.1
  obtain ⟨x, hv_x⟩ : ∃ v9 : Int, (xs (i + 1).toNat).toInt = v9 := ⟨_, rfl⟩
  have rgx_x := xi_r (xs (i + 1).toNat)
  rw [hv_x] at rgx_x
  obtain ⟨y, hv_y⟩ : ∃ v9 : Int, (xs (i + 2).toNat).toInt = v9 := ⟨_, rfl⟩
  have rgx_y := xi_r (xs (i + 2).toNat)
  rw [hv_y] at rgx_y
  obtain ⟨z, hv_z⟩ : ∃ v9 : Int, (xs (i + 3).toNat).toInt = v9 := ⟨_, rfl⟩
  have rgx_z := xi_r (xs (i + 3).toNat)
  rw [hv_z] at rgx_z
  refine lv_aload_n hx hb dL_law_312 rfl (lv_at hl 1 rfl) ?_
  refine lv_aload_n hx hb dL_law_313 rfl (lv_at hl 0 rfl) ?_
  refine lv_iload hx hb dL_law_314 (lv_at hl 5 rfl) ?_
  refine x_iconst hx hb dL_law_316 ?_
  refine x_iadd hx hb dL_law_317 ?_
  refine x_sld hx hb hX hbl hbA hS (by omega) (by omega) hv_x dL_law_318 ?_
  refine lv_aload_n hx hb dL_law_319 rfl (lv_at hl 0 rfl) ?_
  refine lv_iload hx hb dL_law_320 (lv_at hl 5 rfl) ?_
  refine x_iconst hx hb dL_law_322 ?_
  refine x_iadd hx hb dL_law_323 ?_
  refine x_sld hx hb hX hbl hbA hS (by omega) (by omega) hv_y dL_law_324 ?_
  refine lv_aload_n hx hb dL_law_325 rfl (lv_at hl 0 rfl) ?_
  refine lv_iload hx hb dL_law_326 (lv_at hl 5 rfl) ?_
  refine x_iconst hx hb dL_law_328 ?_
  refine x_iadd hx hb dL_law_329 ?_
  refine x_sld hx hb hX hbl hbA hS (by omega) (by omega) hv_z dL_law_330 ?_
  refine lv_aload_n hx hb dL_law_331 rfl (lv_at hl 3 rfl) ?_
  refine x_calliUB (wf := fun u332 : BU × (Nat → Int64) => brkU ck ka ad ra u332.1 ++ (modelC ck mo (encZ S) F1 F2 F3 F4 M ++ (lngC ck oa u332.2 ++ (dblC ck od E)))) (M := brkW ck ka ad ra Z O U X S T P I V N Y Q ++ (lngC ck oa D)) (Mf := fun u332 => brkU ck ka ad ra u332.1 ++ (lngC ck oa u332.2)) (N := modelC ck mo (encZ S) F1 F2 F3 F4 M ++ (dblC ck od E)) (cat_perm [brkW ck ka ad ra Z O U X S T P I V N Y Q, modelC ck mo (encZ S) F1 F2 F3 F4 M, lngC ck oa D, dblC ck od E] [0, 2] [1, 3] 4 rfl (by decide)) (fun u332 => cat_perm [brkU ck ka ad ra u332.1, modelC ck mo (encZ S) F1 F2 F3 F4 M, lngC ck oa u332.2, dblC ck od E] [0, 2] [1, 3] 4 rfl (by decide)) hP hD hS hA (fun hPm hDm => vx_runSW (As := [.ref (ad 7 0), .int (zI x), .int (zI y), .int (zI z), .ref oa]) (rest := []) ⟨hx, hb, hml, hown, htg⟩ (w_addBench l dg ck ka ad ra Z O U X S T P I V N Y Q oa D x y z _ hV (by omega) hn hz (by omega) (by omega) (by omega) hst) (vx_cwSW 5 htg (gwSW wq_511 wq_512 wq_0 wqL_addBench) rfl rfl rfl (by decide +kernel) ⟨Nat.le_of_ble_eq_true rfl, Nat.le_of_ble_eq_true rfl⟩) (wrK_preS hK hPm hDm hC hS hA) rfl rfl hl.1 rfl (lv_room (Nat.le_of_ble_eq_true rfl)) dL_law_332 ⟨by show cells + 1 ≤ 603072; omega, by show slots + 6 ≤ 7207018; omega⟩) (fun r332 u332 H locs hw hP hD hS => ?_)
  have hP : va_P dg vwCl (brkU ck ka ad ra u332.1 ++ (modelC ck mo (encZ S) F1 F2 F3 F4 M ++ (lngC ck oa u332.2 ++ (dblC ck od E)))) H := hP
  have hD : va_D A (brkU ck ka ad ra u332.1 ++ (modelC ck mo (encZ S) F1 F2 F3 F4 M ++ (lngC ck oa u332.2 ++ (dblC ck od E)))) := hD
  refine lv_istore (lv' := [(6, .int r332), (0, .ref b), (1, .ref (ad 7 0)), (2, .ref (mo 0)), (3, .ref oa), (4, .ref od), (5, .int (zI i))]) hx hb dL_law_335 hl (by decide) rfl (fun ls hl => ?_)
  refine lv_aload_n hx hb dL_law_337 rfl (lv_at hl 3 rfl) ?_
  refine lv_aload_n hx hb dL_law_338 rfl (lv_at hl 1 rfl) ?_
  refine lv_iload hx hb dL_law_339 (lv_at hl 6 rfl) ?_
  refine x_iconst hx hb dL_law_341 ?_
  refine x_iadd hx hb dL_law_342 ?_
  refine x_sld hx hb hX hbl hbA hS (by omega) (by omega) hv_x dL_law_343 ?_
  refine lv_aload_n hx hb dL_law_344 rfl (lv_at hl 1 rfl) ?_
  refine lv_iload hx hb dL_law_345 (lv_at hl 6 rfl) ?_
  refine x_iconst hx hb dL_law_347 ?_
  refine x_iadd hx hb dL_law_348 ?_
  refine x_sld hx hb hX hbl hbA hS (by omega) (by omega) hv_y dL_law_349 ?_
  refine lv_aload_n hx hb dL_law_350 rfl (lv_at hl 1 rfl) ?_
  refine lv_iload hx hb dL_law_351 (lv_at hl 6 rfl) ?_
  refine x_iconst hx hb dL_law_353 ?_
  refine x_iadd hx hb dL_law_354 ?_
  refine x_sld hx hb hX hbl hbA hS (by omega) (by omega) hv_z dL_law_355 ?_
  refine x_calliB (ws' := brkU ck ka ad ra u332.1 ++ (modelC ck mo (encZ (pbZ S x y z).2.2) (encZ S) F2 (endF F3 (encZ S) (mAns (upS M 8 0 0) (pbZ S x y z).1 (pbZ S x y z).2.1) (pbZ S x y z).1) F4 (endM (mAns (upS M 8 0 0) (pbZ S x y z).1 (pbZ S x y z).2.1) (pbZ S x y z).1 3) ++ (lngC ck oa u332.2 ++ (dblC ck od E)))) (M := modelC ck mo (encZ S) F1 F2 F3 F4 M) (M' := modelC ck mo (encZ (pbZ S x y z).2.2) (encZ S) F2 (endF F3 (encZ S) (mAns (upS M 8 0 0) (pbZ S x y z).1 (pbZ S x y z).2.1) (pbZ S x y z).1) F4 (endM (mAns (upS M 8 0 0) (pbZ S x y z).1 (pbZ S x y z).2.1) (pbZ S x y z).1 3)) (N := brkU ck ka ad ra u332.1 ++ (lngC ck oa u332.2 ++ (dblC ck od E))) (cat_perm [brkU ck ka ad ra u332.1, modelC ck mo (encZ S) F1 F2 F3 F4 M, lngC ck oa u332.2, dblC ck od E] [1] [0, 2, 3] 4 rfl (by decide)) (cat_perm [brkU ck ka ad ra u332.1, modelC ck mo (encZ (pbZ S x y z).2.2) (encZ S) F2 (endF F3 (encZ S) (mAns (upS M 8 0 0) (pbZ S x y z).1 (pbZ S x y z).2.1) (pbZ S x y z).1) F4 (endM (mAns (upS M 8 0 0) (pbZ S x y z).1 (pbZ S x y z).2.1) (pbZ S x y z).1 3), lngC ck oa u332.2, dblC ck od E] [1] [0, 2, 3] 4 rfl (by decide)) hP hD hS hA (fun hPm hDm => va_runV (As := [.int (zI x), .int (zI y), .int (zI z)]) (rest := []) ⟨hx, hb, hml, hown, htg⟩ (m_addBench l dg ck mo S F1 F2 F3 F4 M x y z _ hV (by omega) (by omega) (by omega) (by omega)) (cwV 3 htg (gwV wq_1631 wq_1632 wq_1633 wq_15 wq_1634) rfl rfl rfl (by decide +kernel) ⟨Nat.le_of_ble_eq_true rfl, Nat.le_of_ble_eq_true rfl⟩) (wr_preV hK hPm hDm 0 11 rfl rfl) rfl rfl hl.1 rfl (lv_room (Nat.le_of_ble_eq_true rfl)) dL_law_356 ⟨by show _ ≤ 603072; omega, by show _ ≤ 7207018; omega⟩) (fun r356 H locs hr356 hP hD hS => ?_)
  subst hr356
  have hP : va_P dg vwCl (brkU ck ka ad ra u332.1 ++ (modelC ck mo (encZ (pbZ S x y z).2.2) (encZ S) F2 (endF F3 (encZ S) (mAns (upS M 8 0 0) (pbZ S x y z).1 (pbZ S x y z).2.1) (pbZ S x y z).1) F4 (endM (mAns (upS M 8 0 0) (pbZ S x y z).1 (pbZ S x y z).2.1) (pbZ S x y z).1 3) ++ (lngC ck oa u332.2 ++ (dblC ck od E)))) H := hP
  have hD : va_D A (brkU ck ka ad ra u332.1 ++ (modelC ck mo (encZ (pbZ S x y z).2.2) (encZ S) F2 (endF F3 (encZ S) (mAns (upS M 8 0 0) (pbZ S x y z).1 (pbZ S x y z).2.1) (pbZ S x y z).1) F4 (endM (mAns (upS M 8 0 0) (pbZ S x y z).1 (pbZ S x y z).2.1) (pbZ S x y z).1 3) ++ (lngC ck oa u332.2 ++ (dblC ck od E)))) := hD
  have hcase : ∃ t9 : Int, (endM (mAns (upS M 8 0 0) (pbZ S x y z).1 (pbZ S x y z).2.1) (pbZ S x y z).1 3) 8 0 = t9 ∧ r332 = zI t9 ∧ (0 ≤ t9 ∧ t9 ≤ 3) ∧ (t9 = 0 → u332.2 0 = (zI (endR (mAns (upS M 8 0 0) (pbZ S x y z).1 (pbZ S x y z).2.1) (pbZ S x y z).1)).toInt64) ∧ LI (775 * i + 3100) (u332.1.1) (u332.1.2.2.1) (u332.1.2.2.2.1) (u332.1.2.2.2.2.1) (u332.1.2.2.2.2.2.2.1) (u332.1.2.2.2.2.2.2.2.1) (u332.1.2.2.2.2.2.2.2.2.2.2.1) (u332.1.2.2.2.2.2.2.2.2.2.2.2) F2 (endF F3 (encZ S) (mAns (upS M 8 0 0) (pbZ S x y z).1 (pbZ S x y z).2.1) (pbZ S x y z).1) (endM (mAns (upS M 8 0 0) (pbZ S x y z).1 (pbZ S x y z).2.1) (pbZ S x y z).1 3) ∧ (pbZ S x y z).2.2 = u332.1.2.2.2.2.1 := by
    have hch := LI.chg (c := (pbZ S x y z).1) (x := (pbZ S x y z).2.1) (d := 3) (c2 := (pbZ S x y z).1) (S' := (pbZ S x y z).2.2) O (hLI.mono (show 775 * i ≤ 775 * i + 3100 by omega) (by omega)) ((pbZ_inv hV).mono (by omega) (by omega)) (pbZ_r S x y z) (fun q => actZ_k (S := S) (k := 0) (a := x) (b := y) (d := z) q) ⟨fun _ => rfl, fun q => q⟩
    obtain ⟨h0, h1, h2, h3, h4⟩ := hch
    rcases hw with ⟨e1, r1, hp, eu, ev⟩ | ⟨e1, hc, eu⟩ | ⟨e1, hc, eu⟩ | ⟨e1, hc, eu⟩
    · obtain ⟨rfl, ho⟩ := hp
      obtain ⟨g1, g2, g3⟩ := h0 ho
      refine ⟨0, g1, e1, by decide, fun _ => by rw [ev, g2], ?_, (by rw [eu] <;> rfl)⟩
      rw [eu]
      exact g3
    · obtain ⟨q1, q2⟩ := h1 (by rw [hc]; decide)
      obtain ⟨q3, q4⟩ := h2 hc
      refine ⟨1, q4.trans (by (try unfold mcd); (repeat' split) <;> omega), e1, by decide, fun q => absurd q (by decide), ?_, ?_⟩
      · rw [eu]
        exact q2
      · rw [eu]
        exact q1
    · obtain ⟨q1, q2⟩ := h1 (by rw [hc]; decide)
      obtain ⟨q3, q4⟩ := h3 hc
      refine ⟨2, q4.trans (by (try unfold mcd); (repeat' split) <;> omega), e1, by decide, fun q => absurd q (by decide), ?_, ?_⟩
      · rw [eu]
        exact q2
      · rw [eu]
        exact q1
    · obtain ⟨q1, q2⟩ := h1 (by rw [hc]; decide)
      obtain ⟨q3, q4⟩ := h4 hc
      refine ⟨3, q4.trans (by (try unfold mcd); (repeat' split) <;> omega), e1, by decide, fun q => absurd q (by decide), ?_, ?_⟩
      · rw [eu]
        exact q2
      · rw [eu]
        exact q1
  obtain ⟨t9, ht9, hr9, ht9b, hval, hLI2, hS2⟩ := hcase
  have ht9r : zI ((endM (mAns (upS M 8 0 0) (pbZ S x y z).1 (pbZ S x y z).2.1) (pbZ S x y z).1 3) 8 0) = r332 := by rw [ht9, hr9]
  refine lv_istore (lv' := [(7, .int (zI (endR (mAns (upS M 8 0 0) (pbZ S x y z).1 (pbZ S x y z).2.1) (pbZ S x y z).1))), (6, .int r332), (0, .ref b), (1, .ref (ad 7 0)), (2, .ref (mo 0)), (3, .ref oa), (4, .ref od), (5, .int (zI i))]) hx hb dL_law_359 hl (by decide) rfl (fun ls hl => ?_)
  refine lv_aload_n hx hb dL_law_361 rfl (lv_at hl 4 rfl) ?_
  refine vp_callSi (W.runV (As := []) (rest := []) ⟨hx, hb, hml, hown, htg⟩ (m_thrown l dg ck mo (pbZ S x y z).2.2 (encZ S) F2 (endF F3 (encZ S) (mAns (upS M 8 0 0) (pbZ S x y z).1 (pbZ S x y z).2.1) (pbZ S x y z).1) F4 (endM (mAns (upS M 8 0 0) (pbZ S x y z).1 (pbZ S x y z).2.1) (pbZ S x y z).1 3)) (cwV 0 htg (gwV wq_1627 wq_1628 wq_1629 wq_15 wq_1630) rfl rfl rfl (by decide +kernel) ⟨Nat.le_of_ble_eq_true rfl, Nat.le_of_ble_eq_true rfl⟩) (rd_preV hK (va_P_l (va_P_r hP)) 0 11 rfl rfl) rfl rfl hl.1 rfl (lv_room (Nat.le_of_ble_eq_true rfl)) dL_law_362 ⟨by show _ ≤ 603072; omega, by show _ ≤ 7207018; omega⟩) (fun r362 hr362 => ?_)
  subst hr362
  refine lv_iload hx hb dL_law_365 (lv_at hl 1 rfl) ?_
  refine lv_icmp_eq (tgt := 372) hx hb dL_law_367 (by decide) (fun _ => ?_) (fun c9 => absurd ht9r c9)
  refine lv_iload hx hb dL_law_372 (lv_at hl 1 rfl) ?_
  refine W.eq (g2 := F0 m 374 ls [.int (zI t9)]) (by rw [hr9]) ?_
  refine x_if_ne (tgt := 389) hx hb dL_law_374 (by decide) (by omega) (fun c9 => ?_) (fun c9 => ?_)
  · refine lv_goto (tgt := 3323) hx hb dL_law_389 (by decide) ?_
    refine W.widen (k := cells + 3) (n := slots + 18) (by omega) (by omega) ?_
    have hP : va_P dg vwCl (lawW ck ka ad ra mo oa od u332.1 (encZ S) F2 (endF F3 (encZ S) (mAns (upS M 8 0 0) (pbZ S x y z).1 (pbZ S x y z).2.1) (pbZ S x y z).1) F4 (endM (mAns (upS M 8 0 0) (pbZ S x y z).1 (pbZ S x y z).2.1) (pbZ S x y z).1 3) u332.2 E) H := va_P_eq (by rw [hS2] <;> rfl) hP
    have hD : va_D A (lawW ck ka ad ra mo oa od u332.1 (encZ S) F2 (endF F3 (encZ S) (mAns (upS M 8 0 0) (pbZ S x y z).1 (pbZ S x y z).2.1) (pbZ S x y z).1) F4 (endM (mAns (upS M 8 0 0) (pbZ S x y z).1 (pbZ S x y z).2.1) (pbZ S x y z).1 3) u332.2 E) := va_D_eq (by rw [hS2] <;> rfl) hD
    exact kk u332.1 (encZ S) F2 (endF F3 (encZ S) (mAns (upS M 8 0 0) (pbZ S x y z).1 (pbZ S x y z).2.1) (pbZ S x y z).1) F4 (endM (mAns (upS M 8 0 0) (pbZ S x y z).1 (pbZ S x y z).2.1) (pbZ S x y z).1 3) u332.2 E H locs ls hLI2 hP hD hS (lv_sub hl [2, 3, 4, 5, 6, 7] rfl)
  · have hv9 := hval (by omega)
    refine lv_aload_n hx hb dL_law_377 rfl (lv_at hl 5 rfl) ?_
    refine x_iconst hx hb dL_law_378 ?_
    refine va_lald hx hb hK hP 175 5 rfl rfl (zI_in (z := 0) (by decide) (by decide)) dL_law_379 ?_
    refine lv_iload hx hb dL_law_380 (lv_at hl 0 rfl) ?_
    refine lv_i2l hx hb dL_law_382 rfl ?_
    refine W.lcmp hx hb dL_law_383 ?_
    refine W.eq (g2 := F0 m 384 ls [.int (zI 0)]) (congrArg (fun v9 => F0 m 384 ls [.int v9]) ((congrArg (fun v9 => lg_cmp v9 _) hv9).trans (lg_self _))) ?_
    refine x_if_eq (tgt := 389) hx hb dL_law_384 (by decide) (by omega) (fun _ => ?_) (fun c => absurd rfl c)
    refine lv_goto (tgt := 3323) hx hb dL_law_389 (by decide) ?_
    refine W.widen (k := cells + 3) (n := slots + 18) (by omega) (by omega) ?_
    have hP : va_P dg vwCl (lawW ck ka ad ra mo oa od u332.1 (encZ S) F2 (endF F3 (encZ S) (mAns (upS M 8 0 0) (pbZ S x y z).1 (pbZ S x y z).2.1) (pbZ S x y z).1) F4 (endM (mAns (upS M 8 0 0) (pbZ S x y z).1 (pbZ S x y z).2.1) (pbZ S x y z).1 3) u332.2 E) H := va_P_eq (by rw [hS2] <;> rfl) hP
    have hD : va_D A (lawW ck ka ad ra mo oa od u332.1 (encZ S) F2 (endF F3 (encZ S) (mAns (upS M 8 0 0) (pbZ S x y z).1 (pbZ S x y z).2.1) (pbZ S x y z).1) F4 (endM (mAns (upS M 8 0 0) (pbZ S x y z).1 (pbZ S x y z).2.1) (pbZ S x y z).1 3) u332.2 E) := va_D_eq (by rw [hS2] <;> rfl) hD
    exact kk u332.1 (encZ S) F2 (endF F3 (encZ S) (mAns (upS M 8 0 0) (pbZ S x y z).1 (pbZ S x y z).2.1) (pbZ S x y z).1) F4 (endM (mAns (upS M 8 0 0) (pbZ S x y z).1 (pbZ S x y z).2.1) (pbZ S x y z).1 3) u332.2 E H locs ls hLI2 hP hD hS (lv_sub hl [2, 3, 4, 5, 6, 7] rfl)

set_option maxHeartbeats 4000000 in
set_option maxRecDepth 100000 in
/-- the law: a call of setRent -/
theorem lc_1 {p : Program} {l : Launch} {e : Env} {s : State} {m : MethodId} {below : List Frame} {meth : Method} {c : Code} {dg : va_G} {ck : Nat → ClassId} {ka : Nat → Nat} {b L : Nat} {xs : Nat → Int32} {A : Nat → Prop} {ad ra : Nat → Nat → Nat} {mo : Nat → Nat} {oa od : Nat} {Qf : State → Prop} {i : Int} {cells slots : Nat} (C0 : LX p l s m c dg ck ka b L xs A) (hi : 0 ≤ i ∧ i + 4 ≤ L) (hcell : cells + 3 ≤ 603072) (hslot : slots + 18 ≤ 7207018) (kk : LKK p l e s m below meth c dg ck ka ad ra mo oa od b A Qf i cells slots) {Z O U X : Nat → Int} {S T P I : St} {V N Y : Int → Int} {Q : Nat → St} {F1 F2 F3 F4 : Int → Int} {M : St} {D : Nat → Int64} {E : Nat → UInt64} {H : Heap} {locs : List Loc} {ls : Array Slot} (hLI : LI (775 * i) Z U X S P I Y Q F2 F3 M) (hP : va_P dg vwCl (brkW ck ka ad ra Z O U X S T P I V N Y Q ++ (modelC ck mo (encZ S) F1 F2 F3 F4 M ++ (lngC ck oa D ++ (dblC ck od E)))) H) (hD : va_D A (brkW ck ka ad ra Z O U X S T P I V N Y Q ++ (modelC ck mo (encZ S) F1 F2 F3 F4 M ++ (lngC ck oa D ++ (dblC ck od E))))) (hS : va_S A s.heap H locs) (hl : lv_has ls 9 [(0, .ref b), (1, .ref (ad 7 0)), (2, .ref (mo 0)), (3, .ref oa), (4, .ref od), (5, .int (zI i))]) : W p l e room_1 s m #[Value.ref b] below meth c H locs cells slots Qf (F0 m 392 ls []) := by
  obtain ⟨hx, hb, hml, hown, htg, hX, hbl, hbA, hK, hC, hA, hst, hL⟩ := id C0
  obtain ⟨hV, hlh, hls, hlt, hlo, hlf⟩ := id hLI
  obtain ⟨hn, hz, hk1, hq10, hhist⟩ := id hlh
  obtain ⟨hk2, hz0, hp10, hsn⟩ := id hls
  obtain ⟨hk3, hln, hk5, htx, hkv⟩ := id hlt
  obtain ⟨hk4, hu0, hy7, hY⟩ := id hlo
  obtain ⟨⟨hk5a, hz4⟩, ⟨hk6, hz1⟩, hk7, hk8⟩ := id hlf
  have hI := hV.bd
  have hs10 : ∀ i, 0 ≤ S 10 i ∧ S 10 i ≤ 1 := hI.2.2.2.2.2.2.2.2.2.2.2.2.2.1
  obtain ⟨x, hv_x⟩ : ∃ v9 : Int, (xs (i + 1).toNat).toInt = v9 := ⟨_, rfl⟩
  have rgx_x := xi_r (xs (i + 1).toNat)
  rw [hv_x] at rgx_x
  obtain ⟨y, hv_y⟩ : ∃ v9 : Int, (xs (i + 2).toNat).toInt = v9 := ⟨_, rfl⟩
  have rgx_y := xi_r (xs (i + 2).toNat)
  rw [hv_y] at rgx_y
  obtain ⟨z, hv_z⟩ : ∃ v9 : Int, (xs (i + 3).toNat).toInt = v9 := ⟨_, rfl⟩
  have rgx_z := xi_r (xs (i + 3).toNat)
  rw [hv_z] at rgx_z
  refine lv_aload_n hx hb dL_law_392 rfl (lv_at hl 1 rfl) ?_
  refine lv_aload_n hx hb dL_law_393 rfl (lv_at hl 0 rfl) ?_
  refine lv_iload hx hb dL_law_394 (lv_at hl 5 rfl) ?_
  refine x_iconst hx hb dL_law_396 ?_
  refine x_iadd hx hb dL_law_397 ?_
  refine x_sld hx hb hX hbl hbA hS (by omega) (by omega) hv_x dL_law_398 ?_
  refine lv_aload_n hx hb dL_law_399 rfl (lv_at hl 0 rfl) ?_
  refine lv_iload hx hb dL_law_400 (lv_at hl 5 rfl) ?_
  refine x_iconst hx hb dL_law_402 ?_
  refine x_iadd hx hb dL_law_403 ?_
  refine x_sld hx hb hX hbl hbA hS (by omega) (by omega) hv_y dL_law_404 ?_
  refine lv_aload_n hx hb dL_law_405 rfl (lv_at hl 3 rfl) ?_
  refine x_calliUB (wf := fun u406 : BU × (Nat → Int64) => brkU ck ka ad ra u406.1 ++ (modelC ck mo (encZ S) F1 F2 F3 F4 M ++ (lngC ck oa u406.2 ++ (dblC ck od E)))) (M := brkW ck ka ad ra Z O U X S T P I V N Y Q ++ (lngC ck oa D)) (Mf := fun u406 => brkU ck ka ad ra u406.1 ++ (lngC ck oa u406.2)) (N := modelC ck mo (encZ S) F1 F2 F3 F4 M ++ (dblC ck od E)) (cat_perm [brkW ck ka ad ra Z O U X S T P I V N Y Q, modelC ck mo (encZ S) F1 F2 F3 F4 M, lngC ck oa D, dblC ck od E] [0, 2] [1, 3] 4 rfl (by decide)) (fun u406 => cat_perm [brkU ck ka ad ra u406.1, modelC ck mo (encZ S) F1 F2 F3 F4 M, lngC ck oa u406.2, dblC ck od E] [0, 2] [1, 3] 4 rfl (by decide)) hP hD hS hA (fun hPm hDm => vx_runSW (As := [.ref (ad 7 0), .int (zI x), .int (zI y), .ref oa]) (rest := []) ⟨hx, hb, hml, hown, htg⟩ (w_setRent l dg ck ka ad ra Z O U X S T P I V N Y Q oa D x y _ hV (by omega) hn hz (by omega) (by omega) hst) (vx_cwSW 4 htg (gwSW wq_692 wq_693 wq_0 wqL_setRent) rfl rfl rfl (by decide +kernel) ⟨Nat.le_of_ble_eq_true rfl, Nat.le_of_ble_eq_true rfl⟩) (wrK_preS hK hPm hDm hC hS hA) rfl rfl hl.1 rfl (lv_room (Nat.le_of_ble_eq_true rfl)) dL_law_406 ⟨by show cells + 1 ≤ 603072; omega, by show slots + 6 ≤ 7207018; omega⟩) (fun r406 u406 H locs hw hP hD hS => ?_)
  have hP : va_P dg vwCl (brkU ck ka ad ra u406.1 ++ (modelC ck mo (encZ S) F1 F2 F3 F4 M ++ (lngC ck oa u406.2 ++ (dblC ck od E)))) H := hP
  have hD : va_D A (brkU ck ka ad ra u406.1 ++ (modelC ck mo (encZ S) F1 F2 F3 F4 M ++ (lngC ck oa u406.2 ++ (dblC ck od E)))) := hD
  refine lv_istore (lv' := [(6, .int r406), (0, .ref b), (1, .ref (ad 7 0)), (2, .ref (mo 0)), (3, .ref oa), (4, .ref od), (5, .int (zI i))]) hx hb dL_law_409 hl (by decide) rfl (fun ls hl => ?_)
  refine lv_aload_n hx hb dL_law_411 rfl (lv_at hl 3 rfl) ?_
  refine lv_aload_n hx hb dL_law_412 rfl (lv_at hl 1 rfl) ?_
  refine lv_iload hx hb dL_law_413 (lv_at hl 6 rfl) ?_
  refine x_iconst hx hb dL_law_415 ?_
  refine x_iadd hx hb dL_law_416 ?_
  refine x_sld hx hb hX hbl hbA hS (by omega) (by omega) hv_x dL_law_417 ?_
  refine lv_aload_n hx hb dL_law_418 rfl (lv_at hl 1 rfl) ?_
  refine lv_iload hx hb dL_law_419 (lv_at hl 6 rfl) ?_
  refine x_iconst hx hb dL_law_421 ?_
  refine x_iadd hx hb dL_law_422 ?_
  refine x_sld hx hb hX hbl hbA hS (by omega) (by omega) hv_y dL_law_423 ?_
  refine x_calliB (ws' := brkU ck ka ad ra u406.1 ++ (modelC ck mo (encZ (crZ S x y).2.2) (encZ S) F2 (endF F3 (encZ S) (mAns (upS M 8 0 0) (crZ S x y).1 (crZ S x y).2.1) (crZ S x y).1) F4 (endM (mAns (upS M 8 0 0) (crZ S x y).1 (crZ S x y).2.1) (crZ S x y).1 1) ++ (lngC ck oa u406.2 ++ (dblC ck od E)))) (M := modelC ck mo (encZ S) F1 F2 F3 F4 M) (M' := modelC ck mo (encZ (crZ S x y).2.2) (encZ S) F2 (endF F3 (encZ S) (mAns (upS M 8 0 0) (crZ S x y).1 (crZ S x y).2.1) (crZ S x y).1) F4 (endM (mAns (upS M 8 0 0) (crZ S x y).1 (crZ S x y).2.1) (crZ S x y).1 1)) (N := brkU ck ka ad ra u406.1 ++ (lngC ck oa u406.2 ++ (dblC ck od E))) (cat_perm [brkU ck ka ad ra u406.1, modelC ck mo (encZ S) F1 F2 F3 F4 M, lngC ck oa u406.2, dblC ck od E] [1] [0, 2, 3] 4 rfl (by decide)) (cat_perm [brkU ck ka ad ra u406.1, modelC ck mo (encZ (crZ S x y).2.2) (encZ S) F2 (endF F3 (encZ S) (mAns (upS M 8 0 0) (crZ S x y).1 (crZ S x y).2.1) (crZ S x y).1) F4 (endM (mAns (upS M 8 0 0) (crZ S x y).1 (crZ S x y).2.1) (crZ S x y).1 1), lngC ck oa u406.2, dblC ck od E] [1] [0, 2, 3] 4 rfl (by decide)) hP hD hS hA (fun hPm hDm => va_runV (As := [.int (zI x), .int (zI y)]) (rest := []) ⟨hx, hb, hml, hown, htg⟩ (m_setRent l dg ck mo S F1 F2 F3 F4 M x y _ hV (by omega) (by omega) (by omega)) (cwV 2 htg (gwV wq_1681 wq_1682 wq_1683 wq_15 wq_1684) rfl rfl rfl (by decide +kernel) ⟨Nat.le_of_ble_eq_true rfl, Nat.le_of_ble_eq_true rfl⟩) (wr_preV hK hPm hDm 0 11 rfl rfl) rfl rfl hl.1 rfl (lv_room (Nat.le_of_ble_eq_true rfl)) dL_law_424 ⟨by show _ ≤ 603072; omega, by show _ ≤ 7207018; omega⟩) (fun r424 H locs hr424 hP hD hS => ?_)
  subst hr424
  have hP : va_P dg vwCl (brkU ck ka ad ra u406.1 ++ (modelC ck mo (encZ (crZ S x y).2.2) (encZ S) F2 (endF F3 (encZ S) (mAns (upS M 8 0 0) (crZ S x y).1 (crZ S x y).2.1) (crZ S x y).1) F4 (endM (mAns (upS M 8 0 0) (crZ S x y).1 (crZ S x y).2.1) (crZ S x y).1 1) ++ (lngC ck oa u406.2 ++ (dblC ck od E)))) H := hP
  have hD : va_D A (brkU ck ka ad ra u406.1 ++ (modelC ck mo (encZ (crZ S x y).2.2) (encZ S) F2 (endF F3 (encZ S) (mAns (upS M 8 0 0) (crZ S x y).1 (crZ S x y).2.1) (crZ S x y).1) F4 (endM (mAns (upS M 8 0 0) (crZ S x y).1 (crZ S x y).2.1) (crZ S x y).1 1) ++ (lngC ck oa u406.2 ++ (dblC ck od E)))) := hD
  have hcase : ∃ t9 : Int, (endM (mAns (upS M 8 0 0) (crZ S x y).1 (crZ S x y).2.1) (crZ S x y).1 1) 8 0 = t9 ∧ r406 = zI t9 ∧ (0 ≤ t9 ∧ t9 ≤ 3) ∧ (t9 = 0 → u406.2 0 = (zI (endR (mAns (upS M 8 0 0) (crZ S x y).1 (crZ S x y).2.1) (crZ S x y).1)).toInt64) ∧ LI (775 * i + 3100) (u406.1.1) (u406.1.2.2.1) (u406.1.2.2.2.1) (u406.1.2.2.2.2.1) (u406.1.2.2.2.2.2.2.1) (u406.1.2.2.2.2.2.2.2.1) (u406.1.2.2.2.2.2.2.2.2.2.2.1) (u406.1.2.2.2.2.2.2.2.2.2.2.2) F2 (endF F3 (encZ S) (mAns (upS M 8 0 0) (crZ S x y).1 (crZ S x y).2.1) (crZ S x y).1) (endM (mAns (upS M 8 0 0) (crZ S x y).1 (crZ S x y).2.1) (crZ S x y).1 1) ∧ (crZ S x y).2.2 = u406.1.2.2.2.2.1 := by
    have hch := LI.chg (c := (crZ S x y).1) (x := (crZ S x y).2.1) (d := 1) (c2 := (crZ S x y).1) (S' := (crZ S x y).2.2) O (hLI.mono (show 775 * i ≤ 775 * i + 3100 by omega) (by omega)) ((crZ_inv hV).mono (by omega) (by omega)) (crZ_r S x y) (fun q => cr_k q) ⟨fun _ => rfl, fun q => q⟩
    obtain ⟨h0, h1, h2, h3, h4⟩ := hch
    rcases hw with ⟨e1, r1, hp, eu, ev⟩ | ⟨e1, hc, eu⟩ | ⟨e1, hc, eu⟩
    · obtain ⟨rfl, ho⟩ := hp
      obtain ⟨g1, g2, g3⟩ := h0 ho
      refine ⟨0, g1, e1, by decide, fun _ => by rw [ev, g2], ?_, (by rw [eu] <;> rfl)⟩
      rw [eu]
      exact g3
    · obtain ⟨q1, q2⟩ := h1 (by rw [hc]; decide)
      obtain ⟨q3, q4⟩ := h2 hc
      refine ⟨1, q4.trans (by (try unfold mcd); (repeat' split) <;> omega), e1, by decide, fun q => absurd q (by decide), ?_, ?_⟩
      · rw [eu]
        exact q2
      · rw [eu]
        exact q1
    · obtain ⟨q1, q2⟩ := h1 (by rw [hc]; decide)
      obtain ⟨q3, q4⟩ := h3 hc
      refine ⟨2, q4.trans (by (try unfold mcd); (repeat' split) <;> omega), e1, by decide, fun q => absurd q (by decide), ?_, ?_⟩
      · rw [eu]
        exact q2
      · rw [eu]
        exact q1
  obtain ⟨t9, ht9, hr9, ht9b, hval, hLI2, hS2⟩ := hcase
  have ht9r : zI ((endM (mAns (upS M 8 0 0) (crZ S x y).1 (crZ S x y).2.1) (crZ S x y).1 1) 8 0) = r406 := by rw [ht9, hr9]
  refine lv_istore (lv' := [(7, .int (zI (endR (mAns (upS M 8 0 0) (crZ S x y).1 (crZ S x y).2.1) (crZ S x y).1))), (6, .int r406), (0, .ref b), (1, .ref (ad 7 0)), (2, .ref (mo 0)), (3, .ref oa), (4, .ref od), (5, .int (zI i))]) hx hb dL_law_427 hl (by decide) rfl (fun ls hl => ?_)
  refine lv_aload_n hx hb dL_law_429 rfl (lv_at hl 4 rfl) ?_
  refine vp_callSi (W.runV (As := []) (rest := []) ⟨hx, hb, hml, hown, htg⟩ (m_thrown l dg ck mo (crZ S x y).2.2 (encZ S) F2 (endF F3 (encZ S) (mAns (upS M 8 0 0) (crZ S x y).1 (crZ S x y).2.1) (crZ S x y).1) F4 (endM (mAns (upS M 8 0 0) (crZ S x y).1 (crZ S x y).2.1) (crZ S x y).1 1)) (cwV 0 htg (gwV wq_1627 wq_1628 wq_1629 wq_15 wq_1630) rfl rfl rfl (by decide +kernel) ⟨Nat.le_of_ble_eq_true rfl, Nat.le_of_ble_eq_true rfl⟩) (rd_preV hK (va_P_l (va_P_r hP)) 0 11 rfl rfl) rfl rfl hl.1 rfl (lv_room (Nat.le_of_ble_eq_true rfl)) dL_law_430 ⟨by show _ ≤ 603072; omega, by show _ ≤ 7207018; omega⟩) (fun r430 hr430 => ?_)
  subst hr430
  refine lv_iload hx hb dL_law_433 (lv_at hl 1 rfl) ?_
  refine lv_icmp_eq (tgt := 440) hx hb dL_law_435 (by decide) (fun _ => ?_) (fun c9 => absurd ht9r c9)
  refine lv_iload hx hb dL_law_440 (lv_at hl 1 rfl) ?_
  refine W.eq (g2 := F0 m 442 ls [.int (zI t9)]) (by rw [hr9]) ?_
  refine x_if_ne (tgt := 457) hx hb dL_law_442 (by decide) (by omega) (fun c9 => ?_) (fun c9 => ?_)
  · refine lv_goto (tgt := 3323) hx hb dL_law_457 (by decide) ?_
    refine W.widen (k := cells + 3) (n := slots + 18) (by omega) (by omega) ?_
    have hP : va_P dg vwCl (lawW ck ka ad ra mo oa od u406.1 (encZ S) F2 (endF F3 (encZ S) (mAns (upS M 8 0 0) (crZ S x y).1 (crZ S x y).2.1) (crZ S x y).1) F4 (endM (mAns (upS M 8 0 0) (crZ S x y).1 (crZ S x y).2.1) (crZ S x y).1 1) u406.2 E) H := va_P_eq (by rw [hS2] <;> rfl) hP
    have hD : va_D A (lawW ck ka ad ra mo oa od u406.1 (encZ S) F2 (endF F3 (encZ S) (mAns (upS M 8 0 0) (crZ S x y).1 (crZ S x y).2.1) (crZ S x y).1) F4 (endM (mAns (upS M 8 0 0) (crZ S x y).1 (crZ S x y).2.1) (crZ S x y).1 1) u406.2 E) := va_D_eq (by rw [hS2] <;> rfl) hD
    exact kk u406.1 (encZ S) F2 (endF F3 (encZ S) (mAns (upS M 8 0 0) (crZ S x y).1 (crZ S x y).2.1) (crZ S x y).1) F4 (endM (mAns (upS M 8 0 0) (crZ S x y).1 (crZ S x y).2.1) (crZ S x y).1 1) u406.2 E H locs ls hLI2 hP hD hS (lv_sub hl [2, 3, 4, 5, 6, 7] rfl)
  · have hv9 := hval (by omega)
    refine lv_aload_n hx hb dL_law_445 rfl (lv_at hl 5 rfl) ?_
    refine x_iconst hx hb dL_law_446 ?_
    refine va_lald hx hb hK hP 175 5 rfl rfl (zI_in (z := 0) (by decide) (by decide)) dL_law_447 ?_
    refine lv_iload hx hb dL_law_448 (lv_at hl 0 rfl) ?_
    refine lv_i2l hx hb dL_law_450 rfl ?_
    refine W.lcmp hx hb dL_law_451 ?_
    refine W.eq (g2 := F0 m 452 ls [.int (zI 0)]) (congrArg (fun v9 => F0 m 452 ls [.int v9]) ((congrArg (fun v9 => lg_cmp v9 _) hv9).trans (lg_self _))) ?_
    refine x_if_eq (tgt := 457) hx hb dL_law_452 (by decide) (by omega) (fun _ => ?_) (fun c => absurd rfl c)
    refine lv_goto (tgt := 3323) hx hb dL_law_457 (by decide) ?_
    refine W.widen (k := cells + 3) (n := slots + 18) (by omega) (by omega) ?_
    have hP : va_P dg vwCl (lawW ck ka ad ra mo oa od u406.1 (encZ S) F2 (endF F3 (encZ S) (mAns (upS M 8 0 0) (crZ S x y).1 (crZ S x y).2.1) (crZ S x y).1) F4 (endM (mAns (upS M 8 0 0) (crZ S x y).1 (crZ S x y).2.1) (crZ S x y).1 1) u406.2 E) H := va_P_eq (by rw [hS2] <;> rfl) hP
    have hD : va_D A (lawW ck ka ad ra mo oa od u406.1 (encZ S) F2 (endF F3 (encZ S) (mAns (upS M 8 0 0) (crZ S x y).1 (crZ S x y).2.1) (crZ S x y).1) F4 (endM (mAns (upS M 8 0 0) (crZ S x y).1 (crZ S x y).2.1) (crZ S x y).1 1) u406.2 E) := va_D_eq (by rw [hS2] <;> rfl) hD
    exact kk u406.1 (encZ S) F2 (endF F3 (encZ S) (mAns (upS M 8 0 0) (crZ S x y).1 (crZ S x y).2.1) (crZ S x y).1) F4 (endM (mAns (upS M 8 0 0) (crZ S x y).1 (crZ S x y).2.1) (crZ S x y).1 1) u406.2 E H locs ls hLI2 hP hD hS (lv_sub hl [2, 3, 4, 5, 6, 7] rfl)

set_option maxHeartbeats 4000000 in
set_option maxRecDepth 100000 in
/-- the law: a call of addFountain -/
theorem lc_2 {p : Program} {l : Launch} {e : Env} {s : State} {m : MethodId} {below : List Frame} {meth : Method} {c : Code} {dg : va_G} {ck : Nat → ClassId} {ka : Nat → Nat} {b L : Nat} {xs : Nat → Int32} {A : Nat → Prop} {ad ra : Nat → Nat → Nat} {mo : Nat → Nat} {oa od : Nat} {Qf : State → Prop} {i : Int} {cells slots : Nat} (C0 : LX p l s m c dg ck ka b L xs A) (hi : 0 ≤ i ∧ i + 4 ≤ L) (hcell : cells + 3 ≤ 603072) (hslot : slots + 18 ≤ 7207018) (kk : LKK p l e s m below meth c dg ck ka ad ra mo oa od b A Qf i cells slots) {Z O U X : Nat → Int} {S T P I : St} {V N Y : Int → Int} {Q : Nat → St} {F1 F2 F3 F4 : Int → Int} {M : St} {D : Nat → Int64} {E : Nat → UInt64} {H : Heap} {locs : List Loc} {ls : Array Slot} (hLI : LI (775 * i) Z U X S P I Y Q F2 F3 M) (hP : va_P dg vwCl (brkW ck ka ad ra Z O U X S T P I V N Y Q ++ (modelC ck mo (encZ S) F1 F2 F3 F4 M ++ (lngC ck oa D ++ (dblC ck od E)))) H) (hD : va_D A (brkW ck ka ad ra Z O U X S T P I V N Y Q ++ (modelC ck mo (encZ S) F1 F2 F3 F4 M ++ (lngC ck oa D ++ (dblC ck od E))))) (hS : va_S A s.heap H locs) (hl : lv_has ls 9 [(0, .ref b), (1, .ref (ad 7 0)), (2, .ref (mo 0)), (3, .ref oa), (4, .ref od), (5, .int (zI i))]) : W p l e room_1 s m #[Value.ref b] below meth c H locs cells slots Qf (F0 m 460 ls []) := by
  obtain ⟨hx, hb, hml, hown, htg, hX, hbl, hbA, hK, hC, hA, hst, hL⟩ := id C0
  obtain ⟨hV, hlh, hls, hlt, hlo, hlf⟩ := id hLI
  obtain ⟨hn, hz, hk1, hq10, hhist⟩ := id hlh
  obtain ⟨hk2, hz0, hp10, hsn⟩ := id hls
  obtain ⟨hk3, hln, hk5, htx, hkv⟩ := id hlt
  obtain ⟨hk4, hu0, hy7, hY⟩ := id hlo
  obtain ⟨⟨hk5a, hz4⟩, ⟨hk6, hz1⟩, hk7, hk8⟩ := id hlf
  have hI := hV.bd
  have hs10 : ∀ i, 0 ≤ S 10 i ∧ S 10 i ≤ 1 := hI.2.2.2.2.2.2.2.2.2.2.2.2.2.1
  obtain ⟨x, hv_x⟩ : ∃ v9 : Int, (xs (i + 1).toNat).toInt = v9 := ⟨_, rfl⟩
  have rgx_x := xi_r (xs (i + 1).toNat)
  rw [hv_x] at rgx_x
  obtain ⟨y, hv_y⟩ : ∃ v9 : Int, (xs (i + 2).toNat).toInt = v9 := ⟨_, rfl⟩
  have rgx_y := xi_r (xs (i + 2).toNat)
  rw [hv_y] at rgx_y
  obtain ⟨z, hv_z⟩ : ∃ v9 : Int, (xs (i + 3).toNat).toInt = v9 := ⟨_, rfl⟩
  have rgx_z := xi_r (xs (i + 3).toNat)
  rw [hv_z] at rgx_z
  refine lv_aload_n hx hb dL_law_460 rfl (lv_at hl 1 rfl) ?_
  refine lv_aload_n hx hb dL_law_461 rfl (lv_at hl 0 rfl) ?_
  refine lv_iload hx hb dL_law_462 (lv_at hl 5 rfl) ?_
  refine x_iconst hx hb dL_law_464 ?_
  refine x_iadd hx hb dL_law_465 ?_
  refine x_sld hx hb hX hbl hbA hS (by omega) (by omega) hv_x dL_law_466 ?_
  refine lv_aload_n hx hb dL_law_467 rfl (lv_at hl 0 rfl) ?_
  refine lv_iload hx hb dL_law_468 (lv_at hl 5 rfl) ?_
  refine x_iconst hx hb dL_law_470 ?_
  refine x_iadd hx hb dL_law_471 ?_
  refine x_sld hx hb hX hbl hbA hS (by omega) (by omega) hv_y dL_law_472 ?_
  refine lv_aload_n hx hb dL_law_473 rfl (lv_at hl 0 rfl) ?_
  refine lv_iload hx hb dL_law_474 (lv_at hl 5 rfl) ?_
  refine x_iconst hx hb dL_law_476 ?_
  refine x_iadd hx hb dL_law_477 ?_
  refine x_sld hx hb hX hbl hbA hS (by omega) (by omega) hv_z dL_law_478 ?_
  refine lv_aload_n hx hb dL_law_479 rfl (lv_at hl 3 rfl) ?_
  refine x_calliUB (wf := fun u480 : BU × (Nat → Int64) => brkU ck ka ad ra u480.1 ++ (modelC ck mo (encZ S) F1 F2 F3 F4 M ++ (lngC ck oa u480.2 ++ (dblC ck od E)))) (M := brkW ck ka ad ra Z O U X S T P I V N Y Q ++ (lngC ck oa D)) (Mf := fun u480 => brkU ck ka ad ra u480.1 ++ (lngC ck oa u480.2)) (N := modelC ck mo (encZ S) F1 F2 F3 F4 M ++ (dblC ck od E)) (cat_perm [brkW ck ka ad ra Z O U X S T P I V N Y Q, modelC ck mo (encZ S) F1 F2 F3 F4 M, lngC ck oa D, dblC ck od E] [0, 2] [1, 3] 4 rfl (by decide)) (fun u480 => cat_perm [brkU ck ka ad ra u480.1, modelC ck mo (encZ S) F1 F2 F3 F4 M, lngC ck oa u480.2, dblC ck od E] [0, 2] [1, 3] 4 rfl (by decide)) hP hD hS hA (fun hPm hDm => vx_runSW (As := [.ref (ad 7 0), .int (zI x), .int (zI y), .int (zI z), .ref oa]) (rest := []) ⟨hx, hb, hml, hown, htg⟩ (w_addFountain l dg ck ka ad ra Z O U X S T P I V N Y Q oa D x y z _ hV (by omega) hn hz (by omega) (by omega) (by omega) hst) (vx_cwSW 5 htg (gwSW wq_707 wq_708 wq_0 wqL_addFountain) rfl rfl rfl (by decide +kernel) ⟨Nat.le_of_ble_eq_true rfl, Nat.le_of_ble_eq_true rfl⟩) (wrK_preS hK hPm hDm hC hS hA) rfl rfl hl.1 rfl (lv_room (Nat.le_of_ble_eq_true rfl)) dL_law_480 ⟨by show cells + 1 ≤ 603072; omega, by show slots + 6 ≤ 7207018; omega⟩) (fun r480 u480 H locs hw hP hD hS => ?_)
  have hP : va_P dg vwCl (brkU ck ka ad ra u480.1 ++ (modelC ck mo (encZ S) F1 F2 F3 F4 M ++ (lngC ck oa u480.2 ++ (dblC ck od E)))) H := hP
  have hD : va_D A (brkU ck ka ad ra u480.1 ++ (modelC ck mo (encZ S) F1 F2 F3 F4 M ++ (lngC ck oa u480.2 ++ (dblC ck od E)))) := hD
  refine lv_istore (lv' := [(6, .int r480), (0, .ref b), (1, .ref (ad 7 0)), (2, .ref (mo 0)), (3, .ref oa), (4, .ref od), (5, .int (zI i))]) hx hb dL_law_483 hl (by decide) rfl (fun ls hl => ?_)
  refine lv_aload_n hx hb dL_law_485 rfl (lv_at hl 3 rfl) ?_
  refine lv_aload_n hx hb dL_law_486 rfl (lv_at hl 1 rfl) ?_
  refine lv_iload hx hb dL_law_487 (lv_at hl 6 rfl) ?_
  refine x_iconst hx hb dL_law_489 ?_
  refine x_iadd hx hb dL_law_490 ?_
  refine x_sld hx hb hX hbl hbA hS (by omega) (by omega) hv_x dL_law_491 ?_
  refine lv_aload_n hx hb dL_law_492 rfl (lv_at hl 1 rfl) ?_
  refine lv_iload hx hb dL_law_493 (lv_at hl 6 rfl) ?_
  refine x_iconst hx hb dL_law_495 ?_
  refine x_iadd hx hb dL_law_496 ?_
  refine x_sld hx hb hX hbl hbA hS (by omega) (by omega) hv_y dL_law_497 ?_
  refine lv_aload_n hx hb dL_law_498 rfl (lv_at hl 1 rfl) ?_
  refine lv_iload hx hb dL_law_499 (lv_at hl 6 rfl) ?_
  refine x_iconst hx hb dL_law_501 ?_
  refine x_iadd hx hb dL_law_502 ?_
  refine x_sld hx hb hX hbl hbA hS (by omega) (by omega) hv_z dL_law_503 ?_
  refine x_calliB (ws' := brkU ck ka ad ra u480.1 ++ (modelC ck mo (encZ (pfZ S x y z).2.2) (encZ S) F2 (endF F3 (encZ S) (mAns (upS M 8 0 0) (pfZ S x y z).1 (pfZ S x y z).2.1) (pfZ S x y z).1) F4 (endM (mAns (upS M 8 0 0) (pfZ S x y z).1 (pfZ S x y z).2.1) (pfZ S x y z).1 3) ++ (lngC ck oa u480.2 ++ (dblC ck od E)))) (M := modelC ck mo (encZ S) F1 F2 F3 F4 M) (M' := modelC ck mo (encZ (pfZ S x y z).2.2) (encZ S) F2 (endF F3 (encZ S) (mAns (upS M 8 0 0) (pfZ S x y z).1 (pfZ S x y z).2.1) (pfZ S x y z).1) F4 (endM (mAns (upS M 8 0 0) (pfZ S x y z).1 (pfZ S x y z).2.1) (pfZ S x y z).1 3)) (N := brkU ck ka ad ra u480.1 ++ (lngC ck oa u480.2 ++ (dblC ck od E))) (cat_perm [brkU ck ka ad ra u480.1, modelC ck mo (encZ S) F1 F2 F3 F4 M, lngC ck oa u480.2, dblC ck od E] [1] [0, 2, 3] 4 rfl (by decide)) (cat_perm [brkU ck ka ad ra u480.1, modelC ck mo (encZ (pfZ S x y z).2.2) (encZ S) F2 (endF F3 (encZ S) (mAns (upS M 8 0 0) (pfZ S x y z).1 (pfZ S x y z).2.1) (pfZ S x y z).1) F4 (endM (mAns (upS M 8 0 0) (pfZ S x y z).1 (pfZ S x y z).2.1) (pfZ S x y z).1 3), lngC ck oa u480.2, dblC ck od E] [1] [0, 2, 3] 4 rfl (by decide)) hP hD hS hA (fun hPm hDm => va_runV (As := [.int (zI x), .int (zI y), .int (zI z)]) (rest := []) ⟨hx, hb, hml, hown, htg⟩ (m_addFountain l dg ck mo S F1 F2 F3 F4 M x y z _ hV (by omega) (by omega) (by omega) (by omega)) (cwV 3 htg (gwV wq_1693 wq_1694 wq_1695 wq_15 wq_1696) rfl rfl rfl (by decide +kernel) ⟨Nat.le_of_ble_eq_true rfl, Nat.le_of_ble_eq_true rfl⟩) (wr_preV hK hPm hDm 0 11 rfl rfl) rfl rfl hl.1 rfl (lv_room (Nat.le_of_ble_eq_true rfl)) dL_law_504 ⟨by show _ ≤ 603072; omega, by show _ ≤ 7207018; omega⟩) (fun r504 H locs hr504 hP hD hS => ?_)
  subst hr504
  have hP : va_P dg vwCl (brkU ck ka ad ra u480.1 ++ (modelC ck mo (encZ (pfZ S x y z).2.2) (encZ S) F2 (endF F3 (encZ S) (mAns (upS M 8 0 0) (pfZ S x y z).1 (pfZ S x y z).2.1) (pfZ S x y z).1) F4 (endM (mAns (upS M 8 0 0) (pfZ S x y z).1 (pfZ S x y z).2.1) (pfZ S x y z).1 3) ++ (lngC ck oa u480.2 ++ (dblC ck od E)))) H := hP
  have hD : va_D A (brkU ck ka ad ra u480.1 ++ (modelC ck mo (encZ (pfZ S x y z).2.2) (encZ S) F2 (endF F3 (encZ S) (mAns (upS M 8 0 0) (pfZ S x y z).1 (pfZ S x y z).2.1) (pfZ S x y z).1) F4 (endM (mAns (upS M 8 0 0) (pfZ S x y z).1 (pfZ S x y z).2.1) (pfZ S x y z).1 3) ++ (lngC ck oa u480.2 ++ (dblC ck od E)))) := hD
  have hcase : ∃ t9 : Int, (endM (mAns (upS M 8 0 0) (pfZ S x y z).1 (pfZ S x y z).2.1) (pfZ S x y z).1 3) 8 0 = t9 ∧ r480 = zI t9 ∧ (0 ≤ t9 ∧ t9 ≤ 3) ∧ (t9 = 0 → u480.2 0 = (zI (endR (mAns (upS M 8 0 0) (pfZ S x y z).1 (pfZ S x y z).2.1) (pfZ S x y z).1)).toInt64) ∧ LI (775 * i + 3100) (u480.1.1) (u480.1.2.2.1) (u480.1.2.2.2.1) (u480.1.2.2.2.2.1) (u480.1.2.2.2.2.2.2.1) (u480.1.2.2.2.2.2.2.2.1) (u480.1.2.2.2.2.2.2.2.2.2.2.1) (u480.1.2.2.2.2.2.2.2.2.2.2.2) F2 (endF F3 (encZ S) (mAns (upS M 8 0 0) (pfZ S x y z).1 (pfZ S x y z).2.1) (pfZ S x y z).1) (endM (mAns (upS M 8 0 0) (pfZ S x y z).1 (pfZ S x y z).2.1) (pfZ S x y z).1 3) ∧ (pfZ S x y z).2.2 = u480.1.2.2.2.2.1 := by
    have hch := LI.chg (c := (pfZ S x y z).1) (x := (pfZ S x y z).2.1) (d := 3) (c2 := (pfZ S x y z).1) (S' := (pfZ S x y z).2.2) O (hLI.mono (show 775 * i ≤ 775 * i + 3100 by omega) (by omega)) ((pfZ_inv hV).mono (by omega) (by omega)) (pfZ_r S x y z) (fun q => actZ_k (S := S) (k := 1) (a := x) (b := y) (d := z) q) ⟨fun _ => rfl, fun q => q⟩
    obtain ⟨h0, h1, h2, h3, h4⟩ := hch
    rcases hw with ⟨e1, r1, hp, eu, ev⟩ | ⟨e1, hc, eu⟩ | ⟨e1, hc, eu⟩ | ⟨e1, hc, eu⟩
    · obtain ⟨rfl, ho⟩ := hp
      obtain ⟨g1, g2, g3⟩ := h0 ho
      refine ⟨0, g1, e1, by decide, fun _ => by rw [ev, g2], ?_, (by rw [eu] <;> rfl)⟩
      rw [eu]
      exact g3
    · obtain ⟨q1, q2⟩ := h1 (by rw [hc]; decide)
      obtain ⟨q3, q4⟩ := h2 hc
      refine ⟨1, q4.trans (by (try unfold mcd); (repeat' split) <;> omega), e1, by decide, fun q => absurd q (by decide), ?_, ?_⟩
      · rw [eu]
        exact q2
      · rw [eu]
        exact q1
    · obtain ⟨q1, q2⟩ := h1 (by rw [hc]; decide)
      obtain ⟨q3, q4⟩ := h3 hc
      refine ⟨2, q4.trans (by (try unfold mcd); (repeat' split) <;> omega), e1, by decide, fun q => absurd q (by decide), ?_, ?_⟩
      · rw [eu]
        exact q2
      · rw [eu]
        exact q1
    · obtain ⟨q1, q2⟩ := h1 (by rw [hc]; decide)
      obtain ⟨q3, q4⟩ := h4 hc
      refine ⟨3, q4.trans (by (try unfold mcd); (repeat' split) <;> omega), e1, by decide, fun q => absurd q (by decide), ?_, ?_⟩
      · rw [eu]
        exact q2
      · rw [eu]
        exact q1
  obtain ⟨t9, ht9, hr9, ht9b, hval, hLI2, hS2⟩ := hcase
  have ht9r : zI ((endM (mAns (upS M 8 0 0) (pfZ S x y z).1 (pfZ S x y z).2.1) (pfZ S x y z).1 3) 8 0) = r480 := by rw [ht9, hr9]
  refine lv_istore (lv' := [(7, .int (zI (endR (mAns (upS M 8 0 0) (pfZ S x y z).1 (pfZ S x y z).2.1) (pfZ S x y z).1))), (6, .int r480), (0, .ref b), (1, .ref (ad 7 0)), (2, .ref (mo 0)), (3, .ref oa), (4, .ref od), (5, .int (zI i))]) hx hb dL_law_507 hl (by decide) rfl (fun ls hl => ?_)
  refine lv_aload_n hx hb dL_law_509 rfl (lv_at hl 4 rfl) ?_
  refine vp_callSi (W.runV (As := []) (rest := []) ⟨hx, hb, hml, hown, htg⟩ (m_thrown l dg ck mo (pfZ S x y z).2.2 (encZ S) F2 (endF F3 (encZ S) (mAns (upS M 8 0 0) (pfZ S x y z).1 (pfZ S x y z).2.1) (pfZ S x y z).1) F4 (endM (mAns (upS M 8 0 0) (pfZ S x y z).1 (pfZ S x y z).2.1) (pfZ S x y z).1 3)) (cwV 0 htg (gwV wq_1627 wq_1628 wq_1629 wq_15 wq_1630) rfl rfl rfl (by decide +kernel) ⟨Nat.le_of_ble_eq_true rfl, Nat.le_of_ble_eq_true rfl⟩) (rd_preV hK (va_P_l (va_P_r hP)) 0 11 rfl rfl) rfl rfl hl.1 rfl (lv_room (Nat.le_of_ble_eq_true rfl)) dL_law_510 ⟨by show _ ≤ 603072; omega, by show _ ≤ 7207018; omega⟩) (fun r510 hr510 => ?_)
  subst hr510
  refine lv_iload hx hb dL_law_513 (lv_at hl 1 rfl) ?_
  refine lv_icmp_eq (tgt := 520) hx hb dL_law_515 (by decide) (fun _ => ?_) (fun c9 => absurd ht9r c9)
  refine lv_iload hx hb dL_law_520 (lv_at hl 1 rfl) ?_
  refine W.eq (g2 := F0 m 522 ls [.int (zI t9)]) (by rw [hr9]) ?_
  refine x_if_ne (tgt := 537) hx hb dL_law_522 (by decide) (by omega) (fun c9 => ?_) (fun c9 => ?_)
  · refine lv_goto (tgt := 3323) hx hb dL_law_537 (by decide) ?_
    refine W.widen (k := cells + 3) (n := slots + 18) (by omega) (by omega) ?_
    have hP : va_P dg vwCl (lawW ck ka ad ra mo oa od u480.1 (encZ S) F2 (endF F3 (encZ S) (mAns (upS M 8 0 0) (pfZ S x y z).1 (pfZ S x y z).2.1) (pfZ S x y z).1) F4 (endM (mAns (upS M 8 0 0) (pfZ S x y z).1 (pfZ S x y z).2.1) (pfZ S x y z).1 3) u480.2 E) H := va_P_eq (by rw [hS2] <;> rfl) hP
    have hD : va_D A (lawW ck ka ad ra mo oa od u480.1 (encZ S) F2 (endF F3 (encZ S) (mAns (upS M 8 0 0) (pfZ S x y z).1 (pfZ S x y z).2.1) (pfZ S x y z).1) F4 (endM (mAns (upS M 8 0 0) (pfZ S x y z).1 (pfZ S x y z).2.1) (pfZ S x y z).1 3) u480.2 E) := va_D_eq (by rw [hS2] <;> rfl) hD
    exact kk u480.1 (encZ S) F2 (endF F3 (encZ S) (mAns (upS M 8 0 0) (pfZ S x y z).1 (pfZ S x y z).2.1) (pfZ S x y z).1) F4 (endM (mAns (upS M 8 0 0) (pfZ S x y z).1 (pfZ S x y z).2.1) (pfZ S x y z).1 3) u480.2 E H locs ls hLI2 hP hD hS (lv_sub hl [2, 3, 4, 5, 6, 7] rfl)
  · have hv9 := hval (by omega)
    refine lv_aload_n hx hb dL_law_525 rfl (lv_at hl 5 rfl) ?_
    refine x_iconst hx hb dL_law_526 ?_
    refine va_lald hx hb hK hP 175 5 rfl rfl (zI_in (z := 0) (by decide) (by decide)) dL_law_527 ?_
    refine lv_iload hx hb dL_law_528 (lv_at hl 0 rfl) ?_
    refine lv_i2l hx hb dL_law_530 rfl ?_
    refine W.lcmp hx hb dL_law_531 ?_
    refine W.eq (g2 := F0 m 532 ls [.int (zI 0)]) (congrArg (fun v9 => F0 m 532 ls [.int v9]) ((congrArg (fun v9 => lg_cmp v9 _) hv9).trans (lg_self _))) ?_
    refine x_if_eq (tgt := 537) hx hb dL_law_532 (by decide) (by omega) (fun _ => ?_) (fun c => absurd rfl c)
    refine lv_goto (tgt := 3323) hx hb dL_law_537 (by decide) ?_
    refine W.widen (k := cells + 3) (n := slots + 18) (by omega) (by omega) ?_
    have hP : va_P dg vwCl (lawW ck ka ad ra mo oa od u480.1 (encZ S) F2 (endF F3 (encZ S) (mAns (upS M 8 0 0) (pfZ S x y z).1 (pfZ S x y z).2.1) (pfZ S x y z).1) F4 (endM (mAns (upS M 8 0 0) (pfZ S x y z).1 (pfZ S x y z).2.1) (pfZ S x y z).1 3) u480.2 E) H := va_P_eq (by rw [hS2] <;> rfl) hP
    have hD : va_D A (lawW ck ka ad ra mo oa od u480.1 (encZ S) F2 (endF F3 (encZ S) (mAns (upS M 8 0 0) (pfZ S x y z).1 (pfZ S x y z).2.1) (pfZ S x y z).1) F4 (endM (mAns (upS M 8 0 0) (pfZ S x y z).1 (pfZ S x y z).2.1) (pfZ S x y z).1 3) u480.2 E) := va_D_eq (by rw [hS2] <;> rfl) hD
    exact kk u480.1 (encZ S) F2 (endF F3 (encZ S) (mAns (upS M 8 0 0) (pfZ S x y z).1 (pfZ S x y z).2.1) (pfZ S x y z).1) F4 (endM (mAns (upS M 8 0 0) (pfZ S x y z).1 (pfZ S x y z).2.1) (pfZ S x y z).1 3) u480.2 E H locs ls hLI2 hP hD hS (lv_sub hl [2, 3, 4, 5, 6, 7] rfl)

set_option maxHeartbeats 4000000 in
set_option maxRecDepth 100000 in
/-- the law: a call of setLoudness -/
theorem lc_3 {p : Program} {l : Launch} {e : Env} {s : State} {m : MethodId} {below : List Frame} {meth : Method} {c : Code} {dg : va_G} {ck : Nat → ClassId} {ka : Nat → Nat} {b L : Nat} {xs : Nat → Int32} {A : Nat → Prop} {ad ra : Nat → Nat → Nat} {mo : Nat → Nat} {oa od : Nat} {Qf : State → Prop} {i : Int} {cells slots : Nat} (C0 : LX p l s m c dg ck ka b L xs A) (hi : 0 ≤ i ∧ i + 4 ≤ L) (hcell : cells + 3 ≤ 603072) (hslot : slots + 18 ≤ 7207018) (kk : LKK p l e s m below meth c dg ck ka ad ra mo oa od b A Qf i cells slots) {Z O U X : Nat → Int} {S T P I : St} {V N Y : Int → Int} {Q : Nat → St} {F1 F2 F3 F4 : Int → Int} {M : St} {D : Nat → Int64} {E : Nat → UInt64} {H : Heap} {locs : List Loc} {ls : Array Slot} (hLI : LI (775 * i) Z U X S P I Y Q F2 F3 M) (hP : va_P dg vwCl (brkW ck ka ad ra Z O U X S T P I V N Y Q ++ (modelC ck mo (encZ S) F1 F2 F3 F4 M ++ (lngC ck oa D ++ (dblC ck od E)))) H) (hD : va_D A (brkW ck ka ad ra Z O U X S T P I V N Y Q ++ (modelC ck mo (encZ S) F1 F2 F3 F4 M ++ (lngC ck oa D ++ (dblC ck od E))))) (hS : va_S A s.heap H locs) (hl : lv_has ls 9 [(0, .ref b), (1, .ref (ad 7 0)), (2, .ref (mo 0)), (3, .ref oa), (4, .ref od), (5, .int (zI i))]) : W p l e room_1 s m #[Value.ref b] below meth c H locs cells slots Qf (F0 m 540 ls []) := by
  obtain ⟨hx, hb, hml, hown, htg, hX, hbl, hbA, hK, hC, hA, hst, hL⟩ := id C0
  obtain ⟨hV, hlh, hls, hlt, hlo, hlf⟩ := id hLI
  obtain ⟨hn, hz, hk1, hq10, hhist⟩ := id hlh
  obtain ⟨hk2, hz0, hp10, hsn⟩ := id hls
  obtain ⟨hk3, hln, hk5, htx, hkv⟩ := id hlt
  obtain ⟨hk4, hu0, hy7, hY⟩ := id hlo
  obtain ⟨⟨hk5a, hz4⟩, ⟨hk6, hz1⟩, hk7, hk8⟩ := id hlf
  have hI := hV.bd
  have hs10 : ∀ i, 0 ≤ S 10 i ∧ S 10 i ≤ 1 := hI.2.2.2.2.2.2.2.2.2.2.2.2.2.1
  obtain ⟨x, hv_x⟩ : ∃ v9 : Int, (xs (i + 1).toNat).toInt = v9 := ⟨_, rfl⟩
  have rgx_x := xi_r (xs (i + 1).toNat)
  rw [hv_x] at rgx_x
  obtain ⟨y, hv_y⟩ : ∃ v9 : Int, (xs (i + 2).toNat).toInt = v9 := ⟨_, rfl⟩
  have rgx_y := xi_r (xs (i + 2).toNat)
  rw [hv_y] at rgx_y
  obtain ⟨z, hv_z⟩ : ∃ v9 : Int, (xs (i + 3).toNat).toInt = v9 := ⟨_, rfl⟩
  have rgx_z := xi_r (xs (i + 3).toNat)
  rw [hv_z] at rgx_z
  refine lv_aload_n hx hb dL_law_540 rfl (lv_at hl 1 rfl) ?_
  refine lv_aload_n hx hb dL_law_541 rfl (lv_at hl 0 rfl) ?_
  refine lv_iload hx hb dL_law_542 (lv_at hl 5 rfl) ?_
  refine x_iconst hx hb dL_law_544 ?_
  refine x_iadd hx hb dL_law_545 ?_
  refine x_sld hx hb hX hbl hbA hS (by omega) (by omega) hv_x dL_law_546 ?_
  refine lv_aload_n hx hb dL_law_547 rfl (lv_at hl 0 rfl) ?_
  refine lv_iload hx hb dL_law_548 (lv_at hl 5 rfl) ?_
  refine x_iconst hx hb dL_law_550 ?_
  refine x_iadd hx hb dL_law_551 ?_
  refine x_sld hx hb hX hbl hbA hS (by omega) (by omega) hv_y dL_law_552 ?_
  refine lv_aload_n hx hb dL_law_553 rfl (lv_at hl 3 rfl) ?_
  refine x_calliUB (wf := fun u554 : BU × (Nat → Int64) => brkU ck ka ad ra u554.1 ++ (modelC ck mo (encZ S) F1 F2 F3 F4 M ++ (lngC ck oa u554.2 ++ (dblC ck od E)))) (M := brkW ck ka ad ra Z O U X S T P I V N Y Q ++ (lngC ck oa D)) (Mf := fun u554 => brkU ck ka ad ra u554.1 ++ (lngC ck oa u554.2)) (N := modelC ck mo (encZ S) F1 F2 F3 F4 M ++ (dblC ck od E)) (cat_perm [brkW ck ka ad ra Z O U X S T P I V N Y Q, modelC ck mo (encZ S) F1 F2 F3 F4 M, lngC ck oa D, dblC ck od E] [0, 2] [1, 3] 4 rfl (by decide)) (fun u554 => cat_perm [brkU ck ka ad ra u554.1, modelC ck mo (encZ S) F1 F2 F3 F4 M, lngC ck oa u554.2, dblC ck od E] [0, 2] [1, 3] 4 rfl (by decide)) hP hD hS hA (fun hPm hDm => vx_runSW (As := [.ref (ad 7 0), .int (zI x), .int (zI y), .ref oa]) (rest := []) ⟨hx, hb, hml, hown, htg⟩ (w_setLoudness l dg ck ka ad ra Z O U X S T P I V N Y Q oa D x y _ hV (by omega) hn hz (by omega) (by omega) hst) (vx_cwSW 4 htg (gwSW wq_718 wq_719 wq_0 wqL_setLoudness) rfl rfl rfl (by decide +kernel) ⟨Nat.le_of_ble_eq_true rfl, Nat.le_of_ble_eq_true rfl⟩) (wrK_preS hK hPm hDm hC hS hA) rfl rfl hl.1 rfl (lv_room (Nat.le_of_ble_eq_true rfl)) dL_law_554 ⟨by show cells + 1 ≤ 603072; omega, by show slots + 6 ≤ 7207018; omega⟩) (fun r554 u554 H locs hw hP hD hS => ?_)
  have hP : va_P dg vwCl (brkU ck ka ad ra u554.1 ++ (modelC ck mo (encZ S) F1 F2 F3 F4 M ++ (lngC ck oa u554.2 ++ (dblC ck od E)))) H := hP
  have hD : va_D A (brkU ck ka ad ra u554.1 ++ (modelC ck mo (encZ S) F1 F2 F3 F4 M ++ (lngC ck oa u554.2 ++ (dblC ck od E)))) := hD
  refine lv_istore (lv' := [(6, .int r554), (0, .ref b), (1, .ref (ad 7 0)), (2, .ref (mo 0)), (3, .ref oa), (4, .ref od), (5, .int (zI i))]) hx hb dL_law_557 hl (by decide) rfl (fun ls hl => ?_)
  refine lv_aload_n hx hb dL_law_559 rfl (lv_at hl 3 rfl) ?_
  refine lv_aload_n hx hb dL_law_560 rfl (lv_at hl 1 rfl) ?_
  refine lv_iload hx hb dL_law_561 (lv_at hl 6 rfl) ?_
  refine x_iconst hx hb dL_law_563 ?_
  refine x_iadd hx hb dL_law_564 ?_
  refine x_sld hx hb hX hbl hbA hS (by omega) (by omega) hv_x dL_law_565 ?_
  refine lv_aload_n hx hb dL_law_566 rfl (lv_at hl 1 rfl) ?_
  refine lv_iload hx hb dL_law_567 (lv_at hl 6 rfl) ?_
  refine x_iconst hx hb dL_law_569 ?_
  refine x_iadd hx hb dL_law_570 ?_
  refine x_sld hx hb hX hbl hbA hS (by omega) (by omega) hv_y dL_law_571 ?_
  refine x_calliB (ws' := brkU ck ka ad ra u554.1 ++ (modelC ck mo (encZ (clZ S x y).2.2) (encZ S) F2 (endF F3 (encZ S) (mAns (upS M 8 0 0) (clZ S x y).1 (clZ S x y).2.1) (clZ S x y).1) F4 (endM (mAns (upS M 8 0 0) (clZ S x y).1 (clZ S x y).2.1) (clZ S x y).1 1) ++ (lngC ck oa u554.2 ++ (dblC ck od E)))) (M := modelC ck mo (encZ S) F1 F2 F3 F4 M) (M' := modelC ck mo (encZ (clZ S x y).2.2) (encZ S) F2 (endF F3 (encZ S) (mAns (upS M 8 0 0) (clZ S x y).1 (clZ S x y).2.1) (clZ S x y).1) F4 (endM (mAns (upS M 8 0 0) (clZ S x y).1 (clZ S x y).2.1) (clZ S x y).1 1)) (N := brkU ck ka ad ra u554.1 ++ (lngC ck oa u554.2 ++ (dblC ck od E))) (cat_perm [brkU ck ka ad ra u554.1, modelC ck mo (encZ S) F1 F2 F3 F4 M, lngC ck oa u554.2, dblC ck od E] [1] [0, 2, 3] 4 rfl (by decide)) (cat_perm [brkU ck ka ad ra u554.1, modelC ck mo (encZ (clZ S x y).2.2) (encZ S) F2 (endF F3 (encZ S) (mAns (upS M 8 0 0) (clZ S x y).1 (clZ S x y).2.1) (clZ S x y).1) F4 (endM (mAns (upS M 8 0 0) (clZ S x y).1 (clZ S x y).2.1) (clZ S x y).1 1), lngC ck oa u554.2, dblC ck od E] [1] [0, 2, 3] 4 rfl (by decide)) hP hD hS hA (fun hPm hDm => va_runV (As := [.int (zI x), .int (zI y)]) (rest := []) ⟨hx, hb, hml, hown, htg⟩ (m_setLoudness l dg ck mo S F1 F2 F3 F4 M x y _ hV (by omega) (by omega) (by omega)) (cwV 2 htg (gwV wq_1701 wq_1702 wq_1703 wq_15 wq_1704) rfl rfl rfl (by decide +kernel) ⟨Nat.le_of_ble_eq_true rfl, Nat.le_of_ble_eq_true rfl⟩) (wr_preV hK hPm hDm 0 11 rfl rfl) rfl rfl hl.1 rfl (lv_room (Nat.le_of_ble_eq_true rfl)) dL_law_572 ⟨by show _ ≤ 603072; omega, by show _ ≤ 7207018; omega⟩) (fun r572 H locs hr572 hP hD hS => ?_)
  subst hr572
  have hP : va_P dg vwCl (brkU ck ka ad ra u554.1 ++ (modelC ck mo (encZ (clZ S x y).2.2) (encZ S) F2 (endF F3 (encZ S) (mAns (upS M 8 0 0) (clZ S x y).1 (clZ S x y).2.1) (clZ S x y).1) F4 (endM (mAns (upS M 8 0 0) (clZ S x y).1 (clZ S x y).2.1) (clZ S x y).1 1) ++ (lngC ck oa u554.2 ++ (dblC ck od E)))) H := hP
  have hD : va_D A (brkU ck ka ad ra u554.1 ++ (modelC ck mo (encZ (clZ S x y).2.2) (encZ S) F2 (endF F3 (encZ S) (mAns (upS M 8 0 0) (clZ S x y).1 (clZ S x y).2.1) (clZ S x y).1) F4 (endM (mAns (upS M 8 0 0) (clZ S x y).1 (clZ S x y).2.1) (clZ S x y).1 1) ++ (lngC ck oa u554.2 ++ (dblC ck od E)))) := hD
  have hcase : ∃ t9 : Int, (endM (mAns (upS M 8 0 0) (clZ S x y).1 (clZ S x y).2.1) (clZ S x y).1 1) 8 0 = t9 ∧ r554 = zI t9 ∧ (0 ≤ t9 ∧ t9 ≤ 3) ∧ (t9 = 0 → u554.2 0 = (zI (endR (mAns (upS M 8 0 0) (clZ S x y).1 (clZ S x y).2.1) (clZ S x y).1)).toInt64) ∧ LI (775 * i + 3100) (u554.1.1) (u554.1.2.2.1) (u554.1.2.2.2.1) (u554.1.2.2.2.2.1) (u554.1.2.2.2.2.2.2.1) (u554.1.2.2.2.2.2.2.2.1) (u554.1.2.2.2.2.2.2.2.2.2.2.1) (u554.1.2.2.2.2.2.2.2.2.2.2.2) F2 (endF F3 (encZ S) (mAns (upS M 8 0 0) (clZ S x y).1 (clZ S x y).2.1) (clZ S x y).1) (endM (mAns (upS M 8 0 0) (clZ S x y).1 (clZ S x y).2.1) (clZ S x y).1 1) ∧ (clZ S x y).2.2 = u554.1.2.2.2.2.1 := by
    have hch := LI.chg (c := (clZ S x y).1) (x := (clZ S x y).2.1) (d := 1) (c2 := (clZ S x y).1) (S' := (clZ S x y).2.2) O (hLI.mono (show 775 * i ≤ 775 * i + 3100 by omega) (by omega)) ((clZ_inv hV).mono (by omega) (by omega)) (clZ_r S x y) (fun q => cl_k q) ⟨fun _ => rfl, fun q => q⟩
    obtain ⟨h0, h1, h2, h3, h4⟩ := hch
    rcases hw with ⟨e1, r1, hp, eu, ev⟩ | ⟨e1, hc, eu⟩ | ⟨e1, hc, eu⟩
    · obtain ⟨rfl, ho⟩ := hp
      obtain ⟨g1, g2, g3⟩ := h0 ho
      refine ⟨0, g1, e1, by decide, fun _ => by rw [ev, g2], ?_, (by rw [eu] <;> rfl)⟩
      rw [eu]
      exact g3
    · obtain ⟨q1, q2⟩ := h1 (by rw [hc]; decide)
      obtain ⟨q3, q4⟩ := h2 hc
      refine ⟨1, q4.trans (by (try unfold mcd); (repeat' split) <;> omega), e1, by decide, fun q => absurd q (by decide), ?_, ?_⟩
      · rw [eu]
        exact q2
      · rw [eu]
        exact q1
    · obtain ⟨q1, q2⟩ := h1 (by rw [hc]; decide)
      obtain ⟨q3, q4⟩ := h3 hc
      refine ⟨2, q4.trans (by (try unfold mcd); (repeat' split) <;> omega), e1, by decide, fun q => absurd q (by decide), ?_, ?_⟩
      · rw [eu]
        exact q2
      · rw [eu]
        exact q1
  obtain ⟨t9, ht9, hr9, ht9b, hval, hLI2, hS2⟩ := hcase
  have ht9r : zI ((endM (mAns (upS M 8 0 0) (clZ S x y).1 (clZ S x y).2.1) (clZ S x y).1 1) 8 0) = r554 := by rw [ht9, hr9]
  refine lv_istore (lv' := [(7, .int (zI (endR (mAns (upS M 8 0 0) (clZ S x y).1 (clZ S x y).2.1) (clZ S x y).1))), (6, .int r554), (0, .ref b), (1, .ref (ad 7 0)), (2, .ref (mo 0)), (3, .ref oa), (4, .ref od), (5, .int (zI i))]) hx hb dL_law_575 hl (by decide) rfl (fun ls hl => ?_)
  refine lv_aload_n hx hb dL_law_577 rfl (lv_at hl 4 rfl) ?_
  refine vp_callSi (W.runV (As := []) (rest := []) ⟨hx, hb, hml, hown, htg⟩ (m_thrown l dg ck mo (clZ S x y).2.2 (encZ S) F2 (endF F3 (encZ S) (mAns (upS M 8 0 0) (clZ S x y).1 (clZ S x y).2.1) (clZ S x y).1) F4 (endM (mAns (upS M 8 0 0) (clZ S x y).1 (clZ S x y).2.1) (clZ S x y).1 1)) (cwV 0 htg (gwV wq_1627 wq_1628 wq_1629 wq_15 wq_1630) rfl rfl rfl (by decide +kernel) ⟨Nat.le_of_ble_eq_true rfl, Nat.le_of_ble_eq_true rfl⟩) (rd_preV hK (va_P_l (va_P_r hP)) 0 11 rfl rfl) rfl rfl hl.1 rfl (lv_room (Nat.le_of_ble_eq_true rfl)) dL_law_578 ⟨by show _ ≤ 603072; omega, by show _ ≤ 7207018; omega⟩) (fun r578 hr578 => ?_)
  subst hr578
  refine lv_iload hx hb dL_law_581 (lv_at hl 1 rfl) ?_
  refine lv_icmp_eq (tgt := 588) hx hb dL_law_583 (by decide) (fun _ => ?_) (fun c9 => absurd ht9r c9)
  refine lv_iload hx hb dL_law_588 (lv_at hl 1 rfl) ?_
  refine W.eq (g2 := F0 m 590 ls [.int (zI t9)]) (by rw [hr9]) ?_
  refine x_if_ne (tgt := 605) hx hb dL_law_590 (by decide) (by omega) (fun c9 => ?_) (fun c9 => ?_)
  · refine lv_goto (tgt := 3323) hx hb dL_law_605 (by decide) ?_
    refine W.widen (k := cells + 3) (n := slots + 18) (by omega) (by omega) ?_
    have hP : va_P dg vwCl (lawW ck ka ad ra mo oa od u554.1 (encZ S) F2 (endF F3 (encZ S) (mAns (upS M 8 0 0) (clZ S x y).1 (clZ S x y).2.1) (clZ S x y).1) F4 (endM (mAns (upS M 8 0 0) (clZ S x y).1 (clZ S x y).2.1) (clZ S x y).1 1) u554.2 E) H := va_P_eq (by rw [hS2] <;> rfl) hP
    have hD : va_D A (lawW ck ka ad ra mo oa od u554.1 (encZ S) F2 (endF F3 (encZ S) (mAns (upS M 8 0 0) (clZ S x y).1 (clZ S x y).2.1) (clZ S x y).1) F4 (endM (mAns (upS M 8 0 0) (clZ S x y).1 (clZ S x y).2.1) (clZ S x y).1 1) u554.2 E) := va_D_eq (by rw [hS2] <;> rfl) hD
    exact kk u554.1 (encZ S) F2 (endF F3 (encZ S) (mAns (upS M 8 0 0) (clZ S x y).1 (clZ S x y).2.1) (clZ S x y).1) F4 (endM (mAns (upS M 8 0 0) (clZ S x y).1 (clZ S x y).2.1) (clZ S x y).1 1) u554.2 E H locs ls hLI2 hP hD hS (lv_sub hl [2, 3, 4, 5, 6, 7] rfl)
  · have hv9 := hval (by omega)
    refine lv_aload_n hx hb dL_law_593 rfl (lv_at hl 5 rfl) ?_
    refine x_iconst hx hb dL_law_594 ?_
    refine va_lald hx hb hK hP 175 5 rfl rfl (zI_in (z := 0) (by decide) (by decide)) dL_law_595 ?_
    refine lv_iload hx hb dL_law_596 (lv_at hl 0 rfl) ?_
    refine lv_i2l hx hb dL_law_598 rfl ?_
    refine W.lcmp hx hb dL_law_599 ?_
    refine W.eq (g2 := F0 m 600 ls [.int (zI 0)]) (congrArg (fun v9 => F0 m 600 ls [.int v9]) ((congrArg (fun v9 => lg_cmp v9 _) hv9).trans (lg_self _))) ?_
    refine x_if_eq (tgt := 605) hx hb dL_law_600 (by decide) (by omega) (fun _ => ?_) (fun c => absurd rfl c)
    refine lv_goto (tgt := 3323) hx hb dL_law_605 (by decide) ?_
    refine W.widen (k := cells + 3) (n := slots + 18) (by omega) (by omega) ?_
    have hP : va_P dg vwCl (lawW ck ka ad ra mo oa od u554.1 (encZ S) F2 (endF F3 (encZ S) (mAns (upS M 8 0 0) (clZ S x y).1 (clZ S x y).2.1) (clZ S x y).1) F4 (endM (mAns (upS M 8 0 0) (clZ S x y).1 (clZ S x y).2.1) (clZ S x y).1 1) u554.2 E) H := va_P_eq (by rw [hS2] <;> rfl) hP
    have hD : va_D A (lawW ck ka ad ra mo oa od u554.1 (encZ S) F2 (endF F3 (encZ S) (mAns (upS M 8 0 0) (clZ S x y).1 (clZ S x y).2.1) (clZ S x y).1) F4 (endM (mAns (upS M 8 0 0) (clZ S x y).1 (clZ S x y).2.1) (clZ S x y).1 1) u554.2 E) := va_D_eq (by rw [hS2] <;> rfl) hD
    exact kk u554.1 (encZ S) F2 (endF F3 (encZ S) (mAns (upS M 8 0 0) (clZ S x y).1 (clZ S x y).2.1) (clZ S x y).1) F4 (endM (mAns (upS M 8 0 0) (clZ S x y).1 (clZ S x y).2.1) (clZ S x y).1 1) u554.2 E H locs ls hLI2 hP hD hS (lv_sub hl [2, 3, 4, 5, 6, 7] rfl)

set_option maxHeartbeats 4000000 in
set_option maxRecDepth 100000 in
/-- the law: a call of switchFountain -/
theorem lc_4 {p : Program} {l : Launch} {e : Env} {s : State} {m : MethodId} {below : List Frame} {meth : Method} {c : Code} {dg : va_G} {ck : Nat → ClassId} {ka : Nat → Nat} {b L : Nat} {xs : Nat → Int32} {A : Nat → Prop} {ad ra : Nat → Nat → Nat} {mo : Nat → Nat} {oa od : Nat} {Qf : State → Prop} {i : Int} {cells slots : Nat} (C0 : LX p l s m c dg ck ka b L xs A) (hi : 0 ≤ i ∧ i + 4 ≤ L) (hcell : cells + 3 ≤ 603072) (hslot : slots + 18 ≤ 7207018) (kk : LKK p l e s m below meth c dg ck ka ad ra mo oa od b A Qf i cells slots) {Z O U X : Nat → Int} {S T P I : St} {V N Y : Int → Int} {Q : Nat → St} {F1 F2 F3 F4 : Int → Int} {M : St} {D : Nat → Int64} {E : Nat → UInt64} {H : Heap} {locs : List Loc} {ls : Array Slot} (hLI : LI (775 * i) Z U X S P I Y Q F2 F3 M) (hP : va_P dg vwCl (brkW ck ka ad ra Z O U X S T P I V N Y Q ++ (modelC ck mo (encZ S) F1 F2 F3 F4 M ++ (lngC ck oa D ++ (dblC ck od E)))) H) (hD : va_D A (brkW ck ka ad ra Z O U X S T P I V N Y Q ++ (modelC ck mo (encZ S) F1 F2 F3 F4 M ++ (lngC ck oa D ++ (dblC ck od E))))) (hS : va_S A s.heap H locs) (hl : lv_has ls 9 [(0, .ref b), (1, .ref (ad 7 0)), (2, .ref (mo 0)), (3, .ref oa), (4, .ref od), (5, .int (zI i))]) : W p l e room_1 s m #[Value.ref b] below meth c H locs cells slots Qf (F0 m 608 ls []) := by
  obtain ⟨hx, hb, hml, hown, htg, hX, hbl, hbA, hK, hC, hA, hst, hL⟩ := id C0
  obtain ⟨hV, hlh, hls, hlt, hlo, hlf⟩ := id hLI
  obtain ⟨hn, hz, hk1, hq10, hhist⟩ := id hlh
  obtain ⟨hk2, hz0, hp10, hsn⟩ := id hls
  obtain ⟨hk3, hln, hk5, htx, hkv⟩ := id hlt
  obtain ⟨hk4, hu0, hy7, hY⟩ := id hlo
  obtain ⟨⟨hk5a, hz4⟩, ⟨hk6, hz1⟩, hk7, hk8⟩ := id hlf
  have hI := hV.bd
  have hs10 : ∀ i, 0 ≤ S 10 i ∧ S 10 i ≤ 1 := hI.2.2.2.2.2.2.2.2.2.2.2.2.2.1
  obtain ⟨x, hv_x⟩ : ∃ v9 : Int, (xs (i + 1).toNat).toInt = v9 := ⟨_, rfl⟩
  have rgx_x := xi_r (xs (i + 1).toNat)
  rw [hv_x] at rgx_x
  obtain ⟨y, hv_y⟩ : ∃ v9 : Int, (xs (i + 2).toNat).toInt = v9 := ⟨_, rfl⟩
  have rgx_y := xi_r (xs (i + 2).toNat)
  rw [hv_y] at rgx_y
  obtain ⟨z, hv_z⟩ : ∃ v9 : Int, (xs (i + 3).toNat).toInt = v9 := ⟨_, rfl⟩
  have rgx_z := xi_r (xs (i + 3).toNat)
  rw [hv_z] at rgx_z
  refine lv_aload_n hx hb dL_law_608 rfl (lv_at hl 1 rfl) ?_
  refine lv_aload_n hx hb dL_law_609 rfl (lv_at hl 0 rfl) ?_
  refine lv_iload hx hb dL_law_610 (lv_at hl 5 rfl) ?_
  refine x_iconst hx hb dL_law_612 ?_
  refine x_iadd hx hb dL_law_613 ?_
  refine x_sld hx hb hX hbl hbA hS (by omega) (by omega) hv_x dL_law_614 ?_
  refine lv_aload_n hx hb dL_law_615 rfl (lv_at hl 3 rfl) ?_
  refine x_calliUB (wf := fun u616 : BU × (Nat → Int64) => brkU ck ka ad ra u616.1 ++ (modelC ck mo (encZ S) F1 F2 F3 F4 M ++ (lngC ck oa u616.2 ++ (dblC ck od E)))) (M := brkW ck ka ad ra Z O U X S T P I V N Y Q ++ (lngC ck oa D)) (Mf := fun u616 => brkU ck ka ad ra u616.1 ++ (lngC ck oa u616.2)) (N := modelC ck mo (encZ S) F1 F2 F3 F4 M ++ (dblC ck od E)) (cat_perm [brkW ck ka ad ra Z O U X S T P I V N Y Q, modelC ck mo (encZ S) F1 F2 F3 F4 M, lngC ck oa D, dblC ck od E] [0, 2] [1, 3] 4 rfl (by decide)) (fun u616 => cat_perm [brkU ck ka ad ra u616.1, modelC ck mo (encZ S) F1 F2 F3 F4 M, lngC ck oa u616.2, dblC ck od E] [0, 2] [1, 3] 4 rfl (by decide)) hP hD hS hA (fun hPm hDm => vx_runSW (As := [.ref (ad 7 0), .int (zI x), .ref oa]) (rest := []) ⟨hx, hb, hml, hown, htg⟩ (w_switchFountain l dg ck ka ad ra Z O U X S T P I V N Y Q oa D x _ hV (by omega) hn hz (by omega) hst) (vx_cwSW 3 htg (gwSW wq_733 wq_734 wq_0 wqL_switchFountain) rfl rfl rfl (by decide +kernel) ⟨Nat.le_of_ble_eq_true rfl, Nat.le_of_ble_eq_true rfl⟩) (wrK_preS hK hPm hDm hC hS hA) rfl rfl hl.1 rfl (lv_room (Nat.le_of_ble_eq_true rfl)) dL_law_616 ⟨by show cells + 1 ≤ 603072; omega, by show slots + 6 ≤ 7207018; omega⟩) (fun r616 u616 H locs hw hP hD hS => ?_)
  have hP : va_P dg vwCl (brkU ck ka ad ra u616.1 ++ (modelC ck mo (encZ S) F1 F2 F3 F4 M ++ (lngC ck oa u616.2 ++ (dblC ck od E)))) H := hP
  have hD : va_D A (brkU ck ka ad ra u616.1 ++ (modelC ck mo (encZ S) F1 F2 F3 F4 M ++ (lngC ck oa u616.2 ++ (dblC ck od E)))) := hD
  refine lv_istore (lv' := [(6, .int r616), (0, .ref b), (1, .ref (ad 7 0)), (2, .ref (mo 0)), (3, .ref oa), (4, .ref od), (5, .int (zI i))]) hx hb dL_law_619 hl (by decide) rfl (fun ls hl => ?_)
  refine lv_aload_n hx hb dL_law_621 rfl (lv_at hl 3 rfl) ?_
  refine lv_aload_n hx hb dL_law_622 rfl (lv_at hl 1 rfl) ?_
  refine lv_iload hx hb dL_law_623 (lv_at hl 6 rfl) ?_
  refine x_iconst hx hb dL_law_625 ?_
  refine x_iadd hx hb dL_law_626 ?_
  refine x_sld hx hb hX hbl hbA hS (by omega) (by omega) hv_x dL_law_627 ?_
  refine x_calliB (ws' := brkU ck ka ad ra u616.1 ++ (modelC ck mo (encZ (tgZ S x).2.2) (encZ S) F2 (endF F3 (encZ S) (mAns (upS M 8 0 0) (tgZ S x).1 (tgZ S x).2.1) (tgZ S x).1) F4 (endM (mAns (upS M 8 0 0) (tgZ S x).1 (tgZ S x).2.1) (tgZ S x).1 1) ++ (lngC ck oa u616.2 ++ (dblC ck od E)))) (M := modelC ck mo (encZ S) F1 F2 F3 F4 M) (M' := modelC ck mo (encZ (tgZ S x).2.2) (encZ S) F2 (endF F3 (encZ S) (mAns (upS M 8 0 0) (tgZ S x).1 (tgZ S x).2.1) (tgZ S x).1) F4 (endM (mAns (upS M 8 0 0) (tgZ S x).1 (tgZ S x).2.1) (tgZ S x).1 1)) (N := brkU ck ka ad ra u616.1 ++ (lngC ck oa u616.2 ++ (dblC ck od E))) (cat_perm [brkU ck ka ad ra u616.1, modelC ck mo (encZ S) F1 F2 F3 F4 M, lngC ck oa u616.2, dblC ck od E] [1] [0, 2, 3] 4 rfl (by decide)) (cat_perm [brkU ck ka ad ra u616.1, modelC ck mo (encZ (tgZ S x).2.2) (encZ S) F2 (endF F3 (encZ S) (mAns (upS M 8 0 0) (tgZ S x).1 (tgZ S x).2.1) (tgZ S x).1) F4 (endM (mAns (upS M 8 0 0) (tgZ S x).1 (tgZ S x).2.1) (tgZ S x).1 1), lngC ck oa u616.2, dblC ck od E] [1] [0, 2, 3] 4 rfl (by decide)) hP hD hS hA (fun hPm hDm => va_runV (As := [.int (zI x)]) (rest := []) ⟨hx, hb, hml, hown, htg⟩ (m_switchFountain l dg ck mo S F1 F2 F3 F4 M x _ hV (by omega) (by omega)) (cwV 1 htg (gwV wq_1713 wq_1714 wq_1715 wq_15 wq_1716) rfl rfl rfl (by decide +kernel) ⟨Nat.le_of_ble_eq_true rfl, Nat.le_of_ble_eq_true rfl⟩) (wr_preV hK hPm hDm 0 11 rfl rfl) rfl rfl hl.1 rfl (lv_room (Nat.le_of_ble_eq_true rfl)) dL_law_628 ⟨by show _ ≤ 603072; omega, by show _ ≤ 7207018; omega⟩) (fun r628 H locs hr628 hP hD hS => ?_)
  subst hr628
  have hP : va_P dg vwCl (brkU ck ka ad ra u616.1 ++ (modelC ck mo (encZ (tgZ S x).2.2) (encZ S) F2 (endF F3 (encZ S) (mAns (upS M 8 0 0) (tgZ S x).1 (tgZ S x).2.1) (tgZ S x).1) F4 (endM (mAns (upS M 8 0 0) (tgZ S x).1 (tgZ S x).2.1) (tgZ S x).1 1) ++ (lngC ck oa u616.2 ++ (dblC ck od E)))) H := hP
  have hD : va_D A (brkU ck ka ad ra u616.1 ++ (modelC ck mo (encZ (tgZ S x).2.2) (encZ S) F2 (endF F3 (encZ S) (mAns (upS M 8 0 0) (tgZ S x).1 (tgZ S x).2.1) (tgZ S x).1) F4 (endM (mAns (upS M 8 0 0) (tgZ S x).1 (tgZ S x).2.1) (tgZ S x).1 1) ++ (lngC ck oa u616.2 ++ (dblC ck od E)))) := hD
  have hcase : ∃ t9 : Int, (endM (mAns (upS M 8 0 0) (tgZ S x).1 (tgZ S x).2.1) (tgZ S x).1 1) 8 0 = t9 ∧ r616 = zI t9 ∧ (0 ≤ t9 ∧ t9 ≤ 3) ∧ (t9 = 0 → u616.2 0 = (zI (bI ((endR (mAns (upS M 8 0 0) (tgZ S x).1 (tgZ S x).2.1) (tgZ S x).1) = 1))).toInt64) ∧ LI (775 * i + 3100) (u616.1.1) (u616.1.2.2.1) (u616.1.2.2.2.1) (u616.1.2.2.2.2.1) (u616.1.2.2.2.2.2.2.1) (u616.1.2.2.2.2.2.2.2.1) (u616.1.2.2.2.2.2.2.2.2.2.2.1) (u616.1.2.2.2.2.2.2.2.2.2.2.2) F2 (endF F3 (encZ S) (mAns (upS M 8 0 0) (tgZ S x).1 (tgZ S x).2.1) (tgZ S x).1) (endM (mAns (upS M 8 0 0) (tgZ S x).1 (tgZ S x).2.1) (tgZ S x).1 1) ∧ (tgZ S x).2.2 = u616.1.2.2.2.2.1 := by
    have hch := LI.chg (c := (tgZ S x).1) (x := (tgZ S x).2.1) (d := 1) (c2 := (tgZ S x).1) (S' := (tgZ S x).2.2) O (hLI.mono (show 775 * i ≤ 775 * i + 3100 by omega) (by omega)) ((tgZ_inv hV).mono (by omega) (by omega)) (tgZ_r S x) (fun q => actZ_k (S := S) (k := 7) (a := x) (b := 0) (d := 0) q) ⟨fun _ => rfl, fun q => q⟩
    obtain ⟨h0, h1, h2, h3, h4⟩ := hch
    rcases hw with ⟨e1, r1, hp, eu, ev⟩ | ⟨e1, hc, eu⟩
    · obtain ⟨rfl, ho⟩ := hp
      obtain ⟨g1, g2, g3⟩ := h0 ho
      refine ⟨0, g1, e1, by decide, fun _ => by rw [ev, g2], ?_, (by rw [eu] <;> rfl)⟩
      rw [eu]
      exact g3
    · obtain ⟨q1, q2⟩ := h1 (by rw [hc]; decide)
      obtain ⟨q3, q4⟩ := h2 hc
      refine ⟨1, q4.trans (by (try unfold mcd); (repeat' split) <;> omega), e1, by decide, fun q => absurd q (by decide), ?_, ?_⟩
      · rw [eu]
        exact q2
      · rw [eu]
        exact q1
  obtain ⟨t9, ht9, hr9, ht9b, hval, hLI2, hS2⟩ := hcase
  have ht9r : zI ((endM (mAns (upS M 8 0 0) (tgZ S x).1 (tgZ S x).2.1) (tgZ S x).1 1) 8 0) = r616 := by rw [ht9, hr9]
  refine lv_istore (lv' := [(7, .int (zI (bI ((endR (mAns (upS M 8 0 0) (tgZ S x).1 (tgZ S x).2.1) (tgZ S x).1) = 1)))), (6, .int r616), (0, .ref b), (1, .ref (ad 7 0)), (2, .ref (mo 0)), (3, .ref oa), (4, .ref od), (5, .int (zI i))]) hx hb dL_law_631 hl (by decide) rfl (fun ls hl => ?_)
  refine lv_aload_n hx hb dL_law_633 rfl (lv_at hl 4 rfl) ?_
  refine vp_callSi (W.runV (As := []) (rest := []) ⟨hx, hb, hml, hown, htg⟩ (m_thrown l dg ck mo (tgZ S x).2.2 (encZ S) F2 (endF F3 (encZ S) (mAns (upS M 8 0 0) (tgZ S x).1 (tgZ S x).2.1) (tgZ S x).1) F4 (endM (mAns (upS M 8 0 0) (tgZ S x).1 (tgZ S x).2.1) (tgZ S x).1 1)) (cwV 0 htg (gwV wq_1627 wq_1628 wq_1629 wq_15 wq_1630) rfl rfl rfl (by decide +kernel) ⟨Nat.le_of_ble_eq_true rfl, Nat.le_of_ble_eq_true rfl⟩) (rd_preV hK (va_P_l (va_P_r hP)) 0 11 rfl rfl) rfl rfl hl.1 rfl (lv_room (Nat.le_of_ble_eq_true rfl)) dL_law_634 ⟨by show _ ≤ 603072; omega, by show _ ≤ 7207018; omega⟩) (fun r634 hr634 => ?_)
  subst hr634
  refine lv_iload hx hb dL_law_637 (lv_at hl 1 rfl) ?_
  refine lv_icmp_eq (tgt := 644) hx hb dL_law_639 (by decide) (fun _ => ?_) (fun c9 => absurd ht9r c9)
  refine lv_iload hx hb dL_law_644 (lv_at hl 1 rfl) ?_
  refine W.eq (g2 := F0 m 646 ls [.int (zI t9)]) (by rw [hr9]) ?_
  refine x_if_ne (tgt := 668) hx hb dL_law_646 (by decide) (by omega) (fun c9 => ?_) (fun c9 => ?_)
  · refine lv_goto (tgt := 3323) hx hb dL_law_668 (by decide) ?_
    refine W.widen (k := cells + 3) (n := slots + 18) (by omega) (by omega) ?_
    have hP : va_P dg vwCl (lawW ck ka ad ra mo oa od u616.1 (encZ S) F2 (endF F3 (encZ S) (mAns (upS M 8 0 0) (tgZ S x).1 (tgZ S x).2.1) (tgZ S x).1) F4 (endM (mAns (upS M 8 0 0) (tgZ S x).1 (tgZ S x).2.1) (tgZ S x).1 1) u616.2 E) H := va_P_eq (by rw [hS2] <;> rfl) hP
    have hD : va_D A (lawW ck ka ad ra mo oa od u616.1 (encZ S) F2 (endF F3 (encZ S) (mAns (upS M 8 0 0) (tgZ S x).1 (tgZ S x).2.1) (tgZ S x).1) F4 (endM (mAns (upS M 8 0 0) (tgZ S x).1 (tgZ S x).2.1) (tgZ S x).1 1) u616.2 E) := va_D_eq (by rw [hS2] <;> rfl) hD
    exact kk u616.1 (encZ S) F2 (endF F3 (encZ S) (mAns (upS M 8 0 0) (tgZ S x).1 (tgZ S x).2.1) (tgZ S x).1) F4 (endM (mAns (upS M 8 0 0) (tgZ S x).1 (tgZ S x).2.1) (tgZ S x).1 1) u616.2 E H locs ls hLI2 hP hD hS (lv_sub hl [2, 3, 4, 5, 6, 7] rfl)
  · have hv9 := hval (by omega)
    refine lv_aload_n hx hb dL_law_649 rfl (lv_at hl 5 rfl) ?_
    refine x_iconst hx hb dL_law_650 ?_
    refine va_lald hx hb hK hP 175 5 rfl rfl (zI_in (z := 0) (by decide) (by decide)) dL_law_651 ?_
    refine lv_iload hx hb dL_law_652 (lv_at hl 0 rfl) ?_
    have hb01 := bI_r ((endR (mAns (upS M 8 0 0) (tgZ S x).1 (tgZ S x).2.1) (tgZ S x).1) = 1)
    rcases (show (bI ((endR (mAns (upS M 8 0 0) (tgZ S x).1 (tgZ S x).2.1) (tgZ S x).1) = 1)) = 1 ∨ (bI ((endR (mAns (upS M 8 0 0) (tgZ S x).1 (tgZ S x).2.1) (tgZ S x).1) = 1)) = 0 by omega) with h9 | h9
    · rw [h9] at hv9
      refine x_is h9 ?_
      refine x_if_eq (tgt := 661) hx hb dL_law_654 (by decide) (by omega) (fun c => absurd c (by decide)) (fun _ => ?_)
      refine lv_lconst (v := (zI 1).toInt64) hx hb dL_law_657 (by decide) ?_
      refine lv_goto (tgt := 662) hx hb dL_law_658 (by decide) ?_
      refine W.lcmp hx hb dL_law_662 ?_
      refine W.eq (g2 := F0 m 663 ls [.int (zI 0)]) (congrArg (fun v9 => F0 m 663 ls [.int v9]) ((congrArg (fun v9 => lg_cmp v9 _) hv9).trans (lg_self _))) ?_
      refine x_if_eq (tgt := 668) hx hb dL_law_663 (by decide) (by omega) (fun _ => ?_) (fun c => absurd rfl c)
      refine lv_goto (tgt := 3323) hx hb dL_law_668 (by decide) ?_
      refine W.widen (k := cells + 3) (n := slots + 18) (by omega) (by omega) ?_
      have hP : va_P dg vwCl (lawW ck ka ad ra mo oa od u616.1 (encZ S) F2 (endF F3 (encZ S) (mAns (upS M 8 0 0) (tgZ S x).1 (tgZ S x).2.1) (tgZ S x).1) F4 (endM (mAns (upS M 8 0 0) (tgZ S x).1 (tgZ S x).2.1) (tgZ S x).1 1) u616.2 E) H := va_P_eq (by rw [hS2] <;> rfl) hP
      have hD : va_D A (lawW ck ka ad ra mo oa od u616.1 (encZ S) F2 (endF F3 (encZ S) (mAns (upS M 8 0 0) (tgZ S x).1 (tgZ S x).2.1) (tgZ S x).1) F4 (endM (mAns (upS M 8 0 0) (tgZ S x).1 (tgZ S x).2.1) (tgZ S x).1 1) u616.2 E) := va_D_eq (by rw [hS2] <;> rfl) hD
      exact kk u616.1 (encZ S) F2 (endF F3 (encZ S) (mAns (upS M 8 0 0) (tgZ S x).1 (tgZ S x).2.1) (tgZ S x).1) F4 (endM (mAns (upS M 8 0 0) (tgZ S x).1 (tgZ S x).2.1) (tgZ S x).1 1) u616.2 E H locs ls hLI2 hP hD hS (lv_sub hl [2, 3, 4, 5, 6, 7] rfl)
    · rw [h9] at hv9
      refine x_is h9 ?_
      refine x_if_eq (tgt := 661) hx hb dL_law_654 (by decide) (by omega) (fun _ => ?_) (fun c => absurd c (by decide))
      refine lv_lconst (v := (zI 0).toInt64) hx hb dL_law_661 (by decide) ?_
      refine W.lcmp hx hb dL_law_662 ?_
      refine W.eq (g2 := F0 m 663 ls [.int (zI 0)]) (congrArg (fun v9 => F0 m 663 ls [.int v9]) ((congrArg (fun v9 => lg_cmp v9 _) hv9).trans (lg_self _))) ?_
      refine x_if_eq (tgt := 668) hx hb dL_law_663 (by decide) (by omega) (fun _ => ?_) (fun c => absurd rfl c)
      refine lv_goto (tgt := 3323) hx hb dL_law_668 (by decide) ?_
      refine W.widen (k := cells + 3) (n := slots + 18) (by omega) (by omega) ?_
      have hP : va_P dg vwCl (lawW ck ka ad ra mo oa od u616.1 (encZ S) F2 (endF F3 (encZ S) (mAns (upS M 8 0 0) (tgZ S x).1 (tgZ S x).2.1) (tgZ S x).1) F4 (endM (mAns (upS M 8 0 0) (tgZ S x).1 (tgZ S x).2.1) (tgZ S x).1 1) u616.2 E) H := va_P_eq (by rw [hS2] <;> rfl) hP
      have hD : va_D A (lawW ck ka ad ra mo oa od u616.1 (encZ S) F2 (endF F3 (encZ S) (mAns (upS M 8 0 0) (tgZ S x).1 (tgZ S x).2.1) (tgZ S x).1) F4 (endM (mAns (upS M 8 0 0) (tgZ S x).1 (tgZ S x).2.1) (tgZ S x).1 1) u616.2 E) := va_D_eq (by rw [hS2] <;> rfl) hD
      exact kk u616.1 (encZ S) F2 (endF F3 (encZ S) (mAns (upS M 8 0 0) (tgZ S x).1 (tgZ S x).2.1) (tgZ S x).1) F4 (endM (mAns (upS M 8 0 0) (tgZ S x).1 (tgZ S x).2.1) (tgZ S x).1 1) u616.2 E H locs ls hLI2 hP hD hS (lv_sub hl [2, 3, 4, 5, 6, 7] rfl)

set_option maxHeartbeats 4000000 in
set_option maxRecDepth 100000 in
/-- the law: a call of setNoiseLimit -/
theorem lc_5 {p : Program} {l : Launch} {e : Env} {s : State} {m : MethodId} {below : List Frame} {meth : Method} {c : Code} {dg : va_G} {ck : Nat → ClassId} {ka : Nat → Nat} {b L : Nat} {xs : Nat → Int32} {A : Nat → Prop} {ad ra : Nat → Nat → Nat} {mo : Nat → Nat} {oa od : Nat} {Qf : State → Prop} {i : Int} {cells slots : Nat} (C0 : LX p l s m c dg ck ka b L xs A) (hi : 0 ≤ i ∧ i + 4 ≤ L) (hcell : cells + 3 ≤ 603072) (hslot : slots + 18 ≤ 7207018) (kk : LKK p l e s m below meth c dg ck ka ad ra mo oa od b A Qf i cells slots) {Z O U X : Nat → Int} {S T P I : St} {V N Y : Int → Int} {Q : Nat → St} {F1 F2 F3 F4 : Int → Int} {M : St} {D : Nat → Int64} {E : Nat → UInt64} {H : Heap} {locs : List Loc} {ls : Array Slot} (hLI : LI (775 * i) Z U X S P I Y Q F2 F3 M) (hP : va_P dg vwCl (brkW ck ka ad ra Z O U X S T P I V N Y Q ++ (modelC ck mo (encZ S) F1 F2 F3 F4 M ++ (lngC ck oa D ++ (dblC ck od E)))) H) (hD : va_D A (brkW ck ka ad ra Z O U X S T P I V N Y Q ++ (modelC ck mo (encZ S) F1 F2 F3 F4 M ++ (lngC ck oa D ++ (dblC ck od E))))) (hS : va_S A s.heap H locs) (hl : lv_has ls 9 [(0, .ref b), (1, .ref (ad 7 0)), (2, .ref (mo 0)), (3, .ref oa), (4, .ref od), (5, .int (zI i))]) : W p l e room_1 s m #[Value.ref b] below meth c H locs cells slots Qf (F0 m 671 ls []) := by
  obtain ⟨hx, hb, hml, hown, htg, hX, hbl, hbA, hK, hC, hA, hst, hL⟩ := id C0
  obtain ⟨hV, hlh, hls, hlt, hlo, hlf⟩ := id hLI
  obtain ⟨hn, hz, hk1, hq10, hhist⟩ := id hlh
  obtain ⟨hk2, hz0, hp10, hsn⟩ := id hls
  obtain ⟨hk3, hln, hk5, htx, hkv⟩ := id hlt
  obtain ⟨hk4, hu0, hy7, hY⟩ := id hlo
  obtain ⟨⟨hk5a, hz4⟩, ⟨hk6, hz1⟩, hk7, hk8⟩ := id hlf
  have hI := hV.bd
  have hs10 : ∀ i, 0 ≤ S 10 i ∧ S 10 i ≤ 1 := hI.2.2.2.2.2.2.2.2.2.2.2.2.2.1
  obtain ⟨x, hv_x⟩ : ∃ v9 : Int, (xs (i + 1).toNat).toInt = v9 := ⟨_, rfl⟩
  have rgx_x := xi_r (xs (i + 1).toNat)
  rw [hv_x] at rgx_x
  obtain ⟨y, hv_y⟩ : ∃ v9 : Int, (xs (i + 2).toNat).toInt = v9 := ⟨_, rfl⟩
  have rgx_y := xi_r (xs (i + 2).toNat)
  rw [hv_y] at rgx_y
  obtain ⟨z, hv_z⟩ : ∃ v9 : Int, (xs (i + 3).toNat).toInt = v9 := ⟨_, rfl⟩
  have rgx_z := xi_r (xs (i + 3).toNat)
  rw [hv_z] at rgx_z
  refine lv_aload_n hx hb dL_law_671 rfl (lv_at hl 1 rfl) ?_
  refine lv_aload_n hx hb dL_law_672 rfl (lv_at hl 0 rfl) ?_
  refine lv_iload hx hb dL_law_673 (lv_at hl 5 rfl) ?_
  refine x_iconst hx hb dL_law_675 ?_
  refine x_iadd hx hb dL_law_676 ?_
  refine x_sld hx hb hX hbl hbA hS (by omega) (by omega) hv_x dL_law_677 ?_
  refine lv_aload_n hx hb dL_law_678 rfl (lv_at hl 3 rfl) ?_
  refine x_calliUB (wf := fun u679 : BU × (Nat → Int64) => brkU ck ka ad ra u679.1 ++ (modelC ck mo (encZ S) F1 F2 F3 F4 M ++ (lngC ck oa u679.2 ++ (dblC ck od E)))) (M := brkW ck ka ad ra Z O U X S T P I V N Y Q ++ (lngC ck oa D)) (Mf := fun u679 => brkU ck ka ad ra u679.1 ++ (lngC ck oa u679.2)) (N := modelC ck mo (encZ S) F1 F2 F3 F4 M ++ (dblC ck od E)) (cat_perm [brkW ck ka ad ra Z O U X S T P I V N Y Q, modelC ck mo (encZ S) F1 F2 F3 F4 M, lngC ck oa D, dblC ck od E] [0, 2] [1, 3] 4 rfl (by decide)) (fun u679 => cat_perm [brkU ck ka ad ra u679.1, modelC ck mo (encZ S) F1 F2 F3 F4 M, lngC ck oa u679.2, dblC ck od E] [0, 2] [1, 3] 4 rfl (by decide)) hP hD hS hA (fun hPm hDm => vx_runSW (As := [.ref (ad 7 0), .int (zI x), .ref oa]) (rest := []) ⟨hx, hb, hml, hown, htg⟩ (w_setNoiseLimit l dg ck ka ad ra Z O U X S T P I V N Y Q oa D x _ hV (by omega) hn hz (by omega) hst) (vx_cwSW 3 htg (gwSW wq_744 wq_745 wq_0 wqL_setNoiseLimit) rfl rfl rfl (by decide +kernel) ⟨Nat.le_of_ble_eq_true rfl, Nat.le_of_ble_eq_true rfl⟩) (wrK_preS hK hPm hDm hC hS hA) rfl rfl hl.1 rfl (lv_room (Nat.le_of_ble_eq_true rfl)) dL_law_679 ⟨by show cells + 1 ≤ 603072; omega, by show slots + 6 ≤ 7207018; omega⟩) (fun r679 u679 H locs hw hP hD hS => ?_)
  have hP : va_P dg vwCl (brkU ck ka ad ra u679.1 ++ (modelC ck mo (encZ S) F1 F2 F3 F4 M ++ (lngC ck oa u679.2 ++ (dblC ck od E)))) H := hP
  have hD : va_D A (brkU ck ka ad ra u679.1 ++ (modelC ck mo (encZ S) F1 F2 F3 F4 M ++ (lngC ck oa u679.2 ++ (dblC ck od E)))) := hD
  refine lv_istore (lv' := [(6, .int r679), (0, .ref b), (1, .ref (ad 7 0)), (2, .ref (mo 0)), (3, .ref oa), (4, .ref od), (5, .int (zI i))]) hx hb dL_law_682 hl (by decide) rfl (fun ls hl => ?_)
  refine lv_aload_n hx hb dL_law_684 rfl (lv_at hl 3 rfl) ?_
  refine lv_aload_n hx hb dL_law_685 rfl (lv_at hl 1 rfl) ?_
  refine lv_iload hx hb dL_law_686 (lv_at hl 6 rfl) ?_
  refine x_iconst hx hb dL_law_688 ?_
  refine x_iadd hx hb dL_law_689 ?_
  refine x_sld hx hb hX hbl hbA hS (by omega) (by omega) hv_x dL_law_690 ?_
  refine x_calliB (ws' := brkU ck ka ad ra u679.1 ++ (modelC ck mo (encZ (cmZ S x).2.2) (encZ S) F2 (endF F3 (encZ S) (mAns (upS M 8 0 0) (cmZ S x).1 (cmZ S x).2.1) (mcd (cmZ S x).1)) F4 (endM (mAns (upS M 8 0 0) (cmZ S x).1 (cmZ S x).2.1) (mcd (cmZ S x).1) 1) ++ (lngC ck oa u679.2 ++ (dblC ck od E)))) (M := modelC ck mo (encZ S) F1 F2 F3 F4 M) (M' := modelC ck mo (encZ (cmZ S x).2.2) (encZ S) F2 (endF F3 (encZ S) (mAns (upS M 8 0 0) (cmZ S x).1 (cmZ S x).2.1) (mcd (cmZ S x).1)) F4 (endM (mAns (upS M 8 0 0) (cmZ S x).1 (cmZ S x).2.1) (mcd (cmZ S x).1) 1)) (N := brkU ck ka ad ra u679.1 ++ (lngC ck oa u679.2 ++ (dblC ck od E))) (cat_perm [brkU ck ka ad ra u679.1, modelC ck mo (encZ S) F1 F2 F3 F4 M, lngC ck oa u679.2, dblC ck od E] [1] [0, 2, 3] 4 rfl (by decide)) (cat_perm [brkU ck ka ad ra u679.1, modelC ck mo (encZ (cmZ S x).2.2) (encZ S) F2 (endF F3 (encZ S) (mAns (upS M 8 0 0) (cmZ S x).1 (cmZ S x).2.1) (mcd (cmZ S x).1)) F4 (endM (mAns (upS M 8 0 0) (cmZ S x).1 (cmZ S x).2.1) (mcd (cmZ S x).1) 1), lngC ck oa u679.2, dblC ck od E] [1] [0, 2, 3] 4 rfl (by decide)) hP hD hS hA (fun hPm hDm => va_runV (As := [.int (zI x)]) (rest := []) ⟨hx, hb, hml, hown, htg⟩ (m_setNoiseLimit l dg ck mo S F1 F2 F3 F4 M x _ hV (by omega) (by omega)) (cwV 1 htg (gwV wq_1721 wq_1722 wq_1723 wq_15 wq_1724) rfl rfl rfl (by decide +kernel) ⟨Nat.le_of_ble_eq_true rfl, Nat.le_of_ble_eq_true rfl⟩) (wr_preV hK hPm hDm 0 11 rfl rfl) rfl rfl hl.1 rfl (lv_room (Nat.le_of_ble_eq_true rfl)) dL_law_691 ⟨by show _ ≤ 603072; omega, by show _ ≤ 7207018; omega⟩) (fun r691 H locs hr691 hP hD hS => ?_)
  subst hr691
  have hP : va_P dg vwCl (brkU ck ka ad ra u679.1 ++ (modelC ck mo (encZ (cmZ S x).2.2) (encZ S) F2 (endF F3 (encZ S) (mAns (upS M 8 0 0) (cmZ S x).1 (cmZ S x).2.1) (mcd (cmZ S x).1)) F4 (endM (mAns (upS M 8 0 0) (cmZ S x).1 (cmZ S x).2.1) (mcd (cmZ S x).1) 1) ++ (lngC ck oa u679.2 ++ (dblC ck od E)))) H := hP
  have hD : va_D A (brkU ck ka ad ra u679.1 ++ (modelC ck mo (encZ (cmZ S x).2.2) (encZ S) F2 (endF F3 (encZ S) (mAns (upS M 8 0 0) (cmZ S x).1 (cmZ S x).2.1) (mcd (cmZ S x).1)) F4 (endM (mAns (upS M 8 0 0) (cmZ S x).1 (cmZ S x).2.1) (mcd (cmZ S x).1) 1) ++ (lngC ck oa u679.2 ++ (dblC ck od E)))) := hD
  have hcase : ∃ t9 : Int, (endM (mAns (upS M 8 0 0) (cmZ S x).1 (cmZ S x).2.1) (mcd (cmZ S x).1) 1) 8 0 = t9 ∧ r679 = zI t9 ∧ (0 ≤ t9 ∧ t9 ≤ 3) ∧ (t9 = 0 → u679.2 0 = (zI (endR (mAns (upS M 8 0 0) (cmZ S x).1 (cmZ S x).2.1) (mcd (cmZ S x).1))).toInt64) ∧ LI (775 * i + 3100) (u679.1.1) (u679.1.2.2.1) (u679.1.2.2.2.1) (u679.1.2.2.2.2.1) (u679.1.2.2.2.2.2.2.1) (u679.1.2.2.2.2.2.2.2.1) (u679.1.2.2.2.2.2.2.2.2.2.2.1) (u679.1.2.2.2.2.2.2.2.2.2.2.2) F2 (endF F3 (encZ S) (mAns (upS M 8 0 0) (cmZ S x).1 (cmZ S x).2.1) (mcd (cmZ S x).1)) (endM (mAns (upS M 8 0 0) (cmZ S x).1 (cmZ S x).2.1) (mcd (cmZ S x).1) 1) ∧ (cmZ S x).2.2 = u679.1.2.2.2.2.1 := by
    have hch := LI.chg (c := (cmZ S x).1) (x := (cmZ S x).2.1) (d := 1) (c2 := (mcd (cmZ S x).1)) (S' := (cmZ S x).2.2) O (hLI.mono (show 775 * i ≤ 775 * i + 3100 by omega) (by omega)) ((cmZ_inv hV).mono (by omega) (by omega)) (cmZ_r S x) (fun q => actZ_k (S := S) (k := 8) (a := x) (b := 0) (d := 0) q) ⟨fun q => if_neg (Int.not_lt.mpr q), fun q => by unfold mcd; rw [if_pos q]; decide⟩
    obtain ⟨h0, h1, h2, h3, h4⟩ := hch
    rcases hw with ⟨e1, r1, hp, eu, ev⟩ | ⟨e1, hc, eu⟩
    · obtain ⟨rfl, ho⟩ := hp
      obtain ⟨g1, g2, g3⟩ := h0 ho
      refine ⟨0, g1, e1, by decide, fun _ => by rw [ev, g2], ?_, (by rw [eu] <;> rfl)⟩
      rw [eu]
      exact g3
    · obtain ⟨q1, q2⟩ := h1 (by rw [hc]; decide)
      obtain ⟨q3, q4⟩ := h3 hc
      refine ⟨1, q4.trans (by (try unfold mcd); (repeat' split) <;> omega), e1, by decide, fun q => absurd q (by decide), ?_, ?_⟩
      · rw [eu]
        exact q2
      · rw [eu]
        exact q1
  obtain ⟨t9, ht9, hr9, ht9b, hval, hLI2, hS2⟩ := hcase
  have ht9r : zI ((endM (mAns (upS M 8 0 0) (cmZ S x).1 (cmZ S x).2.1) (mcd (cmZ S x).1) 1) 8 0) = r679 := by rw [ht9, hr9]
  refine lv_istore (lv' := [(7, .int (zI (endR (mAns (upS M 8 0 0) (cmZ S x).1 (cmZ S x).2.1) (mcd (cmZ S x).1)))), (6, .int r679), (0, .ref b), (1, .ref (ad 7 0)), (2, .ref (mo 0)), (3, .ref oa), (4, .ref od), (5, .int (zI i))]) hx hb dL_law_694 hl (by decide) rfl (fun ls hl => ?_)
  refine lv_aload_n hx hb dL_law_696 rfl (lv_at hl 4 rfl) ?_
  refine vp_callSi (W.runV (As := []) (rest := []) ⟨hx, hb, hml, hown, htg⟩ (m_thrown l dg ck mo (cmZ S x).2.2 (encZ S) F2 (endF F3 (encZ S) (mAns (upS M 8 0 0) (cmZ S x).1 (cmZ S x).2.1) (mcd (cmZ S x).1)) F4 (endM (mAns (upS M 8 0 0) (cmZ S x).1 (cmZ S x).2.1) (mcd (cmZ S x).1) 1)) (cwV 0 htg (gwV wq_1627 wq_1628 wq_1629 wq_15 wq_1630) rfl rfl rfl (by decide +kernel) ⟨Nat.le_of_ble_eq_true rfl, Nat.le_of_ble_eq_true rfl⟩) (rd_preV hK (va_P_l (va_P_r hP)) 0 11 rfl rfl) rfl rfl hl.1 rfl (lv_room (Nat.le_of_ble_eq_true rfl)) dL_law_697 ⟨by show _ ≤ 603072; omega, by show _ ≤ 7207018; omega⟩) (fun r697 hr697 => ?_)
  subst hr697
  refine lv_iload hx hb dL_law_700 (lv_at hl 1 rfl) ?_
  refine lv_icmp_eq (tgt := 707) hx hb dL_law_702 (by decide) (fun _ => ?_) (fun c9 => absurd ht9r c9)
  refine lv_iload hx hb dL_law_707 (lv_at hl 1 rfl) ?_
  refine W.eq (g2 := F0 m 709 ls [.int (zI t9)]) (by rw [hr9]) ?_
  refine x_if_ne (tgt := 724) hx hb dL_law_709 (by decide) (by omega) (fun c9 => ?_) (fun c9 => ?_)
  · refine lv_goto (tgt := 3323) hx hb dL_law_724 (by decide) ?_
    refine W.widen (k := cells + 3) (n := slots + 18) (by omega) (by omega) ?_
    have hP : va_P dg vwCl (lawW ck ka ad ra mo oa od u679.1 (encZ S) F2 (endF F3 (encZ S) (mAns (upS M 8 0 0) (cmZ S x).1 (cmZ S x).2.1) (mcd (cmZ S x).1)) F4 (endM (mAns (upS M 8 0 0) (cmZ S x).1 (cmZ S x).2.1) (mcd (cmZ S x).1) 1) u679.2 E) H := va_P_eq (by rw [hS2] <;> rfl) hP
    have hD : va_D A (lawW ck ka ad ra mo oa od u679.1 (encZ S) F2 (endF F3 (encZ S) (mAns (upS M 8 0 0) (cmZ S x).1 (cmZ S x).2.1) (mcd (cmZ S x).1)) F4 (endM (mAns (upS M 8 0 0) (cmZ S x).1 (cmZ S x).2.1) (mcd (cmZ S x).1) 1) u679.2 E) := va_D_eq (by rw [hS2] <;> rfl) hD
    exact kk u679.1 (encZ S) F2 (endF F3 (encZ S) (mAns (upS M 8 0 0) (cmZ S x).1 (cmZ S x).2.1) (mcd (cmZ S x).1)) F4 (endM (mAns (upS M 8 0 0) (cmZ S x).1 (cmZ S x).2.1) (mcd (cmZ S x).1) 1) u679.2 E H locs ls hLI2 hP hD hS (lv_sub hl [2, 3, 4, 5, 6, 7] rfl)
  · have hv9 := hval (by omega)
    refine lv_aload_n hx hb dL_law_712 rfl (lv_at hl 5 rfl) ?_
    refine x_iconst hx hb dL_law_713 ?_
    refine va_lald hx hb hK hP 175 5 rfl rfl (zI_in (z := 0) (by decide) (by decide)) dL_law_714 ?_
    refine lv_iload hx hb dL_law_715 (lv_at hl 0 rfl) ?_
    refine lv_i2l hx hb dL_law_717 rfl ?_
    refine W.lcmp hx hb dL_law_718 ?_
    refine W.eq (g2 := F0 m 719 ls [.int (zI 0)]) (congrArg (fun v9 => F0 m 719 ls [.int v9]) ((congrArg (fun v9 => lg_cmp v9 _) hv9).trans (lg_self _))) ?_
    refine x_if_eq (tgt := 724) hx hb dL_law_719 (by decide) (by omega) (fun _ => ?_) (fun c => absurd rfl c)
    refine lv_goto (tgt := 3323) hx hb dL_law_724 (by decide) ?_
    refine W.widen (k := cells + 3) (n := slots + 18) (by omega) (by omega) ?_
    have hP : va_P dg vwCl (lawW ck ka ad ra mo oa od u679.1 (encZ S) F2 (endF F3 (encZ S) (mAns (upS M 8 0 0) (cmZ S x).1 (cmZ S x).2.1) (mcd (cmZ S x).1)) F4 (endM (mAns (upS M 8 0 0) (cmZ S x).1 (cmZ S x).2.1) (mcd (cmZ S x).1) 1) u679.2 E) H := va_P_eq (by rw [hS2] <;> rfl) hP
    have hD : va_D A (lawW ck ka ad ra mo oa od u679.1 (encZ S) F2 (endF F3 (encZ S) (mAns (upS M 8 0 0) (cmZ S x).1 (cmZ S x).2.1) (mcd (cmZ S x).1)) F4 (endM (mAns (upS M 8 0 0) (cmZ S x).1 (cmZ S x).2.1) (mcd (cmZ S x).1) 1) u679.2 E) := va_D_eq (by rw [hS2] <;> rfl) hD
    exact kk u679.1 (encZ S) F2 (endF F3 (encZ S) (mAns (upS M 8 0 0) (cmZ S x).1 (cmZ S x).2.1) (mcd (cmZ S x).1)) F4 (endM (mAns (upS M 8 0 0) (cmZ S x).1 (cmZ S x).2.1) (mcd (cmZ S x).1) 1) u679.2 E H locs ls hLI2 hP hD hS (lv_sub hl [2, 3, 4, 5, 6, 7] rfl)

set_option maxHeartbeats 4000000 in
set_option maxRecDepth 100000 in
/-- the law: a call of addTenant -/
theorem lc_19 {p : Program} {l : Launch} {e : Env} {s : State} {m : MethodId} {below : List Frame} {meth : Method} {c : Code} {dg : va_G} {ck : Nat → ClassId} {ka : Nat → Nat} {b L : Nat} {xs : Nat → Int32} {A : Nat → Prop} {ad ra : Nat → Nat → Nat} {mo : Nat → Nat} {oa od : Nat} {Qf : State → Prop} {i : Int} {cells slots : Nat} (C0 : LX p l s m c dg ck ka b L xs A) (hi : 0 ≤ i ∧ i + 4 ≤ L) (hcell : cells + 3 ≤ 603072) (hslot : slots + 18 ≤ 7207018) (kk : LKK p l e s m below meth c dg ck ka ad ra mo oa od b A Qf i cells slots) {Z O U X : Nat → Int} {S T P I : St} {V N Y : Int → Int} {Q : Nat → St} {F1 F2 F3 F4 : Int → Int} {M : St} {D : Nat → Int64} {E : Nat → UInt64} {H : Heap} {locs : List Loc} {ls : Array Slot} (hLI : LI (775 * i) Z U X S P I Y Q F2 F3 M) (hP : va_P dg vwCl (brkW ck ka ad ra Z O U X S T P I V N Y Q ++ (modelC ck mo (encZ S) F1 F2 F3 F4 M ++ (lngC ck oa D ++ (dblC ck od E)))) H) (hD : va_D A (brkW ck ka ad ra Z O U X S T P I V N Y Q ++ (modelC ck mo (encZ S) F1 F2 F3 F4 M ++ (lngC ck oa D ++ (dblC ck od E))))) (hS : va_S A s.heap H locs) (hl : lv_has ls 9 [(0, .ref b), (1, .ref (ad 7 0)), (2, .ref (mo 0)), (3, .ref oa), (4, .ref od), (5, .int (zI i))]) : W p l e room_1 s m #[Value.ref b] below meth c H locs cells slots Qf (F0 m 1321 ls []) := by
  obtain ⟨hx, hb, hml, hown, htg, hX, hbl, hbA, hK, hC, hA, hst, hL⟩ := id C0
  obtain ⟨hV, hlh, hls, hlt, hlo, hlf⟩ := id hLI
  obtain ⟨hn, hz, hk1, hq10, hhist⟩ := id hlh
  obtain ⟨hk2, hz0, hp10, hsn⟩ := id hls
  obtain ⟨hk3, hln, hk5, htx, hkv⟩ := id hlt
  obtain ⟨hk4, hu0, hy7, hY⟩ := id hlo
  obtain ⟨⟨hk5a, hz4⟩, ⟨hk6, hz1⟩, hk7, hk8⟩ := id hlf
  have hI := hV.bd
  have hs10 : ∀ i, 0 ≤ S 10 i ∧ S 10 i ≤ 1 := hI.2.2.2.2.2.2.2.2.2.2.2.2.2.1
  obtain ⟨x, hv_x⟩ : ∃ v9 : Int, (xs (i + 1).toNat).toInt = v9 := ⟨_, rfl⟩
  have rgx_x := xi_r (xs (i + 1).toNat)
  rw [hv_x] at rgx_x
  obtain ⟨y, hv_y⟩ : ∃ v9 : Int, (xs (i + 2).toNat).toInt = v9 := ⟨_, rfl⟩
  have rgx_y := xi_r (xs (i + 2).toNat)
  rw [hv_y] at rgx_y
  obtain ⟨z, hv_z⟩ : ∃ v9 : Int, (xs (i + 3).toNat).toInt = v9 := ⟨_, rfl⟩
  have rgx_z := xi_r (xs (i + 3).toNat)
  rw [hv_z] at rgx_z
  refine lv_aload_n hx hb dL_law_1321 rfl (lv_at hl 1 rfl) ?_
  refine lv_aload_n hx hb dL_law_1322 rfl (lv_at hl 0 rfl) ?_
  refine lv_iload hx hb dL_law_1323 (lv_at hl 5 rfl) ?_
  refine x_iconst hx hb dL_law_1325 ?_
  refine x_iadd hx hb dL_law_1326 ?_
  refine x_sld hx hb hX hbl hbA hS (by omega) (by omega) hv_x dL_law_1327 ?_
  refine lv_aload_n hx hb dL_law_1328 rfl (lv_at hl 3 rfl) ?_
  refine x_calliUB (wf := fun u1329 : BU × (Nat → Int64) => brkU ck ka ad ra u1329.1 ++ (modelC ck mo (encZ S) F1 F2 F3 F4 M ++ (lngC ck oa u1329.2 ++ (dblC ck od E)))) (M := brkW ck ka ad ra Z O U X S T P I V N Y Q ++ (lngC ck oa D)) (Mf := fun u1329 => brkU ck ka ad ra u1329.1 ++ (lngC ck oa u1329.2)) (N := modelC ck mo (encZ S) F1 F2 F3 F4 M ++ (dblC ck od E)) (cat_perm [brkW ck ka ad ra Z O U X S T P I V N Y Q, modelC ck mo (encZ S) F1 F2 F3 F4 M, lngC ck oa D, dblC ck od E] [0, 2] [1, 3] 4 rfl (by decide)) (fun u1329 => cat_perm [brkU ck ka ad ra u1329.1, modelC ck mo (encZ S) F1 F2 F3 F4 M, lngC ck oa u1329.2, dblC ck od E] [0, 2] [1, 3] 4 rfl (by decide)) hP hD hS hA (fun hPm hDm => vx_runSW (As := [.ref (ad 7 0), .int (zI x), .ref oa]) (rest := []) ⟨hx, hb, hml, hown, htg⟩ (w_addTenant l dg ck ka ad ra Z O U X S T P I V N Y Q oa D x _ hV (by omega) hn hz (by omega) hst) (vx_cwSW 3 htg (gwSW wq_834 wq_835 wq_0 wqL_addTenant) rfl rfl rfl (by decide +kernel) ⟨Nat.le_of_ble_eq_true rfl, Nat.le_of_ble_eq_true rfl⟩) (wrK_preS hK hPm hDm hC hS hA) rfl rfl hl.1 rfl (lv_room (Nat.le_of_ble_eq_true rfl)) dL_law_1329 ⟨by show cells + 1 ≤ 603072; omega, by show slots + 6 ≤ 7207018; omega⟩) (fun r1329 u1329 H locs hw hP hD hS => ?_)
  have hP : va_P dg vwCl (brkU ck ka ad ra u1329.1 ++ (modelC ck mo (encZ S) F1 F2 F3 F4 M ++ (lngC ck oa u1329.2 ++ (dblC ck od E)))) H := hP
  have hD : va_D A (brkU ck ka ad ra u1329.1 ++ (modelC ck mo (encZ S) F1 F2 F3 F4 M ++ (lngC ck oa u1329.2 ++ (dblC ck od E)))) := hD
  refine lv_istore (lv' := [(6, .int r1329), (0, .ref b), (1, .ref (ad 7 0)), (2, .ref (mo 0)), (3, .ref oa), (4, .ref od), (5, .int (zI i))]) hx hb dL_law_1332 hl (by decide) rfl (fun ls hl => ?_)
  refine lv_aload_n hx hb dL_law_1334 rfl (lv_at hl 3 rfl) ?_
  refine lv_aload_n hx hb dL_law_1335 rfl (lv_at hl 1 rfl) ?_
  refine lv_iload hx hb dL_law_1336 (lv_at hl 6 rfl) ?_
  refine x_iconst hx hb dL_law_1338 ?_
  refine x_iadd hx hb dL_law_1339 ?_
  refine x_sld hx hb hX hbl hbA hS (by omega) (by omega) hv_x dL_law_1340 ?_
  refine x_calliB (ws' := brkU ck ka ad ra u1329.1 ++ (modelC ck mo (encZ (teZ S x).2.2) (encZ S) F2 (endF F3 (encZ S) (mAns (upS M 8 0 0) (teZ S x).1 (teZ S x).2.1) (mcd (teZ S x).1)) F4 (endM (mAns (upS M 8 0 0) (teZ S x).1 (teZ S x).2.1) (mcd (teZ S x).1) 2) ++ (lngC ck oa u1329.2 ++ (dblC ck od E)))) (M := modelC ck mo (encZ S) F1 F2 F3 F4 M) (M' := modelC ck mo (encZ (teZ S x).2.2) (encZ S) F2 (endF F3 (encZ S) (mAns (upS M 8 0 0) (teZ S x).1 (teZ S x).2.1) (mcd (teZ S x).1)) F4 (endM (mAns (upS M 8 0 0) (teZ S x).1 (teZ S x).2.1) (mcd (teZ S x).1) 2)) (N := brkU ck ka ad ra u1329.1 ++ (lngC ck oa u1329.2 ++ (dblC ck od E))) (cat_perm [brkU ck ka ad ra u1329.1, modelC ck mo (encZ S) F1 F2 F3 F4 M, lngC ck oa u1329.2, dblC ck od E] [1] [0, 2, 3] 4 rfl (by decide)) (cat_perm [brkU ck ka ad ra u1329.1, modelC ck mo (encZ (teZ S x).2.2) (encZ S) F2 (endF F3 (encZ S) (mAns (upS M 8 0 0) (teZ S x).1 (teZ S x).2.1) (mcd (teZ S x).1)) F4 (endM (mAns (upS M 8 0 0) (teZ S x).1 (teZ S x).2.1) (mcd (teZ S x).1) 2), lngC ck oa u1329.2, dblC ck od E] [1] [0, 2, 3] 4 rfl (by decide)) hP hD hS hA (fun hPm hDm => va_runV (As := [.int (zI x)]) (rest := []) ⟨hx, hb, hml, hown, htg⟩ (m_addTenant l dg ck mo S F1 F2 F3 F4 M x _ hV (by omega) (by omega)) (cwV 1 htg (gwV wq_1805 wq_1806 wq_1807 wq_15 wq_1808) rfl rfl rfl (by decide +kernel) ⟨Nat.le_of_ble_eq_true rfl, Nat.le_of_ble_eq_true rfl⟩) (wr_preV hK hPm hDm 0 11 rfl rfl) rfl rfl hl.1 rfl (lv_room (Nat.le_of_ble_eq_true rfl)) dL_law_1341 ⟨by show _ ≤ 603072; omega, by show _ ≤ 7207018; omega⟩) (fun r1341 H locs hr1341 hP hD hS => ?_)
  subst hr1341
  have hP : va_P dg vwCl (brkU ck ka ad ra u1329.1 ++ (modelC ck mo (encZ (teZ S x).2.2) (encZ S) F2 (endF F3 (encZ S) (mAns (upS M 8 0 0) (teZ S x).1 (teZ S x).2.1) (mcd (teZ S x).1)) F4 (endM (mAns (upS M 8 0 0) (teZ S x).1 (teZ S x).2.1) (mcd (teZ S x).1) 2) ++ (lngC ck oa u1329.2 ++ (dblC ck od E)))) H := hP
  have hD : va_D A (brkU ck ka ad ra u1329.1 ++ (modelC ck mo (encZ (teZ S x).2.2) (encZ S) F2 (endF F3 (encZ S) (mAns (upS M 8 0 0) (teZ S x).1 (teZ S x).2.1) (mcd (teZ S x).1)) F4 (endM (mAns (upS M 8 0 0) (teZ S x).1 (teZ S x).2.1) (mcd (teZ S x).1) 2) ++ (lngC ck oa u1329.2 ++ (dblC ck od E)))) := hD
  have hcase : ∃ t9 : Int, (endM (mAns (upS M 8 0 0) (teZ S x).1 (teZ S x).2.1) (mcd (teZ S x).1) 2) 8 0 = t9 ∧ r1329 = zI t9 ∧ (0 ≤ t9 ∧ t9 ≤ 3) ∧ (t9 = 0 → u1329.2 0 = (zI (endR (mAns (upS M 8 0 0) (teZ S x).1 (teZ S x).2.1) (mcd (teZ S x).1))).toInt64) ∧ LI (775 * i + 3100) (u1329.1.1) (u1329.1.2.2.1) (u1329.1.2.2.2.1) (u1329.1.2.2.2.2.1) (u1329.1.2.2.2.2.2.2.1) (u1329.1.2.2.2.2.2.2.2.1) (u1329.1.2.2.2.2.2.2.2.2.2.2.1) (u1329.1.2.2.2.2.2.2.2.2.2.2.2) F2 (endF F3 (encZ S) (mAns (upS M 8 0 0) (teZ S x).1 (teZ S x).2.1) (mcd (teZ S x).1)) (endM (mAns (upS M 8 0 0) (teZ S x).1 (teZ S x).2.1) (mcd (teZ S x).1) 2) ∧ (teZ S x).2.2 = u1329.1.2.2.2.2.1 := by
    have hch := LI.chg (c := (teZ S x).1) (x := (teZ S x).2.1) (d := 2) (c2 := (mcd (teZ S x).1)) (S' := (teZ S x).2.2) O (hLI.mono (show 775 * i ≤ 775 * i + 3100 by omega) (by omega)) ((teZ_inv hV (by omega)).mono (by omega) (by omega)) (teZ_r S x) (fun q => actZ_k (S := S) (k := 2) (a := x) (b := 0) (d := 0) q) ⟨fun q => if_neg (Int.not_lt.mpr q), fun q => by unfold mcd; rw [if_pos q]; decide⟩
    obtain ⟨h0, h1, h2, h3, h4⟩ := hch
    rcases hw with ⟨e1, r1, hp, eu, ev⟩ | ⟨e1, hc, eu⟩ | ⟨e1, hc, eu⟩
    · obtain ⟨rfl, ho⟩ := hp
      obtain ⟨g1, g2, g3⟩ := h0 ho
      refine ⟨0, g1, e1, by decide, fun _ => by rw [ev, g2], ?_, (by rw [eu] <;> rfl)⟩
      rw [eu]
      exact g3
    · obtain ⟨q1, q2⟩ := h1 (by rw [hc]; decide)
      obtain ⟨q3, q4⟩ := h3 hc
      refine ⟨1, q4.trans (by (try unfold mcd); (repeat' split) <;> omega), e1, by decide, fun q => absurd q (by decide), ?_, ?_⟩
      · rw [eu]
        exact q2
      · rw [eu]
        exact q1
    · obtain ⟨q1, q2⟩ := h1 (by rw [hc]; decide)
      obtain ⟨q3, q4⟩ := h4 hc
      refine ⟨2, q4.trans (by (try unfold mcd); (repeat' split) <;> omega), e1, by decide, fun q => absurd q (by decide), ?_, ?_⟩
      · rw [eu]
        exact q2
      · rw [eu]
        exact q1
  obtain ⟨t9, ht9, hr9, ht9b, hval, hLI2, hS2⟩ := hcase
  have ht9r : zI ((endM (mAns (upS M 8 0 0) (teZ S x).1 (teZ S x).2.1) (mcd (teZ S x).1) 2) 8 0) = r1329 := by rw [ht9, hr9]
  refine lv_istore (lv' := [(7, .int (zI (endR (mAns (upS M 8 0 0) (teZ S x).1 (teZ S x).2.1) (mcd (teZ S x).1)))), (6, .int r1329), (0, .ref b), (1, .ref (ad 7 0)), (2, .ref (mo 0)), (3, .ref oa), (4, .ref od), (5, .int (zI i))]) hx hb dL_law_1344 hl (by decide) rfl (fun ls hl => ?_)
  refine lv_aload_n hx hb dL_law_1346 rfl (lv_at hl 4 rfl) ?_
  refine vp_callSi (W.runV (As := []) (rest := []) ⟨hx, hb, hml, hown, htg⟩ (m_thrown l dg ck mo (teZ S x).2.2 (encZ S) F2 (endF F3 (encZ S) (mAns (upS M 8 0 0) (teZ S x).1 (teZ S x).2.1) (mcd (teZ S x).1)) F4 (endM (mAns (upS M 8 0 0) (teZ S x).1 (teZ S x).2.1) (mcd (teZ S x).1) 2)) (cwV 0 htg (gwV wq_1627 wq_1628 wq_1629 wq_15 wq_1630) rfl rfl rfl (by decide +kernel) ⟨Nat.le_of_ble_eq_true rfl, Nat.le_of_ble_eq_true rfl⟩) (rd_preV hK (va_P_l (va_P_r hP)) 0 11 rfl rfl) rfl rfl hl.1 rfl (lv_room (Nat.le_of_ble_eq_true rfl)) dL_law_1347 ⟨by show _ ≤ 603072; omega, by show _ ≤ 7207018; omega⟩) (fun r1347 hr1347 => ?_)
  subst hr1347
  refine lv_iload hx hb dL_law_1350 (lv_at hl 1 rfl) ?_
  refine lv_icmp_eq (tgt := 1357) hx hb dL_law_1352 (by decide) (fun _ => ?_) (fun c9 => absurd ht9r c9)
  refine lv_iload hx hb dL_law_1357 (lv_at hl 1 rfl) ?_
  refine W.eq (g2 := F0 m 1359 ls [.int (zI t9)]) (by rw [hr9]) ?_
  refine x_if_ne (tgt := 1374) hx hb dL_law_1359 (by decide) (by omega) (fun c9 => ?_) (fun c9 => ?_)
  · refine lv_goto (tgt := 3323) hx hb dL_law_1374 (by decide) ?_
    refine W.widen (k := cells + 3) (n := slots + 18) (by omega) (by omega) ?_
    have hP : va_P dg vwCl (lawW ck ka ad ra mo oa od u1329.1 (encZ S) F2 (endF F3 (encZ S) (mAns (upS M 8 0 0) (teZ S x).1 (teZ S x).2.1) (mcd (teZ S x).1)) F4 (endM (mAns (upS M 8 0 0) (teZ S x).1 (teZ S x).2.1) (mcd (teZ S x).1) 2) u1329.2 E) H := va_P_eq (by rw [hS2] <;> rfl) hP
    have hD : va_D A (lawW ck ka ad ra mo oa od u1329.1 (encZ S) F2 (endF F3 (encZ S) (mAns (upS M 8 0 0) (teZ S x).1 (teZ S x).2.1) (mcd (teZ S x).1)) F4 (endM (mAns (upS M 8 0 0) (teZ S x).1 (teZ S x).2.1) (mcd (teZ S x).1) 2) u1329.2 E) := va_D_eq (by rw [hS2] <;> rfl) hD
    exact kk u1329.1 (encZ S) F2 (endF F3 (encZ S) (mAns (upS M 8 0 0) (teZ S x).1 (teZ S x).2.1) (mcd (teZ S x).1)) F4 (endM (mAns (upS M 8 0 0) (teZ S x).1 (teZ S x).2.1) (mcd (teZ S x).1) 2) u1329.2 E H locs ls hLI2 hP hD hS (lv_sub hl [2, 3, 4, 5, 6, 7] rfl)
  · have hv9 := hval (by omega)
    refine lv_aload_n hx hb dL_law_1362 rfl (lv_at hl 5 rfl) ?_
    refine x_iconst hx hb dL_law_1363 ?_
    refine va_lald hx hb hK hP 175 5 rfl rfl (zI_in (z := 0) (by decide) (by decide)) dL_law_1364 ?_
    refine lv_iload hx hb dL_law_1365 (lv_at hl 0 rfl) ?_
    refine lv_i2l hx hb dL_law_1367 rfl ?_
    refine W.lcmp hx hb dL_law_1368 ?_
    refine W.eq (g2 := F0 m 1369 ls [.int (zI 0)]) (congrArg (fun v9 => F0 m 1369 ls [.int v9]) ((congrArg (fun v9 => lg_cmp v9 _) hv9).trans (lg_self _))) ?_
    refine x_if_eq (tgt := 1374) hx hb dL_law_1369 (by decide) (by omega) (fun _ => ?_) (fun c => absurd rfl c)
    refine lv_goto (tgt := 3323) hx hb dL_law_1374 (by decide) ?_
    refine W.widen (k := cells + 3) (n := slots + 18) (by omega) (by omega) ?_
    have hP : va_P dg vwCl (lawW ck ka ad ra mo oa od u1329.1 (encZ S) F2 (endF F3 (encZ S) (mAns (upS M 8 0 0) (teZ S x).1 (teZ S x).2.1) (mcd (teZ S x).1)) F4 (endM (mAns (upS M 8 0 0) (teZ S x).1 (teZ S x).2.1) (mcd (teZ S x).1) 2) u1329.2 E) H := va_P_eq (by rw [hS2] <;> rfl) hP
    have hD : va_D A (lawW ck ka ad ra mo oa od u1329.1 (encZ S) F2 (endF F3 (encZ S) (mAns (upS M 8 0 0) (teZ S x).1 (teZ S x).2.1) (mcd (teZ S x).1)) F4 (endM (mAns (upS M 8 0 0) (teZ S x).1 (teZ S x).2.1) (mcd (teZ S x).1) 2) u1329.2 E) := va_D_eq (by rw [hS2] <;> rfl) hD
    exact kk u1329.1 (encZ S) F2 (endF F3 (encZ S) (mAns (upS M 8 0 0) (teZ S x).1 (teZ S x).2.1) (mcd (teZ S x).1)) F4 (endM (mAns (upS M 8 0 0) (teZ S x).1 (teZ S x).2.1) (mcd (teZ S x).1) 2) u1329.2 E H locs ls hLI2 hP hD hS (lv_sub hl [2, 3, 4, 5, 6, 7] rfl)

set_option maxHeartbeats 4000000 in
set_option maxRecDepth 100000 in
/-- the law: a call of giveCoins -/
theorem lc_20 {p : Program} {l : Launch} {e : Env} {s : State} {m : MethodId} {below : List Frame} {meth : Method} {c : Code} {dg : va_G} {ck : Nat → ClassId} {ka : Nat → Nat} {b L : Nat} {xs : Nat → Int32} {A : Nat → Prop} {ad ra : Nat → Nat → Nat} {mo : Nat → Nat} {oa od : Nat} {Qf : State → Prop} {i : Int} {cells slots : Nat} (C0 : LX p l s m c dg ck ka b L xs A) (hi : 0 ≤ i ∧ i + 4 ≤ L) (hcell : cells + 3 ≤ 603072) (hslot : slots + 18 ≤ 7207018) (kk : LKK p l e s m below meth c dg ck ka ad ra mo oa od b A Qf i cells slots) {Z O U X : Nat → Int} {S T P I : St} {V N Y : Int → Int} {Q : Nat → St} {F1 F2 F3 F4 : Int → Int} {M : St} {D : Nat → Int64} {E : Nat → UInt64} {H : Heap} {locs : List Loc} {ls : Array Slot} (hLI : LI (775 * i) Z U X S P I Y Q F2 F3 M) (hP : va_P dg vwCl (brkW ck ka ad ra Z O U X S T P I V N Y Q ++ (modelC ck mo (encZ S) F1 F2 F3 F4 M ++ (lngC ck oa D ++ (dblC ck od E)))) H) (hD : va_D A (brkW ck ka ad ra Z O U X S T P I V N Y Q ++ (modelC ck mo (encZ S) F1 F2 F3 F4 M ++ (lngC ck oa D ++ (dblC ck od E))))) (hS : va_S A s.heap H locs) (hl : lv_has ls 9 [(0, .ref b), (1, .ref (ad 7 0)), (2, .ref (mo 0)), (3, .ref oa), (4, .ref od), (5, .int (zI i))]) : W p l e room_1 s m #[Value.ref b] below meth c H locs cells slots Qf (F0 m 1377 ls []) := by
  obtain ⟨hx, hb, hml, hown, htg, hX, hbl, hbA, hK, hC, hA, hst, hL⟩ := id C0
  obtain ⟨hV, hlh, hls, hlt, hlo, hlf⟩ := id hLI
  obtain ⟨hn, hz, hk1, hq10, hhist⟩ := id hlh
  obtain ⟨hk2, hz0, hp10, hsn⟩ := id hls
  obtain ⟨hk3, hln, hk5, htx, hkv⟩ := id hlt
  obtain ⟨hk4, hu0, hy7, hY⟩ := id hlo
  obtain ⟨⟨hk5a, hz4⟩, ⟨hk6, hz1⟩, hk7, hk8⟩ := id hlf
  have hI := hV.bd
  have hs10 : ∀ i, 0 ≤ S 10 i ∧ S 10 i ≤ 1 := hI.2.2.2.2.2.2.2.2.2.2.2.2.2.1
  obtain ⟨x, hv_x⟩ : ∃ v9 : Int, (xs (i + 1).toNat).toInt = v9 := ⟨_, rfl⟩
  have rgx_x := xi_r (xs (i + 1).toNat)
  rw [hv_x] at rgx_x
  obtain ⟨y, hv_y⟩ : ∃ v9 : Int, (xs (i + 2).toNat).toInt = v9 := ⟨_, rfl⟩
  have rgx_y := xi_r (xs (i + 2).toNat)
  rw [hv_y] at rgx_y
  obtain ⟨z, hv_z⟩ : ∃ v9 : Int, (xs (i + 3).toNat).toInt = v9 := ⟨_, rfl⟩
  have rgx_z := xi_r (xs (i + 3).toNat)
  rw [hv_z] at rgx_z
  refine lv_aload_n hx hb dL_law_1377 rfl (lv_at hl 1 rfl) ?_
  refine lv_aload_n hx hb dL_law_1378 rfl (lv_at hl 0 rfl) ?_
  refine lv_iload hx hb dL_law_1379 (lv_at hl 5 rfl) ?_
  refine x_iconst hx hb dL_law_1381 ?_
  refine x_iadd hx hb dL_law_1382 ?_
  refine x_sld hx hb hX hbl hbA hS (by omega) (by omega) hv_x dL_law_1383 ?_
  refine lv_aload_n hx hb dL_law_1384 rfl (lv_at hl 0 rfl) ?_
  refine lv_iload hx hb dL_law_1385 (lv_at hl 5 rfl) ?_
  refine x_iconst hx hb dL_law_1387 ?_
  refine x_iadd hx hb dL_law_1388 ?_
  refine x_sld hx hb hX hbl hbA hS (by omega) (by omega) hv_y dL_law_1389 ?_
  refine lv_aload_n hx hb dL_law_1390 rfl (lv_at hl 3 rfl) ?_
  refine x_calliUB (wf := fun u1391 : BU × (Nat → Int64) => brkU ck ka ad ra u1391.1 ++ (modelC ck mo (encZ S) F1 F2 F3 F4 M ++ (lngC ck oa u1391.2 ++ (dblC ck od E)))) (M := brkW ck ka ad ra Z O U X S T P I V N Y Q ++ (lngC ck oa D)) (Mf := fun u1391 => brkU ck ka ad ra u1391.1 ++ (lngC ck oa u1391.2)) (N := modelC ck mo (encZ S) F1 F2 F3 F4 M ++ (dblC ck od E)) (cat_perm [brkW ck ka ad ra Z O U X S T P I V N Y Q, modelC ck mo (encZ S) F1 F2 F3 F4 M, lngC ck oa D, dblC ck od E] [0, 2] [1, 3] 4 rfl (by decide)) (fun u1391 => cat_perm [brkU ck ka ad ra u1391.1, modelC ck mo (encZ S) F1 F2 F3 F4 M, lngC ck oa u1391.2, dblC ck od E] [0, 2] [1, 3] 4 rfl (by decide)) hP hD hS hA (fun hPm hDm => vx_runSW (As := [.ref (ad 7 0), .int (zI x), .int (zI y), .ref oa]) (rest := []) ⟨hx, hb, hml, hown, htg⟩ (w_giveCoins l dg ck ka ad ra Z O U X S T P I V N Y Q oa D x y _ hV (by omega) hn hz (by omega) (by omega) hst) (vx_cwSW 4 htg (gwSW wq_846 wq_847 wq_0 wqL_giveCoins) rfl rfl rfl (by decide +kernel) ⟨Nat.le_of_ble_eq_true rfl, Nat.le_of_ble_eq_true rfl⟩) (wrK_preS hK hPm hDm hC hS hA) rfl rfl hl.1 rfl (lv_room (Nat.le_of_ble_eq_true rfl)) dL_law_1391 ⟨by show cells + 1 ≤ 603072; omega, by show slots + 6 ≤ 7207018; omega⟩) (fun r1391 u1391 H locs hw hP hD hS => ?_)
  have hP : va_P dg vwCl (brkU ck ka ad ra u1391.1 ++ (modelC ck mo (encZ S) F1 F2 F3 F4 M ++ (lngC ck oa u1391.2 ++ (dblC ck od E)))) H := hP
  have hD : va_D A (brkU ck ka ad ra u1391.1 ++ (modelC ck mo (encZ S) F1 F2 F3 F4 M ++ (lngC ck oa u1391.2 ++ (dblC ck od E)))) := hD
  refine lv_istore (lv' := [(6, .int r1391), (0, .ref b), (1, .ref (ad 7 0)), (2, .ref (mo 0)), (3, .ref oa), (4, .ref od), (5, .int (zI i))]) hx hb dL_law_1394 hl (by decide) rfl (fun ls hl => ?_)
  refine lv_aload_n hx hb dL_law_1396 rfl (lv_at hl 3 rfl) ?_
  refine lv_aload_n hx hb dL_law_1397 rfl (lv_at hl 1 rfl) ?_
  refine lv_iload hx hb dL_law_1398 (lv_at hl 6 rfl) ?_
  refine x_iconst hx hb dL_law_1400 ?_
  refine x_iadd hx hb dL_law_1401 ?_
  refine x_sld hx hb hX hbl hbA hS (by omega) (by omega) hv_x dL_law_1402 ?_
  refine lv_aload_n hx hb dL_law_1403 rfl (lv_at hl 1 rfl) ?_
  refine lv_iload hx hb dL_law_1404 (lv_at hl 6 rfl) ?_
  refine x_iconst hx hb dL_law_1406 ?_
  refine x_iadd hx hb dL_law_1407 ?_
  refine x_sld hx hb hX hbl hbA hS (by omega) (by omega) hv_y dL_law_1408 ?_
  refine x_calliB (ws' := brkU ck ka ad ra u1391.1 ++ (modelC ck mo (encZ (giZ S x y).2.2) (encZ S) F2 (endF F3 (encZ S) (mAns (upS M 8 0 0) (giZ S x y).1 (giZ S x y).2.1) (giZ S x y).1) F4 (endM (mAns (upS M 8 0 0) (giZ S x y).1 (giZ S x y).2.1) (giZ S x y).1 1) ++ (lngC ck oa u1391.2 ++ (dblC ck od E)))) (M := modelC ck mo (encZ S) F1 F2 F3 F4 M) (M' := modelC ck mo (encZ (giZ S x y).2.2) (encZ S) F2 (endF F3 (encZ S) (mAns (upS M 8 0 0) (giZ S x y).1 (giZ S x y).2.1) (giZ S x y).1) F4 (endM (mAns (upS M 8 0 0) (giZ S x y).1 (giZ S x y).2.1) (giZ S x y).1 1)) (N := brkU ck ka ad ra u1391.1 ++ (lngC ck oa u1391.2 ++ (dblC ck od E))) (cat_perm [brkU ck ka ad ra u1391.1, modelC ck mo (encZ S) F1 F2 F3 F4 M, lngC ck oa u1391.2, dblC ck od E] [1] [0, 2, 3] 4 rfl (by decide)) (cat_perm [brkU ck ka ad ra u1391.1, modelC ck mo (encZ (giZ S x y).2.2) (encZ S) F2 (endF F3 (encZ S) (mAns (upS M 8 0 0) (giZ S x y).1 (giZ S x y).2.1) (giZ S x y).1) F4 (endM (mAns (upS M 8 0 0) (giZ S x y).1 (giZ S x y).2.1) (giZ S x y).1 1), lngC ck oa u1391.2, dblC ck od E] [1] [0, 2, 3] 4 rfl (by decide)) hP hD hS hA (fun hPm hDm => va_runV (As := [.int (zI x), .int (zI y)]) (rest := []) ⟨hx, hb, hml, hown, htg⟩ (m_giveCoins l dg ck mo S F1 F2 F3 F4 M x y _ hV (by omega) (by omega) (by omega)) (cwV 2 htg (gwV wq_1813 wq_1814 wq_1815 wq_15 wq_1816) rfl rfl rfl (by decide +kernel) ⟨Nat.le_of_ble_eq_true rfl, Nat.le_of_ble_eq_true rfl⟩) (wr_preV hK hPm hDm 0 11 rfl rfl) rfl rfl hl.1 rfl (lv_room (Nat.le_of_ble_eq_true rfl)) dL_law_1409 ⟨by show _ ≤ 603072; omega, by show _ ≤ 7207018; omega⟩) (fun r1409 H locs hr1409 hP hD hS => ?_)
  subst hr1409
  have hP : va_P dg vwCl (brkU ck ka ad ra u1391.1 ++ (modelC ck mo (encZ (giZ S x y).2.2) (encZ S) F2 (endF F3 (encZ S) (mAns (upS M 8 0 0) (giZ S x y).1 (giZ S x y).2.1) (giZ S x y).1) F4 (endM (mAns (upS M 8 0 0) (giZ S x y).1 (giZ S x y).2.1) (giZ S x y).1 1) ++ (lngC ck oa u1391.2 ++ (dblC ck od E)))) H := hP
  have hD : va_D A (brkU ck ka ad ra u1391.1 ++ (modelC ck mo (encZ (giZ S x y).2.2) (encZ S) F2 (endF F3 (encZ S) (mAns (upS M 8 0 0) (giZ S x y).1 (giZ S x y).2.1) (giZ S x y).1) F4 (endM (mAns (upS M 8 0 0) (giZ S x y).1 (giZ S x y).2.1) (giZ S x y).1 1) ++ (lngC ck oa u1391.2 ++ (dblC ck od E)))) := hD
  have hcase : ∃ t9 : Int, (endM (mAns (upS M 8 0 0) (giZ S x y).1 (giZ S x y).2.1) (giZ S x y).1 1) 8 0 = t9 ∧ r1391 = zI t9 ∧ (0 ≤ t9 ∧ t9 ≤ 3) ∧ (t9 = 0 → u1391.2 0 = (zI (endR (mAns (upS M 8 0 0) (giZ S x y).1 (giZ S x y).2.1) (giZ S x y).1)).toInt64) ∧ LI (775 * i + 3100) (u1391.1.1) (u1391.1.2.2.1) (u1391.1.2.2.2.1) (u1391.1.2.2.2.2.1) (u1391.1.2.2.2.2.2.2.1) (u1391.1.2.2.2.2.2.2.2.1) (u1391.1.2.2.2.2.2.2.2.2.2.2.1) (u1391.1.2.2.2.2.2.2.2.2.2.2.2) F2 (endF F3 (encZ S) (mAns (upS M 8 0 0) (giZ S x y).1 (giZ S x y).2.1) (giZ S x y).1) (endM (mAns (upS M 8 0 0) (giZ S x y).1 (giZ S x y).2.1) (giZ S x y).1 1) ∧ (giZ S x y).2.2 = u1391.1.2.2.2.2.1 := by
    have hch := LI.chg (c := (giZ S x y).1) (x := (giZ S x y).2.1) (d := 1) (c2 := (giZ S x y).1) (S' := (giZ S x y).2.2) O (hLI.mono (show 775 * i ≤ 775 * i + 3100 by omega) (by omega)) ((giZ_inv hV (by omega)).mono (by omega) (by omega)) (giZ_r S x y) (fun q => actZ_k (S := S) (k := 3) (a := x) (b := y) (d := 0) q) ⟨fun _ => rfl, fun q => q⟩
    obtain ⟨h0, h1, h2, h3, h4⟩ := hch
    rcases hw with ⟨e1, r1, hp, eu, ev⟩ | ⟨e1, hc, eu⟩ | ⟨e1, hc, eu⟩
    · obtain ⟨rfl, ho⟩ := hp
      obtain ⟨g1, g2, g3⟩ := h0 ho
      refine ⟨0, g1, e1, by decide, fun _ => by rw [ev, g2], ?_, (by rw [eu] <;> rfl)⟩
      rw [eu]
      exact g3
    · obtain ⟨q1, q2⟩ := h1 (by rw [hc]; decide)
      obtain ⟨q3, q4⟩ := h2 hc
      refine ⟨1, q4.trans (by (try unfold mcd); (repeat' split) <;> omega), e1, by decide, fun q => absurd q (by decide), ?_, ?_⟩
      · rw [eu]
        exact q2
      · rw [eu]
        exact q1
    · obtain ⟨q1, q2⟩ := h1 (by rw [hc]; decide)
      obtain ⟨q3, q4⟩ := h3 hc
      refine ⟨2, q4.trans (by (try unfold mcd); (repeat' split) <;> omega), e1, by decide, fun q => absurd q (by decide), ?_, ?_⟩
      · rw [eu]
        exact q2
      · rw [eu]
        exact q1
  obtain ⟨t9, ht9, hr9, ht9b, hval, hLI2, hS2⟩ := hcase
  have ht9r : zI ((endM (mAns (upS M 8 0 0) (giZ S x y).1 (giZ S x y).2.1) (giZ S x y).1 1) 8 0) = r1391 := by rw [ht9, hr9]
  refine lv_istore (lv' := [(7, .int (zI (endR (mAns (upS M 8 0 0) (giZ S x y).1 (giZ S x y).2.1) (giZ S x y).1))), (6, .int r1391), (0, .ref b), (1, .ref (ad 7 0)), (2, .ref (mo 0)), (3, .ref oa), (4, .ref od), (5, .int (zI i))]) hx hb dL_law_1412 hl (by decide) rfl (fun ls hl => ?_)
  refine lv_aload_n hx hb dL_law_1414 rfl (lv_at hl 4 rfl) ?_
  refine vp_callSi (W.runV (As := []) (rest := []) ⟨hx, hb, hml, hown, htg⟩ (m_thrown l dg ck mo (giZ S x y).2.2 (encZ S) F2 (endF F3 (encZ S) (mAns (upS M 8 0 0) (giZ S x y).1 (giZ S x y).2.1) (giZ S x y).1) F4 (endM (mAns (upS M 8 0 0) (giZ S x y).1 (giZ S x y).2.1) (giZ S x y).1 1)) (cwV 0 htg (gwV wq_1627 wq_1628 wq_1629 wq_15 wq_1630) rfl rfl rfl (by decide +kernel) ⟨Nat.le_of_ble_eq_true rfl, Nat.le_of_ble_eq_true rfl⟩) (rd_preV hK (va_P_l (va_P_r hP)) 0 11 rfl rfl) rfl rfl hl.1 rfl (lv_room (Nat.le_of_ble_eq_true rfl)) dL_law_1415 ⟨by show _ ≤ 603072; omega, by show _ ≤ 7207018; omega⟩) (fun r1415 hr1415 => ?_)
  subst hr1415
  refine lv_iload hx hb dL_law_1418 (lv_at hl 1 rfl) ?_
  refine lv_icmp_eq (tgt := 1425) hx hb dL_law_1420 (by decide) (fun _ => ?_) (fun c9 => absurd ht9r c9)
  refine lv_iload hx hb dL_law_1425 (lv_at hl 1 rfl) ?_
  refine W.eq (g2 := F0 m 1427 ls [.int (zI t9)]) (by rw [hr9]) ?_
  refine x_if_ne (tgt := 1442) hx hb dL_law_1427 (by decide) (by omega) (fun c9 => ?_) (fun c9 => ?_)
  · refine lv_goto (tgt := 3323) hx hb dL_law_1442 (by decide) ?_
    refine W.widen (k := cells + 3) (n := slots + 18) (by omega) (by omega) ?_
    have hP : va_P dg vwCl (lawW ck ka ad ra mo oa od u1391.1 (encZ S) F2 (endF F3 (encZ S) (mAns (upS M 8 0 0) (giZ S x y).1 (giZ S x y).2.1) (giZ S x y).1) F4 (endM (mAns (upS M 8 0 0) (giZ S x y).1 (giZ S x y).2.1) (giZ S x y).1 1) u1391.2 E) H := va_P_eq (by rw [hS2] <;> rfl) hP
    have hD : va_D A (lawW ck ka ad ra mo oa od u1391.1 (encZ S) F2 (endF F3 (encZ S) (mAns (upS M 8 0 0) (giZ S x y).1 (giZ S x y).2.1) (giZ S x y).1) F4 (endM (mAns (upS M 8 0 0) (giZ S x y).1 (giZ S x y).2.1) (giZ S x y).1 1) u1391.2 E) := va_D_eq (by rw [hS2] <;> rfl) hD
    exact kk u1391.1 (encZ S) F2 (endF F3 (encZ S) (mAns (upS M 8 0 0) (giZ S x y).1 (giZ S x y).2.1) (giZ S x y).1) F4 (endM (mAns (upS M 8 0 0) (giZ S x y).1 (giZ S x y).2.1) (giZ S x y).1 1) u1391.2 E H locs ls hLI2 hP hD hS (lv_sub hl [2, 3, 4, 5, 6, 7] rfl)
  · have hv9 := hval (by omega)
    refine lv_aload_n hx hb dL_law_1430 rfl (lv_at hl 5 rfl) ?_
    refine x_iconst hx hb dL_law_1431 ?_
    refine va_lald hx hb hK hP 175 5 rfl rfl (zI_in (z := 0) (by decide) (by decide)) dL_law_1432 ?_
    refine lv_iload hx hb dL_law_1433 (lv_at hl 0 rfl) ?_
    refine lv_i2l hx hb dL_law_1435 rfl ?_
    refine W.lcmp hx hb dL_law_1436 ?_
    refine W.eq (g2 := F0 m 1437 ls [.int (zI 0)]) (congrArg (fun v9 => F0 m 1437 ls [.int v9]) ((congrArg (fun v9 => lg_cmp v9 _) hv9).trans (lg_self _))) ?_
    refine x_if_eq (tgt := 1442) hx hb dL_law_1437 (by decide) (by omega) (fun _ => ?_) (fun c => absurd rfl c)
    refine lv_goto (tgt := 3323) hx hb dL_law_1442 (by decide) ?_
    refine W.widen (k := cells + 3) (n := slots + 18) (by omega) (by omega) ?_
    have hP : va_P dg vwCl (lawW ck ka ad ra mo oa od u1391.1 (encZ S) F2 (endF F3 (encZ S) (mAns (upS M 8 0 0) (giZ S x y).1 (giZ S x y).2.1) (giZ S x y).1) F4 (endM (mAns (upS M 8 0 0) (giZ S x y).1 (giZ S x y).2.1) (giZ S x y).1 1) u1391.2 E) H := va_P_eq (by rw [hS2] <;> rfl) hP
    have hD : va_D A (lawW ck ka ad ra mo oa od u1391.1 (encZ S) F2 (endF F3 (encZ S) (mAns (upS M 8 0 0) (giZ S x y).1 (giZ S x y).2.1) (giZ S x y).1) F4 (endM (mAns (upS M 8 0 0) (giZ S x y).1 (giZ S x y).2.1) (giZ S x y).1 1) u1391.2 E) := va_D_eq (by rw [hS2] <;> rfl) hD
    exact kk u1391.1 (encZ S) F2 (endF F3 (encZ S) (mAns (upS M 8 0 0) (giZ S x y).1 (giZ S x y).2.1) (giZ S x y).1) F4 (endM (mAns (upS M 8 0 0) (giZ S x y).1 (giZ S x y).2.1) (giZ S x y).1 1) u1391.2 E H locs ls hLI2 hP hD hS (lv_sub hl [2, 3, 4, 5, 6, 7] rfl)

set_option maxHeartbeats 4000000 in
set_option maxRecDepth 100000 in
/-- the law: a call of lease -/
theorem lc_27 {p : Program} {l : Launch} {e : Env} {s : State} {m : MethodId} {below : List Frame} {meth : Method} {c : Code} {dg : va_G} {ck : Nat → ClassId} {ka : Nat → Nat} {b L : Nat} {xs : Nat → Int32} {A : Nat → Prop} {ad ra : Nat → Nat → Nat} {mo : Nat → Nat} {oa od : Nat} {Qf : State → Prop} {i : Int} {cells slots : Nat} (C0 : LX p l s m c dg ck ka b L xs A) (hi : 0 ≤ i ∧ i + 4 ≤ L) (hcell : cells + 3 ≤ 603072) (hslot : slots + 18 ≤ 7207018) (kk : LKK p l e s m below meth c dg ck ka ad ra mo oa od b A Qf i cells slots) {Z O U X : Nat → Int} {S T P I : St} {V N Y : Int → Int} {Q : Nat → St} {F1 F2 F3 F4 : Int → Int} {M : St} {D : Nat → Int64} {E : Nat → UInt64} {H : Heap} {locs : List Loc} {ls : Array Slot} (hLI : LI (775 * i) Z U X S P I Y Q F2 F3 M) (hP : va_P dg vwCl (brkW ck ka ad ra Z O U X S T P I V N Y Q ++ (modelC ck mo (encZ S) F1 F2 F3 F4 M ++ (lngC ck oa D ++ (dblC ck od E)))) H) (hD : va_D A (brkW ck ka ad ra Z O U X S T P I V N Y Q ++ (modelC ck mo (encZ S) F1 F2 F3 F4 M ++ (lngC ck oa D ++ (dblC ck od E))))) (hS : va_S A s.heap H locs) (hl : lv_has ls 9 [(0, .ref b), (1, .ref (ad 7 0)), (2, .ref (mo 0)), (3, .ref oa), (4, .ref od), (5, .int (zI i))]) : W p l e room_1 s m #[Value.ref b] below meth c H locs cells slots Qf (F0 m 1757 ls []) := by
  obtain ⟨hx, hb, hml, hown, htg, hX, hbl, hbA, hK, hC, hA, hst, hL⟩ := id C0
  obtain ⟨hV, hlh, hls, hlt, hlo, hlf⟩ := id hLI
  obtain ⟨hn, hz, hk1, hq10, hhist⟩ := id hlh
  obtain ⟨hk2, hz0, hp10, hsn⟩ := id hls
  obtain ⟨hk3, hln, hk5, htx, hkv⟩ := id hlt
  obtain ⟨hk4, hu0, hy7, hY⟩ := id hlo
  obtain ⟨⟨hk5a, hz4⟩, ⟨hk6, hz1⟩, hk7, hk8⟩ := id hlf
  have hI := hV.bd
  have hs10 : ∀ i, 0 ≤ S 10 i ∧ S 10 i ≤ 1 := hI.2.2.2.2.2.2.2.2.2.2.2.2.2.1
  obtain ⟨x, hv_x⟩ : ∃ v9 : Int, (xs (i + 1).toNat).toInt = v9 := ⟨_, rfl⟩
  have rgx_x := xi_r (xs (i + 1).toNat)
  rw [hv_x] at rgx_x
  obtain ⟨y, hv_y⟩ : ∃ v9 : Int, (xs (i + 2).toNat).toInt = v9 := ⟨_, rfl⟩
  have rgx_y := xi_r (xs (i + 2).toNat)
  rw [hv_y] at rgx_y
  obtain ⟨z, hv_z⟩ : ∃ v9 : Int, (xs (i + 3).toNat).toInt = v9 := ⟨_, rfl⟩
  have rgx_z := xi_r (xs (i + 3).toNat)
  rw [hv_z] at rgx_z
  refine lv_aload_n hx hb dL_law_1757 rfl (lv_at hl 1 rfl) ?_
  refine lv_aload_n hx hb dL_law_1758 rfl (lv_at hl 0 rfl) ?_
  refine lv_iload hx hb dL_law_1759 (lv_at hl 5 rfl) ?_
  refine x_iconst hx hb dL_law_1761 ?_
  refine x_iadd hx hb dL_law_1762 ?_
  refine x_sld hx hb hX hbl hbA hS (by omega) (by omega) hv_x dL_law_1763 ?_
  refine lv_aload_n hx hb dL_law_1764 rfl (lv_at hl 0 rfl) ?_
  refine lv_iload hx hb dL_law_1765 (lv_at hl 5 rfl) ?_
  refine x_iconst hx hb dL_law_1767 ?_
  refine x_iadd hx hb dL_law_1768 ?_
  refine x_sld hx hb hX hbl hbA hS (by omega) (by omega) hv_y dL_law_1769 ?_
  refine lv_aload_n hx hb dL_law_1770 rfl (lv_at hl 0 rfl) ?_
  refine lv_iload hx hb dL_law_1771 (lv_at hl 5 rfl) ?_
  refine x_iconst hx hb dL_law_1773 ?_
  refine x_iadd hx hb dL_law_1774 ?_
  refine x_sld hx hb hX hbl hbA hS (by omega) (by omega) hv_z dL_law_1775 ?_
  refine lv_aload_n hx hb dL_law_1776 rfl (lv_at hl 3 rfl) ?_
  refine x_calliUB (wf := fun u1777 : BU × (Nat → Int64) => brkU ck ka ad ra u1777.1 ++ (modelC ck mo (encZ S) F1 F2 F3 F4 M ++ (lngC ck oa u1777.2 ++ (dblC ck od E)))) (M := brkW ck ka ad ra Z O U X S T P I V N Y Q ++ (lngC ck oa D)) (Mf := fun u1777 => brkU ck ka ad ra u1777.1 ++ (lngC ck oa u1777.2)) (N := modelC ck mo (encZ S) F1 F2 F3 F4 M ++ (dblC ck od E)) (cat_perm [brkW ck ka ad ra Z O U X S T P I V N Y Q, modelC ck mo (encZ S) F1 F2 F3 F4 M, lngC ck oa D, dblC ck od E] [0, 2] [1, 3] 4 rfl (by decide)) (fun u1777 => cat_perm [brkU ck ka ad ra u1777.1, modelC ck mo (encZ S) F1 F2 F3 F4 M, lngC ck oa u1777.2, dblC ck od E] [0, 2] [1, 3] 4 rfl (by decide)) hP hD hS hA (fun hPm hDm => vx_runSW (As := [.ref (ad 7 0), .int (zI x), .int (zI y), .int (zI z), .ref oa]) (rest := []) ⟨hx, hb, hml, hown, htg⟩ (w_lease l dg ck ka ad ra Z O U X S T P I V N Y Q oa D x y z _ hV (by omega) hn hz (by omega) (by omega) (by omega) hst) (vx_cwSW 5 htg (gwSW wq_924 wq_925 wq_0 wqL_lease) rfl rfl rfl (by decide +kernel) ⟨Nat.le_of_ble_eq_true rfl, Nat.le_of_ble_eq_true rfl⟩) (wrK_preS hK hPm hDm hC hS hA) rfl rfl hl.1 rfl (lv_room (Nat.le_of_ble_eq_true rfl)) dL_law_1777 ⟨by show cells + 1 ≤ 603072; omega, by show slots + 6 ≤ 7207018; omega⟩) (fun r1777 u1777 H locs hw hP hD hS => ?_)
  have hP : va_P dg vwCl (brkU ck ka ad ra u1777.1 ++ (modelC ck mo (encZ S) F1 F2 F3 F4 M ++ (lngC ck oa u1777.2 ++ (dblC ck od E)))) H := hP
  have hD : va_D A (brkU ck ka ad ra u1777.1 ++ (modelC ck mo (encZ S) F1 F2 F3 F4 M ++ (lngC ck oa u1777.2 ++ (dblC ck od E)))) := hD
  refine lv_istore (lv' := [(6, .int r1777), (0, .ref b), (1, .ref (ad 7 0)), (2, .ref (mo 0)), (3, .ref oa), (4, .ref od), (5, .int (zI i))]) hx hb dL_law_1780 hl (by decide) rfl (fun ls hl => ?_)
  refine lv_aload_n hx hb dL_law_1782 rfl (lv_at hl 3 rfl) ?_
  refine lv_aload_n hx hb dL_law_1783 rfl (lv_at hl 1 rfl) ?_
  refine lv_iload hx hb dL_law_1784 (lv_at hl 6 rfl) ?_
  refine x_iconst hx hb dL_law_1786 ?_
  refine x_iadd hx hb dL_law_1787 ?_
  refine x_sld hx hb hX hbl hbA hS (by omega) (by omega) hv_x dL_law_1788 ?_
  refine lv_aload_n hx hb dL_law_1789 rfl (lv_at hl 1 rfl) ?_
  refine lv_iload hx hb dL_law_1790 (lv_at hl 6 rfl) ?_
  refine x_iconst hx hb dL_law_1792 ?_
  refine x_iadd hx hb dL_law_1793 ?_
  refine x_sld hx hb hX hbl hbA hS (by omega) (by omega) hv_y dL_law_1794 ?_
  refine lv_aload_n hx hb dL_law_1795 rfl (lv_at hl 1 rfl) ?_
  refine lv_iload hx hb dL_law_1796 (lv_at hl 6 rfl) ?_
  refine x_iconst hx hb dL_law_1798 ?_
  refine x_iadd hx hb dL_law_1799 ?_
  refine x_sld hx hb hX hbl hbA hS (by omega) (by omega) hv_z dL_law_1800 ?_
  refine x_calliB (ws' := brkU ck ka ad ra u1777.1 ++ (modelC ck mo (encZ (leZ S x y z).2.2) (encZ S) F2 (endF F3 (encZ S) (mAns (upS M 8 0 0) (leZ S x y z).1 (leZ S x y z).2.1) (leZ S x y z).1) F4 (endM (mAns (upS M 8 0 0) (leZ S x y z).1 (leZ S x y z).2.1) (leZ S x y z).1 3) ++ (lngC ck oa u1777.2 ++ (dblC ck od E)))) (M := modelC ck mo (encZ S) F1 F2 F3 F4 M) (M' := modelC ck mo (encZ (leZ S x y z).2.2) (encZ S) F2 (endF F3 (encZ S) (mAns (upS M 8 0 0) (leZ S x y z).1 (leZ S x y z).2.1) (leZ S x y z).1) F4 (endM (mAns (upS M 8 0 0) (leZ S x y z).1 (leZ S x y z).2.1) (leZ S x y z).1 3)) (N := brkU ck ka ad ra u1777.1 ++ (lngC ck oa u1777.2 ++ (dblC ck od E))) (cat_perm [brkU ck ka ad ra u1777.1, modelC ck mo (encZ S) F1 F2 F3 F4 M, lngC ck oa u1777.2, dblC ck od E] [1] [0, 2, 3] 4 rfl (by decide)) (cat_perm [brkU ck ka ad ra u1777.1, modelC ck mo (encZ (leZ S x y z).2.2) (encZ S) F2 (endF F3 (encZ S) (mAns (upS M 8 0 0) (leZ S x y z).1 (leZ S x y z).2.1) (leZ S x y z).1) F4 (endM (mAns (upS M 8 0 0) (leZ S x y z).1 (leZ S x y z).2.1) (leZ S x y z).1 3), lngC ck oa u1777.2, dblC ck od E] [1] [0, 2, 3] 4 rfl (by decide)) hP hD hS hA (fun hPm hDm => va_runV (As := [.int (zI x), .int (zI y), .int (zI z)]) (rest := []) ⟨hx, hb, hml, hown, htg⟩ (m_lease l dg ck mo S F1 F2 F3 F4 M x y z _ hV (by omega) (by omega) (by omega) (by omega)) (cwV 3 htg (gwV wq_1869 wq_1870 wq_1871 wq_15 wq_1872) rfl rfl rfl (by decide +kernel) ⟨Nat.le_of_ble_eq_true rfl, Nat.le_of_ble_eq_true rfl⟩) (wr_preV hK hPm hDm 0 11 rfl rfl) rfl rfl hl.1 rfl (lv_room (Nat.le_of_ble_eq_true rfl)) dL_law_1801 ⟨by show _ ≤ 603072; omega, by show _ ≤ 7207018; omega⟩) (fun r1801 H locs hr1801 hP hD hS => ?_)
  subst hr1801
  have hP : va_P dg vwCl (brkU ck ka ad ra u1777.1 ++ (modelC ck mo (encZ (leZ S x y z).2.2) (encZ S) F2 (endF F3 (encZ S) (mAns (upS M 8 0 0) (leZ S x y z).1 (leZ S x y z).2.1) (leZ S x y z).1) F4 (endM (mAns (upS M 8 0 0) (leZ S x y z).1 (leZ S x y z).2.1) (leZ S x y z).1 3) ++ (lngC ck oa u1777.2 ++ (dblC ck od E)))) H := hP
  have hD : va_D A (brkU ck ka ad ra u1777.1 ++ (modelC ck mo (encZ (leZ S x y z).2.2) (encZ S) F2 (endF F3 (encZ S) (mAns (upS M 8 0 0) (leZ S x y z).1 (leZ S x y z).2.1) (leZ S x y z).1) F4 (endM (mAns (upS M 8 0 0) (leZ S x y z).1 (leZ S x y z).2.1) (leZ S x y z).1 3) ++ (lngC ck oa u1777.2 ++ (dblC ck od E)))) := hD
  have hcase : ∃ t9 : Int, (endM (mAns (upS M 8 0 0) (leZ S x y z).1 (leZ S x y z).2.1) (leZ S x y z).1 3) 8 0 = t9 ∧ r1777 = zI t9 ∧ (0 ≤ t9 ∧ t9 ≤ 3) ∧ (t9 = 0 → u1777.2 0 = (zI (endR (mAns (upS M 8 0 0) (leZ S x y z).1 (leZ S x y z).2.1) (leZ S x y z).1)).toInt64) ∧ LI (775 * i + 3100) (u1777.1.1) (u1777.1.2.2.1) (u1777.1.2.2.2.1) (u1777.1.2.2.2.2.1) (u1777.1.2.2.2.2.2.2.1) (u1777.1.2.2.2.2.2.2.2.1) (u1777.1.2.2.2.2.2.2.2.2.2.2.1) (u1777.1.2.2.2.2.2.2.2.2.2.2.2) F2 (endF F3 (encZ S) (mAns (upS M 8 0 0) (leZ S x y z).1 (leZ S x y z).2.1) (leZ S x y z).1) (endM (mAns (upS M 8 0 0) (leZ S x y z).1 (leZ S x y z).2.1) (leZ S x y z).1 3) ∧ (leZ S x y z).2.2 = u1777.1.2.2.2.2.1 := by
    have hch := LI.chg (c := (leZ S x y z).1) (x := (leZ S x y z).2.1) (d := 3) (c2 := (leZ S x y z).1) (S' := (leZ S x y z).2.2) O (hLI.mono (show 775 * i ≤ 775 * i + 3100 by omega) (by omega)) ((leZ_inv hV).mono (by omega) (by omega)) (leZ_r S x y z) (fun q => actZ_k (S := S) (k := 4) (a := x) (b := y) (d := z) q) ⟨fun _ => rfl, fun q => q⟩
    obtain ⟨h0, h1, h2, h3, h4⟩ := hch
    rcases hw with ⟨e1, r1, hp, eu, ev⟩ | ⟨e1, hc, eu⟩ | ⟨e1, hc, eu⟩ | ⟨e1, hc, eu⟩
    · obtain ⟨rfl, ho⟩ := hp
      obtain ⟨g1, g2, g3⟩ := h0 ho
      refine ⟨0, g1, e1, by decide, fun _ => by rw [ev, g2], ?_, (by rw [eu] <;> rfl)⟩
      rw [eu]
      exact g3
    · obtain ⟨q1, q2⟩ := h1 (by rw [hc]; decide)
      obtain ⟨q3, q4⟩ := h2 hc
      refine ⟨1, q4.trans (by (try unfold mcd); (repeat' split) <;> omega), e1, by decide, fun q => absurd q (by decide), ?_, ?_⟩
      · rw [eu]
        exact q2
      · rw [eu]
        exact q1
    · obtain ⟨q1, q2⟩ := h1 (by rw [hc]; decide)
      obtain ⟨q3, q4⟩ := h3 hc
      refine ⟨2, q4.trans (by (try unfold mcd); (repeat' split) <;> omega), e1, by decide, fun q => absurd q (by decide), ?_, ?_⟩
      · rw [eu]
        exact q2
      · rw [eu]
        exact q1
    · obtain ⟨q1, q2⟩ := h1 (by rw [hc]; decide)
      obtain ⟨q3, q4⟩ := h4 hc
      refine ⟨3, q4.trans (by (try unfold mcd); (repeat' split) <;> omega), e1, by decide, fun q => absurd q (by decide), ?_, ?_⟩
      · rw [eu]
        exact q2
      · rw [eu]
        exact q1
  obtain ⟨t9, ht9, hr9, ht9b, hval, hLI2, hS2⟩ := hcase
  have ht9r : zI ((endM (mAns (upS M 8 0 0) (leZ S x y z).1 (leZ S x y z).2.1) (leZ S x y z).1 3) 8 0) = r1777 := by rw [ht9, hr9]
  refine lv_istore (lv' := [(7, .int (zI (endR (mAns (upS M 8 0 0) (leZ S x y z).1 (leZ S x y z).2.1) (leZ S x y z).1))), (6, .int r1777), (0, .ref b), (1, .ref (ad 7 0)), (2, .ref (mo 0)), (3, .ref oa), (4, .ref od), (5, .int (zI i))]) hx hb dL_law_1804 hl (by decide) rfl (fun ls hl => ?_)
  refine lv_aload_n hx hb dL_law_1806 rfl (lv_at hl 4 rfl) ?_
  refine vp_callSi (W.runV (As := []) (rest := []) ⟨hx, hb, hml, hown, htg⟩ (m_thrown l dg ck mo (leZ S x y z).2.2 (encZ S) F2 (endF F3 (encZ S) (mAns (upS M 8 0 0) (leZ S x y z).1 (leZ S x y z).2.1) (leZ S x y z).1) F4 (endM (mAns (upS M 8 0 0) (leZ S x y z).1 (leZ S x y z).2.1) (leZ S x y z).1 3)) (cwV 0 htg (gwV wq_1627 wq_1628 wq_1629 wq_15 wq_1630) rfl rfl rfl (by decide +kernel) ⟨Nat.le_of_ble_eq_true rfl, Nat.le_of_ble_eq_true rfl⟩) (rd_preV hK (va_P_l (va_P_r hP)) 0 11 rfl rfl) rfl rfl hl.1 rfl (lv_room (Nat.le_of_ble_eq_true rfl)) dL_law_1807 ⟨by show _ ≤ 603072; omega, by show _ ≤ 7207018; omega⟩) (fun r1807 hr1807 => ?_)
  subst hr1807
  refine lv_iload hx hb dL_law_1810 (lv_at hl 1 rfl) ?_
  refine lv_icmp_eq (tgt := 1817) hx hb dL_law_1812 (by decide) (fun _ => ?_) (fun c9 => absurd ht9r c9)
  refine lv_iload hx hb dL_law_1817 (lv_at hl 1 rfl) ?_
  refine W.eq (g2 := F0 m 1819 ls [.int (zI t9)]) (by rw [hr9]) ?_
  refine x_if_ne (tgt := 1834) hx hb dL_law_1819 (by decide) (by omega) (fun c9 => ?_) (fun c9 => ?_)
  · refine lv_goto (tgt := 3323) hx hb dL_law_1834 (by decide) ?_
    refine W.widen (k := cells + 3) (n := slots + 18) (by omega) (by omega) ?_
    have hP : va_P dg vwCl (lawW ck ka ad ra mo oa od u1777.1 (encZ S) F2 (endF F3 (encZ S) (mAns (upS M 8 0 0) (leZ S x y z).1 (leZ S x y z).2.1) (leZ S x y z).1) F4 (endM (mAns (upS M 8 0 0) (leZ S x y z).1 (leZ S x y z).2.1) (leZ S x y z).1 3) u1777.2 E) H := va_P_eq (by rw [hS2] <;> rfl) hP
    have hD : va_D A (lawW ck ka ad ra mo oa od u1777.1 (encZ S) F2 (endF F3 (encZ S) (mAns (upS M 8 0 0) (leZ S x y z).1 (leZ S x y z).2.1) (leZ S x y z).1) F4 (endM (mAns (upS M 8 0 0) (leZ S x y z).1 (leZ S x y z).2.1) (leZ S x y z).1 3) u1777.2 E) := va_D_eq (by rw [hS2] <;> rfl) hD
    exact kk u1777.1 (encZ S) F2 (endF F3 (encZ S) (mAns (upS M 8 0 0) (leZ S x y z).1 (leZ S x y z).2.1) (leZ S x y z).1) F4 (endM (mAns (upS M 8 0 0) (leZ S x y z).1 (leZ S x y z).2.1) (leZ S x y z).1 3) u1777.2 E H locs ls hLI2 hP hD hS (lv_sub hl [2, 3, 4, 5, 6, 7] rfl)
  · have hv9 := hval (by omega)
    refine lv_aload_n hx hb dL_law_1822 rfl (lv_at hl 5 rfl) ?_
    refine x_iconst hx hb dL_law_1823 ?_
    refine va_lald hx hb hK hP 175 5 rfl rfl (zI_in (z := 0) (by decide) (by decide)) dL_law_1824 ?_
    refine lv_iload hx hb dL_law_1825 (lv_at hl 0 rfl) ?_
    refine lv_i2l hx hb dL_law_1827 rfl ?_
    refine W.lcmp hx hb dL_law_1828 ?_
    refine W.eq (g2 := F0 m 1829 ls [.int (zI 0)]) (congrArg (fun v9 => F0 m 1829 ls [.int v9]) ((congrArg (fun v9 => lg_cmp v9 _) hv9).trans (lg_self _))) ?_
    refine x_if_eq (tgt := 1834) hx hb dL_law_1829 (by decide) (by omega) (fun _ => ?_) (fun c => absurd rfl c)
    refine lv_goto (tgt := 3323) hx hb dL_law_1834 (by decide) ?_
    refine W.widen (k := cells + 3) (n := slots + 18) (by omega) (by omega) ?_
    have hP : va_P dg vwCl (lawW ck ka ad ra mo oa od u1777.1 (encZ S) F2 (endF F3 (encZ S) (mAns (upS M 8 0 0) (leZ S x y z).1 (leZ S x y z).2.1) (leZ S x y z).1) F4 (endM (mAns (upS M 8 0 0) (leZ S x y z).1 (leZ S x y z).2.1) (leZ S x y z).1 3) u1777.2 E) H := va_P_eq (by rw [hS2] <;> rfl) hP
    have hD : va_D A (lawW ck ka ad ra mo oa od u1777.1 (encZ S) F2 (endF F3 (encZ S) (mAns (upS M 8 0 0) (leZ S x y z).1 (leZ S x y z).2.1) (leZ S x y z).1) F4 (endM (mAns (upS M 8 0 0) (leZ S x y z).1 (leZ S x y z).2.1) (leZ S x y z).1 3) u1777.2 E) := va_D_eq (by rw [hS2] <;> rfl) hD
    exact kk u1777.1 (encZ S) F2 (endF F3 (encZ S) (mAns (upS M 8 0 0) (leZ S x y z).1 (leZ S x y z).2.1) (leZ S x y z).1) F4 (endM (mAns (upS M 8 0 0) (leZ S x y z).1 (leZ S x y z).2.1) (leZ S x y z).1 3) u1777.2 E H locs ls hLI2 hP hD hS (lv_sub hl [2, 3, 4, 5, 6, 7] rfl)

set_option maxHeartbeats 4000000 in
set_option maxRecDepth 100000 in
/-- the law: a call of endLease -/
theorem lc_28 {p : Program} {l : Launch} {e : Env} {s : State} {m : MethodId} {below : List Frame} {meth : Method} {c : Code} {dg : va_G} {ck : Nat → ClassId} {ka : Nat → Nat} {b L : Nat} {xs : Nat → Int32} {A : Nat → Prop} {ad ra : Nat → Nat → Nat} {mo : Nat → Nat} {oa od : Nat} {Qf : State → Prop} {i : Int} {cells slots : Nat} (C0 : LX p l s m c dg ck ka b L xs A) (hi : 0 ≤ i ∧ i + 4 ≤ L) (hcell : cells + 3 ≤ 603072) (hslot : slots + 18 ≤ 7207018) (kk : LKK p l e s m below meth c dg ck ka ad ra mo oa od b A Qf i cells slots) {Z O U X : Nat → Int} {S T P I : St} {V N Y : Int → Int} {Q : Nat → St} {F1 F2 F3 F4 : Int → Int} {M : St} {D : Nat → Int64} {E : Nat → UInt64} {H : Heap} {locs : List Loc} {ls : Array Slot} (hLI : LI (775 * i) Z U X S P I Y Q F2 F3 M) (hP : va_P dg vwCl (brkW ck ka ad ra Z O U X S T P I V N Y Q ++ (modelC ck mo (encZ S) F1 F2 F3 F4 M ++ (lngC ck oa D ++ (dblC ck od E)))) H) (hD : va_D A (brkW ck ka ad ra Z O U X S T P I V N Y Q ++ (modelC ck mo (encZ S) F1 F2 F3 F4 M ++ (lngC ck oa D ++ (dblC ck od E))))) (hS : va_S A s.heap H locs) (hl : lv_has ls 9 [(0, .ref b), (1, .ref (ad 7 0)), (2, .ref (mo 0)), (3, .ref oa), (4, .ref od), (5, .int (zI i))]) : W p l e room_1 s m #[Value.ref b] below meth c H locs cells slots Qf (F0 m 1837 ls []) := by
  obtain ⟨hx, hb, hml, hown, htg, hX, hbl, hbA, hK, hC, hA, hst, hL⟩ := id C0
  obtain ⟨hV, hlh, hls, hlt, hlo, hlf⟩ := id hLI
  obtain ⟨hn, hz, hk1, hq10, hhist⟩ := id hlh
  obtain ⟨hk2, hz0, hp10, hsn⟩ := id hls
  obtain ⟨hk3, hln, hk5, htx, hkv⟩ := id hlt
  obtain ⟨hk4, hu0, hy7, hY⟩ := id hlo
  obtain ⟨⟨hk5a, hz4⟩, ⟨hk6, hz1⟩, hk7, hk8⟩ := id hlf
  have hI := hV.bd
  have hs10 : ∀ i, 0 ≤ S 10 i ∧ S 10 i ≤ 1 := hI.2.2.2.2.2.2.2.2.2.2.2.2.2.1
  obtain ⟨x, hv_x⟩ : ∃ v9 : Int, (xs (i + 1).toNat).toInt = v9 := ⟨_, rfl⟩
  have rgx_x := xi_r (xs (i + 1).toNat)
  rw [hv_x] at rgx_x
  obtain ⟨y, hv_y⟩ : ∃ v9 : Int, (xs (i + 2).toNat).toInt = v9 := ⟨_, rfl⟩
  have rgx_y := xi_r (xs (i + 2).toNat)
  rw [hv_y] at rgx_y
  obtain ⟨z, hv_z⟩ : ∃ v9 : Int, (xs (i + 3).toNat).toInt = v9 := ⟨_, rfl⟩
  have rgx_z := xi_r (xs (i + 3).toNat)
  rw [hv_z] at rgx_z
  refine lv_aload_n hx hb dL_law_1837 rfl (lv_at hl 1 rfl) ?_
  refine lv_aload_n hx hb dL_law_1838 rfl (lv_at hl 0 rfl) ?_
  refine lv_iload hx hb dL_law_1839 (lv_at hl 5 rfl) ?_
  refine x_iconst hx hb dL_law_1841 ?_
  refine x_iadd hx hb dL_law_1842 ?_
  refine x_sld hx hb hX hbl hbA hS (by omega) (by omega) hv_x dL_law_1843 ?_
  refine lv_aload_n hx hb dL_law_1844 rfl (lv_at hl 3 rfl) ?_
  refine x_calliUB (wf := fun u1845 : BU × (Nat → Int64) => brkU ck ka ad ra u1845.1 ++ (modelC ck mo (encZ S) F1 F2 F3 F4 M ++ (lngC ck oa u1845.2 ++ (dblC ck od E)))) (M := brkW ck ka ad ra Z O U X S T P I V N Y Q ++ (lngC ck oa D)) (Mf := fun u1845 => brkU ck ka ad ra u1845.1 ++ (lngC ck oa u1845.2)) (N := modelC ck mo (encZ S) F1 F2 F3 F4 M ++ (dblC ck od E)) (cat_perm [brkW ck ka ad ra Z O U X S T P I V N Y Q, modelC ck mo (encZ S) F1 F2 F3 F4 M, lngC ck oa D, dblC ck od E] [0, 2] [1, 3] 4 rfl (by decide)) (fun u1845 => cat_perm [brkU ck ka ad ra u1845.1, modelC ck mo (encZ S) F1 F2 F3 F4 M, lngC ck oa u1845.2, dblC ck od E] [0, 2] [1, 3] 4 rfl (by decide)) hP hD hS hA (fun hPm hDm => vx_runSW (As := [.ref (ad 7 0), .int (zI x), .ref oa]) (rest := []) ⟨hx, hb, hml, hown, htg⟩ (w_endLease l dg ck ka ad ra Z O U X S T P I V N Y Q oa D x _ hV (by omega) hn hz (by omega) hst) (vx_cwSW 3 htg (gwSW wq_941 wq_942 wq_0 wqL_endLease) rfl rfl rfl (by decide +kernel) ⟨Nat.le_of_ble_eq_true rfl, Nat.le_of_ble_eq_true rfl⟩) (wrK_preS hK hPm hDm hC hS hA) rfl rfl hl.1 rfl (lv_room (Nat.le_of_ble_eq_true rfl)) dL_law_1845 ⟨by show cells + 1 ≤ 603072; omega, by show slots + 6 ≤ 7207018; omega⟩) (fun r1845 u1845 H locs hw hP hD hS => ?_)
  have hP : va_P dg vwCl (brkU ck ka ad ra u1845.1 ++ (modelC ck mo (encZ S) F1 F2 F3 F4 M ++ (lngC ck oa u1845.2 ++ (dblC ck od E)))) H := hP
  have hD : va_D A (brkU ck ka ad ra u1845.1 ++ (modelC ck mo (encZ S) F1 F2 F3 F4 M ++ (lngC ck oa u1845.2 ++ (dblC ck od E)))) := hD
  refine lv_istore (lv' := [(6, .int r1845), (0, .ref b), (1, .ref (ad 7 0)), (2, .ref (mo 0)), (3, .ref oa), (4, .ref od), (5, .int (zI i))]) hx hb dL_law_1848 hl (by decide) rfl (fun ls hl => ?_)
  refine lv_aload_n hx hb dL_law_1850 rfl (lv_at hl 3 rfl) ?_
  refine lv_aload_n hx hb dL_law_1851 rfl (lv_at hl 1 rfl) ?_
  refine lv_iload hx hb dL_law_1852 (lv_at hl 6 rfl) ?_
  refine x_iconst hx hb dL_law_1854 ?_
  refine x_iadd hx hb dL_law_1855 ?_
  refine x_sld hx hb hX hbl hbA hS (by omega) (by omega) hv_x dL_law_1856 ?_
  refine x_calliB (ws' := brkU ck ka ad ra u1845.1 ++ (modelC ck mo (encZ (enZ S x).2.2) (encZ S) F2 (endF F3 (encZ S) (mAns (upS M 8 0 0) (enZ S x).1 (enZ S x).2.1) (enZ S x).1) F4 (endM (mAns (upS M 8 0 0) (enZ S x).1 (enZ S x).2.1) (enZ S x).1 2) ++ (lngC ck oa u1845.2 ++ (dblC ck od E)))) (M := modelC ck mo (encZ S) F1 F2 F3 F4 M) (M' := modelC ck mo (encZ (enZ S x).2.2) (encZ S) F2 (endF F3 (encZ S) (mAns (upS M 8 0 0) (enZ S x).1 (enZ S x).2.1) (enZ S x).1) F4 (endM (mAns (upS M 8 0 0) (enZ S x).1 (enZ S x).2.1) (enZ S x).1 2)) (N := brkU ck ka ad ra u1845.1 ++ (lngC ck oa u1845.2 ++ (dblC ck od E))) (cat_perm [brkU ck ka ad ra u1845.1, modelC ck mo (encZ S) F1 F2 F3 F4 M, lngC ck oa u1845.2, dblC ck od E] [1] [0, 2, 3] 4 rfl (by decide)) (cat_perm [brkU ck ka ad ra u1845.1, modelC ck mo (encZ (enZ S x).2.2) (encZ S) F2 (endF F3 (encZ S) (mAns (upS M 8 0 0) (enZ S x).1 (enZ S x).2.1) (enZ S x).1) F4 (endM (mAns (upS M 8 0 0) (enZ S x).1 (enZ S x).2.1) (enZ S x).1 2), lngC ck oa u1845.2, dblC ck od E] [1] [0, 2, 3] 4 rfl (by decide)) hP hD hS hA (fun hPm hDm => va_runV (As := [.int (zI x)]) (rest := []) ⟨hx, hb, hml, hown, htg⟩ (m_endLease l dg ck mo S F1 F2 F3 F4 M x _ hV (by omega) (by omega)) (cwV 1 htg (gwV wq_1877 wq_1878 wq_1879 wq_15 wq_1880) rfl rfl rfl (by decide +kernel) ⟨Nat.le_of_ble_eq_true rfl, Nat.le_of_ble_eq_true rfl⟩) (wr_preV hK hPm hDm 0 11 rfl rfl) rfl rfl hl.1 rfl (lv_room (Nat.le_of_ble_eq_true rfl)) dL_law_1857 ⟨by show _ ≤ 603072; omega, by show _ ≤ 7207018; omega⟩) (fun r1857 H locs hr1857 hP hD hS => ?_)
  subst hr1857
  have hP : va_P dg vwCl (brkU ck ka ad ra u1845.1 ++ (modelC ck mo (encZ (enZ S x).2.2) (encZ S) F2 (endF F3 (encZ S) (mAns (upS M 8 0 0) (enZ S x).1 (enZ S x).2.1) (enZ S x).1) F4 (endM (mAns (upS M 8 0 0) (enZ S x).1 (enZ S x).2.1) (enZ S x).1 2) ++ (lngC ck oa u1845.2 ++ (dblC ck od E)))) H := hP
  have hD : va_D A (brkU ck ka ad ra u1845.1 ++ (modelC ck mo (encZ (enZ S x).2.2) (encZ S) F2 (endF F3 (encZ S) (mAns (upS M 8 0 0) (enZ S x).1 (enZ S x).2.1) (enZ S x).1) F4 (endM (mAns (upS M 8 0 0) (enZ S x).1 (enZ S x).2.1) (enZ S x).1 2) ++ (lngC ck oa u1845.2 ++ (dblC ck od E)))) := hD
  have hcase : ∃ t9 : Int, (endM (mAns (upS M 8 0 0) (enZ S x).1 (enZ S x).2.1) (enZ S x).1 2) 8 0 = t9 ∧ r1845 = zI t9 ∧ (0 ≤ t9 ∧ t9 ≤ 3) ∧ (t9 = 0 → u1845.2 0 = (zI (endR (mAns (upS M 8 0 0) (enZ S x).1 (enZ S x).2.1) (enZ S x).1)).toInt64) ∧ LI (775 * i + 3100) (u1845.1.1) (u1845.1.2.2.1) (u1845.1.2.2.2.1) (u1845.1.2.2.2.2.1) (u1845.1.2.2.2.2.2.2.1) (u1845.1.2.2.2.2.2.2.2.1) (u1845.1.2.2.2.2.2.2.2.2.2.2.1) (u1845.1.2.2.2.2.2.2.2.2.2.2.2) F2 (endF F3 (encZ S) (mAns (upS M 8 0 0) (enZ S x).1 (enZ S x).2.1) (enZ S x).1) (endM (mAns (upS M 8 0 0) (enZ S x).1 (enZ S x).2.1) (enZ S x).1 2) ∧ (enZ S x).2.2 = u1845.1.2.2.2.2.1 := by
    have hch := LI.chg (c := (enZ S x).1) (x := (enZ S x).2.1) (d := 2) (c2 := (enZ S x).1) (S' := (enZ S x).2.2) O (hLI.mono (show 775 * i ≤ 775 * i + 3100 by omega) (by omega)) ((enZ_inv hV).mono (by omega) (by omega)) (enZ_r S x) (fun q => actZ_k (S := S) (k := 5) (a := x) (b := 0) (d := 0) q) ⟨fun _ => rfl, fun q => q⟩
    obtain ⟨h0, h1, h2, h3, h4⟩ := hch
    rcases hw with ⟨e1, r1, hp, eu, ev⟩ | ⟨e1, hc, eu⟩ | ⟨e1, hc, eu⟩
    · obtain ⟨rfl, ho⟩ := hp
      obtain ⟨g1, g2, g3⟩ := h0 ho
      refine ⟨0, g1, e1, by decide, fun _ => by rw [ev, g2], ?_, (by rw [eu] <;> rfl)⟩
      rw [eu]
      exact g3
    · obtain ⟨q1, q2⟩ := h1 (by rw [hc]; decide)
      obtain ⟨q3, q4⟩ := h2 hc
      refine ⟨1, q4.trans (by (try unfold mcd); (repeat' split) <;> omega), e1, by decide, fun q => absurd q (by decide), ?_, ?_⟩
      · rw [eu]
        exact q2
      · rw [eu]
        exact q1
    · obtain ⟨q1, q2⟩ := h1 (by rw [hc]; decide)
      obtain ⟨q3, q4⟩ := h4 hc
      refine ⟨2, q4.trans (by (try unfold mcd); (repeat' split) <;> omega), e1, by decide, fun q => absurd q (by decide), ?_, ?_⟩
      · rw [eu]
        exact q2
      · rw [eu]
        exact q1
  obtain ⟨t9, ht9, hr9, ht9b, hval, hLI2, hS2⟩ := hcase
  have ht9r : zI ((endM (mAns (upS M 8 0 0) (enZ S x).1 (enZ S x).2.1) (enZ S x).1 2) 8 0) = r1845 := by rw [ht9, hr9]
  refine lv_istore (lv' := [(7, .int (zI (endR (mAns (upS M 8 0 0) (enZ S x).1 (enZ S x).2.1) (enZ S x).1))), (6, .int r1845), (0, .ref b), (1, .ref (ad 7 0)), (2, .ref (mo 0)), (3, .ref oa), (4, .ref od), (5, .int (zI i))]) hx hb dL_law_1860 hl (by decide) rfl (fun ls hl => ?_)
  refine lv_aload_n hx hb dL_law_1862 rfl (lv_at hl 4 rfl) ?_
  refine vp_callSi (W.runV (As := []) (rest := []) ⟨hx, hb, hml, hown, htg⟩ (m_thrown l dg ck mo (enZ S x).2.2 (encZ S) F2 (endF F3 (encZ S) (mAns (upS M 8 0 0) (enZ S x).1 (enZ S x).2.1) (enZ S x).1) F4 (endM (mAns (upS M 8 0 0) (enZ S x).1 (enZ S x).2.1) (enZ S x).1 2)) (cwV 0 htg (gwV wq_1627 wq_1628 wq_1629 wq_15 wq_1630) rfl rfl rfl (by decide +kernel) ⟨Nat.le_of_ble_eq_true rfl, Nat.le_of_ble_eq_true rfl⟩) (rd_preV hK (va_P_l (va_P_r hP)) 0 11 rfl rfl) rfl rfl hl.1 rfl (lv_room (Nat.le_of_ble_eq_true rfl)) dL_law_1863 ⟨by show _ ≤ 603072; omega, by show _ ≤ 7207018; omega⟩) (fun r1863 hr1863 => ?_)
  subst hr1863
  refine lv_iload hx hb dL_law_1866 (lv_at hl 1 rfl) ?_
  refine lv_icmp_eq (tgt := 1873) hx hb dL_law_1868 (by decide) (fun _ => ?_) (fun c9 => absurd ht9r c9)
  refine lv_iload hx hb dL_law_1873 (lv_at hl 1 rfl) ?_
  refine W.eq (g2 := F0 m 1875 ls [.int (zI t9)]) (by rw [hr9]) ?_
  refine x_if_ne (tgt := 1890) hx hb dL_law_1875 (by decide) (by omega) (fun c9 => ?_) (fun c9 => ?_)
  · refine lv_goto (tgt := 3323) hx hb dL_law_1890 (by decide) ?_
    refine W.widen (k := cells + 3) (n := slots + 18) (by omega) (by omega) ?_
    have hP : va_P dg vwCl (lawW ck ka ad ra mo oa od u1845.1 (encZ S) F2 (endF F3 (encZ S) (mAns (upS M 8 0 0) (enZ S x).1 (enZ S x).2.1) (enZ S x).1) F4 (endM (mAns (upS M 8 0 0) (enZ S x).1 (enZ S x).2.1) (enZ S x).1 2) u1845.2 E) H := va_P_eq (by rw [hS2] <;> rfl) hP
    have hD : va_D A (lawW ck ka ad ra mo oa od u1845.1 (encZ S) F2 (endF F3 (encZ S) (mAns (upS M 8 0 0) (enZ S x).1 (enZ S x).2.1) (enZ S x).1) F4 (endM (mAns (upS M 8 0 0) (enZ S x).1 (enZ S x).2.1) (enZ S x).1 2) u1845.2 E) := va_D_eq (by rw [hS2] <;> rfl) hD
    exact kk u1845.1 (encZ S) F2 (endF F3 (encZ S) (mAns (upS M 8 0 0) (enZ S x).1 (enZ S x).2.1) (enZ S x).1) F4 (endM (mAns (upS M 8 0 0) (enZ S x).1 (enZ S x).2.1) (enZ S x).1 2) u1845.2 E H locs ls hLI2 hP hD hS (lv_sub hl [2, 3, 4, 5, 6, 7] rfl)
  · have hv9 := hval (by omega)
    refine lv_aload_n hx hb dL_law_1878 rfl (lv_at hl 5 rfl) ?_
    refine x_iconst hx hb dL_law_1879 ?_
    refine va_lald hx hb hK hP 175 5 rfl rfl (zI_in (z := 0) (by decide) (by decide)) dL_law_1880 ?_
    refine lv_iload hx hb dL_law_1881 (lv_at hl 0 rfl) ?_
    refine lv_i2l hx hb dL_law_1883 rfl ?_
    refine W.lcmp hx hb dL_law_1884 ?_
    refine W.eq (g2 := F0 m 1885 ls [.int (zI 0)]) (congrArg (fun v9 => F0 m 1885 ls [.int v9]) ((congrArg (fun v9 => lg_cmp v9 _) hv9).trans (lg_self _))) ?_
    refine x_if_eq (tgt := 1890) hx hb dL_law_1885 (by decide) (by omega) (fun _ => ?_) (fun c => absurd rfl c)
    refine lv_goto (tgt := 3323) hx hb dL_law_1890 (by decide) ?_
    refine W.widen (k := cells + 3) (n := slots + 18) (by omega) (by omega) ?_
    have hP : va_P dg vwCl (lawW ck ka ad ra mo oa od u1845.1 (encZ S) F2 (endF F3 (encZ S) (mAns (upS M 8 0 0) (enZ S x).1 (enZ S x).2.1) (enZ S x).1) F4 (endM (mAns (upS M 8 0 0) (enZ S x).1 (enZ S x).2.1) (enZ S x).1 2) u1845.2 E) H := va_P_eq (by rw [hS2] <;> rfl) hP
    have hD : va_D A (lawW ck ka ad ra mo oa od u1845.1 (encZ S) F2 (endF F3 (encZ S) (mAns (upS M 8 0 0) (enZ S x).1 (enZ S x).2.1) (enZ S x).1) F4 (endM (mAns (upS M 8 0 0) (enZ S x).1 (enZ S x).2.1) (enZ S x).1 2) u1845.2 E) := va_D_eq (by rw [hS2] <;> rfl) hD
    exact kk u1845.1 (encZ S) F2 (endF F3 (encZ S) (mAns (upS M 8 0 0) (enZ S x).1 (enZ S x).2.1) (enZ S x).1) F4 (endM (mAns (upS M 8 0 0) (enZ S x).1 (enZ S x).2.1) (enZ S x).1 2) u1845.2 E H locs ls hLI2 hP hD hS (lv_sub hl [2, 3, 4, 5, 6, 7] rfl)

set_option maxHeartbeats 4000000 in
set_option maxRecDepth 100000 in
/-- the law: a call of renew -/
theorem lc_29 {p : Program} {l : Launch} {e : Env} {s : State} {m : MethodId} {below : List Frame} {meth : Method} {c : Code} {dg : va_G} {ck : Nat → ClassId} {ka : Nat → Nat} {b L : Nat} {xs : Nat → Int32} {A : Nat → Prop} {ad ra : Nat → Nat → Nat} {mo : Nat → Nat} {oa od : Nat} {Qf : State → Prop} {i : Int} {cells slots : Nat} (C0 : LX p l s m c dg ck ka b L xs A) (hi : 0 ≤ i ∧ i + 4 ≤ L) (hcell : cells + 3 ≤ 603072) (hslot : slots + 18 ≤ 7207018) (kk : LKK p l e s m below meth c dg ck ka ad ra mo oa od b A Qf i cells slots) {Z O U X : Nat → Int} {S T P I : St} {V N Y : Int → Int} {Q : Nat → St} {F1 F2 F3 F4 : Int → Int} {M : St} {D : Nat → Int64} {E : Nat → UInt64} {H : Heap} {locs : List Loc} {ls : Array Slot} (hLI : LI (775 * i) Z U X S P I Y Q F2 F3 M) (hP : va_P dg vwCl (brkW ck ka ad ra Z O U X S T P I V N Y Q ++ (modelC ck mo (encZ S) F1 F2 F3 F4 M ++ (lngC ck oa D ++ (dblC ck od E)))) H) (hD : va_D A (brkW ck ka ad ra Z O U X S T P I V N Y Q ++ (modelC ck mo (encZ S) F1 F2 F3 F4 M ++ (lngC ck oa D ++ (dblC ck od E))))) (hS : va_S A s.heap H locs) (hl : lv_has ls 9 [(0, .ref b), (1, .ref (ad 7 0)), (2, .ref (mo 0)), (3, .ref oa), (4, .ref od), (5, .int (zI i))]) : W p l e room_1 s m #[Value.ref b] below meth c H locs cells slots Qf (F0 m 1893 ls []) := by
  obtain ⟨hx, hb, hml, hown, htg, hX, hbl, hbA, hK, hC, hA, hst, hL⟩ := id C0
  obtain ⟨hV, hlh, hls, hlt, hlo, hlf⟩ := id hLI
  obtain ⟨hn, hz, hk1, hq10, hhist⟩ := id hlh
  obtain ⟨hk2, hz0, hp10, hsn⟩ := id hls
  obtain ⟨hk3, hln, hk5, htx, hkv⟩ := id hlt
  obtain ⟨hk4, hu0, hy7, hY⟩ := id hlo
  obtain ⟨⟨hk5a, hz4⟩, ⟨hk6, hz1⟩, hk7, hk8⟩ := id hlf
  have hI := hV.bd
  have hs10 : ∀ i, 0 ≤ S 10 i ∧ S 10 i ≤ 1 := hI.2.2.2.2.2.2.2.2.2.2.2.2.2.1
  obtain ⟨x, hv_x⟩ : ∃ v9 : Int, (xs (i + 1).toNat).toInt = v9 := ⟨_, rfl⟩
  have rgx_x := xi_r (xs (i + 1).toNat)
  rw [hv_x] at rgx_x
  obtain ⟨y, hv_y⟩ : ∃ v9 : Int, (xs (i + 2).toNat).toInt = v9 := ⟨_, rfl⟩
  have rgx_y := xi_r (xs (i + 2).toNat)
  rw [hv_y] at rgx_y
  obtain ⟨z, hv_z⟩ : ∃ v9 : Int, (xs (i + 3).toNat).toInt = v9 := ⟨_, rfl⟩
  have rgx_z := xi_r (xs (i + 3).toNat)
  rw [hv_z] at rgx_z
  refine lv_aload_n hx hb dL_law_1893 rfl (lv_at hl 1 rfl) ?_
  refine lv_aload_n hx hb dL_law_1894 rfl (lv_at hl 0 rfl) ?_
  refine lv_iload hx hb dL_law_1895 (lv_at hl 5 rfl) ?_
  refine x_iconst hx hb dL_law_1897 ?_
  refine x_iadd hx hb dL_law_1898 ?_
  refine x_sld hx hb hX hbl hbA hS (by omega) (by omega) hv_x dL_law_1899 ?_
  refine lv_aload_n hx hb dL_law_1900 rfl (lv_at hl 0 rfl) ?_
  refine lv_iload hx hb dL_law_1901 (lv_at hl 5 rfl) ?_
  refine x_iconst hx hb dL_law_1903 ?_
  refine x_iadd hx hb dL_law_1904 ?_
  refine x_sld hx hb hX hbl hbA hS (by omega) (by omega) hv_y dL_law_1905 ?_
  refine lv_aload_n hx hb dL_law_1906 rfl (lv_at hl 3 rfl) ?_
  refine x_calliUB (wf := fun u1907 : BU × (Nat → Int64) => brkU ck ka ad ra u1907.1 ++ (modelC ck mo (encZ S) F1 F2 F3 F4 M ++ (lngC ck oa u1907.2 ++ (dblC ck od E)))) (M := brkW ck ka ad ra Z O U X S T P I V N Y Q ++ (lngC ck oa D)) (Mf := fun u1907 => brkU ck ka ad ra u1907.1 ++ (lngC ck oa u1907.2)) (N := modelC ck mo (encZ S) F1 F2 F3 F4 M ++ (dblC ck od E)) (cat_perm [brkW ck ka ad ra Z O U X S T P I V N Y Q, modelC ck mo (encZ S) F1 F2 F3 F4 M, lngC ck oa D, dblC ck od E] [0, 2] [1, 3] 4 rfl (by decide)) (fun u1907 => cat_perm [brkU ck ka ad ra u1907.1, modelC ck mo (encZ S) F1 F2 F3 F4 M, lngC ck oa u1907.2, dblC ck od E] [0, 2] [1, 3] 4 rfl (by decide)) hP hD hS hA (fun hPm hDm => vx_runSW (As := [.ref (ad 7 0), .int (zI x), .int (zI y), .ref oa]) (rest := []) ⟨hx, hb, hml, hown, htg⟩ (w_renew l dg ck ka ad ra Z O U X S T P I V N Y Q oa D x y _ hV (by omega) hn hz (by omega) (by omega) hst) (vx_cwSW 4 htg (gwSW wq_952 wq_953 wq_0 wqL_renew) rfl rfl rfl (by decide +kernel) ⟨Nat.le_of_ble_eq_true rfl, Nat.le_of_ble_eq_true rfl⟩) (wrK_preS hK hPm hDm hC hS hA) rfl rfl hl.1 rfl (lv_room (Nat.le_of_ble_eq_true rfl)) dL_law_1907 ⟨by show cells + 1 ≤ 603072; omega, by show slots + 6 ≤ 7207018; omega⟩) (fun r1907 u1907 H locs hw hP hD hS => ?_)
  have hP : va_P dg vwCl (brkU ck ka ad ra u1907.1 ++ (modelC ck mo (encZ S) F1 F2 F3 F4 M ++ (lngC ck oa u1907.2 ++ (dblC ck od E)))) H := hP
  have hD : va_D A (brkU ck ka ad ra u1907.1 ++ (modelC ck mo (encZ S) F1 F2 F3 F4 M ++ (lngC ck oa u1907.2 ++ (dblC ck od E)))) := hD
  refine lv_istore (lv' := [(6, .int r1907), (0, .ref b), (1, .ref (ad 7 0)), (2, .ref (mo 0)), (3, .ref oa), (4, .ref od), (5, .int (zI i))]) hx hb dL_law_1910 hl (by decide) rfl (fun ls hl => ?_)
  refine lv_aload_n hx hb dL_law_1912 rfl (lv_at hl 3 rfl) ?_
  refine lv_aload_n hx hb dL_law_1913 rfl (lv_at hl 1 rfl) ?_
  refine lv_iload hx hb dL_law_1914 (lv_at hl 6 rfl) ?_
  refine x_iconst hx hb dL_law_1916 ?_
  refine x_iadd hx hb dL_law_1917 ?_
  refine x_sld hx hb hX hbl hbA hS (by omega) (by omega) hv_x dL_law_1918 ?_
  refine lv_aload_n hx hb dL_law_1919 rfl (lv_at hl 1 rfl) ?_
  refine lv_iload hx hb dL_law_1920 (lv_at hl 6 rfl) ?_
  refine x_iconst hx hb dL_law_1922 ?_
  refine x_iadd hx hb dL_law_1923 ?_
  refine x_sld hx hb hX hbl hbA hS (by omega) (by omega) hv_y dL_law_1924 ?_
  refine x_calliB (ws' := brkU ck ka ad ra u1907.1 ++ (modelC ck mo (encZ (reZ S x y).2.2) (encZ S) F2 (endF F3 (encZ S) (mAns (upS M 8 0 0) (reZ S x y).1 (reZ S x y).2.1) (reZ S x y).1) F4 (endM (mAns (upS M 8 0 0) (reZ S x y).1 (reZ S x y).2.1) (reZ S x y).1 3) ++ (lngC ck oa u1907.2 ++ (dblC ck od E)))) (M := modelC ck mo (encZ S) F1 F2 F3 F4 M) (M' := modelC ck mo (encZ (reZ S x y).2.2) (encZ S) F2 (endF F3 (encZ S) (mAns (upS M 8 0 0) (reZ S x y).1 (reZ S x y).2.1) (reZ S x y).1) F4 (endM (mAns (upS M 8 0 0) (reZ S x y).1 (reZ S x y).2.1) (reZ S x y).1 3)) (N := brkU ck ka ad ra u1907.1 ++ (lngC ck oa u1907.2 ++ (dblC ck od E))) (cat_perm [brkU ck ka ad ra u1907.1, modelC ck mo (encZ S) F1 F2 F3 F4 M, lngC ck oa u1907.2, dblC ck od E] [1] [0, 2, 3] 4 rfl (by decide)) (cat_perm [brkU ck ka ad ra u1907.1, modelC ck mo (encZ (reZ S x y).2.2) (encZ S) F2 (endF F3 (encZ S) (mAns (upS M 8 0 0) (reZ S x y).1 (reZ S x y).2.1) (reZ S x y).1) F4 (endM (mAns (upS M 8 0 0) (reZ S x y).1 (reZ S x y).2.1) (reZ S x y).1 3), lngC ck oa u1907.2, dblC ck od E] [1] [0, 2, 3] 4 rfl (by decide)) hP hD hS hA (fun hPm hDm => va_runV (As := [.int (zI x), .int (zI y)]) (rest := []) ⟨hx, hb, hml, hown, htg⟩ (m_renew l dg ck mo S F1 F2 F3 F4 M x y _ hV (by omega) (by omega) (by omega)) (cwV 2 htg (gwV wq_1889 wq_1890 wq_1891 wq_15 wq_1892) rfl rfl rfl (by decide +kernel) ⟨Nat.le_of_ble_eq_true rfl, Nat.le_of_ble_eq_true rfl⟩) (wr_preV hK hPm hDm 0 11 rfl rfl) rfl rfl hl.1 rfl (lv_room (Nat.le_of_ble_eq_true rfl)) dL_law_1925 ⟨by show _ ≤ 603072; omega, by show _ ≤ 7207018; omega⟩) (fun r1925 H locs hr1925 hP hD hS => ?_)
  subst hr1925
  have hP : va_P dg vwCl (brkU ck ka ad ra u1907.1 ++ (modelC ck mo (encZ (reZ S x y).2.2) (encZ S) F2 (endF F3 (encZ S) (mAns (upS M 8 0 0) (reZ S x y).1 (reZ S x y).2.1) (reZ S x y).1) F4 (endM (mAns (upS M 8 0 0) (reZ S x y).1 (reZ S x y).2.1) (reZ S x y).1 3) ++ (lngC ck oa u1907.2 ++ (dblC ck od E)))) H := hP
  have hD : va_D A (brkU ck ka ad ra u1907.1 ++ (modelC ck mo (encZ (reZ S x y).2.2) (encZ S) F2 (endF F3 (encZ S) (mAns (upS M 8 0 0) (reZ S x y).1 (reZ S x y).2.1) (reZ S x y).1) F4 (endM (mAns (upS M 8 0 0) (reZ S x y).1 (reZ S x y).2.1) (reZ S x y).1 3) ++ (lngC ck oa u1907.2 ++ (dblC ck od E)))) := hD
  have hcase : ∃ t9 : Int, (endM (mAns (upS M 8 0 0) (reZ S x y).1 (reZ S x y).2.1) (reZ S x y).1 3) 8 0 = t9 ∧ r1907 = zI t9 ∧ (0 ≤ t9 ∧ t9 ≤ 3) ∧ (t9 = 0 → u1907.2 0 = (zI (endR (mAns (upS M 8 0 0) (reZ S x y).1 (reZ S x y).2.1) (reZ S x y).1)).toInt64) ∧ LI (775 * i + 3100) (u1907.1.1) (u1907.1.2.2.1) (u1907.1.2.2.2.1) (u1907.1.2.2.2.2.1) (u1907.1.2.2.2.2.2.2.1) (u1907.1.2.2.2.2.2.2.2.1) (u1907.1.2.2.2.2.2.2.2.2.2.2.1) (u1907.1.2.2.2.2.2.2.2.2.2.2.2) F2 (endF F3 (encZ S) (mAns (upS M 8 0 0) (reZ S x y).1 (reZ S x y).2.1) (reZ S x y).1) (endM (mAns (upS M 8 0 0) (reZ S x y).1 (reZ S x y).2.1) (reZ S x y).1 3) ∧ (reZ S x y).2.2 = u1907.1.2.2.2.2.1 := by
    have hch := LI.chg (c := (reZ S x y).1) (x := (reZ S x y).2.1) (d := 3) (c2 := (reZ S x y).1) (S' := (reZ S x y).2.2) O (hLI.mono (show 775 * i ≤ 775 * i + 3100 by omega) (by omega)) ((reZ_inv hV).mono (by omega) (by omega)) (reZ_r S x y) (fun q => actZ_k (S := S) (k := 6) (a := x) (b := y) (d := 0) q) ⟨fun _ => rfl, fun q => q⟩
    obtain ⟨h0, h1, h2, h3, h4⟩ := hch
    rcases hw with ⟨e1, r1, hp, eu, ev⟩ | ⟨e1, hc, eu⟩ | ⟨e1, hc, eu⟩ | ⟨e1, hc, eu⟩
    · obtain ⟨rfl, ho⟩ := hp
      obtain ⟨g1, g2, g3⟩ := h0 ho
      refine ⟨0, g1, e1, by decide, fun _ => by rw [ev, g2], ?_, (by rw [eu] <;> rfl)⟩
      rw [eu]
      exact g3
    · obtain ⟨q1, q2⟩ := h1 (by rw [hc]; decide)
      obtain ⟨q3, q4⟩ := h2 hc
      refine ⟨1, q4.trans (by (try unfold mcd); (repeat' split) <;> omega), e1, by decide, fun q => absurd q (by decide), ?_, ?_⟩
      · rw [eu]
        exact q2
      · rw [eu]
        exact q1
    · obtain ⟨q1, q2⟩ := h1 (by rw [hc]; decide)
      obtain ⟨q3, q4⟩ := h3 hc
      refine ⟨2, q4.trans (by (try unfold mcd); (repeat' split) <;> omega), e1, by decide, fun q => absurd q (by decide), ?_, ?_⟩
      · rw [eu]
        exact q2
      · rw [eu]
        exact q1
    · obtain ⟨q1, q2⟩ := h1 (by rw [hc]; decide)
      obtain ⟨q3, q4⟩ := h4 hc
      refine ⟨3, q4.trans (by (try unfold mcd); (repeat' split) <;> omega), e1, by decide, fun q => absurd q (by decide), ?_, ?_⟩
      · rw [eu]
        exact q2
      · rw [eu]
        exact q1
  obtain ⟨t9, ht9, hr9, ht9b, hval, hLI2, hS2⟩ := hcase
  have ht9r : zI ((endM (mAns (upS M 8 0 0) (reZ S x y).1 (reZ S x y).2.1) (reZ S x y).1 3) 8 0) = r1907 := by rw [ht9, hr9]
  refine lv_istore (lv' := [(7, .int (zI (endR (mAns (upS M 8 0 0) (reZ S x y).1 (reZ S x y).2.1) (reZ S x y).1))), (6, .int r1907), (0, .ref b), (1, .ref (ad 7 0)), (2, .ref (mo 0)), (3, .ref oa), (4, .ref od), (5, .int (zI i))]) hx hb dL_law_1928 hl (by decide) rfl (fun ls hl => ?_)
  refine lv_aload_n hx hb dL_law_1930 rfl (lv_at hl 4 rfl) ?_
  refine vp_callSi (W.runV (As := []) (rest := []) ⟨hx, hb, hml, hown, htg⟩ (m_thrown l dg ck mo (reZ S x y).2.2 (encZ S) F2 (endF F3 (encZ S) (mAns (upS M 8 0 0) (reZ S x y).1 (reZ S x y).2.1) (reZ S x y).1) F4 (endM (mAns (upS M 8 0 0) (reZ S x y).1 (reZ S x y).2.1) (reZ S x y).1 3)) (cwV 0 htg (gwV wq_1627 wq_1628 wq_1629 wq_15 wq_1630) rfl rfl rfl (by decide +kernel) ⟨Nat.le_of_ble_eq_true rfl, Nat.le_of_ble_eq_true rfl⟩) (rd_preV hK (va_P_l (va_P_r hP)) 0 11 rfl rfl) rfl rfl hl.1 rfl (lv_room (Nat.le_of_ble_eq_true rfl)) dL_law_1931 ⟨by show _ ≤ 603072; omega, by show _ ≤ 7207018; omega⟩) (fun r1931 hr1931 => ?_)
  subst hr1931
  refine lv_iload hx hb dL_law_1934 (lv_at hl 1 rfl) ?_
  refine lv_icmp_eq (tgt := 1941) hx hb dL_law_1936 (by decide) (fun _ => ?_) (fun c9 => absurd ht9r c9)
  refine lv_iload hx hb dL_law_1941 (lv_at hl 1 rfl) ?_
  refine W.eq (g2 := F0 m 1943 ls [.int (zI t9)]) (by rw [hr9]) ?_
  refine x_if_ne (tgt := 1958) hx hb dL_law_1943 (by decide) (by omega) (fun c9 => ?_) (fun c9 => ?_)
  · refine lv_goto (tgt := 3323) hx hb dL_law_1958 (by decide) ?_
    refine W.widen (k := cells + 3) (n := slots + 18) (by omega) (by omega) ?_
    have hP : va_P dg vwCl (lawW ck ka ad ra mo oa od u1907.1 (encZ S) F2 (endF F3 (encZ S) (mAns (upS M 8 0 0) (reZ S x y).1 (reZ S x y).2.1) (reZ S x y).1) F4 (endM (mAns (upS M 8 0 0) (reZ S x y).1 (reZ S x y).2.1) (reZ S x y).1 3) u1907.2 E) H := va_P_eq (by rw [hS2] <;> rfl) hP
    have hD : va_D A (lawW ck ka ad ra mo oa od u1907.1 (encZ S) F2 (endF F3 (encZ S) (mAns (upS M 8 0 0) (reZ S x y).1 (reZ S x y).2.1) (reZ S x y).1) F4 (endM (mAns (upS M 8 0 0) (reZ S x y).1 (reZ S x y).2.1) (reZ S x y).1 3) u1907.2 E) := va_D_eq (by rw [hS2] <;> rfl) hD
    exact kk u1907.1 (encZ S) F2 (endF F3 (encZ S) (mAns (upS M 8 0 0) (reZ S x y).1 (reZ S x y).2.1) (reZ S x y).1) F4 (endM (mAns (upS M 8 0 0) (reZ S x y).1 (reZ S x y).2.1) (reZ S x y).1 3) u1907.2 E H locs ls hLI2 hP hD hS (lv_sub hl [2, 3, 4, 5, 6, 7] rfl)
  · have hv9 := hval (by omega)
    refine lv_aload_n hx hb dL_law_1946 rfl (lv_at hl 5 rfl) ?_
    refine x_iconst hx hb dL_law_1947 ?_
    refine va_lald hx hb hK hP 175 5 rfl rfl (zI_in (z := 0) (by decide) (by decide)) dL_law_1948 ?_
    refine lv_iload hx hb dL_law_1949 (lv_at hl 0 rfl) ?_
    refine lv_i2l hx hb dL_law_1951 rfl ?_
    refine W.lcmp hx hb dL_law_1952 ?_
    refine W.eq (g2 := F0 m 1953 ls [.int (zI 0)]) (congrArg (fun v9 => F0 m 1953 ls [.int v9]) ((congrArg (fun v9 => lg_cmp v9 _) hv9).trans (lg_self _))) ?_
    refine x_if_eq (tgt := 1958) hx hb dL_law_1953 (by decide) (by omega) (fun _ => ?_) (fun c => absurd rfl c)
    refine lv_goto (tgt := 3323) hx hb dL_law_1958 (by decide) ?_
    refine W.widen (k := cells + 3) (n := slots + 18) (by omega) (by omega) ?_
    have hP : va_P dg vwCl (lawW ck ka ad ra mo oa od u1907.1 (encZ S) F2 (endF F3 (encZ S) (mAns (upS M 8 0 0) (reZ S x y).1 (reZ S x y).2.1) (reZ S x y).1) F4 (endM (mAns (upS M 8 0 0) (reZ S x y).1 (reZ S x y).2.1) (reZ S x y).1 3) u1907.2 E) H := va_P_eq (by rw [hS2] <;> rfl) hP
    have hD : va_D A (lawW ck ka ad ra mo oa od u1907.1 (encZ S) F2 (endF F3 (encZ S) (mAns (upS M 8 0 0) (reZ S x y).1 (reZ S x y).2.1) (reZ S x y).1) F4 (endM (mAns (upS M 8 0 0) (reZ S x y).1 (reZ S x y).2.1) (reZ S x y).1 3) u1907.2 E) := va_D_eq (by rw [hS2] <;> rfl) hD
    exact kk u1907.1 (encZ S) F2 (endF F3 (encZ S) (mAns (upS M 8 0 0) (reZ S x y).1 (reZ S x y).2.1) (reZ S x y).1) F4 (endM (mAns (upS M 8 0 0) (reZ S x y).1 (reZ S x y).2.1) (reZ S x y).1 3) u1907.2 E H locs ls hLI2 hP hD hS (lv_sub hl [2, 3, 4, 5, 6, 7] rfl)

set_option maxHeartbeats 4000000 in
set_option maxRecDepth 100000 in
/-- the law: a call of passMonths -/
theorem lc_35 {p : Program} {l : Launch} {e : Env} {s : State} {m : MethodId} {below : List Frame} {meth : Method} {c : Code} {dg : va_G} {ck : Nat → ClassId} {ka : Nat → Nat} {b L : Nat} {xs : Nat → Int32} {A : Nat → Prop} {ad ra : Nat → Nat → Nat} {mo : Nat → Nat} {oa od : Nat} {Qf : State → Prop} {i : Int} {cells slots : Nat} (C0 : LX p l s m c dg ck ka b L xs A) (hi : 0 ≤ i ∧ i + 4 ≤ L) (hcell : cells + 3 ≤ 603072) (hslot : slots + 18 ≤ 7207018) (kk : LKK p l e s m below meth c dg ck ka ad ra mo oa od b A Qf i cells slots) {Z O U X : Nat → Int} {S T P I : St} {V N Y : Int → Int} {Q : Nat → St} {F1 F2 F3 F4 : Int → Int} {M : St} {D : Nat → Int64} {E : Nat → UInt64} {H : Heap} {locs : List Loc} {ls : Array Slot} (hLI : LI (775 * i) Z U X S P I Y Q F2 F3 M) (hP : va_P dg vwCl (brkW ck ka ad ra Z O U X S T P I V N Y Q ++ (modelC ck mo (encZ S) F1 F2 F3 F4 M ++ (lngC ck oa D ++ (dblC ck od E)))) H) (hD : va_D A (brkW ck ka ad ra Z O U X S T P I V N Y Q ++ (modelC ck mo (encZ S) F1 F2 F3 F4 M ++ (lngC ck oa D ++ (dblC ck od E))))) (hS : va_S A s.heap H locs) (hl : lv_has ls 9 [(0, .ref b), (1, .ref (ad 7 0)), (2, .ref (mo 0)), (3, .ref oa), (4, .ref od), (5, .int (zI i))]) : W p l e room_1 s m #[Value.ref b] below meth c H locs cells slots Qf (F0 m 2248 ls []) := by
  obtain ⟨hx, hb, hml, hown, htg, hX, hbl, hbA, hK, hC, hA, hst, hL⟩ := id C0
  obtain ⟨hV, hlh, hls, hlt, hlo, hlf⟩ := id hLI
  obtain ⟨hn, hz, hk1, hq10, hhist⟩ := id hlh
  obtain ⟨hk2, hz0, hp10, hsn⟩ := id hls
  obtain ⟨hk3, hln, hk5, htx, hkv⟩ := id hlt
  obtain ⟨hk4, hu0, hy7, hY⟩ := id hlo
  obtain ⟨⟨hk5a, hz4⟩, ⟨hk6, hz1⟩, hk7, hk8⟩ := id hlf
  have hI := hV.bd
  have hs10 : ∀ i, 0 ≤ S 10 i ∧ S 10 i ≤ 1 := hI.2.2.2.2.2.2.2.2.2.2.2.2.2.1
  obtain ⟨x, hv_x⟩ : ∃ v9 : Int, (xs (i + 1).toNat).toInt = v9 := ⟨_, rfl⟩
  have rgx_x := xi_r (xs (i + 1).toNat)
  rw [hv_x] at rgx_x
  obtain ⟨y, hv_y⟩ : ∃ v9 : Int, (xs (i + 2).toNat).toInt = v9 := ⟨_, rfl⟩
  have rgx_y := xi_r (xs (i + 2).toNat)
  rw [hv_y] at rgx_y
  obtain ⟨z, hv_z⟩ : ∃ v9 : Int, (xs (i + 3).toNat).toInt = v9 := ⟨_, rfl⟩
  have rgx_z := xi_r (xs (i + 3).toNat)
  rw [hv_z] at rgx_z
  refine lv_aload_n hx hb dL_law_2248 rfl (lv_at hl 1 rfl) ?_
  refine lv_aload_n hx hb dL_law_2249 rfl (lv_at hl 0 rfl) ?_
  refine lv_iload hx hb dL_law_2250 (lv_at hl 5 rfl) ?_
  refine x_iconst hx hb dL_law_2252 ?_
  refine x_iadd hx hb dL_law_2253 ?_
  refine x_sld hx hb hX hbl hbA hS (by omega) (by omega) hv_x dL_law_2254 ?_
  refine lv_aload_n hx hb dL_law_2255 rfl (lv_at hl 3 rfl) ?_
  refine x_calliUB (wf := fun u2256 : BU × (Nat → Int64) => brkU ck ka ad ra u2256.1 ++ (modelC ck mo (encZ S) F1 F2 F3 F4 M ++ (lngC ck oa u2256.2 ++ (dblC ck od E)))) (M := brkW ck ka ad ra Z O U X S T P I V N Y Q ++ (lngC ck oa D)) (Mf := fun u2256 => brkU ck ka ad ra u2256.1 ++ (lngC ck oa u2256.2)) (N := modelC ck mo (encZ S) F1 F2 F3 F4 M ++ (dblC ck od E)) (cat_perm [brkW ck ka ad ra Z O U X S T P I V N Y Q, modelC ck mo (encZ S) F1 F2 F3 F4 M, lngC ck oa D, dblC ck od E] [0, 2] [1, 3] 4 rfl (by decide)) (fun u2256 => cat_perm [brkU ck ka ad ra u2256.1, modelC ck mo (encZ S) F1 F2 F3 F4 M, lngC ck oa u2256.2, dblC ck od E] [0, 2] [1, 3] 4 rfl (by decide)) hP hD hS hA (fun hPm hDm => vx_runSW (As := [.ref (ad 7 0), .int (zI x), .ref oa]) (rest := []) ⟨hx, hb, hml, hown, htg⟩ (w_passMonths l dg ck ka ad ra Z O U X S T P I V N Y Q oa D x _ hV (by omega) hn hz (by omega) hst) (vx_cwSW 3 htg (gwSW wq_1004 wq_1005 wq_0 wqL_passMonths) rfl rfl rfl (by decide +kernel) ⟨Nat.le_of_ble_eq_true rfl, Nat.le_of_ble_eq_true rfl⟩) (wrK_preS hK hPm hDm hC hS hA) rfl rfl hl.1 rfl (lv_room (Nat.le_of_ble_eq_true rfl)) dL_law_2256 ⟨by show cells + 1 ≤ 603072; omega, by show slots + 6 ≤ 7207018; omega⟩) (fun r2256 u2256 H locs hw hP hD hS => ?_)
  have hP : va_P dg vwCl (brkU ck ka ad ra u2256.1 ++ (modelC ck mo (encZ S) F1 F2 F3 F4 M ++ (lngC ck oa u2256.2 ++ (dblC ck od E)))) H := hP
  have hD : va_D A (brkU ck ka ad ra u2256.1 ++ (modelC ck mo (encZ S) F1 F2 F3 F4 M ++ (lngC ck oa u2256.2 ++ (dblC ck od E)))) := hD
  refine lv_istore (lv' := [(6, .int r2256), (0, .ref b), (1, .ref (ad 7 0)), (2, .ref (mo 0)), (3, .ref oa), (4, .ref od), (5, .int (zI i))]) hx hb dL_law_2259 hl (by decide) rfl (fun ls hl => ?_)
  refine lv_aload_n hx hb dL_law_2261 rfl (lv_at hl 3 rfl) ?_
  refine lv_aload_n hx hb dL_law_2262 rfl (lv_at hl 1 rfl) ?_
  refine lv_iload hx hb dL_law_2263 (lv_at hl 6 rfl) ?_
  refine x_iconst hx hb dL_law_2265 ?_
  refine x_iadd hx hb dL_law_2266 ?_
  refine x_sld hx hb hX hbl hbA hS (by omega) (by omega) hv_x dL_law_2267 ?_
  refine x_calliB (ws' := brkU ck ka ad ra u2256.1 ++ (modelC ck mo (encZ (elZ S x).2.2) (encZ S) F2 (endF F3 (encZ S) (mAns (upS M 8 0 0) (elZ S x).1 (elZ S x).2.1) (mcd (elZ S x).1)) F4 (endM (mAns (upS M 8 0 0) (elZ S x).1 (elZ S x).2.1) (mcd (elZ S x).1) 1) ++ (lngC ck oa u2256.2 ++ (dblC ck od E)))) (M := modelC ck mo (encZ S) F1 F2 F3 F4 M) (M' := modelC ck mo (encZ (elZ S x).2.2) (encZ S) F2 (endF F3 (encZ S) (mAns (upS M 8 0 0) (elZ S x).1 (elZ S x).2.1) (mcd (elZ S x).1)) F4 (endM (mAns (upS M 8 0 0) (elZ S x).1 (elZ S x).2.1) (mcd (elZ S x).1) 1)) (N := brkU ck ka ad ra u2256.1 ++ (lngC ck oa u2256.2 ++ (dblC ck od E))) (cat_perm [brkU ck ka ad ra u2256.1, modelC ck mo (encZ S) F1 F2 F3 F4 M, lngC ck oa u2256.2, dblC ck od E] [1] [0, 2, 3] 4 rfl (by decide)) (cat_perm [brkU ck ka ad ra u2256.1, modelC ck mo (encZ (elZ S x).2.2) (encZ S) F2 (endF F3 (encZ S) (mAns (upS M 8 0 0) (elZ S x).1 (elZ S x).2.1) (mcd (elZ S x).1)) F4 (endM (mAns (upS M 8 0 0) (elZ S x).1 (elZ S x).2.1) (mcd (elZ S x).1) 1), lngC ck oa u2256.2, dblC ck od E] [1] [0, 2, 3] 4 rfl (by decide)) hP hD hS hA (fun hPm hDm => va_runV (As := [.int (zI x)]) (rest := []) ⟨hx, hb, hml, hown, htg⟩ (m_passMonths l dg ck mo S F1 F2 F3 F4 M x _ hV (by omega) (by omega)) (cwV 1 htg (gwV wq_1921 wq_1922 wq_1923 wq_15 wq_1924) rfl rfl rfl (by decide +kernel) ⟨Nat.le_of_ble_eq_true rfl, Nat.le_of_ble_eq_true rfl⟩) (wr_preV hK hPm hDm 0 11 rfl rfl) rfl rfl hl.1 rfl (lv_room (Nat.le_of_ble_eq_true rfl)) dL_law_2268 ⟨by show _ ≤ 603072; omega, by show _ ≤ 7207018; omega⟩) (fun r2268 H locs hr2268 hP hD hS => ?_)
  subst hr2268
  have hP : va_P dg vwCl (brkU ck ka ad ra u2256.1 ++ (modelC ck mo (encZ (elZ S x).2.2) (encZ S) F2 (endF F3 (encZ S) (mAns (upS M 8 0 0) (elZ S x).1 (elZ S x).2.1) (mcd (elZ S x).1)) F4 (endM (mAns (upS M 8 0 0) (elZ S x).1 (elZ S x).2.1) (mcd (elZ S x).1) 1) ++ (lngC ck oa u2256.2 ++ (dblC ck od E)))) H := hP
  have hD : va_D A (brkU ck ka ad ra u2256.1 ++ (modelC ck mo (encZ (elZ S x).2.2) (encZ S) F2 (endF F3 (encZ S) (mAns (upS M 8 0 0) (elZ S x).1 (elZ S x).2.1) (mcd (elZ S x).1)) F4 (endM (mAns (upS M 8 0 0) (elZ S x).1 (elZ S x).2.1) (mcd (elZ S x).1) 1) ++ (lngC ck oa u2256.2 ++ (dblC ck od E)))) := hD
  have hcase : ∃ t9 : Int, (endM (mAns (upS M 8 0 0) (elZ S x).1 (elZ S x).2.1) (mcd (elZ S x).1) 1) 8 0 = t9 ∧ r2256 = zI t9 ∧ (0 ≤ t9 ∧ t9 ≤ 3) ∧ (t9 = 0 → u2256.2 0 = (zI (endR (mAns (upS M 8 0 0) (elZ S x).1 (elZ S x).2.1) (mcd (elZ S x).1))).toInt64) ∧ LI (775 * i + 3100) (u2256.1.1) (u2256.1.2.2.1) (u2256.1.2.2.2.1) (u2256.1.2.2.2.2.1) (u2256.1.2.2.2.2.2.2.1) (u2256.1.2.2.2.2.2.2.2.1) (u2256.1.2.2.2.2.2.2.2.2.2.2.1) (u2256.1.2.2.2.2.2.2.2.2.2.2.2) F2 (endF F3 (encZ S) (mAns (upS M 8 0 0) (elZ S x).1 (elZ S x).2.1) (mcd (elZ S x).1)) (endM (mAns (upS M 8 0 0) (elZ S x).1 (elZ S x).2.1) (mcd (elZ S x).1) 1) ∧ (elZ S x).2.2 = u2256.1.2.2.2.2.1 := by
    have hch := LI.chg (c := (elZ S x).1) (x := (elZ S x).2.1) (d := 1) (c2 := (mcd (elZ S x).1)) (S' := (elZ S x).2.2) O (hLI.mono (show 775 * i ≤ 775 * i + 3100 by omega) (by omega)) ((elZ_inv hV).mono (by omega) (by omega)) (elZ_r S x) (fun q => actZ_k (S := S) (k := 9) (a := x) (b := 0) (d := 0) q) ⟨fun q => if_neg (Int.not_lt.mpr q), fun q => by unfold mcd; rw [if_pos q]; decide⟩
    obtain ⟨h0, h1, h2, h3, h4⟩ := hch
    rcases hw with ⟨e1, r1, hp, eu, ev⟩ | ⟨e1, hc, eu⟩
    · obtain ⟨rfl, ho⟩ := hp
      obtain ⟨g1, g2, g3⟩ := h0 ho
      refine ⟨0, g1, e1, by decide, fun _ => by rw [ev, g2], ?_, (by rw [eu] <;> rfl)⟩
      rw [eu]
      exact g3
    · obtain ⟨q1, q2⟩ := h1 (by rw [hc]; decide)
      obtain ⟨q3, q4⟩ := h3 hc
      refine ⟨1, q4.trans (by (try unfold mcd); (repeat' split) <;> omega), e1, by decide, fun q => absurd q (by decide), ?_, ?_⟩
      · rw [eu]
        exact q2
      · rw [eu]
        exact q1
  obtain ⟨t9, ht9, hr9, ht9b, hval, hLI2, hS2⟩ := hcase
  have ht9r : zI ((endM (mAns (upS M 8 0 0) (elZ S x).1 (elZ S x).2.1) (mcd (elZ S x).1) 1) 8 0) = r2256 := by rw [ht9, hr9]
  refine lv_istore (lv' := [(7, .int (zI (endR (mAns (upS M 8 0 0) (elZ S x).1 (elZ S x).2.1) (mcd (elZ S x).1)))), (6, .int r2256), (0, .ref b), (1, .ref (ad 7 0)), (2, .ref (mo 0)), (3, .ref oa), (4, .ref od), (5, .int (zI i))]) hx hb dL_law_2271 hl (by decide) rfl (fun ls hl => ?_)
  refine lv_aload_n hx hb dL_law_2273 rfl (lv_at hl 4 rfl) ?_
  refine vp_callSi (W.runV (As := []) (rest := []) ⟨hx, hb, hml, hown, htg⟩ (m_thrown l dg ck mo (elZ S x).2.2 (encZ S) F2 (endF F3 (encZ S) (mAns (upS M 8 0 0) (elZ S x).1 (elZ S x).2.1) (mcd (elZ S x).1)) F4 (endM (mAns (upS M 8 0 0) (elZ S x).1 (elZ S x).2.1) (mcd (elZ S x).1) 1)) (cwV 0 htg (gwV wq_1627 wq_1628 wq_1629 wq_15 wq_1630) rfl rfl rfl (by decide +kernel) ⟨Nat.le_of_ble_eq_true rfl, Nat.le_of_ble_eq_true rfl⟩) (rd_preV hK (va_P_l (va_P_r hP)) 0 11 rfl rfl) rfl rfl hl.1 rfl (lv_room (Nat.le_of_ble_eq_true rfl)) dL_law_2274 ⟨by show _ ≤ 603072; omega, by show _ ≤ 7207018; omega⟩) (fun r2274 hr2274 => ?_)
  subst hr2274
  refine lv_iload hx hb dL_law_2277 (lv_at hl 1 rfl) ?_
  refine lv_icmp_eq (tgt := 2284) hx hb dL_law_2279 (by decide) (fun _ => ?_) (fun c9 => absurd ht9r c9)
  refine lv_iload hx hb dL_law_2284 (lv_at hl 1 rfl) ?_
  refine W.eq (g2 := F0 m 2286 ls [.int (zI t9)]) (by rw [hr9]) ?_
  refine x_if_ne (tgt := 2301) hx hb dL_law_2286 (by decide) (by omega) (fun c9 => ?_) (fun c9 => ?_)
  · refine lv_goto (tgt := 3323) hx hb dL_law_2301 (by decide) ?_
    refine W.widen (k := cells + 3) (n := slots + 18) (by omega) (by omega) ?_
    have hP : va_P dg vwCl (lawW ck ka ad ra mo oa od u2256.1 (encZ S) F2 (endF F3 (encZ S) (mAns (upS M 8 0 0) (elZ S x).1 (elZ S x).2.1) (mcd (elZ S x).1)) F4 (endM (mAns (upS M 8 0 0) (elZ S x).1 (elZ S x).2.1) (mcd (elZ S x).1) 1) u2256.2 E) H := va_P_eq (by rw [hS2] <;> rfl) hP
    have hD : va_D A (lawW ck ka ad ra mo oa od u2256.1 (encZ S) F2 (endF F3 (encZ S) (mAns (upS M 8 0 0) (elZ S x).1 (elZ S x).2.1) (mcd (elZ S x).1)) F4 (endM (mAns (upS M 8 0 0) (elZ S x).1 (elZ S x).2.1) (mcd (elZ S x).1) 1) u2256.2 E) := va_D_eq (by rw [hS2] <;> rfl) hD
    exact kk u2256.1 (encZ S) F2 (endF F3 (encZ S) (mAns (upS M 8 0 0) (elZ S x).1 (elZ S x).2.1) (mcd (elZ S x).1)) F4 (endM (mAns (upS M 8 0 0) (elZ S x).1 (elZ S x).2.1) (mcd (elZ S x).1) 1) u2256.2 E H locs ls hLI2 hP hD hS (lv_sub hl [2, 3, 4, 5, 6, 7] rfl)
  · have hv9 := hval (by omega)
    refine lv_aload_n hx hb dL_law_2289 rfl (lv_at hl 5 rfl) ?_
    refine x_iconst hx hb dL_law_2290 ?_
    refine va_lald hx hb hK hP 175 5 rfl rfl (zI_in (z := 0) (by decide) (by decide)) dL_law_2291 ?_
    refine lv_iload hx hb dL_law_2292 (lv_at hl 0 rfl) ?_
    refine lv_i2l hx hb dL_law_2294 rfl ?_
    refine W.lcmp hx hb dL_law_2295 ?_
    refine W.eq (g2 := F0 m 2296 ls [.int (zI 0)]) (congrArg (fun v9 => F0 m 2296 ls [.int v9]) ((congrArg (fun v9 => lg_cmp v9 _) hv9).trans (lg_self _))) ?_
    refine x_if_eq (tgt := 2301) hx hb dL_law_2296 (by decide) (by omega) (fun _ => ?_) (fun c => absurd rfl c)
    refine lv_goto (tgt := 3323) hx hb dL_law_2301 (by decide) ?_
    refine W.widen (k := cells + 3) (n := slots + 18) (by omega) (by omega) ?_
    have hP : va_P dg vwCl (lawW ck ka ad ra mo oa od u2256.1 (encZ S) F2 (endF F3 (encZ S) (mAns (upS M 8 0 0) (elZ S x).1 (elZ S x).2.1) (mcd (elZ S x).1)) F4 (endM (mAns (upS M 8 0 0) (elZ S x).1 (elZ S x).2.1) (mcd (elZ S x).1) 1) u2256.2 E) H := va_P_eq (by rw [hS2] <;> rfl) hP
    have hD : va_D A (lawW ck ka ad ra mo oa od u2256.1 (encZ S) F2 (endF F3 (encZ S) (mAns (upS M 8 0 0) (elZ S x).1 (elZ S x).2.1) (mcd (elZ S x).1)) F4 (endM (mAns (upS M 8 0 0) (elZ S x).1 (elZ S x).2.1) (mcd (elZ S x).1) 1) u2256.2 E) := va_D_eq (by rw [hS2] <;> rfl) hD
    exact kk u2256.1 (encZ S) F2 (endF F3 (encZ S) (mAns (upS M 8 0 0) (elZ S x).1 (elZ S x).2.1) (mcd (elZ S x).1)) F4 (endM (mAns (upS M 8 0 0) (elZ S x).1 (elZ S x).2.1) (mcd (elZ S x).1) 1) u2256.2 E H locs ls hLI2 hP hD hS (lv_sub hl [2, 3, 4, 5, 6, 7] rfl)
