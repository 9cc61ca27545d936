/-! the law: calls with texts, commands, undo, snapshot, doubles -/

set_option maxHeartbeats 4000000 in
set_option maxRecDepth 100000 in
/-- the law: a call of meanRent -/
theorem lc_48 {p : Program} {l : Launch} {e : Env} {s : State} {m : MethodId} {below : List Frame} {meth : Method} {c : Code} {dg : va_G} {ck : Nat → ClassId} {ka : Nat → Nat} {b L : Nat} {xs : Nat → Int32} {A : Nat → Prop} {ad ra : Nat → Nat → Nat} {mo : Nat → Nat} {oa od : Nat} {Qf : State → Prop} {i : Int} {cells slots : Nat} (C0 : LX p l s m c dg ck ka b L xs A) (hi : 0 ≤ i ∧ i + 4 ≤ L) (hcell : cells + 3 ≤ 603072) (hslot : slots + 18 ≤ 7207018) (kk : LKK p l e s m below meth c dg ck ka ad ra mo oa od b A Qf i cells slots) {Z O U X : Nat → Int} {S T P I : St} {V N Y : Int → Int} {Q : Nat → St} {F1 F2 F3 F4 : Int → Int} {M : St} {D : Nat → Int64} {E : Nat → UInt64} {H : Heap} {locs : List Loc} {ls : Array Slot} (hLI : LI (775 * i) Z U X S P I Y Q F2 F3 M) (hP : va_P dg vwCl (brkW ck ka ad ra Z O U X S T P I V N Y Q ++ (modelC ck mo (encZ S) F1 F2 F3 F4 M ++ (lngC ck oa D ++ (dblC ck od E)))) H) (hD : va_D A (brkW ck ka ad ra Z O U X S T P I V N Y Q ++ (modelC ck mo (encZ S) F1 F2 F3 F4 M ++ (lngC ck oa D ++ (dblC ck od E))))) (hS : va_S A s.heap H locs) (hl : lv_has ls 9 [(0, .ref b), (1, .ref (ad 7 0)), (2, .ref (mo 0)), (3, .ref oa), (4, .ref od), (5, .int (zI i))]) : W p l e room_1 s m #[Value.ref b] below meth c H locs cells slots Qf (F0 m 2632 ls []) := by
  obtain ⟨hx, hb, hml, hown, htg, hX, hbl, hbA, hK, hC, hA, hst, hL⟩ := id C0
  obtain ⟨hV, hlh, hls, hlt, hlo, hlf⟩ := id hLI
  obtain ⟨hn, hz, hk1, hq10, hhist⟩ := id hlh
  obtain ⟨hk2, hz0, hp10, hsn⟩ := id hls
  obtain ⟨hk3, hln, hk5, htx, hkv⟩ := id hlt
  obtain ⟨hk4, hu0, hy7, hY⟩ := id hlo
  obtain ⟨⟨hk5a, hz4⟩, ⟨hk6, hz1⟩, hk7, hk8⟩ := id hlf
  have hI := hV.bd
  have hs10 : ∀ i, 0 ≤ S 10 i ∧ S 10 i ≤ 1 := hI.2.2.2.2.2.2.2.2.2.2.2.2.2.1
  obtain ⟨x, hv_x⟩ : ∃ v9 : Int, (xs (i + 1).toNat).toInt = v9 := ⟨_, rfl⟩
  have rgx_x := xi_r (xs (i + 1).toNat)
  rw [hv_x] at rgx_x
  obtain ⟨y, hv_y⟩ : ∃ v9 : Int, (xs (i + 2).toNat).toInt = v9 := ⟨_, rfl⟩
  have rgx_y := xi_r (xs (i + 2).toNat)
  rw [hv_y] at rgx_y
  obtain ⟨z, hv_z⟩ : ∃ v9 : Int, (xs (i + 3).toNat).toInt = v9 := ⟨_, rfl⟩
  have rgx_z := xi_r (xs (i + 3).toNat)
  rw [hv_z] at rgx_z
  refine lv_aload_n hx hb dL_law_2632 rfl (lv_at hl 1 rfl) ?_
  refine lv_aload hx hb dL_law_2633 (lv_at hl 4 rfl) ?_
  refine x_calliUB (wf := fun u2635 : BU × (Nat → UInt64) => brkU ck ka ad ra u2635.1 ++ (modelC ck mo (encZ S) F1 F2 F3 F4 M ++ (lngC ck oa D ++ (dblC ck od u2635.2)))) (M := brkW ck ka ad ra Z O U X S T P I V N Y Q ++ (dblC ck od E)) (Mf := fun u2635 => brkU ck ka ad ra u2635.1 ++ (dblC ck od u2635.2)) (N := modelC ck mo (encZ S) F1 F2 F3 F4 M ++ (lngC ck oa D)) (cat_perm [brkW ck ka ad ra Z O U X S T P I V N Y Q, modelC ck mo (encZ S) F1 F2 F3 F4 M, lngC ck oa D, dblC ck od E] [0, 3] [1, 2] 4 rfl (by decide)) (fun u2635 => cat_perm [brkU ck ka ad ra u2635.1, modelC ck mo (encZ S) F1 F2 F3 F4 M, lngC ck oa D, dblC ck od u2635.2] [0, 3] [1, 2] 4 rfl (by decide)) hP hD hS hA (fun hPm hDm => vx_runSW (As := [.ref (ad 7 0), .ref od]) (rest := []) ⟨hx, hb, hml, hown, htg⟩ (w_meanRent l dg ck ka ad ra Z O U X S T P I V N Y Q od E  _ hI hst) (vx_cwSW 2 htg (gwSW wq_1060 wq_1061 wq_0 wqL_meanRent) rfl rfl rfl (by decide +kernel) ⟨Nat.le_of_ble_eq_true rfl, Nat.le_of_ble_eq_true rfl⟩) (wrK_preS hK hPm hDm hC hS hA) rfl rfl hl.1 rfl (lv_room (Nat.le_of_ble_eq_true rfl)) dL_law_2635 ⟨by show cells + 1 ≤ 603072; omega, by show slots + 6 ≤ 7207018; omega⟩) (fun r2635 u2635 H locs hw hP hD hS => ?_)
  have hP : va_P dg vwCl (brkU ck ka ad ra u2635.1 ++ (modelC ck mo (encZ S) F1 F2 F3 F4 M ++ (lngC ck oa D ++ (dblC ck od u2635.2)))) H := hP
  have hD : va_D A (brkU ck ka ad ra u2635.1 ++ (modelC ck mo (encZ S) F1 F2 F3 F4 M ++ (lngC ck oa D ++ (dblC ck od u2635.2)))) := hD
  refine lv_istore (lv' := [(6, .int r2635), (0, .ref b), (1, .ref (ad 7 0)), (2, .ref (mo 0)), (3, .ref oa), (4, .ref od), (5, .int (zI i))]) hx hb dL_law_2638 hl (by decide) rfl (fun ls hl => ?_)
  refine lv_aload_n hx hb dL_law_2640 rfl (lv_at hl 3 rfl) ?_
  refine x_calldB (ws' := brkU ck ka ad ra u2635.1 ++ (modelC ck mo (encZ S) F1 F2 F3 F4 (upS M 8 0 (bI (S 0 0 = 0))) ++ (lngC ck oa D ++ (dblC ck od u2635.2)))) (M := modelC ck mo (encZ S) F1 F2 F3 F4 M) (M' := modelC ck mo (encZ S) F1 F2 F3 F4 (upS M 8 0 (bI (S 0 0 = 0)))) (N := brkU ck ka ad ra u2635.1 ++ (lngC ck oa D ++ (dblC ck od u2635.2))) (cat_perm [brkU ck ka ad ra u2635.1, modelC ck mo (encZ S) F1 F2 F3 F4 M, lngC ck oa D, dblC ck od u2635.2] [1] [0, 2, 3] 4 rfl (by decide)) (cat_perm [brkU ck ka ad ra u2635.1, modelC ck mo (encZ S) F1 F2 F3 F4 (upS M 8 0 (bI (S 0 0 = 0))), lngC ck oa D, dblC ck od u2635.2] [1] [0, 2, 3] 4 rfl (by decide)) hP hD hS hA (fun hPm hDm => va_runV (As := []) (rest := []) ⟨hx, hb, hml, hown, htg⟩ (m_meanRent l dg ck mo S F1 F2 F3 F4 M  _ hI) (cwV 0 htg (gwV wq_1994 wq_1995 wq_1996 wq_15 wq_1997) rfl rfl rfl (by decide +kernel) ⟨Nat.le_of_ble_eq_true rfl, Nat.le_of_ble_eq_true rfl⟩) (wr_preV hK hPm hDm 0 11 rfl rfl) rfl rfl hl.1 rfl (lv_room (Nat.le_of_ble_eq_true rfl)) dL_law_2641 ⟨by show _ ≤ 603072; omega, by show _ ≤ 7207018; omega⟩) (fun r2641 H locs hr2641 hP hD hS => ?_)
  subst hr2641
  have hP : va_P dg vwCl (brkU ck ka ad ra u2635.1 ++ (modelC ck mo (encZ S) F1 F2 F3 F4 (upS M 8 0 (bI (S 0 0 = 0))) ++ (lngC ck oa D ++ (dblC ck od u2635.2)))) H := hP
  have hD : va_D A (brkU ck ka ad ra u2635.1 ++ (modelC ck mo (encZ S) F1 F2 F3 F4 (upS M 8 0 (bI (S 0 0 = 0))) ++ (lngC ck oa D ++ (dblC ck od u2635.2)))) := hD
  have hcase : ∃ t9 : Int, (upS M 8 0 (bI (S 0 0 = 0))) 8 0 = t9 ∧ r2635 = zI t9 ∧ (0 ≤ t9 ∧ t9 ≤ 3) ∧ (t9 = 0 → u2635.2 0 = (mrD S)) ∧ LI (775 * i + 3100) (u2635.1.1) (u2635.1.2.2.1) (u2635.1.2.2.2.1) (u2635.1.2.2.2.2.1) (u2635.1.2.2.2.2.2.2.1) (u2635.1.2.2.2.2.2.2.2.1) (u2635.1.2.2.2.2.2.2.2.2.2.2.1) (u2635.1.2.2.2.2.2.2.2.2.2.2.2) F2 F3 (upS M 8 0 (bI (S 0 0 = 0))) ∧ S = u2635.1.2.2.2.2.1 := by
    rcases hw with ⟨e1, r1, hp, eu, ev⟩ | ⟨e1, hc, eu⟩
    · obtain ⟨rfl, hok⟩ := hp
      refine ⟨0, upS_s.trans (by (try unfold itZ); (try unfold bI); (repeat' split) <;> omega), e1, by decide, fun _ => ev, ?_, (by rw [eu] <;> rfl)⟩
      rw [eu]
      exact (hLI.m (mK_0 M _)).mono (by omega) (by omega)
    · refine ⟨1, upS_s.trans (by (try unfold itZ); (try unfold bI); (repeat' split) <;> omega), e1, by decide, fun q => absurd q (by decide), ?_, (by rw [eu] <;> rfl)⟩
      rw [eu]
      exact (hLI.m (mK_0 M _)).mono (by omega) (by omega)
  obtain ⟨t9, ht9, hr9, ht9b, hval, hLI2, hS2⟩ := hcase
  have ht9r : zI ((upS M 8 0 (bI (S 0 0 = 0))) 8 0) = r2635 := by rw [ht9, hr9]
  refine lv_dstore (lv' := [(7, .double (mrD S)), (6, .int r2635), (0, .ref b), (1, .ref (ad 7 0)), (2, .ref (mo 0)), (3, .ref oa), (4, .ref od), (5, .int (zI i))]) hx hb dL_law_2644 hl (by decide) rfl (fun ls hl => ?_)
  refine lv_aload_n hx hb dL_law_2646 rfl (lv_at hl 4 rfl) ?_
  refine vp_callSi (W.runV (As := []) (rest := []) ⟨hx, hb, hml, hown, htg⟩ (m_thrown l dg ck mo S F1 F2 F3 F4 (upS M 8 0 (bI (S 0 0 = 0)))) (cwV 0 htg (gwV wq_1627 wq_1628 wq_1629 wq_15 wq_1630) rfl rfl rfl (by decide +kernel) ⟨Nat.le_of_ble_eq_true rfl, Nat.le_of_ble_eq_true rfl⟩) (rd_preV hK (va_P_l (va_P_r hP)) 0 11 rfl rfl) rfl rfl hl.1 rfl (lv_room (Nat.le_of_ble_eq_true rfl)) dL_law_2647 ⟨by show _ ≤ 603072; omega, by show _ ≤ 7207018; omega⟩) (fun r2647 hr2647 => ?_)
  subst hr2647
  refine lv_iload hx hb dL_law_2650 (lv_at hl 1 rfl) ?_
  refine lv_icmp_eq (tgt := 2657) hx hb dL_law_2652 (by decide) (fun _ => ?_) (fun c9 => absurd ht9r c9)
  refine lv_iload hx hb dL_law_2657 (lv_at hl 1 rfl) ?_
  refine W.eq (g2 := F0 m 2659 ls [.int (zI t9)]) (by rw [hr9]) ?_
  refine x_if_ne (tgt := 2694) hx hb dL_law_2659 (by decide) (by omega) (fun c9 => ?_) (fun c9 => ?_)
  · refine lv_goto (tgt := 3323) hx hb dL_law_2694 (by decide) ?_
    refine W.widen (k := cells + 3) (n := slots + 18) (by omega) (by omega) ?_
    have hP : va_P dg vwCl (lawW ck ka ad ra mo oa od u2635.1 F1 F2 F3 F4 (upS M 8 0 (bI (S 0 0 = 0))) D u2635.2) H := va_P_eq (by rw [hS2] <;> rfl) hP
    have hD : va_D A (lawW ck ka ad ra mo oa od u2635.1 F1 F2 F3 F4 (upS M 8 0 (bI (S 0 0 = 0))) D u2635.2) := va_D_eq (by rw [hS2] <;> rfl) hD
    exact kk u2635.1 F1 F2 F3 F4 (upS M 8 0 (bI (S 0 0 = 0))) D u2635.2 H locs ls hLI2 hP hD hS (lv_sub hl [2, 3, 4, 5, 6, 7] rfl)
  · have hv9 := hval (by omega)
    refine lv_aload hx hb dL_law_2662 (lv_at hl 6 rfl) ?_
    refine x_iconst hx hb dL_law_2664 ?_
    refine va_dald hx hb hK hP 176 6 rfl rfl (zI_in (z := 0) (by decide) (by decide)) dL_law_2665 ?_
    refine lv_dload hx hb dL_law_2666 (lv_at hl 0 rfl) ?_
    refine lv_dcmp hx hb dL_law_2668 ?_
    refine W.eq (g2 := F0 m 2669 ls [.int (zI 0)]) (congrArg (fun v9 => F0 m 2669 ls [.int v9]) ((congrArg (fun v9 => Op.cmpValue (FP.dcmp v9 _) CmpOp.l) hv9).trans (md_c hI))) ?_
    refine x_if_eq (tgt := 2694) hx hb dL_law_2669 (by decide) (by omega) (fun _ => ?_) (fun c => absurd rfl c)
    refine lv_goto (tgt := 3323) hx hb dL_law_2694 (by decide) ?_
    refine W.widen (k := cells + 3) (n := slots + 18) (by omega) (by omega) ?_
    have hP : va_P dg vwCl (lawW ck ka ad ra mo oa od u2635.1 F1 F2 F3 F4 (upS M 8 0 (bI (S 0 0 = 0))) D u2635.2) H := va_P_eq (by rw [hS2] <;> rfl) hP
    have hD : va_D A (lawW ck ka ad ra mo oa od u2635.1 F1 F2 F3 F4 (upS M 8 0 (bI (S 0 0 = 0))) D u2635.2) := va_D_eq (by rw [hS2] <;> rfl) hD
    exact kk u2635.1 F1 F2 F3 F4 (upS M 8 0 (bI (S 0 0 = 0))) D u2635.2 H locs ls hLI2 hP hD hS (lv_sub hl [2, 3, 4, 5, 6, 7] rfl)

set_option maxHeartbeats 4000000 in
set_option maxRecDepth 100000 in
/-- the law: a call of letShare -/
theorem lc_49 {p : Program} {l : Launch} {e : Env} {s : State} {m : MethodId} {below : List Frame} {meth : Method} {c : Code} {dg : va_G} {ck : Nat → ClassId} {ka : Nat → Nat} {b L : Nat} {xs : Nat → Int32} {A : Nat → Prop} {ad ra : Nat → Nat → Nat} {mo : Nat → Nat} {oa od : Nat} {Qf : State → Prop} {i : Int} {cells slots : Nat} (C0 : LX p l s m c dg ck ka b L xs A) (hi : 0 ≤ i ∧ i + 4 ≤ L) (hcell : cells + 3 ≤ 603072) (hslot : slots + 18 ≤ 7207018) (kk : LKK p l e s m below meth c dg ck ka ad ra mo oa od b A Qf i cells slots) {Z O U X : Nat → Int} {S T P I : St} {V N Y : Int → Int} {Q : Nat → St} {F1 F2 F3 F4 : Int → Int} {M : St} {D : Nat → Int64} {E : Nat → UInt64} {H : Heap} {locs : List Loc} {ls : Array Slot} (hLI : LI (775 * i) Z U X S P I Y Q F2 F3 M) (hP : va_P dg vwCl (brkW ck ka ad ra Z O U X S T P I V N Y Q ++ (modelC ck mo (encZ S) F1 F2 F3 F4 M ++ (lngC ck oa D ++ (dblC ck od E)))) H) (hD : va_D A (brkW ck ka ad ra Z O U X S T P I V N Y Q ++ (modelC ck mo (encZ S) F1 F2 F3 F4 M ++ (lngC ck oa D ++ (dblC ck od E))))) (hS : va_S A s.heap H locs) (hl : lv_has ls 9 [(0, .ref b), (1, .ref (ad 7 0)), (2, .ref (mo 0)), (3, .ref oa), (4, .ref od), (5, .int (zI i))]) : W p l e room_1 s m #[Value.ref b] below meth c H locs cells slots Qf (F0 m 2697 ls []) := by
  obtain ⟨hx, hb, hml, hown, htg, hX, hbl, hbA, hK, hC, hA, hst, hL⟩ := id C0
  obtain ⟨hV, hlh, hls, hlt, hlo, hlf⟩ := id hLI
  obtain ⟨hn, hz, hk1, hq10, hhist⟩ := id hlh
  obtain ⟨hk2, hz0, hp10, hsn⟩ := id hls
  obtain ⟨hk3, hln, hk5, htx, hkv⟩ := id hlt
  obtain ⟨hk4, hu0, hy7, hY⟩ := id hlo
  obtain ⟨⟨hk5a, hz4⟩, ⟨hk6, hz1⟩, hk7, hk8⟩ := id hlf
  have hI := hV.bd
  have hs10 : ∀ i, 0 ≤ S 10 i ∧ S 10 i ≤ 1 := hI.2.2.2.2.2.2.2.2.2.2.2.2.2.1
  obtain ⟨x, hv_x⟩ : ∃ v9 : Int, (xs (i + 1).toNat).toInt = v9 := ⟨_, rfl⟩
  have rgx_x := xi_r (xs (i + 1).toNat)
  rw [hv_x] at rgx_x
  obtain ⟨y, hv_y⟩ : ∃ v9 : Int, (xs (i + 2).toNat).toInt = v9 := ⟨_, rfl⟩
  have rgx_y := xi_r (xs (i + 2).toNat)
  rw [hv_y] at rgx_y
  obtain ⟨z, hv_z⟩ : ∃ v9 : Int, (xs (i + 3).toNat).toInt = v9 := ⟨_, rfl⟩
  have rgx_z := xi_r (xs (i + 3).toNat)
  rw [hv_z] at rgx_z
  refine lv_aload_n hx hb dL_law_2697 rfl (lv_at hl 1 rfl) ?_
  refine lv_aload hx hb dL_law_2698 (lv_at hl 4 rfl) ?_
  refine x_calliUB (wf := fun u2700 : BU × (Nat → UInt64) => brkU ck ka ad ra u2700.1 ++ (modelC ck mo (encZ S) F1 F2 F3 F4 M ++ (lngC ck oa D ++ (dblC ck od u2700.2)))) (M := brkW ck ka ad ra Z O U X S T P I V N Y Q ++ (dblC ck od E)) (Mf := fun u2700 => brkU ck ka ad ra u2700.1 ++ (dblC ck od u2700.2)) (N := modelC ck mo (encZ S) F1 F2 F3 F4 M ++ (lngC ck oa D)) (cat_perm [brkW ck ka ad ra Z O U X S T P I V N Y Q, modelC ck mo (encZ S) F1 F2 F3 F4 M, lngC ck oa D, dblC ck od E] [0, 3] [1, 2] 4 rfl (by decide)) (fun u2700 => cat_perm [brkU ck ka ad ra u2700.1, modelC ck mo (encZ S) F1 F2 F3 F4 M, lngC ck oa D, dblC ck od u2700.2] [0, 3] [1, 2] 4 rfl (by decide)) hP hD hS hA (fun hPm hDm => vx_runSW (As := [.ref (ad 7 0), .ref od]) (rest := []) ⟨hx, hb, hml, hown, htg⟩ (w_letShare l dg ck ka ad ra Z O U X S T P I V N Y Q od E  _ hI hst) (vx_cwSW 2 htg (gwSW wq_1086 wq_1087 wq_0 wqL_letShare) rfl rfl rfl (by decide +kernel) ⟨Nat.le_of_ble_eq_true rfl, Nat.le_of_ble_eq_true rfl⟩) (wrK_preS hK hPm hDm hC hS hA) rfl rfl hl.1 rfl (lv_room (Nat.le_of_ble_eq_true rfl)) dL_law_2700 ⟨by show cells + 1 ≤ 603072; omega, by show slots + 6 ≤ 7207018; omega⟩) (fun r2700 u2700 H locs hw hP hD hS => ?_)
  have hP : va_P dg vwCl (brkU ck ka ad ra u2700.1 ++ (modelC ck mo (encZ S) F1 F2 F3 F4 M ++ (lngC ck oa D ++ (dblC ck od u2700.2)))) H := hP
  have hD : va_D A (brkU ck ka ad ra u2700.1 ++ (modelC ck mo (encZ S) F1 F2 F3 F4 M ++ (lngC ck oa D ++ (dblC ck od u2700.2)))) := hD
  refine lv_istore (lv' := [(6, .int r2700), (0, .ref b), (1, .ref (ad 7 0)), (2, .ref (mo 0)), (3, .ref oa), (4, .ref od), (5, .int (zI i))]) hx hb dL_law_2703 hl (by decide) rfl (fun ls hl => ?_)
  refine lv_aload_n hx hb dL_law_2705 rfl (lv_at hl 3 rfl) ?_
  refine x_callfB (ws' := brkU ck ka ad ra u2700.1 ++ (modelC ck mo (encZ S) F1 F2 F3 F4 (upS M 8 0 (bI (S 0 0 = 0))) ++ (lngC ck oa D ++ (dblC ck od u2700.2)))) (M := modelC ck mo (encZ S) F1 F2 F3 F4 M) (M' := modelC ck mo (encZ S) F1 F2 F3 F4 (upS M 8 0 (bI (S 0 0 = 0)))) (N := brkU ck ka ad ra u2700.1 ++ (lngC ck oa D ++ (dblC ck od u2700.2))) (cat_perm [brkU ck ka ad ra u2700.1, modelC ck mo (encZ S) F1 F2 F3 F4 M, lngC ck oa D, dblC ck od u2700.2] [1] [0, 2, 3] 4 rfl (by decide)) (cat_perm [brkU ck ka ad ra u2700.1, modelC ck mo (encZ S) F1 F2 F3 F4 (upS M 8 0 (bI (S 0 0 = 0))), lngC ck oa D, dblC ck od u2700.2] [1] [0, 2, 3] 4 rfl (by decide)) hP hD hS hA (fun hPm hDm => va_runV (As := []) (rest := []) ⟨hx, hb, hml, hown, htg⟩ (m_letShare l dg ck mo S F1 F2 F3 F4 M  _ hI) (cwV 0 htg (gwV wq_1998 wq_1999 wq_2000 wq_15 wq_2001) rfl rfl rfl (by decide +kernel) ⟨Nat.le_of_ble_eq_true rfl, Nat.le_of_ble_eq_true rfl⟩) (wr_preV hK hPm hDm 0 11 rfl rfl) rfl rfl hl.1 rfl (lv_room (Nat.le_of_ble_eq_true rfl)) dL_law_2706 ⟨by show _ ≤ 603072; omega, by show _ ≤ 7207018; omega⟩) (fun r2706 H locs hr2706 hP hD hS => ?_)
  subst hr2706
  have hP : va_P dg vwCl (brkU ck ka ad ra u2700.1 ++ (modelC ck mo (encZ S) F1 F2 F3 F4 (upS M 8 0 (bI (S 0 0 = 0))) ++ (lngC ck oa D ++ (dblC ck od u2700.2)))) H := hP
  have hD : va_D A (brkU ck ka ad ra u2700.1 ++ (modelC ck mo (encZ S) F1 F2 F3 F4 (upS M 8 0 (bI (S 0 0 = 0))) ++ (lngC ck oa D ++ (dblC ck od u2700.2)))) := hD
  have hcase : ∃ t9 : Int, (upS M 8 0 (bI (S 0 0 = 0))) 8 0 = t9 ∧ r2700 = zI t9 ∧ (0 ≤ t9 ∧ t9 ≤ 3) ∧ (t9 = 0 → u2700.2 0 = (FP.f2d (lsF S))) ∧ LI (775 * i + 3100) (u2700.1.1) (u2700.1.2.2.1) (u2700.1.2.2.2.1) (u2700.1.2.2.2.2.1) (u2700.1.2.2.2.2.2.2.1) (u2700.1.2.2.2.2.2.2.2.1) (u2700.1.2.2.2.2.2.2.2.2.2.2.1) (u2700.1.2.2.2.2.2.2.2.2.2.2.2) F2 F3 (upS M 8 0 (bI (S 0 0 = 0))) ∧ S = u2700.1.2.2.2.2.1 := by
    rcases hw with ⟨e1, r1, hp, eu, ev⟩ | ⟨e1, hc, eu⟩
    · obtain ⟨rfl, hok⟩ := hp
      refine ⟨0, upS_s.trans (by (try unfold itZ); (try unfold bI); (repeat' split) <;> omega), e1, by decide, fun _ => ev, ?_, (by rw [eu] <;> rfl)⟩
      rw [eu]
      exact (hLI.m (mK_0 M _)).mono (by omega) (by omega)
    · refine ⟨1, upS_s.trans (by (try unfold itZ); (try unfold bI); (repeat' split) <;> omega), e1, by decide, fun q => absurd q (by decide), ?_, (by rw [eu] <;> rfl)⟩
      rw [eu]
      exact (hLI.m (mK_0 M _)).mono (by omega) (by omega)
  obtain ⟨t9, ht9, hr9, ht9b, hval, hLI2, hS2⟩ := hcase
  have ht9r : zI ((upS M 8 0 (bI (S 0 0 = 0))) 8 0) = r2700 := by rw [ht9, hr9]
  refine lv_fstore (lv' := [(7, .float (lsF S)), (6, .int r2700), (0, .ref b), (1, .ref (ad 7 0)), (2, .ref (mo 0)), (3, .ref oa), (4, .ref od), (5, .int (zI i))]) hx hb dL_law_2709 hl (by decide) rfl (fun ls hl => ?_)
  refine lv_aload_n hx hb dL_law_2711 rfl (lv_at hl 4 rfl) ?_
  refine vp_callSi (W.runV (As := []) (rest := []) ⟨hx, hb, hml, hown, htg⟩ (m_thrown l dg ck mo S F1 F2 F3 F4 (upS M 8 0 (bI (S 0 0 = 0)))) (cwV 0 htg (gwV wq_1627 wq_1628 wq_1629 wq_15 wq_1630) rfl rfl rfl (by decide +kernel) ⟨Nat.le_of_ble_eq_true rfl, Nat.le_of_ble_eq_true rfl⟩) (rd_preV hK (va_P_l (va_P_r hP)) 0 11 rfl rfl) rfl rfl hl.1 rfl (lv_room (Nat.le_of_ble_eq_true rfl)) dL_law_2712 ⟨by show _ ≤ 603072; omega, by show _ ≤ 7207018; omega⟩) (fun r2712 hr2712 => ?_)
  subst hr2712
  refine lv_iload hx hb dL_law_2715 (lv_at hl 1 rfl) ?_
  refine lv_icmp_eq (tgt := 2722) hx hb dL_law_2717 (by decide) (fun _ => ?_) (fun c9 => absurd ht9r c9)
  refine lv_iload hx hb dL_law_2722 (lv_at hl 1 rfl) ?_
  refine W.eq (g2 := F0 m 2724 ls [.int (zI t9)]) (by rw [hr9]) ?_
  refine x_if_ne (tgt := 2760) hx hb dL_law_2724 (by decide) (by omega) (fun c9 => ?_) (fun c9 => ?_)
  · refine lv_goto (tgt := 3323) hx hb dL_law_2760 (by decide) ?_
    refine W.widen (k := cells + 3) (n := slots + 18) (by omega) (by omega) ?_
    have hP : va_P dg vwCl (lawW ck ka ad ra mo oa od u2700.1 F1 F2 F3 F4 (upS M 8 0 (bI (S 0 0 = 0))) D u2700.2) H := va_P_eq (by rw [hS2] <;> rfl) hP
    have hD : va_D A (lawW ck ka ad ra mo oa od u2700.1 F1 F2 F3 F4 (upS M 8 0 (bI (S 0 0 = 0))) D u2700.2) := va_D_eq (by rw [hS2] <;> rfl) hD
    exact kk u2700.1 F1 F2 F3 F4 (upS M 8 0 (bI (S 0 0 = 0))) D u2700.2 H locs ls hLI2 hP hD hS (lv_sub hl [2, 3, 4, 5, 6, 7] rfl)
  · have hv9 := hval (by omega)
    refine lv_aload hx hb dL_law_2727 (lv_at hl 6 rfl) ?_
    refine x_iconst hx hb dL_law_2729 ?_
    refine va_dald hx hb hK hP 176 6 rfl rfl (zI_in (z := 0) (by decide) (by decide)) dL_law_2730 ?_
    refine lv_fload hx hb dL_law_2731 (lv_at hl 0 rfl) ?_
    refine lv_f2d hx hb dL_law_2733 (ls_n64 hI) ?_
    refine lv_dcmp hx hb dL_law_2734 ?_
    refine W.eq (g2 := F0 m 2735 ls [.int (zI 0)]) (congrArg (fun v9 => F0 m 2735 ls [.int v9]) ((congrArg (fun v9 => Op.cmpValue (FP.dcmp v9 _) CmpOp.l) hv9).trans (ls_n hI).2)) ?_
    refine x_if_eq (tgt := 2760) hx hb dL_law_2735 (by decide) (by omega) (fun _ => ?_) (fun c => absurd rfl c)
    refine lv_goto (tgt := 3323) hx hb dL_law_2760 (by decide) ?_
    refine W.widen (k := cells + 3) (n := slots + 18) (by omega) (by omega) ?_
    have hP : va_P dg vwCl (lawW ck ka ad ra mo oa od u2700.1 F1 F2 F3 F4 (upS M 8 0 (bI (S 0 0 = 0))) D u2700.2) H := va_P_eq (by rw [hS2] <;> rfl) hP
    have hD : va_D A (lawW ck ka ad ra mo oa od u2700.1 F1 F2 F3 F4 (upS M 8 0 (bI (S 0 0 = 0))) D u2700.2) := va_D_eq (by rw [hS2] <;> rfl) hD
    exact kk u2700.1 F1 F2 F3 F4 (upS M 8 0 (bI (S 0 0 = 0))) D u2700.2 H locs ls hLI2 hP hD hS (lv_sub hl [2, 3, 4, 5, 6, 7] rfl)

set_option maxHeartbeats 4000000 in
set_option maxRecDepth 100000 in
/-- the law: a call of writeBench -/
theorem lc_51 {p : Program} {l : Launch} {e : Env} {s : State} {m : MethodId} {below : List Frame} {meth : Method} {c : Code} {dg : va_G} {ck : Nat → ClassId} {ka : Nat → Nat} {b L : Nat} {xs : Nat → Int32} {A : Nat → Prop} {ad ra : Nat → Nat → Nat} {mo : Nat → Nat} {oa od : Nat} {Qf : State → Prop} {i : Int} {cells slots : Nat} (C0 : LX p l s m c dg ck ka b L xs A) (hi : 0 ≤ i ∧ i + 4 ≤ L) (hcell : cells + 3 ≤ 603072) (hslot : slots + 18 ≤ 7207018) (kk : LKK p l e s m below meth c dg ck ka ad ra mo oa od b A Qf i cells slots) {Z O U X : Nat → Int} {S T P I : St} {V N Y : Int → Int} {Q : Nat → St} {F1 F2 F3 F4 : Int → Int} {M : St} {D : Nat → Int64} {E : Nat → UInt64} {H : Heap} {locs : List Loc} {ls : Array Slot} (hLI : LI (775 * i) Z U X S P I Y Q F2 F3 M) (hP : va_P dg vwCl (brkW ck ka ad ra Z O U X S T P I V N Y Q ++ (modelC ck mo (encZ S) F1 F2 F3 F4 M ++ (lngC ck oa D ++ (dblC ck od E)))) H) (hD : va_D A (brkW ck ka ad ra Z O U X S T P I V N Y Q ++ (modelC ck mo (encZ S) F1 F2 F3 F4 M ++ (lngC ck oa D ++ (dblC ck od E))))) (hS : va_S A s.heap H locs) (hl : lv_has ls 9 [(0, .ref b), (1, .ref (ad 7 0)), (2, .ref (mo 0)), (3, .ref oa), (4, .ref od), (5, .int (zI i))]) : W p l e room_1 s m #[Value.ref b] below meth c H locs cells slots Qf (F0 m 2776 ls []) := by
  obtain ⟨hx, hb, hml, hown, htg, hX, hbl, hbA, hK, hC, hA, hst, hL⟩ := id C0
  obtain ⟨hV, hlh, hls, hlt, hlo, hlf⟩ := id hLI
  obtain ⟨hn, hz, hk1, hq10, hhist⟩ := id hlh
  obtain ⟨hk2, hz0, hp10, hsn⟩ := id hls
  obtain ⟨hk3, hln, hk5, htx, hkv⟩ := id hlt
  obtain ⟨hk4, hu0, hy7, hY⟩ := id hlo
  obtain ⟨⟨hk5a, hz4⟩, ⟨hk6, hz1⟩, hk7, hk8⟩ := id hlf
  have hI := hV.bd
  have hs10 : ∀ i, 0 ≤ S 10 i ∧ S 10 i ≤ 1 := hI.2.2.2.2.2.2.2.2.2.2.2.2.2.1
  obtain ⟨x, hv_x⟩ : ∃ v9 : Int, (xs (i + 1).toNat).toInt = v9 := ⟨_, rfl⟩
  have rgx_x := xi_r (xs (i + 1).toNat)
  rw [hv_x] at rgx_x
  obtain ⟨y, hv_y⟩ : ∃ v9 : Int, (xs (i + 2).toNat).toInt = v9 := ⟨_, rfl⟩
  have rgx_y := xi_r (xs (i + 2).toNat)
  rw [hv_y] at rgx_y
  obtain ⟨z, hv_z⟩ : ∃ v9 : Int, (xs (i + 3).toNat).toInt = v9 := ⟨_, rfl⟩
  have rgx_z := xi_r (xs (i + 3).toNat)
  rw [hv_z] at rgx_z
  refine lv_aload_n hx hb dL_law_2776 rfl (lv_at hl 1 rfl) ?_
  refine lv_aload_n hx hb dL_law_2777 rfl (lv_at hl 0 rfl) ?_
  refine lv_iload hx hb dL_law_2778 (lv_at hl 5 rfl) ?_
  refine x_iconst hx hb dL_law_2780 ?_
  refine x_iadd hx hb dL_law_2781 ?_
  refine x_sld hx hb hX hbl hbA hS (by omega) (by omega) hv_x dL_law_2782 ?_
  refine lv_aload_n hx hb dL_law_2783 rfl (lv_at hl 3 rfl) ?_
  refine x_calliUB (wf := fun u2784 : BU × (Nat → Int64) => brkU ck ka ad ra u2784.1 ++ (modelC ck mo (encZ S) F1 F2 F3 F4 M ++ (lngC ck oa u2784.2 ++ (dblC ck od E)))) (M := brkW ck ka ad ra Z O U X S T P I V N Y Q ++ (lngC ck oa D)) (Mf := fun u2784 => brkU ck ka ad ra u2784.1 ++ (lngC ck oa u2784.2)) (N := modelC ck mo (encZ S) F1 F2 F3 F4 M ++ (dblC ck od E)) (cat_perm [brkW ck ka ad ra Z O U X S T P I V N Y Q, modelC ck mo (encZ S) F1 F2 F3 F4 M, lngC ck oa D, dblC ck od E] [0, 2] [1, 3] 4 rfl (by decide)) (fun u2784 => cat_perm [brkU ck ka ad ra u2784.1, modelC ck mo (encZ S) F1 F2 F3 F4 M, lngC ck oa u2784.2, dblC ck od E] [0, 2] [1, 3] 4 rfl (by decide)) hP hD hS hA (fun hPm hDm => vx_runSW (As := [.ref (ad 7 0), .int (zI x), .ref oa]) (rest := []) ⟨hx, hb, hml, hown, htg⟩ (w_writeBench l dg ck ka ad ra Z O U X S T P I V N Y Q oa D x _ hI hu0 (by omega) hst) (vx_cwSW 3 htg (gwSW wq_1093 wq_1094 wq_0 wqL_writeBench) rfl rfl rfl (by decide +kernel) ⟨Nat.le_of_ble_eq_true rfl, Nat.le_of_ble_eq_true rfl⟩) (wrK_preS hK hPm hDm hC hS hA) rfl rfl hl.1 rfl (lv_room (Nat.le_of_ble_eq_true rfl)) dL_law_2784 ⟨by show cells + 1 ≤ 603072; omega, by show slots + 6 ≤ 7207018; omega⟩) (fun r2784 u2784 H locs hw hP hD hS => ?_)
  have hP : va_P dg vwCl (brkU ck ka ad ra u2784.1 ++ (modelC ck mo (encZ S) F1 F2 F3 F4 M ++ (lngC ck oa u2784.2 ++ (dblC ck od E)))) H := hP
  have hD : va_D A (brkU ck ka ad ra u2784.1 ++ (modelC ck mo (encZ S) F1 F2 F3 F4 M ++ (lngC ck oa u2784.2 ++ (dblC ck od E)))) := hD
  refine lv_istore (lv' := [(6, .int r2784), (0, .ref b), (1, .ref (ad 7 0)), (2, .ref (mo 0)), (3, .ref oa), (4, .ref od), (5, .int (zI i))]) hx hb dL_law_2787 hl (by decide) rfl (fun ls hl => ?_)
  refine lv_aload_n hx hb dL_law_2789 rfl (lv_at hl 3 rfl) ?_
  refine lv_aload_n hx hb dL_law_2790 rfl (lv_at hl 1 rfl) ?_
  refine lv_iload hx hb dL_law_2791 (lv_at hl 6 rfl) ?_
  refine x_iconst hx hb dL_law_2793 ?_
  refine x_iadd hx hb dL_law_2794 ?_
  refine x_sld hx hb hX hbl hbA hS (by omega) (by omega) hv_x dL_law_2795 ?_
  refine x_calliB (ws' := brkU ck ka ad ra u2784.1 ++ (modelC ck mo (encZ S) F1 F2 F3 F4 (if isBench S x then wrL (upS (upS M 8 0 0) 8 4 0) (btx S x) else upS M 8 0 1) ++ (lngC ck oa u2784.2 ++ (dblC ck od E)))) (M := modelC ck mo (encZ S) F1 F2 F3 F4 M) (M' := modelC ck mo (encZ S) F1 F2 F3 F4 (if isBench S x then wrL (upS (upS M 8 0 0) 8 4 0) (btx S x) else upS M 8 0 1)) (N := brkU ck ka ad ra u2784.1 ++ (lngC ck oa u2784.2 ++ (dblC ck od E))) (cat_perm [brkU ck ka ad ra u2784.1, modelC ck mo (encZ S) F1 F2 F3 F4 M, lngC ck oa u2784.2, dblC ck od E] [1] [0, 2, 3] 4 rfl (by decide)) (cat_perm [brkU ck ka ad ra u2784.1, modelC ck mo (encZ S) F1 F2 F3 F4 (if isBench S x then wrL (upS (upS M 8 0 0) 8 4 0) (btx S x) else upS M 8 0 1), lngC ck oa u2784.2, dblC ck od E] [1] [0, 2, 3] 4 rfl (by decide)) hP hD hS hA (fun hPm hDm => va_runV (As := [.int (zI x)]) (rest := []) ⟨hx, hb, hml, hown, htg⟩ (m_writeBench l dg ck mo S F1 F2 F3 F4 M x _ hI (by omega)) (cwV 1 htg (gwV wq_2006 wq_2007 wq_2008 wq_15 wq_2009) rfl rfl rfl (by decide +kernel) ⟨Nat.le_of_ble_eq_true rfl, Nat.le_of_ble_eq_true rfl⟩) (wr_preV hK hPm hDm 0 11 rfl rfl) rfl rfl hl.1 rfl (lv_room (Nat.le_of_ble_eq_true rfl)) dL_law_2796 ⟨by show _ ≤ 603072; omega, by show _ ≤ 7207018; omega⟩) (fun r2796 H locs hr2796 hP hD hS => ?_)
  subst hr2796
  have hP : va_P dg vwCl (brkU ck ka ad ra u2784.1 ++ (modelC ck mo (encZ S) F1 F2 F3 F4 (if isBench S x then wrL (upS (upS M 8 0 0) 8 4 0) (btx S x) else upS M 8 0 1) ++ (lngC ck oa u2784.2 ++ (dblC ck od E)))) H := hP
  have hD : va_D A (brkU ck ka ad ra u2784.1 ++ (modelC ck mo (encZ S) F1 F2 F3 F4 (if isBench S x then wrL (upS (upS M 8 0 0) 8 4 0) (btx S x) else upS M 8 0 1) ++ (lngC ck oa u2784.2 ++ (dblC ck od E)))) := hD
  have hcase : ∃ t9 : Int, (if isBench S x then wrL (upS (upS M 8 0 0) 8 4 0) (btx S x) else upS M 8 0 1) 8 0 = t9 ∧ r2784 = zI t9 ∧ (0 ≤ t9 ∧ t9 ≤ 3) ∧ (t9 = 0 → u2784.2 0 = (zI (itZ (isBench S x) ((btx S x).length : Int))).toInt64) ∧ LI (775 * i + 3100) (u2784.1.1) (u2784.1.2.2.1) (u2784.1.2.2.2.1) (u2784.1.2.2.2.2.1) (u2784.1.2.2.2.2.2.2.1) (u2784.1.2.2.2.2.2.2.2.1) (u2784.1.2.2.2.2.2.2.2.2.2.2.1) (u2784.1.2.2.2.2.2.2.2.2.2.2.2) F2 F3 (if isBench S x then wrL (upS (upS M 8 0 0) 8 4 0) (btx S x) else upS M 8 0 1) ∧ S = u2784.1.2.2.2.2.1 := by
    rcases hw with ⟨e1, r1, hp, eu, ev⟩ | ⟨e1, hc, eu⟩
    · obtain ⟨rfl, hok⟩ := hp
      have hbb := btx_b hI hok
      have htt := hLI.text (L := btx S x) (U' := upO (upO U 1 (if 0 < U 0 then 1 else U 1)) 0 ((btx S x).length : Int)) hbb.1 hbb.2 rfl
      rw [if_pos hok]
      refine ⟨0, htt.2, e1, by decide, fun _ => ev.trans (congrArg (fun v9 : Int => (zI v9).toInt64) (by (try unfold itZ); (try unfold bI); (repeat' split) <;> omega)), ?_, (by rw [eu] <;> rfl)⟩
      rw [eu]
      exact htt.1.mono (by omega) (by omega)
    · rw [if_neg hc]
      refine ⟨1, upS_s, e1, by decide, fun q => absurd q (by decide), ?_, (by rw [eu] <;> rfl)⟩
      rw [eu]
      exact (hLI.m (mK_0 M _)).mono (by omega) (by omega)
  obtain ⟨t9, ht9, hr9, ht9b, hval, hLI2, hS2⟩ := hcase
  have ht9r : zI ((if isBench S x then wrL (upS (upS M 8 0 0) 8 4 0) (btx S x) else upS M 8 0 1) 8 0) = r2784 := by rw [ht9, hr9]
  refine lv_istore (lv' := [(7, .int (zI (itZ (isBench S x) ((btx S x).length : Int)))), (6, .int r2784), (0, .ref b), (1, .ref (ad 7 0)), (2, .ref (mo 0)), (3, .ref oa), (4, .ref od), (5, .int (zI i))]) hx hb dL_law_2799 hl (by decide) rfl (fun ls hl => ?_)
  refine lv_aload_n hx hb dL_law_2801 rfl (lv_at hl 4 rfl) ?_
  refine vp_callSi (W.runV (As := []) (rest := []) ⟨hx, hb, hml, hown, htg⟩ (m_thrown l dg ck mo S F1 F2 F3 F4 (if isBench S x then wrL (upS (upS M 8 0 0) 8 4 0) (btx S x) else upS M 8 0 1)) (cwV 0 htg (gwV wq_1627 wq_1628 wq_1629 wq_15 wq_1630) rfl rfl rfl (by decide +kernel) ⟨Nat.le_of_ble_eq_true rfl, Nat.le_of_ble_eq_true rfl⟩) (rd_preV hK (va_P_l (va_P_r hP)) 0 11 rfl rfl) rfl rfl hl.1 rfl (lv_room (Nat.le_of_ble_eq_true rfl)) dL_law_2802 ⟨by show _ ≤ 603072; omega, by show _ ≤ 7207018; omega⟩) (fun r2802 hr2802 => ?_)
  subst hr2802
  refine lv_iload hx hb dL_law_2805 (lv_at hl 1 rfl) ?_
  refine lv_icmp_eq (tgt := 2812) hx hb dL_law_2807 (by decide) (fun _ => ?_) (fun c9 => absurd ht9r c9)
  refine lv_iload hx hb dL_law_2812 (lv_at hl 1 rfl) ?_
  refine W.eq (g2 := F0 m 2814 ls [.int (zI t9)]) (by rw [hr9]) ?_
  refine x_if_ne (tgt := 2829) hx hb dL_law_2814 (by decide) (by omega) (fun c9 => ?_) (fun c9 => ?_)
  · refine lv_goto (tgt := 3323) hx hb dL_law_2829 (by decide) ?_
    refine W.widen (k := cells + 3) (n := slots + 18) (by omega) (by omega) ?_
    have hP : va_P dg vwCl (lawW ck ka ad ra mo oa od u2784.1 F1 F2 F3 F4 (if isBench S x then wrL (upS (upS M 8 0 0) 8 4 0) (btx S x) else upS M 8 0 1) u2784.2 E) H := va_P_eq (by rw [hS2] <;> rfl) hP
    have hD : va_D A (lawW ck ka ad ra mo oa od u2784.1 F1 F2 F3 F4 (if isBench S x then wrL (upS (upS M 8 0 0) 8 4 0) (btx S x) else upS M 8 0 1) u2784.2 E) := va_D_eq (by rw [hS2] <;> rfl) hD
    exact kk u2784.1 F1 F2 F3 F4 (if isBench S x then wrL (upS (upS M 8 0 0) 8 4 0) (btx S x) else upS M 8 0 1) u2784.2 E H locs ls hLI2 hP hD hS (lv_sub hl [2, 3, 4, 5, 6, 7] rfl)
  · have hv9 := hval (by omega)
    refine lv_aload_n hx hb dL_law_2817 rfl (lv_at hl 5 rfl) ?_
    refine x_iconst hx hb dL_law_2818 ?_
    refine va_lald hx hb hK hP 175 5 rfl rfl (zI_in (z := 0) (by decide) (by decide)) dL_law_2819 ?_
    refine lv_iload hx hb dL_law_2820 (lv_at hl 0 rfl) ?_
    refine lv_i2l hx hb dL_law_2822 rfl ?_
    refine W.lcmp hx hb dL_law_2823 ?_
    refine W.eq (g2 := F0 m 2824 ls [.int (zI 0)]) (congrArg (fun v9 => F0 m 2824 ls [.int v9]) ((congrArg (fun v9 => lg_cmp v9 _) hv9).trans (lg_self _))) ?_
    refine x_if_eq (tgt := 2829) hx hb dL_law_2824 (by decide) (by omega) (fun _ => ?_) (fun c => absurd rfl c)
    refine lv_goto (tgt := 3323) hx hb dL_law_2829 (by decide) ?_
    refine W.widen (k := cells + 3) (n := slots + 18) (by omega) (by omega) ?_
    have hP : va_P dg vwCl (lawW ck ka ad ra mo oa od u2784.1 F1 F2 F3 F4 (if isBench S x then wrL (upS (upS M 8 0 0) 8 4 0) (btx S x) else upS M 8 0 1) u2784.2 E) H := va_P_eq (by rw [hS2] <;> rfl) hP
    have hD : va_D A (lawW ck ka ad ra mo oa od u2784.1 F1 F2 F3 F4 (if isBench S x then wrL (upS (upS M 8 0 0) 8 4 0) (btx S x) else upS M 8 0 1) u2784.2 E) := va_D_eq (by rw [hS2] <;> rfl) hD
    exact kk u2784.1 F1 F2 F3 F4 (if isBench S x then wrL (upS (upS M 8 0 0) 8 4 0) (btx S x) else upS M 8 0 1) u2784.2 E H locs ls hLI2 hP hD hS (lv_sub hl [2, 3, 4, 5, 6, 7] rfl)

set_option maxHeartbeats 4000000 in
set_option maxRecDepth 100000 in
/-- the law: a call of writeRow -/
theorem lc_52 {p : Program} {l : Launch} {e : Env} {s : State} {m : MethodId} {below : List Frame} {meth : Method} {c : Code} {dg : va_G} {ck : Nat → ClassId} {ka : Nat → Nat} {b L : Nat} {xs : Nat → Int32} {A : Nat → Prop} {ad ra : Nat → Nat → Nat} {mo : Nat → Nat} {oa od : Nat} {Qf : State → Prop} {i : Int} {cells slots : Nat} (C0 : LX p l s m c dg ck ka b L xs A) (hi : 0 ≤ i ∧ i + 4 ≤ L) (hcell : cells + 3 ≤ 603072) (hslot : slots + 18 ≤ 7207018) (kk : LKK p l e s m below meth c dg ck ka ad ra mo oa od b A Qf i cells slots) {Z O U X : Nat → Int} {S T P I : St} {V N Y : Int → Int} {Q : Nat → St} {F1 F2 F3 F4 : Int → Int} {M : St} {D : Nat → Int64} {E : Nat → UInt64} {H : Heap} {locs : List Loc} {ls : Array Slot} (hLI : LI (775 * i) Z U X S P I Y Q F2 F3 M) (hP : va_P dg vwCl (brkW ck ka ad ra Z O U X S T P I V N Y Q ++ (modelC ck mo (encZ S) F1 F2 F3 F4 M ++ (lngC ck oa D ++ (dblC ck od E)))) H) (hD : va_D A (brkW ck ka ad ra Z O U X S T P I V N Y Q ++ (modelC ck mo (encZ S) F1 F2 F3 F4 M ++ (lngC ck oa D ++ (dblC ck od E))))) (hS : va_S A s.heap H locs) (hl : lv_has ls 9 [(0, .ref b), (1, .ref (ad 7 0)), (2, .ref (mo 0)), (3, .ref oa), (4, .ref od), (5, .int (zI i))]) : W p l e room_1 s m #[Value.ref b] below meth c H locs cells slots Qf (F0 m 2832 ls []) := by
  obtain ⟨hx, hb, hml, hown, htg, hX, hbl, hbA, hK, hC, hA, hst, hL⟩ := id C0
  obtain ⟨hV, hlh, hls, hlt, hlo, hlf⟩ := id hLI
  obtain ⟨hn, hz, hk1, hq10, hhist⟩ := id hlh
  obtain ⟨hk2, hz0, hp10, hsn⟩ := id hls
  obtain ⟨hk3, hln, hk5, htx, hkv⟩ := id hlt
  obtain ⟨hk4, hu0, hy7, hY⟩ := id hlo
  obtain ⟨⟨hk5a, hz4⟩, ⟨hk6, hz1⟩, hk7, hk8⟩ := id hlf
  have hI := hV.bd
  have hs10 : ∀ i, 0 ≤ S 10 i ∧ S 10 i ≤ 1 := hI.2.2.2.2.2.2.2.2.2.2.2.2.2.1
  obtain ⟨x, hv_x⟩ : ∃ v9 : Int, (xs (i + 1).toNat).toInt = v9 := ⟨_, rfl⟩
  have rgx_x := xi_r (xs (i + 1).toNat)
  rw [hv_x] at rgx_x
  obtain ⟨y, hv_y⟩ : ∃ v9 : Int, (xs (i + 2).toNat).toInt = v9 := ⟨_, rfl⟩
  have rgx_y := xi_r (xs (i + 2).toNat)
  rw [hv_y] at rgx_y
  obtain ⟨z, hv_z⟩ : ∃ v9 : Int, (xs (i + 3).toNat).toInt = v9 := ⟨_, rfl⟩
  have rgx_z := xi_r (xs (i + 3).toNat)
  rw [hv_z] at rgx_z
  refine lv_aload_n hx hb dL_law_2832 rfl (lv_at hl 1 rfl) ?_
  refine lv_aload_n hx hb dL_law_2833 rfl (lv_at hl 0 rfl) ?_
  refine lv_iload hx hb dL_law_2834 (lv_at hl 5 rfl) ?_
  refine x_iconst hx hb dL_law_2836 ?_
  refine x_iadd hx hb dL_law_2837 ?_
  refine x_sld hx hb hX hbl hbA hS (by omega) (by omega) hv_x dL_law_2838 ?_
  refine lv_aload_n hx hb dL_law_2839 rfl (lv_at hl 3 rfl) ?_
  refine x_calliUB (wf := fun u2840 : BU × (Nat → Int64) => brkU ck ka ad ra u2840.1 ++ (modelC ck mo (encZ S) F1 F2 F3 F4 M ++ (lngC ck oa u2840.2 ++ (dblC ck od E)))) (M := brkW ck ka ad ra Z O U X S T P I V N Y Q ++ (lngC ck oa D)) (Mf := fun u2840 => brkU ck ka ad ra u2840.1 ++ (lngC ck oa u2840.2)) (N := modelC ck mo (encZ S) F1 F2 F3 F4 M ++ (dblC ck od E)) (cat_perm [brkW ck ka ad ra Z O U X S T P I V N Y Q, modelC ck mo (encZ S) F1 F2 F3 F4 M, lngC ck oa D, dblC ck od E] [0, 2] [1, 3] 4 rfl (by decide)) (fun u2840 => cat_perm [brkU ck ka ad ra u2840.1, modelC ck mo (encZ S) F1 F2 F3 F4 M, lngC ck oa u2840.2, dblC ck od E] [0, 2] [1, 3] 4 rfl (by decide)) hP hD hS hA (fun hPm hDm => vx_runSW (As := [.ref (ad 7 0), .int (zI x), .ref oa]) (rest := []) ⟨hx, hb, hml, hown, htg⟩ (w_writeRow l dg ck ka ad ra Z O U X S T P I V N Y Q oa D x _ hI hu0 (by omega) hst) (vx_cwSW 3 htg (gwSW wq_1378 wq_1379 wq_0 wqL_writeRow) rfl rfl rfl (by decide +kernel) ⟨Nat.le_of_ble_eq_true rfl, Nat.le_of_ble_eq_true rfl⟩) (wrK_preS hK hPm hDm hC hS hA) rfl rfl hl.1 rfl (lv_room (Nat.le_of_ble_eq_true rfl)) dL_law_2840 ⟨by show cells + 1 ≤ 603072; omega, by show slots + 6 ≤ 7207018; omega⟩) (fun r2840 u2840 H locs hw hP hD hS => ?_)
  have hP : va_P dg vwCl (brkU ck ka ad ra u2840.1 ++ (modelC ck mo (encZ S) F1 F2 F3 F4 M ++ (lngC ck oa u2840.2 ++ (dblC ck od E)))) H := hP
  have hD : va_D A (brkU ck ka ad ra u2840.1 ++ (modelC ck mo (encZ S) F1 F2 F3 F4 M ++ (lngC ck oa u2840.2 ++ (dblC ck od E)))) := hD
  refine lv_istore (lv' := [(6, .int r2840), (0, .ref b), (1, .ref (ad 7 0)), (2, .ref (mo 0)), (3, .ref oa), (4, .ref od), (5, .int (zI i))]) hx hb dL_law_2843 hl (by decide) rfl (fun ls hl => ?_)
  refine lv_aload_n hx hb dL_law_2845 rfl (lv_at hl 3 rfl) ?_
  refine lv_aload_n hx hb dL_law_2846 rfl (lv_at hl 1 rfl) ?_
  refine lv_iload hx hb dL_law_2847 (lv_at hl 6 rfl) ?_
  refine x_iconst hx hb dL_law_2849 ?_
  refine x_iadd hx hb dL_law_2850 ?_
  refine x_sld hx hb hX hbl hbA hS (by omega) (by omega) hv_x dL_law_2851 ?_
  refine x_calliB (ws' := brkU ck ka ad ra u2840.1 ++ (modelC ck mo (encZ S) F1 F2 F3 F4 (if 0 ≤ x ∧ x ≤ 5 then wrL (upS (upS M 8 0 0) 8 4 0) (rtx S x 6) else upS M 8 0 1) ++ (lngC ck oa u2840.2 ++ (dblC ck od E)))) (M := modelC ck mo (encZ S) F1 F2 F3 F4 M) (M' := modelC ck mo (encZ S) F1 F2 F3 F4 (if 0 ≤ x ∧ x ≤ 5 then wrL (upS (upS M 8 0 0) 8 4 0) (rtx S x 6) else upS M 8 0 1)) (N := brkU ck ka ad ra u2840.1 ++ (lngC ck oa u2840.2 ++ (dblC ck od E))) (cat_perm [brkU ck ka ad ra u2840.1, modelC ck mo (encZ S) F1 F2 F3 F4 M, lngC ck oa u2840.2, dblC ck od E] [1] [0, 2, 3] 4 rfl (by decide)) (cat_perm [brkU ck ka ad ra u2840.1, modelC ck mo (encZ S) F1 F2 F3 F4 (if 0 ≤ x ∧ x ≤ 5 then wrL (upS (upS M 8 0 0) 8 4 0) (rtx S x 6) else upS M 8 0 1), lngC ck oa u2840.2, dblC ck od E] [1] [0, 2, 3] 4 rfl (by decide)) hP hD hS hA (fun hPm hDm => va_runV (As := [.int (zI x)]) (rest := []) ⟨hx, hb, hml, hown, htg⟩ (m_writeRow l dg ck mo S F1 F2 F3 F4 M x _ hI (by omega)) (cwV 1 htg (gwV wq_2018 wq_2019 wq_2020 wq_15 wq_2021) rfl rfl rfl (by decide +kernel) ⟨Nat.le_of_ble_eq_true rfl, Nat.le_of_ble_eq_true rfl⟩) (wr_preV hK hPm hDm 0 11 rfl rfl) rfl rfl hl.1 rfl (lv_room (Nat.le_of_ble_eq_true rfl)) dL_law_2852 ⟨by show _ ≤ 603072; omega, by show _ ≤ 7207018; omega⟩) (fun r2852 H locs hr2852 hP hD hS => ?_)
  subst hr2852
  have hP : va_P dg vwCl (brkU ck ka ad ra u2840.1 ++ (modelC ck mo (encZ S) F1 F2 F3 F4 (if 0 ≤ x ∧ x ≤ 5 then wrL (upS (upS M 8 0 0) 8 4 0) (rtx S x 6) else upS M 8 0 1) ++ (lngC ck oa u2840.2 ++ (dblC ck od E)))) H := hP
  have hD : va_D A (brkU ck ka ad ra u2840.1 ++ (modelC ck mo (encZ S) F1 F2 F3 F4 (if 0 ≤ x ∧ x ≤ 5 then wrL (upS (upS M 8 0 0) 8 4 0) (rtx S x 6) else upS M 8 0 1) ++ (lngC ck oa u2840.2 ++ (dblC ck od E)))) := hD
  have hcase : ∃ t9 : Int, (if 0 ≤ x ∧ x ≤ 5 then wrL (upS (upS M 8 0 0) 8 4 0) (rtx S x 6) else upS M 8 0 1) 8 0 = t9 ∧ r2840 = zI t9 ∧ (0 ≤ t9 ∧ t9 ≤ 3) ∧ (t9 = 0 → u2840.2 0 = (zI (itZ (0 ≤ x ∧ x ≤ 5) 6)).toInt64) ∧ LI (775 * i + 3100) (u2840.1.1) (u2840.1.2.2.1) (u2840.1.2.2.2.1) (u2840.1.2.2.2.2.1) (u2840.1.2.2.2.2.2.2.1) (u2840.1.2.2.2.2.2.2.2.1) (u2840.1.2.2.2.2.2.2.2.2.2.2.1) (u2840.1.2.2.2.2.2.2.2.2.2.2.2) F2 F3 (if 0 ≤ x ∧ x ≤ 5 then wrL (upS (upS M 8 0 0) 8 4 0) (rtx S x 6) else upS M 8 0 1) ∧ S = u2840.1.2.2.2.2.1 := by
    rcases hw with ⟨e1, r1, hp, eu, ev⟩ | ⟨e1, hc, eu⟩
    · obtain ⟨rfl, hok⟩ := hp
      have hok2 : 0 ≤ x ∧ x ≤ 5 := by omega
      have htt := hLI.text (L := rtx S x 6) (U' := upO (upO U 1 (if 0 < U 0 then 1 else U 1)) 0 6) (rtx_b hI x 6) (by rw [rtx_ll]; decide) (by rw [rtx_ll] <;> rfl)
      rw [if_pos hok2]
      refine ⟨0, htt.2, e1, by decide, fun _ => ev.trans (congrArg (fun v9 : Int => (zI v9).toInt64) (by (try unfold itZ); (try unfold bI); (repeat' split) <;> omega)), ?_, (by rw [eu] <;> rfl)⟩
      rw [eu]
      exact htt.1.mono (by omega) (by omega)
    · have hno2 : ¬ (0 ≤ x ∧ x ≤ 5) := by omega
      rw [if_neg hno2]
      refine ⟨1, upS_s, e1, by decide, fun q => absurd q (by decide), ?_, (by rw [eu] <;> rfl)⟩
      rw [eu]
      exact (hLI.m (mK_0 M _)).mono (by omega) (by omega)
  obtain ⟨t9, ht9, hr9, ht9b, hval, hLI2, hS2⟩ := hcase
  have ht9r : zI ((if 0 ≤ x ∧ x ≤ 5 then wrL (upS (upS M 8 0 0) 8 4 0) (rtx S x 6) else upS M 8 0 1) 8 0) = r2840 := by rw [ht9, hr9]
  refine lv_istore (lv' := [(7, .int (zI (itZ (0 ≤ x ∧ x ≤ 5) 6))), (6, .int r2840), (0, .ref b), (1, .ref (ad 7 0)), (2, .ref (mo 0)), (3, .ref oa), (4, .ref od), (5, .int (zI i))]) hx hb dL_law_2855 hl (by decide) rfl (fun ls hl => ?_)
  refine lv_aload_n hx hb dL_law_2857 rfl (lv_at hl 4 rfl) ?_
  refine vp_callSi (W.runV (As := []) (rest := []) ⟨hx, hb, hml, hown, htg⟩ (m_thrown l dg ck mo S F1 F2 F3 F4 (if 0 ≤ x ∧ x ≤ 5 then wrL (upS (upS M 8 0 0) 8 4 0) (rtx S x 6) else upS M 8 0 1)) (cwV 0 htg (gwV wq_1627 wq_1628 wq_1629 wq_15 wq_1630) rfl rfl rfl (by decide +kernel) ⟨Nat.le_of_ble_eq_true rfl, Nat.le_of_ble_eq_true rfl⟩) (rd_preV hK (va_P_l (va_P_r hP)) 0 11 rfl rfl) rfl rfl hl.1 rfl (lv_room (Nat.le_of_ble_eq_true rfl)) dL_law_2858 ⟨by show _ ≤ 603072; omega, by show _ ≤ 7207018; omega⟩) (fun r2858 hr2858 => ?_)
  subst hr2858
  refine lv_iload hx hb dL_law_2861 (lv_at hl 1 rfl) ?_
  refine lv_icmp_eq (tgt := 2868) hx hb dL_law_2863 (by decide) (fun _ => ?_) (fun c9 => absurd ht9r c9)
  refine lv_iload hx hb dL_law_2868 (lv_at hl 1 rfl) ?_
  refine W.eq (g2 := F0 m 2870 ls [.int (zI t9)]) (by rw [hr9]) ?_
  refine x_if_ne (tgt := 2885) hx hb dL_law_2870 (by decide) (by omega) (fun c9 => ?_) (fun c9 => ?_)
  · refine lv_goto (tgt := 3323) hx hb dL_law_2885 (by decide) ?_
    refine W.widen (k := cells + 3) (n := slots + 18) (by omega) (by omega) ?_
    have hP : va_P dg vwCl (lawW ck ka ad ra mo oa od u2840.1 F1 F2 F3 F4 (if 0 ≤ x ∧ x ≤ 5 then wrL (upS (upS M 8 0 0) 8 4 0) (rtx S x 6) else upS M 8 0 1) u2840.2 E) H := va_P_eq (by rw [hS2] <;> rfl) hP
    have hD : va_D A (lawW ck ka ad ra mo oa od u2840.1 F1 F2 F3 F4 (if 0 ≤ x ∧ x ≤ 5 then wrL (upS (upS M 8 0 0) 8 4 0) (rtx S x 6) else upS M 8 0 1) u2840.2 E) := va_D_eq (by rw [hS2] <;> rfl) hD
    exact kk u2840.1 F1 F2 F3 F4 (if 0 ≤ x ∧ x ≤ 5 then wrL (upS (upS M 8 0 0) 8 4 0) (rtx S x 6) else upS M 8 0 1) u2840.2 E H locs ls hLI2 hP hD hS (lv_sub hl [2, 3, 4, 5, 6, 7] rfl)
  · have hv9 := hval (by omega)
    refine lv_aload_n hx hb dL_law_2873 rfl (lv_at hl 5 rfl) ?_
    refine x_iconst hx hb dL_law_2874 ?_
    refine va_lald hx hb hK hP 175 5 rfl rfl (zI_in (z := 0) (by decide) (by decide)) dL_law_2875 ?_
    refine lv_iload hx hb dL_law_2876 (lv_at hl 0 rfl) ?_
    refine lv_i2l hx hb dL_law_2878 rfl ?_
    refine W.lcmp hx hb dL_law_2879 ?_
    refine W.eq (g2 := F0 m 2880 ls [.int (zI 0)]) (congrArg (fun v9 => F0 m 2880 ls [.int v9]) ((congrArg (fun v9 => lg_cmp v9 _) hv9).trans (lg_self _))) ?_
    refine x_if_eq (tgt := 2885) hx hb dL_law_2880 (by decide) (by omega) (fun _ => ?_) (fun c => absurd rfl c)
    refine lv_goto (tgt := 3323) hx hb dL_law_2885 (by decide) ?_
    refine W.widen (k := cells + 3) (n := slots + 18) (by omega) (by omega) ?_
    have hP : va_P dg vwCl (lawW ck ka ad ra mo oa od u2840.1 F1 F2 F3 F4 (if 0 ≤ x ∧ x ≤ 5 then wrL (upS (upS M 8 0 0) 8 4 0) (rtx S x 6) else upS M 8 0 1) u2840.2 E) H := va_P_eq (by rw [hS2] <;> rfl) hP
    have hD : va_D A (lawW ck ka ad ra mo oa od u2840.1 F1 F2 F3 F4 (if 0 ≤ x ∧ x ≤ 5 then wrL (upS (upS M 8 0 0) 8 4 0) (rtx S x 6) else upS M 8 0 1) u2840.2 E) := va_D_eq (by rw [hS2] <;> rfl) hD
    exact kk u2840.1 F1 F2 F3 F4 (if 0 ≤ x ∧ x ≤ 5 then wrL (upS (upS M 8 0 0) 8 4 0) (rtx S x 6) else upS M 8 0 1) u2840.2 E H locs ls hLI2 hP hD hS (lv_sub hl [2, 3, 4, 5, 6, 7] rfl)

set_option maxHeartbeats 4000000 in
set_option maxRecDepth 100000 in
/-- the law: a call of outputAt -/
theorem lc_53 {p : Program} {l : Launch} {e : Env} {s : State} {m : MethodId} {below : List Frame} {meth : Method} {c : Code} {dg : va_G} {ck : Nat → ClassId} {ka : Nat → Nat} {b L : Nat} {xs : Nat → Int32} {A : Nat → Prop} {ad ra : Nat → Nat → Nat} {mo : Nat → Nat} {oa od : Nat} {Qf : State → Prop} {i : Int} {cells slots : Nat} (C0 : LX p l s m c dg ck ka b L xs A) (hi : 0 ≤ i ∧ i + 4 ≤ L) (hcell : cells + 3 ≤ 603072) (hslot : slots + 18 ≤ 7207018) (kk : LKK p l e s m below meth c dg ck ka ad ra mo oa od b A Qf i cells slots) {Z O U X : Nat → Int} {S T P I : St} {V N Y : Int → Int} {Q : Nat → St} {F1 F2 F3 F4 : Int → Int} {M : St} {D : Nat → Int64} {E : Nat → UInt64} {H : Heap} {locs : List Loc} {ls : Array Slot} (hLI : LI (775 * i) Z U X S P I Y Q F2 F3 M) (hP : va_P dg vwCl (brkW ck ka ad ra Z O U X S T P I V N Y Q ++ (modelC ck mo (encZ S) F1 F2 F3 F4 M ++ (lngC ck oa D ++ (dblC ck od E)))) H) (hD : va_D A (brkW ck ka ad ra Z O U X S T P I V N Y Q ++ (modelC ck mo (encZ S) F1 F2 F3 F4 M ++ (lngC ck oa D ++ (dblC ck od E))))) (hS : va_S A s.heap H locs) (hl : lv_has ls 9 [(0, .ref b), (1, .ref (ad 7 0)), (2, .ref (mo 0)), (3, .ref oa), (4, .ref od), (5, .int (zI i))]) : W p l e room_1 s m #[Value.ref b] below meth c H locs cells slots Qf (F0 m 2888 ls []) := by
  obtain ⟨hx, hb, hml, hown, htg, hX, hbl, hbA, hK, hC, hA, hst, hL⟩ := id C0
  obtain ⟨hV, hlh, hls, hlt, hlo, hlf⟩ := id hLI
  obtain ⟨hn, hz, hk1, hq10, hhist⟩ := id hlh
  obtain ⟨hk2, hz0, hp10, hsn⟩ := id hls
  obtain ⟨hk3, hln, hk5, htx, hkv⟩ := id hlt
  obtain ⟨hk4, hu0, hy7, hY⟩ := id hlo
  obtain ⟨⟨hk5a, hz4⟩, ⟨hk6, hz1⟩, hk7, hk8⟩ := id hlf
  have hI := hV.bd
  have hs10 : ∀ i, 0 ≤ S 10 i ∧ S 10 i ≤ 1 := hI.2.2.2.2.2.2.2.2.2.2.2.2.2.1
  obtain ⟨x, hv_x⟩ : ∃ v9 : Int, (xs (i + 1).toNat).toInt = v9 := ⟨_, rfl⟩
  have rgx_x := xi_r (xs (i + 1).toNat)
  rw [hv_x] at rgx_x
  obtain ⟨y, hv_y⟩ : ∃ v9 : Int, (xs (i + 2).toNat).toInt = v9 := ⟨_, rfl⟩
  have rgx_y := xi_r (xs (i + 2).toNat)
  rw [hv_y] at rgx_y
  obtain ⟨z, hv_z⟩ : ∃ v9 : Int, (xs (i + 3).toNat).toInt = v9 := ⟨_, rfl⟩
  have rgx_z := xi_r (xs (i + 3).toNat)
  rw [hv_z] at rgx_z
  refine lv_aload_n hx hb dL_law_2888 rfl (lv_at hl 1 rfl) ?_
  refine lv_aload_n hx hb dL_law_2889 rfl (lv_at hl 0 rfl) ?_
  refine lv_iload hx hb dL_law_2890 (lv_at hl 5 rfl) ?_
  refine x_iconst hx hb dL_law_2892 ?_
  refine x_iadd hx hb dL_law_2893 ?_
  refine x_sld hx hb hX hbl hbA hS (by omega) (by omega) hv_x dL_law_2894 ?_
  refine lv_aload_n hx hb dL_law_2895 rfl (lv_at hl 3 rfl) ?_
  refine x_calliUB (wf := fun u2896 : BU × (Nat → Int64) => brkU ck ka ad ra u2896.1 ++ (modelC ck mo (encZ S) F1 F2 F3 F4 M ++ (lngC ck oa u2896.2 ++ (dblC ck od E)))) (M := brkW ck ka ad ra Z O U X S T P I V N Y Q ++ (lngC ck oa D)) (Mf := fun u2896 => brkU ck ka ad ra u2896.1 ++ (lngC ck oa u2896.2)) (N := modelC ck mo (encZ S) F1 F2 F3 F4 M ++ (dblC ck od E)) (cat_perm [brkW ck ka ad ra Z O U X S T P I V N Y Q, modelC ck mo (encZ S) F1 F2 F3 F4 M, lngC ck oa D, dblC ck od E] [0, 2] [1, 3] 4 rfl (by decide)) (fun u2896 => cat_perm [brkU ck ka ad ra u2896.1, modelC ck mo (encZ S) F1 F2 F3 F4 M, lngC ck oa u2896.2, dblC ck od E] [0, 2] [1, 3] 4 rfl (by decide)) hP hD hS hA (fun hPm hDm => vx_runSW (As := [.ref (ad 7 0), .int (zI x), .ref oa]) (rest := []) ⟨hx, hb, hml, hown, htg⟩ (w_outputAt l dg ck ka ad ra Z O U X S T P I V N Y Q oa D x _ hu0 hY (by omega) hst) (vx_cwSW 3 htg (gwSW wq_1389 wq_1390 wq_0 wqL_outputAt) rfl rfl rfl (by decide +kernel) ⟨Nat.le_of_ble_eq_true rfl, Nat.le_of_ble_eq_true rfl⟩) (wrK_preS hK hPm hDm hC hS hA) rfl rfl hl.1 rfl (lv_room (Nat.le_of_ble_eq_true rfl)) dL_law_2896 ⟨by show cells + 1 ≤ 603072; omega, by show slots + 6 ≤ 7207018; omega⟩) (fun r2896 u2896 H locs hw hP hD hS => ?_)
  have hP : va_P dg vwCl (brkU ck ka ad ra u2896.1 ++ (modelC ck mo (encZ S) F1 F2 F3 F4 M ++ (lngC ck oa u2896.2 ++ (dblC ck od E)))) H := hP
  have hD : va_D A (brkU ck ka ad ra u2896.1 ++ (modelC ck mo (encZ S) F1 F2 F3 F4 M ++ (lngC ck oa u2896.2 ++ (dblC ck od E)))) := hD
  refine lv_istore (lv' := [(6, .int r2896), (0, .ref b), (1, .ref (ad 7 0)), (2, .ref (mo 0)), (3, .ref oa), (4, .ref od), (5, .int (zI i))]) hx hb dL_law_2899 hl (by decide) rfl (fun ls hl => ?_)
  refine lv_aload_n hx hb dL_law_2901 rfl (lv_at hl 3 rfl) ?_
  refine lv_aload_n hx hb dL_law_2902 rfl (lv_at hl 1 rfl) ?_
  refine lv_iload hx hb dL_law_2903 (lv_at hl 6 rfl) ?_
  refine x_iconst hx hb dL_law_2905 ?_
  refine x_iadd hx hb dL_law_2906 ?_
  refine x_sld hx hb hX hbl hbA hS (by omega) (by omega) hv_x dL_law_2907 ?_
  refine x_calliB (ws' := brkU ck ka ad ra u2896.1 ++ (modelC ck mo (encZ S) F1 F2 F3 F4 (upS M 8 0 (1 - bI (0 ≤ x ∧ x ≤ M 8 4 - 1))) ++ (lngC ck oa u2896.2 ++ (dblC ck od E)))) (M := modelC ck mo (encZ S) F1 F2 F3 F4 M) (M' := modelC ck mo (encZ S) F1 F2 F3 F4 (upS M 8 0 (1 - bI (0 ≤ x ∧ x ≤ M 8 4 - 1)))) (N := brkU ck ka ad ra u2896.1 ++ (lngC ck oa u2896.2 ++ (dblC ck od E))) (cat_perm [brkU ck ka ad ra u2896.1, modelC ck mo (encZ S) F1 F2 F3 F4 M, lngC ck oa u2896.2, dblC ck od E] [1] [0, 2, 3] 4 rfl (by decide)) (cat_perm [brkU ck ka ad ra u2896.1, modelC ck mo (encZ S) F1 F2 F3 F4 (upS M 8 0 (1 - bI (0 ≤ x ∧ x ≤ M 8 4 - 1))), lngC ck oa u2896.2, dblC ck od E] [1] [0, 2, 3] 4 rfl (by decide)) hP hD hS hA (fun hPm hDm => va_runV (As := [.int (zI x)]) (rest := []) ⟨hx, hb, hml, hown, htg⟩ (m_outputAt l dg ck mo S F1 F2 F3 F4 M x _ (by omega) (by omega) (fun i9 a9 c9 => by have h1 := hy7 i9 a9 (by omega); have h2 := hY i9 a9 (by omega); omega)) (cwV 1 htg (gwV wq_2022 wq_2023 wq_2024 wq_15 wq_2025) rfl rfl rfl (by decide +kernel) ⟨Nat.le_of_ble_eq_true rfl, Nat.le_of_ble_eq_true rfl⟩) (wr_preV hK hPm hDm 0 11 rfl rfl) rfl rfl hl.1 rfl (lv_room (Nat.le_of_ble_eq_true rfl)) dL_law_2908 ⟨by show _ ≤ 603072; omega, by show _ ≤ 7207018; omega⟩) (fun r2908 H locs hr2908 hP hD hS => ?_)
  subst hr2908
  have hP : va_P dg vwCl (brkU ck ka ad ra u2896.1 ++ (modelC ck mo (encZ S) F1 F2 F3 F4 (upS M 8 0 (1 - bI (0 ≤ x ∧ x ≤ M 8 4 - 1))) ++ (lngC ck oa u2896.2 ++ (dblC ck od E)))) H := hP
  have hD : va_D A (brkU ck ka ad ra u2896.1 ++ (modelC ck mo (encZ S) F1 F2 F3 F4 (upS M 8 0 (1 - bI (0 ≤ x ∧ x ≤ M 8 4 - 1))) ++ (lngC ck oa u2896.2 ++ (dblC ck od E)))) := hD
  have hcase : ∃ t9 : Int, (upS M 8 0 (1 - bI (0 ≤ x ∧ x ≤ M 8 4 - 1))) 8 0 = t9 ∧ r2896 = zI t9 ∧ (0 ≤ t9 ∧ t9 ≤ 3) ∧ (t9 = 0 → u2896.2 0 = (zI (itZ (0 ≤ x ∧ x ≤ M 8 4 - 1) (M 7 x))).toInt64) ∧ LI (775 * i + 3100) (u2896.1.1) (u2896.1.2.2.1) (u2896.1.2.2.2.1) (u2896.1.2.2.2.2.1) (u2896.1.2.2.2.2.2.2.1) (u2896.1.2.2.2.2.2.2.2.1) (u2896.1.2.2.2.2.2.2.2.2.2.2.1) (u2896.1.2.2.2.2.2.2.2.2.2.2.2) F2 F3 (upS M 8 0 (1 - bI (0 ≤ x ∧ x ≤ M 8 4 - 1))) ∧ S = u2896.1.2.2.2.2.1 := by
    rcases hw with ⟨e1, r1, hp, eu, ev⟩ | ⟨e1, hc, eu⟩
    · obtain ⟨rfl, hok⟩ := hp
      have hy9 := hy7 x (by omega) (by omega)
      refine ⟨0, upS_s.trans (by (try unfold itZ); (try unfold bI); (repeat' split) <;> omega), e1, by decide, fun _ => ev.trans (congrArg (fun v9 : Int => (zI v9).toInt64) (by (try unfold itZ); (try unfold bI); (repeat' split) <;> omega)), ?_, (by rw [eu] <;> rfl)⟩
      rw [eu]
      exact (hLI.m (mK_0 M _)).mono (by omega) (by omega)
    · refine ⟨1, upS_s.trans (by (try unfold itZ); (try unfold bI); (repeat' split) <;> omega), e1, by decide, fun q => absurd q (by decide), ?_, (by rw [eu] <;> rfl)⟩
      rw [eu]
      exact (hLI.m (mK_0 M _)).mono (by omega) (by omega)
  obtain ⟨t9, ht9, hr9, ht9b, hval, hLI2, hS2⟩ := hcase
  have ht9r : zI ((upS M 8 0 (1 - bI (0 ≤ x ∧ x ≤ M 8 4 - 1))) 8 0) = r2896 := by rw [ht9, hr9]
  refine lv_istore (lv' := [(7, .int (zI (itZ (0 ≤ x ∧ x ≤ M 8 4 - 1) (M 7 x)))), (6, .int r2896), (0, .ref b), (1, .ref (ad 7 0)), (2, .ref (mo 0)), (3, .ref oa), (4, .ref od), (5, .int (zI i))]) hx hb dL_law_2911 hl (by decide) rfl (fun ls hl => ?_)
  refine lv_aload_n hx hb dL_law_2913 rfl (lv_at hl 4 rfl) ?_
  refine vp_callSi (W.runV (As := []) (rest := []) ⟨hx, hb, hml, hown, htg⟩ (m_thrown l dg ck mo S F1 F2 F3 F4 (upS M 8 0 (1 - bI (0 ≤ x ∧ x ≤ M 8 4 - 1)))) (cwV 0 htg (gwV wq_1627 wq_1628 wq_1629 wq_15 wq_1630) rfl rfl rfl (by decide +kernel) ⟨Nat.le_of_ble_eq_true rfl, Nat.le_of_ble_eq_true rfl⟩) (rd_preV hK (va_P_l (va_P_r hP)) 0 11 rfl rfl) rfl rfl hl.1 rfl (lv_room (Nat.le_of_ble_eq_true rfl)) dL_law_2914 ⟨by show _ ≤ 603072; omega, by show _ ≤ 7207018; omega⟩) (fun r2914 hr2914 => ?_)
  subst hr2914
  refine lv_iload hx hb dL_law_2917 (lv_at hl 1 rfl) ?_
  refine lv_icmp_eq (tgt := 2924) hx hb dL_law_2919 (by decide) (fun _ => ?_) (fun c9 => absurd ht9r c9)
  refine lv_iload hx hb dL_law_2924 (lv_at hl 1 rfl) ?_
  refine W.eq (g2 := F0 m 2926 ls [.int (zI t9)]) (by rw [hr9]) ?_
  refine x_if_ne (tgt := 2941) hx hb dL_law_2926 (by decide) (by omega) (fun c9 => ?_) (fun c9 => ?_)
  · refine lv_goto (tgt := 3323) hx hb dL_law_2941 (by decide) ?_
    refine W.widen (k := cells + 3) (n := slots + 18) (by omega) (by omega) ?_
    have hP : va_P dg vwCl (lawW ck ka ad ra mo oa od u2896.1 F1 F2 F3 F4 (upS M 8 0 (1 - bI (0 ≤ x ∧ x ≤ M 8 4 - 1))) u2896.2 E) H := va_P_eq (by rw [hS2] <;> rfl) hP
    have hD : va_D A (lawW ck ka ad ra mo oa od u2896.1 F1 F2 F3 F4 (upS M 8 0 (1 - bI (0 ≤ x ∧ x ≤ M 8 4 - 1))) u2896.2 E) := va_D_eq (by rw [hS2] <;> rfl) hD
    exact kk u2896.1 F1 F2 F3 F4 (upS M 8 0 (1 - bI (0 ≤ x ∧ x ≤ M 8 4 - 1))) u2896.2 E H locs ls hLI2 hP hD hS (lv_sub hl [2, 3, 4, 5, 6, 7] rfl)
  · have hv9 := hval (by omega)
    refine lv_aload_n hx hb dL_law_2929 rfl (lv_at hl 5 rfl) ?_
    refine x_iconst hx hb dL_law_2930 ?_
    refine va_lald hx hb hK hP 175 5 rfl rfl (zI_in (z := 0) (by decide) (by decide)) dL_law_2931 ?_
    refine lv_iload hx hb dL_law_2932 (lv_at hl 0 rfl) ?_
    refine lv_i2l hx hb dL_law_2934 rfl ?_
    refine W.lcmp hx hb dL_law_2935 ?_
    refine W.eq (g2 := F0 m 2936 ls [.int (zI 0)]) (congrArg (fun v9 => F0 m 2936 ls [.int v9]) ((congrArg (fun v9 => lg_cmp v9 _) hv9).trans (lg_self _))) ?_
    refine x_if_eq (tgt := 2941) hx hb dL_law_2936 (by decide) (by omega) (fun _ => ?_) (fun c => absurd rfl c)
    refine lv_goto (tgt := 3323) hx hb dL_law_2941 (by decide) ?_
    refine W.widen (k := cells + 3) (n := slots + 18) (by omega) (by omega) ?_
    have hP : va_P dg vwCl (lawW ck ka ad ra mo oa od u2896.1 F1 F2 F3 F4 (upS M 8 0 (1 - bI (0 ≤ x ∧ x ≤ M 8 4 - 1))) u2896.2 E) H := va_P_eq (by rw [hS2] <;> rfl) hP
    have hD : va_D A (lawW ck ka ad ra mo oa od u2896.1 F1 F2 F3 F4 (upS M 8 0 (1 - bI (0 ≤ x ∧ x ≤ M 8 4 - 1))) u2896.2 E) := va_D_eq (by rw [hS2] <;> rfl) hD
    exact kk u2896.1 F1 F2 F3 F4 (upS M 8 0 (1 - bI (0 ≤ x ∧ x ≤ M 8 4 - 1))) u2896.2 E H locs ls hLI2 hP hD hS (lv_sub hl [2, 3, 4, 5, 6, 7] rfl)

set_option maxHeartbeats 4000000 in
set_option maxRecDepth 100000 in
/-- the law: a call of appendInput -/
theorem lc_54 {p : Program} {l : Launch} {e : Env} {s : State} {m : MethodId} {below : List Frame} {meth : Method} {c : Code} {dg : va_G} {ck : Nat → ClassId} {ka : Nat → Nat} {b L : Nat} {xs : Nat → Int32} {A : Nat → Prop} {ad ra : Nat → Nat → Nat} {mo : Nat → Nat} {oa od : Nat} {Qf : State → Prop} {i : Int} {cells slots : Nat} (C0 : LX p l s m c dg ck ka b L xs A) (hi : 0 ≤ i ∧ i + 4 ≤ L) (hcell : cells + 3 ≤ 603072) (hslot : slots + 18 ≤ 7207018) (kk : LKK p l e s m below meth c dg ck ka ad ra mo oa od b A Qf i cells slots) {Z O U X : Nat → Int} {S T P I : St} {V N Y : Int → Int} {Q : Nat → St} {F1 F2 F3 F4 : Int → Int} {M : St} {D : Nat → Int64} {E : Nat → UInt64} {H : Heap} {locs : List Loc} {ls : Array Slot} (hLI : LI (775 * i) Z U X S P I Y Q F2 F3 M) (hP : va_P dg vwCl (brkW ck ka ad ra Z O U X S T P I V N Y Q ++ (modelC ck mo (encZ S) F1 F2 F3 F4 M ++ (lngC ck oa D ++ (dblC ck od E)))) H) (hD : va_D A (brkW ck ka ad ra Z O U X S T P I V N Y Q ++ (modelC ck mo (encZ S) F1 F2 F3 F4 M ++ (lngC ck oa D ++ (dblC ck od E))))) (hS : va_S A s.heap H locs) (hl : lv_has ls 9 [(0, .ref b), (1, .ref (ad 7 0)), (2, .ref (mo 0)), (3, .ref oa), (4, .ref od), (5, .int (zI i))]) : W p l e room_1 s m #[Value.ref b] below meth c H locs cells slots Qf (F0 m 2944 ls []) := by
  obtain ⟨hx, hb, hml, hown, htg, hX, hbl, hbA, hK, hC, hA, hst, hL⟩ := id C0
  obtain ⟨hV, hlh, hls, hlt, hlo, hlf⟩ := id hLI
  obtain ⟨hn, hz, hk1, hq10, hhist⟩ := id hlh
  obtain ⟨hk2, hz0, hp10, hsn⟩ := id hls
  obtain ⟨hk3, hln, hk5, htx, hkv⟩ := id hlt
  obtain ⟨hk4, hu0, hy7, hY⟩ := id hlo
  obtain ⟨⟨hk5a, hz4⟩, ⟨hk6, hz1⟩, hk7, hk8⟩ := id hlf
  have hI := hV.bd
  have hs10 : ∀ i, 0 ≤ S 10 i ∧ S 10 i ≤ 1 := hI.2.2.2.2.2.2.2.2.2.2.2.2.2.1
  obtain ⟨x, hv_x⟩ : ∃ v9 : Int, (xs (i + 1).toNat).toInt = v9 := ⟨_, rfl⟩
  have rgx_x := xi_r (xs (i + 1).toNat)
  rw [hv_x] at rgx_x
  obtain ⟨y, hv_y⟩ : ∃ v9 : Int, (xs (i + 2).toNat).toInt = v9 := ⟨_, rfl⟩
  have rgx_y := xi_r (xs (i + 2).toNat)
  rw [hv_y] at rgx_y
  obtain ⟨z, hv_z⟩ : ∃ v9 : Int, (xs (i + 3).toNat).toInt = v9 := ⟨_, rfl⟩
  have rgx_z := xi_r (xs (i + 3).toNat)
  rw [hv_z] at rgx_z
  refine lv_aload_n hx hb dL_law_2944 rfl (lv_at hl 1 rfl) ?_
  refine lv_aload_n hx hb dL_law_2945 rfl (lv_at hl 0 rfl) ?_
  refine lv_iload hx hb dL_law_2946 (lv_at hl 5 rfl) ?_
  refine x_iconst hx hb dL_law_2948 ?_
  refine x_iadd hx hb dL_law_2949 ?_
  refine x_sld hx hb hX hbl hbA hS (by omega) (by omega) hv_x dL_law_2950 ?_
  refine x_i2cm hx hb dL_law_2951 ?_
  refine lv_aload_n hx hb dL_law_2952 rfl (lv_at hl 3 rfl) ?_
  refine x_calliUB (wf := fun u2953 : BU × (Nat → Int64) => brkU ck ka ad ra u2953.1 ++ (modelC ck mo (encZ S) F1 F2 F3 F4 M ++ (lngC ck oa u2953.2 ++ (dblC ck od E)))) (M := brkW ck ka ad ra Z O U X S T P I V N Y Q ++ (lngC ck oa D)) (Mf := fun u2953 => brkU ck ka ad ra u2953.1 ++ (lngC ck oa u2953.2)) (N := modelC ck mo (encZ S) F1 F2 F3 F4 M ++ (dblC ck od E)) (cat_perm [brkW ck ka ad ra Z O U X S T P I V N Y Q, modelC ck mo (encZ S) F1 F2 F3 F4 M, lngC ck oa D, dblC ck od E] [0, 2] [1, 3] 4 rfl (by decide)) (fun u2953 => cat_perm [brkU ck ka ad ra u2953.1, modelC ck mo (encZ S) F1 F2 F3 F4 M, lngC ck oa u2953.2, dblC ck od E] [0, 2] [1, 3] 4 rfl (by decide)) hP hD hS hA (fun hPm hDm => vx_runSW (As := [.ref (ad 7 0), .int (zI (x % 65536)), .ref oa]) (rest := []) ⟨hx, hb, hml, hown, htg⟩ (w_appendInput l dg ck ka ad ra Z O U X S T P I V N Y Q oa D (x % 65536) _ (by omega) hln hst) (vx_cwSW 3 htg (gwSW wq_1406 wq_1407 wq_0 wqL_appendInput) rfl rfl rfl (by decide +kernel) ⟨Nat.le_of_ble_eq_true rfl, Nat.le_of_ble_eq_true rfl⟩) (wrK_preS hK hPm hDm hC hS hA) rfl rfl hl.1 rfl (lv_room (Nat.le_of_ble_eq_true rfl)) dL_law_2953 ⟨by show cells + 1 ≤ 603072; omega, by show slots + 6 ≤ 7207018; omega⟩) (fun r2953 u2953 H locs hw hP hD hS => ?_)
  have hP : va_P dg vwCl (brkU ck ka ad ra u2953.1 ++ (modelC ck mo (encZ S) F1 F2 F3 F4 M ++ (lngC ck oa u2953.2 ++ (dblC ck od E)))) H := hP
  have hD : va_D A (brkU ck ka ad ra u2953.1 ++ (modelC ck mo (encZ S) F1 F2 F3 F4 M ++ (lngC ck oa u2953.2 ++ (dblC ck od E)))) := hD
  refine lv_istore (lv' := [(6, .int r2953), (0, .ref b), (1, .ref (ad 7 0)), (2, .ref (mo 0)), (3, .ref oa), (4, .ref od), (5, .int (zI i))]) hx hb dL_law_2956 hl (by decide) rfl (fun ls hl => ?_)
  refine lv_aload_n hx hb dL_law_2958 rfl (lv_at hl 3 rfl) ?_
  refine lv_aload_n hx hb dL_law_2959 rfl (lv_at hl 1 rfl) ?_
  refine lv_iload hx hb dL_law_2960 (lv_at hl 6 rfl) ?_
  refine x_iconst hx hb dL_law_2962 ?_
  refine x_iadd hx hb dL_law_2963 ?_
  refine x_sld hx hb hX hbl hbA hS (by omega) (by omega) hv_x dL_law_2964 ?_
  refine x_i2cm hx hb dL_law_2965 ?_
  refine x_calliB (ws' := brkU ck ka ad ra u2953.1 ++ (modelC ck mo (encZ S) F1 F2 F3 F4 (if ¬ (32 ≤ (x % 65536) ∧ (x % 65536) ≤ 126) then upS M 8 0 1 else if M 8 3 = 60 then upS M 8 0 2 else upS (upS (upS M 8 0 0) 5 (M 8 3) (x % 65536)) 8 3 (M 8 3 + 1)) ++ (lngC ck oa u2953.2 ++ (dblC ck od E)))) (M := modelC ck mo (encZ S) F1 F2 F3 F4 M) (M' := modelC ck mo (encZ S) F1 F2 F3 F4 (if ¬ (32 ≤ (x % 65536) ∧ (x % 65536) ≤ 126) then upS M 8 0 1 else if M 8 3 = 60 then upS M 8 0 2 else upS (upS (upS M 8 0 0) 5 (M 8 3) (x % 65536)) 8 3 (M 8 3 + 1))) (N := brkU ck ka ad ra u2953.1 ++ (lngC ck oa u2953.2 ++ (dblC ck od E))) (cat_perm [brkU ck ka ad ra u2953.1, modelC ck mo (encZ S) F1 F2 F3 F4 M, lngC ck oa u2953.2, dblC ck od E] [1] [0, 2, 3] 4 rfl (by decide)) (cat_perm [brkU ck ka ad ra u2953.1, modelC ck mo (encZ S) F1 F2 F3 F4 (if ¬ (32 ≤ (x % 65536) ∧ (x % 65536) ≤ 126) then upS M 8 0 1 else if M 8 3 = 60 then upS M 8 0 2 else upS (upS (upS M 8 0 0) 5 (M 8 3) (x % 65536)) 8 3 (M 8 3 + 1)), lngC ck oa u2953.2, dblC ck od E] [1] [0, 2, 3] 4 rfl (by decide)) hP hD hS hA (fun hPm hDm => va_runV (As := [.int (zI (x % 65536))]) (rest := []) ⟨hx, hb, hml, hown, htg⟩ (m_appendInput l dg ck mo S F1 F2 F3 F4 M (x % 65536) _ (by omega) (by omega)) (cwV 1 htg (gwV wq_2026 wq_2027 wq_2028 wq_15 wq_2029) rfl rfl rfl (by decide +kernel) ⟨Nat.le_of_ble_eq_true rfl, Nat.le_of_ble_eq_true rfl⟩) (wr_preV hK hPm hDm 0 11 rfl rfl) rfl rfl hl.1 rfl (lv_room (Nat.le_of_ble_eq_true rfl)) dL_law_2966 ⟨by show _ ≤ 603072; omega, by show _ ≤ 7207018; omega⟩) (fun r2966 H locs hr2966 hP hD hS => ?_)
  subst hr2966
  have hP : va_P dg vwCl (brkU ck ka ad ra u2953.1 ++ (modelC ck mo (encZ S) F1 F2 F3 F4 (if ¬ (32 ≤ (x % 65536) ∧ (x % 65536) ≤ 126) then upS M 8 0 1 else if M 8 3 = 60 then upS M 8 0 2 else upS (upS (upS M 8 0 0) 5 (M 8 3) (x % 65536)) 8 3 (M 8 3 + 1)) ++ (lngC ck oa u2953.2 ++ (dblC ck od E)))) H := hP
  have hD : va_D A (brkU ck ka ad ra u2953.1 ++ (modelC ck mo (encZ S) F1 F2 F3 F4 (if ¬ (32 ≤ (x % 65536) ∧ (x % 65536) ≤ 126) then upS M 8 0 1 else if M 8 3 = 60 then upS M 8 0 2 else upS (upS (upS M 8 0 0) 5 (M 8 3) (x % 65536)) 8 3 (M 8 3 + 1)) ++ (lngC ck oa u2953.2 ++ (dblC ck od E)))) := hD
  have hcase : ∃ t9 : Int, (if ¬ (32 ≤ (x % 65536) ∧ (x % 65536) ≤ 126) then upS M 8 0 1 else if M 8 3 = 60 then upS M 8 0 2 else upS (upS (upS M 8 0 0) 5 (M 8 3) (x % 65536)) 8 3 (M 8 3 + 1)) 8 0 = t9 ∧ r2953 = zI t9 ∧ (0 ≤ t9 ∧ t9 ≤ 3) ∧ (t9 = 0 → u2953.2 0 = (zI (itZ (32 ≤ (x % 65536) ∧ (x % 65536) ≤ 126 ∧ M 8 3 ≠ 60) (M 8 3 + 1))).toInt64) ∧ LI (775 * i + 3100) (u2953.1.1) (u2953.1.2.2.1) (u2953.1.2.2.2.1) (u2953.1.2.2.2.2.1) (u2953.1.2.2.2.2.2.2.1) (u2953.1.2.2.2.2.2.2.2.1) (u2953.1.2.2.2.2.2.2.2.2.2.2.1) (u2953.1.2.2.2.2.2.2.2.2.2.2.2) F2 F3 (if ¬ (32 ≤ (x % 65536) ∧ (x % 65536) ≤ 126) then upS M 8 0 1 else if M 8 3 = 60 then upS M 8 0 2 else upS (upS (upS M 8 0 0) 5 (M 8 3) (x % 65536)) 8 3 (M 8 3 + 1)) ∧ S = u2953.1.2.2.2.2.1 := by
    rcases hw with ⟨e1, r1, hp, eu, ev⟩ | ⟨e1, hc, eu⟩ | ⟨e1, hc, eu⟩
    · obtain ⟨rfl, hok⟩ := hp
      rw [if_neg (fun q => q hok.1), if_neg (show ¬ M 8 3 = 60 by omega)]
      refine ⟨0, (upS_n (by omega)).trans ((upS_n (by omega)).trans upS_s), e1, by decide, fun _ => ev.trans (congrArg (fun v9 : Int => (zI v9).toInt64) (by (try unfold itZ); (try unfold bI); (repeat' split) <;> omega)), ?_, (by rw [eu] <;> rfl)⟩
      rw [eu]
      exact (hLI.input (by omega) hok.2).mono (by omega) (by omega)
    · rw [if_pos hc]
      refine ⟨1, upS_s, e1, by decide, fun q => absurd q (by decide), ?_, (by rw [eu] <;> rfl)⟩
      rw [eu]
      exact (hLI.m (mK_0 M _)).mono (by omega) (by omega)
    · rw [if_neg (fun q => q hc.1), if_pos (show M 8 3 = 60 by omega)]
      refine ⟨2, upS_s, e1, by decide, fun q => absurd q (by decide), ?_, (by rw [eu] <;> rfl)⟩
      rw [eu]
      exact (hLI.m (mK_0 M _)).mono (by omega) (by omega)
  obtain ⟨t9, ht9, hr9, ht9b, hval, hLI2, hS2⟩ := hcase
  have ht9r : zI ((if ¬ (32 ≤ (x % 65536) ∧ (x % 65536) ≤ 126) then upS M 8 0 1 else if M 8 3 = 60 then upS M 8 0 2 else upS (upS (upS M 8 0 0) 5 (M 8 3) (x % 65536)) 8 3 (M 8 3 + 1)) 8 0) = r2953 := by rw [ht9, hr9]
  refine lv_istore (lv' := [(7, .int (zI (itZ (32 ≤ (x % 65536) ∧ (x % 65536) ≤ 126 ∧ M 8 3 ≠ 60) (M 8 3 + 1)))), (6, .int r2953), (0, .ref b), (1, .ref (ad 7 0)), (2, .ref (mo 0)), (3, .ref oa), (4, .ref od), (5, .int (zI i))]) hx hb dL_law_2969 hl (by decide) rfl (fun ls hl => ?_)
  refine lv_aload_n hx hb dL_law_2971 rfl (lv_at hl 4 rfl) ?_
  refine vp_callSi (W.runV (As := []) (rest := []) ⟨hx, hb, hml, hown, htg⟩ (m_thrown l dg ck mo S F1 F2 F3 F4 (if ¬ (32 ≤ (x % 65536) ∧ (x % 65536) ≤ 126) then upS M 8 0 1 else if M 8 3 = 60 then upS M 8 0 2 else upS (upS (upS M 8 0 0) 5 (M 8 3) (x % 65536)) 8 3 (M 8 3 + 1))) (cwV 0 htg (gwV wq_1627 wq_1628 wq_1629 wq_15 wq_1630) rfl rfl rfl (by decide +kernel) ⟨Nat.le_of_ble_eq_true rfl, Nat.le_of_ble_eq_true rfl⟩) (rd_preV hK (va_P_l (va_P_r hP)) 0 11 rfl rfl) rfl rfl hl.1 rfl (lv_room (Nat.le_of_ble_eq_true rfl)) dL_law_2972 ⟨by show _ ≤ 603072; omega, by show _ ≤ 7207018; omega⟩) (fun r2972 hr2972 => ?_)
  subst hr2972
  refine lv_iload hx hb dL_law_2975 (lv_at hl 1 rfl) ?_
  refine lv_icmp_eq (tgt := 2982) hx hb dL_law_2977 (by decide) (fun _ => ?_) (fun c9 => absurd ht9r c9)
  refine lv_iload hx hb dL_law_2982 (lv_at hl 1 rfl) ?_
  refine W.eq (g2 := F0 m 2984 ls [.int (zI t9)]) (by rw [hr9]) ?_
  refine x_if_ne (tgt := 2999) hx hb dL_law_2984 (by decide) (by omega) (fun c9 => ?_) (fun c9 => ?_)
  · refine lv_goto (tgt := 3323) hx hb dL_law_2999 (by decide) ?_
    refine W.widen (k := cells + 3) (n := slots + 18) (by omega) (by omega) ?_
    have hP : va_P dg vwCl (lawW ck ka ad ra mo oa od u2953.1 F1 F2 F3 F4 (if ¬ (32 ≤ (x % 65536) ∧ (x % 65536) ≤ 126) then upS M 8 0 1 else if M 8 3 = 60 then upS M 8 0 2 else upS (upS (upS M 8 0 0) 5 (M 8 3) (x % 65536)) 8 3 (M 8 3 + 1)) u2953.2 E) H := va_P_eq (by rw [hS2] <;> rfl) hP
    have hD : va_D A (lawW ck ka ad ra mo oa od u2953.1 F1 F2 F3 F4 (if ¬ (32 ≤ (x % 65536) ∧ (x % 65536) ≤ 126) then upS M 8 0 1 else if M 8 3 = 60 then upS M 8 0 2 else upS (upS (upS M 8 0 0) 5 (M 8 3) (x % 65536)) 8 3 (M 8 3 + 1)) u2953.2 E) := va_D_eq (by rw [hS2] <;> rfl) hD
    exact kk u2953.1 F1 F2 F3 F4 (if ¬ (32 ≤ (x % 65536) ∧ (x % 65536) ≤ 126) then upS M 8 0 1 else if M 8 3 = 60 then upS M 8 0 2 else upS (upS (upS M 8 0 0) 5 (M 8 3) (x % 65536)) 8 3 (M 8 3 + 1)) u2953.2 E H locs ls hLI2 hP hD hS (lv_sub hl [2, 3, 4, 5, 6, 7] rfl)
  · have hv9 := hval (by omega)
    refine lv_aload_n hx hb dL_law_2987 rfl (lv_at hl 5 rfl) ?_
    refine x_iconst hx hb dL_law_2988 ?_
    refine va_lald hx hb hK hP 175 5 rfl rfl (zI_in (z := 0) (by decide) (by decide)) dL_law_2989 ?_
    refine lv_iload hx hb dL_law_2990 (lv_at hl 0 rfl) ?_
    refine lv_i2l hx hb dL_law_2992 rfl ?_
    refine W.lcmp hx hb dL_law_2993 ?_
    refine W.eq (g2 := F0 m 2994 ls [.int (zI 0)]) (congrArg (fun v9 => F0 m 2994 ls [.int v9]) ((congrArg (fun v9 => lg_cmp v9 _) hv9).trans (lg_self _))) ?_
    refine x_if_eq (tgt := 2999) hx hb dL_law_2994 (by decide) (by omega) (fun _ => ?_) (fun c => absurd rfl c)
    refine lv_goto (tgt := 3323) hx hb dL_law_2999 (by decide) ?_
    refine W.widen (k := cells + 3) (n := slots + 18) (by omega) (by omega) ?_
    have hP : va_P dg vwCl (lawW ck ka ad ra mo oa od u2953.1 F1 F2 F3 F4 (if ¬ (32 ≤ (x % 65536) ∧ (x % 65536) ≤ 126) then upS M 8 0 1 else if M 8 3 = 60 then upS M 8 0 2 else upS (upS (upS M 8 0 0) 5 (M 8 3) (x % 65536)) 8 3 (M 8 3 + 1)) u2953.2 E) H := va_P_eq (by rw [hS2] <;> rfl) hP
    have hD : va_D A (lawW ck ka ad ra mo oa od u2953.1 F1 F2 F3 F4 (if ¬ (32 ≤ (x % 65536) ∧ (x % 65536) ≤ 126) then upS M 8 0 1 else if M 8 3 = 60 then upS M 8 0 2 else upS (upS (upS M 8 0 0) 5 (M 8 3) (x % 65536)) 8 3 (M 8 3 + 1)) u2953.2 E) := va_D_eq (by rw [hS2] <;> rfl) hD
    exact kk u2953.1 F1 F2 F3 F4 (if ¬ (32 ≤ (x % 65536) ∧ (x % 65536) ≤ 126) then upS M 8 0 1 else if M 8 3 = 60 then upS M 8 0 2 else upS (upS (upS M 8 0 0) 5 (M 8 3) (x % 65536)) 8 3 (M 8 3 + 1)) u2953.2 E H locs ls hLI2 hP hD hS (lv_sub hl [2, 3, 4, 5, 6, 7] rfl)

set_option maxHeartbeats 4000000 in
set_option maxRecDepth 100000 in
/-- the law: a call of execute -/
theorem lc_55 {p : Program} {l : Launch} {e : Env} {s : State} {m : MethodId} {below : List Frame} {meth : Method} {c : Code} {dg : va_G} {ck : Nat → ClassId} {ka : Nat → Nat} {b L : Nat} {xs : Nat → Int32} {A : Nat → Prop} {ad ra : Nat → Nat → Nat} {mo : Nat → Nat} {oa od : Nat} {Qf : State → Prop} {i : Int} {cells slots : Nat} (C0 : LX p l s m c dg ck ka b L xs A) (hi : 0 ≤ i ∧ i + 4 ≤ L) (hcell : cells + 3 ≤ 603072) (hslot : slots + 18 ≤ 7207018) (kk : LKK p l e s m below meth c dg ck ka ad ra mo oa od b A Qf i cells slots) {Z O U X : Nat → Int} {S T P I : St} {V N Y : Int → Int} {Q : Nat → St} {F1 F2 F3 F4 : Int → Int} {M : St} {D : Nat → Int64} {E : Nat → UInt64} {H : Heap} {locs : List Loc} {ls : Array Slot} (hLI : LI (775 * i) Z U X S P I Y Q F2 F3 M) (hP : va_P dg vwCl (brkW ck ka ad ra Z O U X S T P I V N Y Q ++ (modelC ck mo (encZ S) F1 F2 F3 F4 M ++ (lngC ck oa D ++ (dblC ck od E)))) H) (hD : va_D A (brkW ck ka ad ra Z O U X S T P I V N Y Q ++ (modelC ck mo (encZ S) F1 F2 F3 F4 M ++ (lngC ck oa D ++ (dblC ck od E))))) (hS : va_S A s.heap H locs) (hl : lv_has ls 9 [(0, .ref b), (1, .ref (ad 7 0)), (2, .ref (mo 0)), (3, .ref oa), (4, .ref od), (5, .int (zI i))]) : W p l e room_1 s m #[Value.ref b] below meth c H locs cells slots Qf (F0 m 3002 ls []) := by
  obtain ⟨hx, hb, hml, hown, htg, hX, hbl, hbA, hK, hC, hA, hst, hL⟩ := id C0
  obtain ⟨hV, hlh, hls, hlt, hlo, hlf⟩ := id hLI
  obtain ⟨hn, hz, hk1, hq10, hhist⟩ := id hlh
  obtain ⟨hk2, hz0, hp10, hsn⟩ := id hls
  obtain ⟨hk3, hln, hk5, htx, hkv⟩ := id hlt
  obtain ⟨hk4, hu0, hy7, hY⟩ := id hlo
  obtain ⟨⟨hk5a, hz4⟩, ⟨hk6, hz1⟩, hk7, hk8⟩ := id hlf
  have hI := hV.bd
  have hs10 : ∀ i, 0 ≤ S 10 i ∧ S 10 i ≤ 1 := hI.2.2.2.2.2.2.2.2.2.2.2.2.2.1
  obtain ⟨x, hv_x⟩ : ∃ v9 : Int, (xs (i + 1).toNat).toInt = v9 := ⟨_, rfl⟩
  have rgx_x := xi_r (xs (i + 1).toNat)
  rw [hv_x] at rgx_x
  obtain ⟨y, hv_y⟩ : ∃ v9 : Int, (xs (i + 2).toNat).toInt = v9 := ⟨_, rfl⟩
  have rgx_y := xi_r (xs (i + 2).toNat)
  rw [hv_y] at rgx_y
  obtain ⟨z, hv_z⟩ : ∃ v9 : Int, (xs (i + 3).toNat).toInt = v9 := ⟨_, rfl⟩
  have rgx_z := xi_r (xs (i + 3).toNat)
  rw [hv_z] at rgx_z
  refine lv_aload_n hx hb dL_law_3002 rfl (lv_at hl 1 rfl) ?_
  refine lv_aload_n hx hb dL_law_3003 rfl (lv_at hl 3 rfl) ?_
  refine x_calliUB (wf := fun u3004 : BU × (Nat → Int64) => brkU ck ka ad ra u3004.1 ++ (modelC ck mo (encZ S) F1 F2 F3 F4 M ++ (lngC ck oa u3004.2 ++ (dblC ck od E)))) (M := brkW ck ka ad ra Z O U X S T P I V N Y Q ++ (lngC ck oa D)) (Mf := fun u3004 => brkU ck ka ad ra u3004.1 ++ (lngC ck oa u3004.2)) (N := modelC ck mo (encZ S) F1 F2 F3 F4 M ++ (dblC ck od E)) (cat_perm [brkW ck ka ad ra Z O U X S T P I V N Y Q, modelC ck mo (encZ S) F1 F2 F3 F4 M, lngC ck oa D, dblC ck od E] [0, 2] [1, 3] 4 rfl (by decide)) (fun u3004 => cat_perm [brkU ck ka ad ra u3004.1, modelC ck mo (encZ S) F1 F2 F3 F4 M, lngC ck oa u3004.2, dblC ck od E] [0, 2] [1, 3] 4 rfl (by decide)) hP hD hS hA (fun hPm hDm => vx_runSW (As := [.ref (ad 7 0), .ref oa]) (rest := []) ⟨hx, hb, hml, hown, htg⟩ (w_execute l dg ck ka ad ra Z O U X S T P I V N Y Q oa D  _ hV (by omega) hn hz hln htx hkv hst) (vx_cwSW 2 htg (gwSW wq_1429 wq_1430 wq_0 wqL_execute) rfl rfl rfl (by decide +kernel) ⟨Nat.le_of_ble_eq_true rfl, Nat.le_of_ble_eq_true rfl⟩) (wrK_preS hK hPm hDm hC hS hA) rfl rfl hl.1 rfl (lv_room (Nat.le_of_ble_eq_true rfl)) dL_law_3004 ⟨by show cells + 1 ≤ 603072; omega, by show slots + 6 ≤ 7207018; omega⟩) (fun r3004 u3004 H locs hw hP hD hS => ?_)
  have hP : va_P dg vwCl (brkU ck ka ad ra u3004.1 ++ (modelC ck mo (encZ S) F1 F2 F3 F4 M ++ (lngC ck oa u3004.2 ++ (dblC ck od E)))) H := hP
  have hD : va_D A (brkU ck ka ad ra u3004.1 ++ (modelC ck mo (encZ S) F1 F2 F3 F4 M ++ (lngC ck oa u3004.2 ++ (dblC ck od E)))) := hD
  refine lv_istore (lv' := [(6, .int r3004), (0, .ref b), (1, .ref (ad 7 0)), (2, .ref (mo 0)), (3, .ref oa), (4, .ref od), (5, .int (zI i))]) hx hb dL_law_3007 hl (by decide) rfl (fun ls hl => ?_)
  refine lv_aload_n hx hb dL_law_3009 rfl (lv_at hl 3 rfl) ?_
  refine x_calliUB (wf := fun M3010 : St => brkU ck ka ad ra u3004.1 ++ (modelC ck mo (encZ (exZ S (M 5) (M 8 3)).2.2.2) (encZ S) F2 (if (exZ S (M 5) (M 8 3)).1 = 0 then hiZ F3 (encZ S) (M 8 1) else F3) F4 M3010 ++ (lngC ck oa u3004.2 ++ (dblC ck od E)))) (M := modelC ck mo (encZ S) F1 F2 F3 F4 M) (Mf := fun M3010 => modelC ck mo (encZ (exZ S (M 5) (M 8 3)).2.2.2) (encZ S) F2 (if (exZ S (M 5) (M 8 3)).1 = 0 then hiZ F3 (encZ S) (M 8 1) else F3) F4 M3010) (N := brkU ck ka ad ra u3004.1 ++ (lngC ck oa u3004.2 ++ (dblC ck od E))) (cat_perm [brkU ck ka ad ra u3004.1, modelC ck mo (encZ S) F1 F2 F3 F4 M, lngC ck oa u3004.2, dblC ck od E] [1] [0, 2, 3] 4 rfl (by decide)) (fun M3010 => cat_perm [brkU ck ka ad ra u3004.1, modelC ck mo (encZ (exZ S (M 5) (M 8 3)).2.2.2) (encZ S) F2 (if (exZ S (M 5) (M 8 3)).1 = 0 then hiZ F3 (encZ S) (M 8 1) else F3) F4 M3010, lngC ck oa u3004.2, dblC ck od E] [1] [0, 2, 3] 4 rfl (by decide)) hP hD hS hA (fun hPm hDm => va_runV (As := []) (rest := []) ⟨hx, hb, hml, hown, htg⟩ (m_execute l dg ck ka mo S F1 F2 F3 F4 M  _ hV (by omega) (by omega) (by rw [hk5]; exact htx) (by omega)) (cwV 0 htg (gwV wq_2030 wq_2031 wq_2032 wq_15 wq_2033) rfl rfl rfl (by decide +kernel) ⟨Nat.le_of_ble_eq_true rfl, Nat.le_of_ble_eq_true rfl⟩) (wrK_preV hK hPm hDm hC hS hA 0 11 rfl rfl) rfl rfl hl.1 rfl (lv_room (Nat.le_of_ble_eq_true rfl)) dL_law_3010 ⟨by show _ ≤ 603072; omega, by show _ ≤ 7207018; omega⟩) (fun r3010 M3010 H locs hm9 hP hD hS => ?_)
  obtain ⟨hm9, rfl⟩ := hm9
  have hP : va_P dg vwCl (brkU ck ka ad ra u3004.1 ++ (modelC ck mo (encZ (exZ S (M 5) (M 8 3)).2.2.2) (encZ S) F2 (if (exZ S (M 5) (M 8 3)).1 = 0 then hiZ F3 (encZ S) (M 8 1) else F3) F4 M3010 ++ (lngC ck oa u3004.2 ++ (dblC ck od E)))) H := hP
  have hD : va_D A (brkU ck ka ad ra u3004.1 ++ (modelC ck mo (encZ (exZ S (M 5) (M 8 3)).2.2.2) (encZ S) F2 (if (exZ S (M 5) (M 8 3)).1 = 0 then hiZ F3 (encZ S) (M 8 1) else F3) F4 M3010 ++ (lngC ck oa u3004.2 ++ (dblC ck od E)))) := hD
  have hcase : ∃ t9 : Int, M3010 8 0 = t9 ∧ r3004 = zI t9 ∧ (0 ≤ t9 ∧ t9 ≤ 3) ∧ (t9 = 0 → u3004.2 0 = (zI (if (exZ S (M 5) (M 8 3)).1 = 0 then (exZ S (M 5) (M 8 3)).2.1 else 0)).toInt64) ∧ LI (775 * i + 3100) (u3004.1.1) (u3004.1.2.2.1) (u3004.1.2.2.2.1) (u3004.1.2.2.2.2.1) (u3004.1.2.2.2.2.2.2.1) (u3004.1.2.2.2.2.2.2.2.1) (u3004.1.2.2.2.2.2.2.2.2.2.2.1) (u3004.1.2.2.2.2.2.2.2.2.2.2.2) F2 (if (exZ S (M 5) (M 8 3)).1 = 0 then hiZ F3 (encZ S) (M 8 1) else F3) M3010 ∧ (exZ S (M 5) (M 8 3)).2.2.2 = u3004.1.2.2.2.2.1 := by
    have hEX : exZ S (M 5) (M 8 3) = exZ S (I 1) (I 0 0) := by rw [hk5, hk3]
    rw [hEX] at hm9 ⊢
    rcases hw with ⟨e1, r1, u9, hp, eu, ev⟩ | ⟨e1, u9, hc, hxk, eu⟩ | ⟨e1, u9, hc, hxk, eu⟩ | ⟨e1, u9, hc, hxk, eu⟩
    · obtain ⟨rfl, hok, hxk⟩ := hp
      have hle := hLI.ex (by omega) hxk hm9
      refine ⟨0, hm9.1.trans hok, e1, by decide, fun _ => by rw [ev, if_pos hok], ?_, (by rw [eu] <;> rfl)⟩
      rw [eu]
      exact hle.1 hok
    · have hle := (hLI.ex (by omega) hxk hm9).2 (by rw [hc]; decide)
      refine ⟨1, hm9.1.trans hc, e1, by decide, fun q => absurd q (by decide), ?_, ?_⟩
      · rw [eu]
        exact hle.2
      · rw [eu]
        exact hle.1
    · have hle := (hLI.ex (by omega) hxk hm9).2 (by rw [hc]; decide)
      refine ⟨2, hm9.1.trans hc, e1, by decide, fun q => absurd q (by decide), ?_, ?_⟩
      · rw [eu]
        exact hle.2
      · rw [eu]
        exact hle.1
    · have hle := (hLI.ex (by omega) hxk hm9).2 (by rw [hc]; decide)
      refine ⟨3, hm9.1.trans hc, e1, by decide, fun q => absurd q (by decide), ?_, ?_⟩
      · rw [eu]
        exact hle.2
      · rw [eu]
        exact hle.1
  obtain ⟨t9, ht9, hr9, ht9b, hval, hLI2, hS2⟩ := hcase
  have ht9r : zI (M3010 8 0) = r3004 := by rw [ht9, hr9]
  refine lv_istore (lv' := [(7, .int (zI (if (exZ S (M 5) (M 8 3)).1 = 0 then (exZ S (M 5) (M 8 3)).2.1 else 0))), (6, .int r3004), (0, .ref b), (1, .ref (ad 7 0)), (2, .ref (mo 0)), (3, .ref oa), (4, .ref od), (5, .int (zI i))]) hx hb dL_law_3013 hl (by decide) rfl (fun ls hl => ?_)
  refine lv_aload_n hx hb dL_law_3015 rfl (lv_at hl 4 rfl) ?_
  refine vp_callSi (W.runV (As := []) (rest := []) ⟨hx, hb, hml, hown, htg⟩ (m_thrown l dg ck mo (exZ S (M 5) (M 8 3)).2.2.2 (encZ S) F2 (if (exZ S (M 5) (M 8 3)).1 = 0 then hiZ F3 (encZ S) (M 8 1) else F3) F4 M3010) (cwV 0 htg (gwV wq_1627 wq_1628 wq_1629 wq_15 wq_1630) rfl rfl rfl (by decide +kernel) ⟨Nat.le_of_ble_eq_true rfl, Nat.le_of_ble_eq_true rfl⟩) (rd_preV hK (va_P_l (va_P_r hP)) 0 11 rfl rfl) rfl rfl hl.1 rfl (lv_room (Nat.le_of_ble_eq_true rfl)) dL_law_3016 ⟨by show _ ≤ 603072; omega, by show _ ≤ 7207018; omega⟩) (fun r3016 hr3016 => ?_)
  subst hr3016
  refine lv_iload hx hb dL_law_3019 (lv_at hl 1 rfl) ?_
  refine lv_icmp_eq (tgt := 3026) hx hb dL_law_3021 (by decide) (fun _ => ?_) (fun c9 => absurd ht9r c9)
  refine lv_iload hx hb dL_law_3026 (lv_at hl 1 rfl) ?_
  refine W.eq (g2 := F0 m 3028 ls [.int (zI t9)]) (by rw [hr9]) ?_
  refine x_if_ne (tgt := 3043) hx hb dL_law_3028 (by decide) (by omega) (fun c9 => ?_) (fun c9 => ?_)
  · refine lv_goto (tgt := 3323) hx hb dL_law_3043 (by decide) ?_
    refine W.widen (k := cells + 3) (n := slots + 18) (by omega) (by omega) ?_
    have hP : va_P dg vwCl (lawW ck ka ad ra mo oa od u3004.1 (encZ S) F2 (if (exZ S (M 5) (M 8 3)).1 = 0 then hiZ F3 (encZ S) (M 8 1) else F3) F4 M3010 u3004.2 E) H := va_P_eq (by rw [hS2] <;> rfl) hP
    have hD : va_D A (lawW ck ka ad ra mo oa od u3004.1 (encZ S) F2 (if (exZ S (M 5) (M 8 3)).1 = 0 then hiZ F3 (encZ S) (M 8 1) else F3) F4 M3010 u3004.2 E) := va_D_eq (by rw [hS2] <;> rfl) hD
    exact kk u3004.1 (encZ S) F2 (if (exZ S (M 5) (M 8 3)).1 = 0 then hiZ F3 (encZ S) (M 8 1) else F3) F4 M3010 u3004.2 E H locs ls hLI2 hP hD hS (lv_sub hl [2, 3, 4, 5, 6, 7] rfl)
  · have hv9 := hval (by omega)
    refine lv_aload_n hx hb dL_law_3031 rfl (lv_at hl 5 rfl) ?_
    refine x_iconst hx hb dL_law_3032 ?_
    refine va_lald hx hb hK hP 175 5 rfl rfl (zI_in (z := 0) (by decide) (by decide)) dL_law_3033 ?_
    refine lv_iload hx hb dL_law_3034 (lv_at hl 0 rfl) ?_
    refine lv_i2l hx hb dL_law_3036 rfl ?_
    refine W.lcmp hx hb dL_law_3037 ?_
    refine W.eq (g2 := F0 m 3038 ls [.int (zI 0)]) (congrArg (fun v9 => F0 m 3038 ls [.int v9]) ((congrArg (fun v9 => lg_cmp v9 _) hv9).trans (lg_self _))) ?_
    refine x_if_eq (tgt := 3043) hx hb dL_law_3038 (by decide) (by omega) (fun _ => ?_) (fun c => absurd rfl c)
    refine lv_goto (tgt := 3323) hx hb dL_law_3043 (by decide) ?_
    refine W.widen (k := cells + 3) (n := slots + 18) (by omega) (by omega) ?_
    have hP : va_P dg vwCl (lawW ck ka ad ra mo oa od u3004.1 (encZ S) F2 (if (exZ S (M 5) (M 8 3)).1 = 0 then hiZ F3 (encZ S) (M 8 1) else F3) F4 M3010 u3004.2 E) H := va_P_eq (by rw [hS2] <;> rfl) hP
    have hD : va_D A (lawW ck ka ad ra mo oa od u3004.1 (encZ S) F2 (if (exZ S (M 5) (M 8 3)).1 = 0 then hiZ F3 (encZ S) (M 8 1) else F3) F4 M3010 u3004.2 E) := va_D_eq (by rw [hS2] <;> rfl) hD
    exact kk u3004.1 (encZ S) F2 (if (exZ S (M 5) (M 8 3)).1 = 0 then hiZ F3 (encZ S) (M 8 1) else F3) F4 M3010 u3004.2 E H locs ls hLI2 hP hD hS (lv_sub hl [2, 3, 4, 5, 6, 7] rfl)

set_option maxHeartbeats 4000000 in
set_option maxRecDepth 100000 in
/-- the law: a call of undo -/
theorem lc_60 {p : Program} {l : Launch} {e : Env} {s : State} {m : MethodId} {below : List Frame} {meth : Method} {c : Code} {dg : va_G} {ck : Nat → ClassId} {ka : Nat → Nat} {b L : Nat} {xs : Nat → Int32} {A : Nat → Prop} {ad ra : Nat → Nat → Nat} {mo : Nat → Nat} {oa od : Nat} {Qf : State → Prop} {i : Int} {cells slots : Nat} (C0 : LX p l s m c dg ck ka b L xs A) (hi : 0 ≤ i ∧ i + 4 ≤ L) (hcell : cells + 3 ≤ 603072) (hslot : slots + 18 ≤ 7207018) (kk : LKK p l e s m below meth c dg ck ka ad ra mo oa od b A Qf i cells slots) {Z O U X : Nat → Int} {S T P I : St} {V N Y : Int → Int} {Q : Nat → St} {F1 F2 F3 F4 : Int → Int} {M : St} {D : Nat → Int64} {E : Nat → UInt64} {H : Heap} {locs : List Loc} {ls : Array Slot} (hLI : LI (775 * i) Z U X S P I Y Q F2 F3 M) (hP : va_P dg vwCl (brkW ck ka ad ra Z O U X S T P I V N Y Q ++ (modelC ck mo (encZ S) F1 F2 F3 F4 M ++ (lngC ck oa D ++ (dblC ck od E)))) H) (hD : va_D A (brkW ck ka ad ra Z O U X S T P I V N Y Q ++ (modelC ck mo (encZ S) F1 F2 F3 F4 M ++ (lngC ck oa D ++ (dblC ck od E))))) (hS : va_S A s.heap H locs) (hl : lv_has ls 9 [(0, .ref b), (1, .ref (ad 7 0)), (2, .ref (mo 0)), (3, .ref oa), (4, .ref od), (5, .int (zI i))]) : W p l e room_1 s m #[Value.ref b] below meth c H locs cells slots Qf (F0 m 3222 ls []) := by
  obtain ⟨hx, hb, hml, hown, htg, hX, hbl, hbA, hK, hC, hA, hst, hL⟩ := id C0
  obtain ⟨hV, hlh, hls, hlt, hlo, hlf⟩ := id hLI
  obtain ⟨hn, hz, hk1, hq10, hhist⟩ := id hlh
  obtain ⟨hk2, hz0, hp10, hsn⟩ := id hls
  obtain ⟨hk3, hln, hk5, htx, hkv⟩ := id hlt
  obtain ⟨hk4, hu0, hy7, hY⟩ := id hlo
  obtain ⟨⟨hk5a, hz4⟩, ⟨hk6, hz1⟩, hk7, hk8⟩ := id hlf
  have hI := hV.bd
  have hs10 : ∀ i, 0 ≤ S 10 i ∧ S 10 i ≤ 1 := hI.2.2.2.2.2.2.2.2.2.2.2.2.2.1
  obtain ⟨x, hv_x⟩ : ∃ v9 : Int, (xs (i + 1).toNat).toInt = v9 := ⟨_, rfl⟩
  have rgx_x := xi_r (xs (i + 1).toNat)
  rw [hv_x] at rgx_x
  obtain ⟨y, hv_y⟩ : ∃ v9 : Int, (xs (i + 2).toNat).toInt = v9 := ⟨_, rfl⟩
  have rgx_y := xi_r (xs (i + 2).toNat)
  rw [hv_y] at rgx_y
  obtain ⟨z, hv_z⟩ : ∃ v9 : Int, (xs (i + 3).toNat).toInt = v9 := ⟨_, rfl⟩
  have rgx_z := xi_r (xs (i + 3).toNat)
  rw [hv_z] at rgx_z
  refine lv_aload_n hx hb dL_law_3222 rfl (lv_at hl 1 rfl) ?_
  refine lv_aload_n hx hb dL_law_3223 rfl (lv_at hl 3 rfl) ?_
  refine x_calliUB (wf := fun u3224 : BU × (Nat → Int64) => brkU ck ka ad ra u3224.1 ++ (modelC ck mo (encZ S) F1 F2 F3 F4 M ++ (lngC ck oa u3224.2 ++ (dblC ck od E)))) (M := brkW ck ka ad ra Z O U X S T P I V N Y Q ++ (lngC ck oa D)) (Mf := fun u3224 => brkU ck ka ad ra u3224.1 ++ (lngC ck oa u3224.2)) (N := modelC ck mo (encZ S) F1 F2 F3 F4 M ++ (dblC ck od E)) (cat_perm [brkW ck ka ad ra Z O U X S T P I V N Y Q, modelC ck mo (encZ S) F1 F2 F3 F4 M, lngC ck oa D, dblC ck od E] [0, 2] [1, 3] 4 rfl (by decide)) (fun u3224 => cat_perm [brkU ck ka ad ra u3224.1, modelC ck mo (encZ S) F1 F2 F3 F4 M, lngC ck oa u3224.2, dblC ck od E] [0, 2] [1, 3] 4 rfl (by decide)) hP hD hS hA (fun hPm hDm => vx_runSW (As := [.ref (ad 7 0), .ref oa]) (rest := []) ⟨hx, hb, hml, hown, htg⟩ (w_undo l dg ck ka ad ra Z O U X S T P I V N Y Q oa D  _ hn hz hq10 hst) (vx_cwSW 2 htg (gwSW wq_1533 wq_1534 wq_0 wqL_undo) rfl rfl rfl (by decide +kernel) ⟨Nat.le_of_ble_eq_true rfl, Nat.le_of_ble_eq_true rfl⟩) (wrK_preS hK hPm hDm hC hS hA) rfl rfl hl.1 rfl (lv_room (Nat.le_of_ble_eq_true rfl)) dL_law_3224 ⟨by show cells + 1 ≤ 603072; omega, by show slots + 6 ≤ 7207018; omega⟩) (fun r3224 u3224 H locs hw hP hD hS => ?_)
  have hP : va_P dg vwCl (brkU ck ka ad ra u3224.1 ++ (modelC ck mo (encZ S) F1 F2 F3 F4 M ++ (lngC ck oa u3224.2 ++ (dblC ck od E)))) H := hP
  have hD : va_D A (brkU ck ka ad ra u3224.1 ++ (modelC ck mo (encZ S) F1 F2 F3 F4 M ++ (lngC ck oa u3224.2 ++ (dblC ck od E)))) := hD
  refine lv_istore (lv' := [(6, .int r3224), (0, .ref b), (1, .ref (ad 7 0)), (2, .ref (mo 0)), (3, .ref oa), (4, .ref od), (5, .int (zI i))]) hx hb dL_law_3227 hl (by decide) rfl (fun ls hl => ?_)
  refine lv_aload_n hx hb dL_law_3229 rfl (lv_at hl 3 rfl) ?_
  refine x_calliB (ws' := brkU ck ka ad ra u3224.1 ++ (modelC ck mo (encZ (if M 8 1 = 0 then S else (Q (((X 0 + 8) - 1) % 8).toNat))) F1 F2 F3 F4 (upS (upS M 8 1 (itZ (M 8 1 ≠ 0) (M 8 1 - 1))) 8 0 (bI (M 8 1 = 0))) ++ (lngC ck oa u3224.2 ++ (dblC ck od E)))) (M := modelC ck mo (encZ S) F1 F2 F3 F4 M) (M' := modelC ck mo (encZ (if M 8 1 = 0 then S else (Q (((X 0 + 8) - 1) % 8).toNat))) F1 F2 F3 F4 (upS (upS M 8 1 (itZ (M 8 1 ≠ 0) (M 8 1 - 1))) 8 0 (bI (M 8 1 = 0)))) (N := brkU ck ka ad ra u3224.1 ++ (lngC ck oa u3224.2 ++ (dblC ck od E))) (cat_perm [brkU ck ka ad ra u3224.1, modelC ck mo (encZ S) F1 F2 F3 F4 M, lngC ck oa u3224.2, dblC ck od E] [1] [0, 2, 3] 4 rfl (by decide)) (cat_perm [brkU ck ka ad ra u3224.1, modelC ck mo (encZ (if M 8 1 = 0 then S else (Q (((X 0 + 8) - 1) % 8).toNat))) F1 F2 F3 F4 (upS (upS M 8 1 (itZ (M 8 1 ≠ 0) (M 8 1 - 1))) 8 0 (bI (M 8 1 = 0))), lngC ck oa u3224.2, dblC ck od E] [1] [0, 2, 3] 4 rfl (by decide)) hP hD hS hA (fun hPm hDm => va_runV (As := []) (rest := []) ⟨hx, hb, hml, hown, htg⟩ (m_undo l dg ck mo S F1 F2 F3 F4 M (Q (((X 0 + 8) - 1) % 8).toNat)  _ (by omega) (fun q9 => hLI.undoT q9)) (cwV 0 htg (gwV wq_2087 wq_2088 wq_2089 wq_15 wq_2090) rfl rfl rfl (by decide +kernel) ⟨Nat.le_of_ble_eq_true rfl, Nat.le_of_ble_eq_true rfl⟩) (wr_preV hK hPm hDm 0 11 rfl rfl) rfl rfl hl.1 rfl (lv_room (Nat.le_of_ble_eq_true rfl)) dL_law_3230 ⟨by show _ ≤ 603072; omega, by show _ ≤ 7207018; omega⟩) (fun r3230 H locs hr3230 hP hD hS => ?_)
  subst hr3230
  have hP : va_P dg vwCl (brkU ck ka ad ra u3224.1 ++ (modelC ck mo (encZ (if M 8 1 = 0 then S else (Q (((X 0 + 8) - 1) % 8).toNat))) F1 F2 F3 F4 (upS (upS M 8 1 (itZ (M 8 1 ≠ 0) (M 8 1 - 1))) 8 0 (bI (M 8 1 = 0))) ++ (lngC ck oa u3224.2 ++ (dblC ck od E)))) H := hP
  have hD : va_D A (brkU ck ka ad ra u3224.1 ++ (modelC ck mo (encZ (if M 8 1 = 0 then S else (Q (((X 0 + 8) - 1) % 8).toNat))) F1 F2 F3 F4 (upS (upS M 8 1 (itZ (M 8 1 ≠ 0) (M 8 1 - 1))) 8 0 (bI (M 8 1 = 0))) ++ (lngC ck oa u3224.2 ++ (dblC ck od E)))) := hD
  have hcase : ∃ t9 : Int, (upS (upS M 8 1 (itZ (M 8 1 ≠ 0) (M 8 1 - 1))) 8 0 (bI (M 8 1 = 0))) 8 0 = t9 ∧ r3224 = zI t9 ∧ (0 ≤ t9 ∧ t9 ≤ 3) ∧ (t9 = 0 → u3224.2 0 = (zI (itZ (M 8 1 ≠ 0) (M 8 1 - 1))).toInt64) ∧ LI (775 * i + 3100) (u3224.1.1) (u3224.1.2.2.1) (u3224.1.2.2.2.1) (u3224.1.2.2.2.2.1) (u3224.1.2.2.2.2.2.2.1) (u3224.1.2.2.2.2.2.2.2.1) (u3224.1.2.2.2.2.2.2.2.2.2.2.1) (u3224.1.2.2.2.2.2.2.2.2.2.2.2) F2 F3 (upS (upS M 8 1 (itZ (M 8 1 ≠ 0) (M 8 1 - 1))) 8 0 (bI (M 8 1 = 0))) ∧ (if M 8 1 = 0 then S else (Q (((X 0 + 8) - 1) % 8).toNat)) = u3224.1.2.2.2.2.1 := by
    rcases hw with ⟨e1, r1, hp, eu, ev⟩ | ⟨e1, hc, eu⟩
    · obtain ⟨rfl, hok⟩ := hp
      have e9 : itZ (M 8 1 ≠ 0) (M 8 1 - 1) = X 1 - 1 := (by (try unfold itZ); (try unfold bI); (repeat' split) <;> omega)
      rw [e9, if_neg (show ¬ M 8 1 = 0 by omega)]
      refine ⟨0, upS_s.trans (by (try unfold itZ); (try unfold bI); (repeat' split) <;> omega), e1, by decide, fun _ => ev, ?_, (by rw [eu] <;> rfl)⟩
      rw [eu]
      exact (hLI.undo (M' := upS (upS M 8 1 (X 1 - 1)) 8 0 (bI (M 8 1 = 0))) hok ((upS_n (by omega)).trans upS_s) rfl rfl (fun i9 h1 h2 => (upS_n (by omega)).trans (upS_n (by omega)))).mono (by omega) (by omega)
    · have e9 : itZ (M 8 1 ≠ 0) (M 8 1 - 1) = M 8 1 := (by (try unfold itZ); (try unfold bI); (repeat' split) <;> omega)
      rw [e9, if_pos (show M 8 1 = 0 by omega), upS_id rfl]
      refine ⟨1, upS_s.trans (by (try unfold itZ); (try unfold bI); (repeat' split) <;> omega), e1, by decide, fun q => absurd q (by decide), ?_, (by rw [eu] <;> rfl)⟩
      rw [eu]
      exact (hLI.m (mK_0 M _)).mono (by omega) (by omega)
  obtain ⟨t9, ht9, hr9, ht9b, hval, hLI2, hS2⟩ := hcase
  have ht9r : zI ((upS (upS M 8 1 (itZ (M 8 1 ≠ 0) (M 8 1 - 1))) 8 0 (bI (M 8 1 = 0))) 8 0) = r3224 := by rw [ht9, hr9]
  refine lv_istore (lv' := [(7, .int (zI (itZ (M 8 1 ≠ 0) (M 8 1 - 1)))), (6, .int r3224), (0, .ref b), (1, .ref (ad 7 0)), (2, .ref (mo 0)), (3, .ref oa), (4, .ref od), (5, .int (zI i))]) hx hb dL_law_3233 hl (by decide) rfl (fun ls hl => ?_)
  refine lv_aload_n hx hb dL_law_3235 rfl (lv_at hl 4 rfl) ?_
  refine vp_callSi (W.runV (As := []) (rest := []) ⟨hx, hb, hml, hown, htg⟩ (m_thrown l dg ck mo (if M 8 1 = 0 then S else (Q (((X 0 + 8) - 1) % 8).toNat)) F1 F2 F3 F4 (upS (upS M 8 1 (itZ (M 8 1 ≠ 0) (M 8 1 - 1))) 8 0 (bI (M 8 1 = 0)))) (cwV 0 htg (gwV wq_1627 wq_1628 wq_1629 wq_15 wq_1630) rfl rfl rfl (by decide +kernel) ⟨Nat.le_of_ble_eq_true rfl, Nat.le_of_ble_eq_true rfl⟩) (rd_preV hK (va_P_l (va_P_r hP)) 0 11 rfl rfl) rfl rfl hl.1 rfl (lv_room (Nat.le_of_ble_eq_true rfl)) dL_law_3236 ⟨by show _ ≤ 603072; omega, by show _ ≤ 7207018; omega⟩) (fun r3236 hr3236 => ?_)
  subst hr3236
  refine lv_iload hx hb dL_law_3239 (lv_at hl 1 rfl) ?_
  refine lv_icmp_eq (tgt := 3246) hx hb dL_law_3241 (by decide) (fun _ => ?_) (fun c9 => absurd ht9r c9)
  refine lv_iload hx hb dL_law_3246 (lv_at hl 1 rfl) ?_
  refine W.eq (g2 := F0 m 3248 ls [.int (zI t9)]) (by rw [hr9]) ?_
  refine x_if_ne (tgt := 3263) hx hb dL_law_3248 (by decide) (by omega) (fun c9 => ?_) (fun c9 => ?_)
  · refine lv_goto (tgt := 3323) hx hb dL_law_3263 (by decide) ?_
    refine W.widen (k := cells + 3) (n := slots + 18) (by omega) (by omega) ?_
    have hP : va_P dg vwCl (lawW ck ka ad ra mo oa od u3224.1 F1 F2 F3 F4 (upS (upS M 8 1 (itZ (M 8 1 ≠ 0) (M 8 1 - 1))) 8 0 (bI (M 8 1 = 0))) u3224.2 E) H := va_P_eq (by rw [hS2] <;> rfl) hP
    have hD : va_D A (lawW ck ka ad ra mo oa od u3224.1 F1 F2 F3 F4 (upS (upS M 8 1 (itZ (M 8 1 ≠ 0) (M 8 1 - 1))) 8 0 (bI (M 8 1 = 0))) u3224.2 E) := va_D_eq (by rw [hS2] <;> rfl) hD
    exact kk u3224.1 F1 F2 F3 F4 (upS (upS M 8 1 (itZ (M 8 1 ≠ 0) (M 8 1 - 1))) 8 0 (bI (M 8 1 = 0))) u3224.2 E H locs ls hLI2 hP hD hS (lv_sub hl [2, 3, 4, 5, 6, 7] rfl)
  · have hv9 := hval (by omega)
    refine lv_aload_n hx hb dL_law_3251 rfl (lv_at hl 5 rfl) ?_
    refine x_iconst hx hb dL_law_3252 ?_
    refine va_lald hx hb hK hP 175 5 rfl rfl (zI_in (z := 0) (by decide) (by decide)) dL_law_3253 ?_
    refine lv_iload hx hb dL_law_3254 (lv_at hl 0 rfl) ?_
    refine lv_i2l hx hb dL_law_3256 rfl ?_
    refine W.lcmp hx hb dL_law_3257 ?_
    refine W.eq (g2 := F0 m 3258 ls [.int (zI 0)]) (congrArg (fun v9 => F0 m 3258 ls [.int v9]) ((congrArg (fun v9 => lg_cmp v9 _) hv9).trans (lg_self _))) ?_
    refine x_if_eq (tgt := 3263) hx hb dL_law_3258 (by decide) (by omega) (fun _ => ?_) (fun c => absurd rfl c)
    refine lv_goto (tgt := 3323) hx hb dL_law_3263 (by decide) ?_
    refine W.widen (k := cells + 3) (n := slots + 18) (by omega) (by omega) ?_
    have hP : va_P dg vwCl (lawW ck ka ad ra mo oa od u3224.1 F1 F2 F3 F4 (upS (upS M 8 1 (itZ (M 8 1 ≠ 0) (M 8 1 - 1))) 8 0 (bI (M 8 1 = 0))) u3224.2 E) H := va_P_eq (by rw [hS2] <;> rfl) hP
    have hD : va_D A (lawW ck ka ad ra mo oa od u3224.1 F1 F2 F3 F4 (upS (upS M 8 1 (itZ (M 8 1 ≠ 0) (M 8 1 - 1))) 8 0 (bI (M 8 1 = 0))) u3224.2 E) := va_D_eq (by rw [hS2] <;> rfl) hD
    exact kk u3224.1 F1 F2 F3 F4 (upS (upS M 8 1 (itZ (M 8 1 ≠ 0) (M 8 1 - 1))) 8 0 (bI (M 8 1 = 0))) u3224.2 E H locs ls hLI2 hP hD hS (lv_sub hl [2, 3, 4, 5, 6, 7] rfl)

set_option maxHeartbeats 4000000 in
set_option maxRecDepth 100000 in
/-- the law: a call of restoreSnapshot -/
theorem lc_62 {p : Program} {l : Launch} {e : Env} {s : State} {m : MethodId} {below : List Frame} {meth : Method} {c : Code} {dg : va_G} {ck : Nat → ClassId} {ka : Nat → Nat} {b L : Nat} {xs : Nat → Int32} {A : Nat → Prop} {ad ra : Nat → Nat → Nat} {mo : Nat → Nat} {oa od : Nat} {Qf : State → Prop} {i : Int} {cells slots : Nat} (C0 : LX p l s m c dg ck ka b L xs A) (hi : 0 ≤ i ∧ i + 4 ≤ L) (hcell : cells + 3 ≤ 603072) (hslot : slots + 18 ≤ 7207018) (kk : LKK p l e s m below meth c dg ck ka ad ra mo oa od b A Qf i cells slots) {Z O U X : Nat → Int} {S T P I : St} {V N Y : Int → Int} {Q : Nat → St} {F1 F2 F3 F4 : Int → Int} {M : St} {D : Nat → Int64} {E : Nat → UInt64} {H : Heap} {locs : List Loc} {ls : Array Slot} (hLI : LI (775 * i) Z U X S P I Y Q F2 F3 M) (hP : va_P dg vwCl (brkW ck ka ad ra Z O U X S T P I V N Y Q ++ (modelC ck mo (encZ S) F1 F2 F3 F4 M ++ (lngC ck oa D ++ (dblC ck od E)))) H) (hD : va_D A (brkW ck ka ad ra Z O U X S T P I V N Y Q ++ (modelC ck mo (encZ S) F1 F2 F3 F4 M ++ (lngC ck oa D ++ (dblC ck od E))))) (hS : va_S A s.heap H locs) (hl : lv_has ls 9 [(0, .ref b), (1, .ref (ad 7 0)), (2, .ref (mo 0)), (3, .ref oa), (4, .ref od), (5, .int (zI i))]) : W p l e room_1 s m #[Value.ref b] below meth c H locs cells slots Qf (F0 m 3279 ls []) := by
  obtain ⟨hx, hb, hml, hown, htg, hX, hbl, hbA, hK, hC, hA, hst, hL⟩ := id C0
  obtain ⟨hV, hlh, hls, hlt, hlo, hlf⟩ := id hLI
  obtain ⟨hn, hz, hk1, hq10, hhist⟩ := id hlh
  obtain ⟨hk2, hz0, hp10, hsn⟩ := id hls
  obtain ⟨hk3, hln, hk5, htx, hkv⟩ := id hlt
  obtain ⟨hk4, hu0, hy7, hY⟩ := id hlo
  obtain ⟨⟨hk5a, hz4⟩, ⟨hk6, hz1⟩, hk7, hk8⟩ := id hlf
  have hI := hV.bd
  have hs10 : ∀ i, 0 ≤ S 10 i ∧ S 10 i ≤ 1 := hI.2.2.2.2.2.2.2.2.2.2.2.2.2.1
  obtain ⟨x, hv_x⟩ : ∃ v9 : Int, (xs (i + 1).toNat).toInt = v9 := ⟨_, rfl⟩
  have rgx_x := xi_r (xs (i + 1).toNat)
  rw [hv_x] at rgx_x
  obtain ⟨y, hv_y⟩ : ∃ v9 : Int, (xs (i + 2).toNat).toInt = v9 := ⟨_, rfl⟩
  have rgx_y := xi_r (xs (i + 2).toNat)
  rw [hv_y] at rgx_y
  obtain ⟨z, hv_z⟩ : ∃ v9 : Int, (xs (i + 3).toNat).toInt = v9 := ⟨_, rfl⟩
  have rgx_z := xi_r (xs (i + 3).toNat)
  rw [hv_z] at rgx_z
  refine lv_aload_n hx hb dL_law_3279 rfl (lv_at hl 1 rfl) ?_
  refine lv_aload_n hx hb dL_law_3280 rfl (lv_at hl 3 rfl) ?_
  refine x_calliUB (wf := fun u3281 : BU × (Nat → Int64) => brkU ck ka ad ra u3281.1 ++ (modelC ck mo (encZ S) F1 F2 F3 F4 M ++ (lngC ck oa u3281.2 ++ (dblC ck od E)))) (M := brkW ck ka ad ra Z O U X S T P I V N Y Q ++ (lngC ck oa D)) (Mf := fun u3281 => brkU ck ka ad ra u3281.1 ++ (lngC ck oa u3281.2)) (N := modelC ck mo (encZ S) F1 F2 F3 F4 M ++ (dblC ck od E)) (cat_perm [brkW ck ka ad ra Z O U X S T P I V N Y Q, modelC ck mo (encZ S) F1 F2 F3 F4 M, lngC ck oa D, dblC ck od E] [0, 2] [1, 3] 4 rfl (by decide)) (fun u3281 => cat_perm [brkU ck ka ad ra u3281.1, modelC ck mo (encZ S) F1 F2 F3 F4 M, lngC ck oa u3281.2, dblC ck od E] [0, 2] [1, 3] 4 rfl (by decide)) hP hD hS hA (fun hPm hDm => vx_runSW (As := [.ref (ad 7 0), .ref oa]) (rest := []) ⟨hx, hb, hml, hown, htg⟩ (w_restoreSnapshot l dg ck ka ad ra Z O U X S T P I V N Y Q oa D  _ hz0 hp10 hst) (vx_cwSW 2 htg (gwSW wq_1544 wq_1545 wq_0 wqL_restoreSnapshot) rfl rfl rfl (by decide +kernel) ⟨Nat.le_of_ble_eq_true rfl, Nat.le_of_ble_eq_true rfl⟩) (wrK_preS hK hPm hDm hC hS hA) rfl rfl hl.1 rfl (lv_room (Nat.le_of_ble_eq_true rfl)) dL_law_3281 ⟨by show cells + 1 ≤ 603072; omega, by show slots + 6 ≤ 7207018; omega⟩) (fun r3281 u3281 H locs hw hP hD hS => ?_)
  have hP : va_P dg vwCl (brkU ck ka ad ra u3281.1 ++ (modelC ck mo (encZ S) F1 F2 F3 F4 M ++ (lngC ck oa u3281.2 ++ (dblC ck od E)))) H := hP
  have hD : va_D A (brkU ck ka ad ra u3281.1 ++ (modelC ck mo (encZ S) F1 F2 F3 F4 M ++ (lngC ck oa u3281.2 ++ (dblC ck od E)))) := hD
  refine lv_istore (lv' := [(6, .int r3281), (0, .ref b), (1, .ref (ad 7 0)), (2, .ref (mo 0)), (3, .ref oa), (4, .ref od), (5, .int (zI i))]) hx hb dL_law_3284 hl (by decide) rfl (fun ls hl => ?_)
  refine lv_aload_n hx hb dL_law_3286 rfl (lv_at hl 3 rfl) ?_
  refine x_calliB (ws' := brkU ck ka ad ra u3281.1 ++ (modelC ck mo (encZ (if M 8 2 = 0 then S else P)) F1 F2 F3 F4 (upS (upS M 8 1 (if M 8 2 = 0 then M 8 1 else 0)) 8 0 (bI (M 8 2 = 0))) ++ (lngC ck oa u3281.2 ++ (dblC ck od E)))) (M := modelC ck mo (encZ S) F1 F2 F3 F4 M) (M' := modelC ck mo (encZ (if M 8 2 = 0 then S else P)) F1 F2 F3 F4 (upS (upS M 8 1 (if M 8 2 = 0 then M 8 1 else 0)) 8 0 (bI (M 8 2 = 0)))) (N := brkU ck ka ad ra u3281.1 ++ (lngC ck oa u3281.2 ++ (dblC ck od E))) (cat_perm [brkU ck ka ad ra u3281.1, modelC ck mo (encZ S) F1 F2 F3 F4 M, lngC ck oa u3281.2, dblC ck od E] [1] [0, 2, 3] 4 rfl (by decide)) (cat_perm [brkU ck ka ad ra u3281.1, modelC ck mo (encZ (if M 8 2 = 0 then S else P)) F1 F2 F3 F4 (upS (upS M 8 1 (if M 8 2 = 0 then M 8 1 else 0)) 8 0 (bI (M 8 2 = 0))), lngC ck oa u3281.2, dblC ck od E] [1] [0, 2, 3] 4 rfl (by decide)) hP hD hS hA (fun hPm hDm => va_runV (As := []) (rest := []) ⟨hx, hb, hml, hown, htg⟩ (m_restoreSnapshot l dg ck mo S F1 F2 F3 F4 M P  _ (by omega) (fun q9 => (hsn (by omega)).2)) (cwV 0 htg (gwV wq_2095 wq_2096 wq_2097 wq_15 wq_2098) rfl rfl rfl (by decide +kernel) ⟨Nat.le_of_ble_eq_true rfl, Nat.le_of_ble_eq_true rfl⟩) (wr_preV hK hPm hDm 0 11 rfl rfl) rfl rfl hl.1 rfl (lv_room (Nat.le_of_ble_eq_true rfl)) dL_law_3287 ⟨by show _ ≤ 603072; omega, by show _ ≤ 7207018; omega⟩) (fun r3287 H locs hr3287 hP hD hS => ?_)
  subst hr3287
  have hP : va_P dg vwCl (brkU ck ka ad ra u3281.1 ++ (modelC ck mo (encZ (if M 8 2 = 0 then S else P)) F1 F2 F3 F4 (upS (upS M 8 1 (if M 8 2 = 0 then M 8 1 else 0)) 8 0 (bI (M 8 2 = 0))) ++ (lngC ck oa u3281.2 ++ (dblC ck od E)))) H := hP
  have hD : va_D A (brkU ck ka ad ra u3281.1 ++ (modelC ck mo (encZ (if M 8 2 = 0 then S else P)) F1 F2 F3 F4 (upS (upS M 8 1 (if M 8 2 = 0 then M 8 1 else 0)) 8 0 (bI (M 8 2 = 0))) ++ (lngC ck oa u3281.2 ++ (dblC ck od E)))) := hD
  have hcase : ∃ t9 : Int, (upS (upS M 8 1 (if M 8 2 = 0 then M 8 1 else 0)) 8 0 (bI (M 8 2 = 0))) 8 0 = t9 ∧ r3281 = zI t9 ∧ (0 ≤ t9 ∧ t9 ≤ 3) ∧ (t9 = 0 → u3281.2 0 = (zI (itZ (M 8 2 ≠ 0) (P 0 0))).toInt64) ∧ LI (775 * i + 3100) (u3281.1.1) (u3281.1.2.2.1) (u3281.1.2.2.2.1) (u3281.1.2.2.2.2.1) (u3281.1.2.2.2.2.2.2.1) (u3281.1.2.2.2.2.2.2.2.1) (u3281.1.2.2.2.2.2.2.2.2.2.2.1) (u3281.1.2.2.2.2.2.2.2.2.2.2.2) F2 F3 (upS (upS M 8 1 (if M 8 2 = 0 then M 8 1 else 0)) 8 0 (bI (M 8 2 = 0))) ∧ (if M 8 2 = 0 then S else P) = u3281.1.2.2.2.2.1 := by
    rcases hw with ⟨e1, r1, hp, eu, ev⟩ | ⟨e1, hc, eu⟩
    · obtain ⟨rfl, hok⟩ := hp
      have e9 : itZ (M 8 2 ≠ 0) (P 0 0) = P 0 0 := (by (try unfold itZ); (try unfold bI); (repeat' split) <;> omega)
      have e8 : (if M 8 2 = 0 then S else P) = P := if_neg (by omega)
      have e7 : (if M 8 2 = 0 then M 8 1 else 0) = 0 := if_neg (by omega)
      rw [e9, e8, e7]
      refine ⟨0, upS_s.trans (by (try unfold itZ); (try unfold bI); (repeat' split) <;> omega), e1, by decide, fun _ => ev, ?_, (by rw [eu] <;> rfl)⟩
      rw [eu]
      exact (hLI.restore (M' := upS (upS M 8 1 0) 8 0 (bI (M 8 2 = 0))) hok ((upS_n (by omega)).trans upS_s) rfl rfl (fun i9 h1 h2 => (upS_n (by omega)).trans (upS_n (by omega)))).mono (by omega) (by omega)
    · have e8 : (if M 8 2 = 0 then S else P) = S := if_pos (by omega)
      have e7 : (if M 8 2 = 0 then M 8 1 else 0) = M 8 1 := if_pos (by omega)
      rw [e8, e7, upS_id rfl]
      refine ⟨1, upS_s.trans (by (try unfold itZ); (try unfold bI); (repeat' split) <;> omega), e1, by decide, fun q => absurd q (by decide), ?_, (by rw [eu] <;> rfl)⟩
      rw [eu]
      exact (hLI.m (mK_0 M _)).mono (by omega) (by omega)
  obtain ⟨t9, ht9, hr9, ht9b, hval, hLI2, hS2⟩ := hcase
  have ht9r : zI ((upS (upS M 8 1 (if M 8 2 = 0 then M 8 1 else 0)) 8 0 (bI (M 8 2 = 0))) 8 0) = r3281 := by rw [ht9, hr9]
  refine lv_istore (lv' := [(7, .int (zI (itZ (M 8 2 ≠ 0) (P 0 0)))), (6, .int r3281), (0, .ref b), (1, .ref (ad 7 0)), (2, .ref (mo 0)), (3, .ref oa), (4, .ref od), (5, .int (zI i))]) hx hb dL_law_3290 hl (by decide) rfl (fun ls hl => ?_)
  refine lv_aload_n hx hb dL_law_3292 rfl (lv_at hl 4 rfl) ?_
  refine vp_callSi (W.runV (As := []) (rest := []) ⟨hx, hb, hml, hown, htg⟩ (m_thrown l dg ck mo (if M 8 2 = 0 then S else P) F1 F2 F3 F4 (upS (upS M 8 1 (if M 8 2 = 0 then M 8 1 else 0)) 8 0 (bI (M 8 2 = 0)))) (cwV 0 htg (gwV wq_1627 wq_1628 wq_1629 wq_15 wq_1630) rfl rfl rfl (by decide +kernel) ⟨Nat.le_of_ble_eq_true rfl, Nat.le_of_ble_eq_true rfl⟩) (rd_preV hK (va_P_l (va_P_r hP)) 0 11 rfl rfl) rfl rfl hl.1 rfl (lv_room (Nat.le_of_ble_eq_true rfl)) dL_law_3293 ⟨by show _ ≤ 603072; omega, by show _ ≤ 7207018; omega⟩) (fun r3293 hr3293 => ?_)
  subst hr3293
  refine lv_iload hx hb dL_law_3296 (lv_at hl 1 rfl) ?_
  refine lv_icmp_eq (tgt := 3303) hx hb dL_law_3298 (by decide) (fun _ => ?_) (fun c9 => absurd ht9r c9)
  refine lv_iload hx hb dL_law_3303 (lv_at hl 1 rfl) ?_
  refine W.eq (g2 := F0 m 3305 ls [.int (zI t9)]) (by rw [hr9]) ?_
  refine x_if_ne (tgt := 3320) hx hb dL_law_3305 (by decide) (by omega) (fun c9 => ?_) (fun c9 => ?_)
  · refine lv_goto (tgt := 3323) hx hb dL_law_3320 (by decide) ?_
    refine W.widen (k := cells + 3) (n := slots + 18) (by omega) (by omega) ?_
    have hP : va_P dg vwCl (lawW ck ka ad ra mo oa od u3281.1 F1 F2 F3 F4 (upS (upS M 8 1 (if M 8 2 = 0 then M 8 1 else 0)) 8 0 (bI (M 8 2 = 0))) u3281.2 E) H := va_P_eq (by rw [hS2] <;> rfl) hP
    have hD : va_D A (lawW ck ka ad ra mo oa od u3281.1 F1 F2 F3 F4 (upS (upS M 8 1 (if M 8 2 = 0 then M 8 1 else 0)) 8 0 (bI (M 8 2 = 0))) u3281.2 E) := va_D_eq (by rw [hS2] <;> rfl) hD
    exact kk u3281.1 F1 F2 F3 F4 (upS (upS M 8 1 (if M 8 2 = 0 then M 8 1 else 0)) 8 0 (bI (M 8 2 = 0))) u3281.2 E H locs ls hLI2 hP hD hS (lv_sub hl [2, 3, 4, 5, 6, 7] rfl)
  · have hv9 := hval (by omega)
    refine lv_aload_n hx hb dL_law_3308 rfl (lv_at hl 5 rfl) ?_
    refine x_iconst hx hb dL_law_3309 ?_
    refine va_lald hx hb hK hP 175 5 rfl rfl (zI_in (z := 0) (by decide) (by decide)) dL_law_3310 ?_
    refine lv_iload hx hb dL_law_3311 (lv_at hl 0 rfl) ?_
    refine lv_i2l hx hb dL_law_3313 rfl ?_
    refine W.lcmp hx hb dL_law_3314 ?_
    refine W.eq (g2 := F0 m 3315 ls [.int (zI 0)]) (congrArg (fun v9 => F0 m 3315 ls [.int v9]) ((congrArg (fun v9 => lg_cmp v9 _) hv9).trans (lg_self _))) ?_
    refine x_if_eq (tgt := 3320) hx hb dL_law_3315 (by decide) (by omega) (fun _ => ?_) (fun c => absurd rfl c)
    refine lv_goto (tgt := 3323) hx hb dL_law_3320 (by decide) ?_
    refine W.widen (k := cells + 3) (n := slots + 18) (by omega) (by omega) ?_
    have hP : va_P dg vwCl (lawW ck ka ad ra mo oa od u3281.1 F1 F2 F3 F4 (upS (upS M 8 1 (if M 8 2 = 0 then M 8 1 else 0)) 8 0 (bI (M 8 2 = 0))) u3281.2 E) H := va_P_eq (by rw [hS2] <;> rfl) hP
    have hD : va_D A (lawW ck ka ad ra mo oa od u3281.1 F1 F2 F3 F4 (upS (upS M 8 1 (if M 8 2 = 0 then M 8 1 else 0)) 8 0 (bI (M 8 2 = 0))) u3281.2 E) := va_D_eq (by rw [hS2] <;> rfl) hD
    exact kk u3281.1 F1 F2 F3 F4 (upS (upS M 8 1 (if M 8 2 = 0 then M 8 1 else 0)) 8 0 (bI (M 8 2 = 0))) u3281.2 E H locs ls hLI2 hP hD hS (lv_sub hl [2, 3, 4, 5, 6, 7] rfl)
