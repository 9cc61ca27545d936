/-! the law: calls that ask and may throw -/

set_option maxHeartbeats 4000000 in
set_option maxRecDepth 100000 in
/-- the law: a call of rowOf -/
theorem lc_7 {p : Program} {l : Launch} {e : Env} {s : State} {m : MethodId} {below : List Frame} {meth : Method} {c : Code} {dg : va_G} {ck : Nat → ClassId} {ka : Nat → Nat} {b L : Nat} {xs : Nat → Int32} {A : Nat → Prop} {ad ra : Nat → Nat → Nat} {mo : Nat → Nat} {oa od : Nat} {Qf : State → Prop} {i : Int} {cells slots : Nat} (C0 : LX p l s m c dg ck ka b L xs A) (hi : 0 ≤ i ∧ i + 4 ≤ L) (hcell : cells + 3 ≤ 603072) (hslot : slots + 18 ≤ 7207018) (kk : LKK p l e s m below meth c dg ck ka ad ra mo oa od b A Qf i cells slots) {Z O U X : Nat → Int} {S T P I : St} {V N Y : Int → Int} {Q : Nat → St} {F1 F2 F3 F4 : Int → Int} {M : St} {D : Nat → Int64} {E : Nat → UInt64} {H : Heap} {locs : List Loc} {ls : Array Slot} (hLI : LI (775 * i) Z U X S P I Y Q F2 F3 M) (hP : va_P dg vwCl (brkW ck ka ad ra Z O U X S T P I V N Y Q ++ (modelC ck mo (encZ S) F1 F2 F3 F4 M ++ (lngC ck oa D ++ (dblC ck od E)))) H) (hD : va_D A (brkW ck ka ad ra Z O U X S T P I V N Y Q ++ (modelC ck mo (encZ S) F1 F2 F3 F4 M ++ (lngC ck oa D ++ (dblC ck od E))))) (hS : va_S A s.heap H locs) (hl : lv_has ls 9 [(0, .ref b), (1, .ref (ad 7 0)), (2, .ref (mo 0)), (3, .ref oa), (4, .ref od), (5, .int (zI i))]) : W p l e room_1 s m #[Value.ref b] below meth c H locs cells slots Qf (F0 m 740 ls []) := by
  obtain ⟨hx, hb, hml, hown, htg, hX, hbl, hbA, hK, hC, hA, hst, hL⟩ := id C0
  obtain ⟨hV, hlh, hls, hlt, hlo, hlf⟩ := id hLI
  obtain ⟨hn, hz, hk1, hq10, hhist⟩ := id hlh
  obtain ⟨hk2, hz0, hp10, hsn⟩ := id hls
  obtain ⟨hk3, hln, hk5, htx, hkv⟩ := id hlt
  obtain ⟨hk4, hu0, hy7, hY⟩ := id hlo
  obtain ⟨⟨hk5a, hz4⟩, ⟨hk6, hz1⟩, hk7, hk8⟩ := id hlf
  have hI := hV.bd
  have hs10 : ∀ i, 0 ≤ S 10 i ∧ S 10 i ≤ 1 := hI.2.2.2.2.2.2.2.2.2.2.2.2.2.1
  obtain ⟨x, hv_x⟩ : ∃ v9 : Int, (xs (i + 1).toNat).toInt = v9 := ⟨_, rfl⟩
  have rgx_x := xi_r (xs (i + 1).toNat)
  rw [hv_x] at rgx_x
  obtain ⟨y, hv_y⟩ : ∃ v9 : Int, (xs (i + 2).toNat).toInt = v9 := ⟨_, rfl⟩
  have rgx_y := xi_r (xs (i + 2).toNat)
  rw [hv_y] at rgx_y
  obtain ⟨z, hv_z⟩ : ∃ v9 : Int, (xs (i + 3).toNat).toInt = v9 := ⟨_, rfl⟩
  have rgx_z := xi_r (xs (i + 3).toNat)
  rw [hv_z] at rgx_z
  refine lv_aload_n hx hb dL_law_740 rfl (lv_at hl 1 rfl) ?_
  refine lv_aload_n hx hb dL_law_741 rfl (lv_at hl 0 rfl) ?_
  refine lv_iload hx hb dL_law_742 (lv_at hl 5 rfl) ?_
  refine x_iconst hx hb dL_law_744 ?_
  refine x_iadd hx hb dL_law_745 ?_
  refine x_sld hx hb hX hbl hbA hS (by omega) (by omega) hv_x dL_law_746 ?_
  refine lv_aload_n hx hb dL_law_747 rfl (lv_at hl 3 rfl) ?_
  refine x_calliUB (wf := fun u748 : BU × (Nat → Int64) => brkU ck ka ad ra u748.1 ++ (modelC ck mo (encZ S) F1 F2 F3 F4 M ++ (lngC ck oa u748.2 ++ (dblC ck od E)))) (M := brkW ck ka ad ra Z O U X S T P I V N Y Q ++ (lngC ck oa D)) (Mf := fun u748 => brkU ck ka ad ra u748.1 ++ (lngC ck oa u748.2)) (N := modelC ck mo (encZ S) F1 F2 F3 F4 M ++ (dblC ck od E)) (cat_perm [brkW ck ka ad ra Z O U X S T P I V N Y Q, modelC ck mo (encZ S) F1 F2 F3 F4 M, lngC ck oa D, dblC ck od E] [0, 2] [1, 3] 4 rfl (by decide)) (fun u748 => cat_perm [brkU ck ka ad ra u748.1, modelC ck mo (encZ S) F1 F2 F3 F4 M, lngC ck oa u748.2, dblC ck od E] [0, 2] [1, 3] 4 rfl (by decide)) hP hD hS hA (fun hPm hDm => vx_runSW (As := [.ref (ad 7 0), .int (zI x), .ref oa]) (rest := []) ⟨hx, hb, hml, hown, htg⟩ (w_rowOf l dg ck ka ad ra Z O U X S T P I V N Y Q oa D x _ hI (by omega) hst) (vx_cwSW 3 htg (gwSW wq_755 wq_756 wq_0 wqL_rowOf) rfl rfl rfl (by decide +kernel) ⟨Nat.le_of_ble_eq_true rfl, Nat.le_of_ble_eq_true rfl⟩) (wrK_preS hK hPm hDm hC hS hA) rfl rfl hl.1 rfl (lv_room (Nat.le_of_ble_eq_true rfl)) dL_law_748 ⟨by show cells + 1 ≤ 603072; omega, by show slots + 6 ≤ 7207018; omega⟩) (fun r748 u748 H locs hw hP hD hS => ?_)
  have hP : va_P dg vwCl (brkU ck ka ad ra u748.1 ++ (modelC ck mo (encZ S) F1 F2 F3 F4 M ++ (lngC ck oa u748.2 ++ (dblC ck od E)))) H := hP
  have hD : va_D A (brkU ck ka ad ra u748.1 ++ (modelC ck mo (encZ S) F1 F2 F3 F4 M ++ (lngC ck oa u748.2 ++ (dblC ck od E)))) := hD
  refine lv_istore (lv' := [(6, .int r748), (0, .ref b), (1, .ref (ad 7 0)), (2, .ref (mo 0)), (3, .ref oa), (4, .ref od), (5, .int (zI i))]) hx hb dL_law_751 hl (by decide) rfl (fun ls hl => ?_)
  refine lv_aload_n hx hb dL_law_753 rfl (lv_at hl 3 rfl) ?_
  refine lv_aload_n hx hb dL_law_754 rfl (lv_at hl 1 rfl) ?_
  refine lv_iload hx hb dL_law_755 (lv_at hl 6 rfl) ?_
  refine x_iconst hx hb dL_law_757 ?_
  refine x_iadd hx hb dL_law_758 ?_
  refine x_sld hx hb hX hbl hbA hS (by omega) (by omega) hv_x dL_law_759 ?_
  refine x_calliB (ws' := brkU ck ka ad ra u748.1 ++ (modelC ck mo (encZ S) F1 F2 F3 F4 (upS M 8 0 (1 - bI (isBench S x))) ++ (lngC ck oa u748.2 ++ (dblC ck od E)))) (M := modelC ck mo (encZ S) F1 F2 F3 F4 M) (M' := modelC ck mo (encZ S) F1 F2 F3 F4 (upS M 8 0 (1 - bI (isBench S x)))) (N := brkU ck ka ad ra u748.1 ++ (lngC ck oa u748.2 ++ (dblC ck od E))) (cat_perm [brkU ck ka ad ra u748.1, modelC ck mo (encZ S) F1 F2 F3 F4 M, lngC ck oa u748.2, dblC ck od E] [1] [0, 2, 3] 4 rfl (by decide)) (cat_perm [brkU ck ka ad ra u748.1, modelC ck mo (encZ S) F1 F2 F3 F4 (upS M 8 0 (1 - bI (isBench S x))), lngC ck oa u748.2, dblC ck od E] [1] [0, 2, 3] 4 rfl (by decide)) hP hD hS hA (fun hPm hDm => va_runV (As := [.int (zI x)]) (rest := []) ⟨hx, hb, hml, hown, htg⟩ (m_rowOf l dg ck mo S F1 F2 F3 F4 M x _ hI (by omega)) (cwV 1 htg (gwV wq_1733 wq_1734 wq_1735 wq_15 wq_1736) rfl rfl rfl (by decide +kernel) ⟨Nat.le_of_ble_eq_true rfl, Nat.le_of_ble_eq_true rfl⟩) (wr_preV hK hPm hDm 0 11 rfl rfl) rfl rfl hl.1 rfl (lv_room (Nat.le_of_ble_eq_true rfl)) dL_law_760 ⟨by show _ ≤ 603072; omega, by show _ ≤ 7207018; omega⟩) (fun r760 H locs hr760 hP hD hS => ?_)
  subst hr760
  have hP : va_P dg vwCl (brkU ck ka ad ra u748.1 ++ (modelC ck mo (encZ S) F1 F2 F3 F4 (upS M 8 0 (1 - bI (isBench S x))) ++ (lngC ck oa u748.2 ++ (dblC ck od E)))) H := hP
  have hD : va_D A (brkU ck ka ad ra u748.1 ++ (modelC ck mo (encZ S) F1 F2 F3 F4 (upS M 8 0 (1 - bI (isBench S x))) ++ (lngC ck oa u748.2 ++ (dblC ck od E)))) := hD
  have hcase : ∃ t9 : Int, (upS M 8 0 (1 - bI (isBench S x))) 8 0 = t9 ∧ r748 = zI t9 ∧ (0 ≤ t9 ∧ t9 ≤ 3) ∧ (t9 = 0 → u748.2 0 = (zI (itZ (isBench S x) (S 1 x))).toInt64) ∧ LI (775 * i + 3100) (u748.1.1) (u748.1.2.2.1) (u748.1.2.2.2.1) (u748.1.2.2.2.2.1) (u748.1.2.2.2.2.2.2.1) (u748.1.2.2.2.2.2.2.2.1) (u748.1.2.2.2.2.2.2.2.2.2.2.1) (u748.1.2.2.2.2.2.2.2.2.2.2.2) F2 F3 (upS M 8 0 (1 - bI (isBench S x))) ∧ S = u748.1.2.2.2.2.1 := by
    rcases hw with ⟨e1, r1, hp, eu, ev⟩ | ⟨e1, hc, eu⟩
    · obtain ⟨rfl, hok⟩ := hp
      refine ⟨0, upS_s.trans (by (try unfold itZ); (try unfold bI); (repeat' split) <;> omega), e1, by decide, fun _ => ev.trans (congrArg (fun v9 : Int => (zI v9).toInt64) (by (try unfold itZ); (try unfold bI); (repeat' split) <;> omega)), ?_, (by rw [eu] <;> rfl)⟩
      rw [eu]
      exact (hLI.m (mK_0 M _)).mono (by omega) (by omega)
    · refine ⟨1, upS_s.trans (by (try unfold itZ); (try unfold bI); (repeat' split) <;> omega), e1, by decide, fun q => absurd q (by decide), ?_, (by rw [eu] <;> rfl)⟩
      rw [eu]
      exact (hLI.m (mK_0 M _)).mono (by omega) (by omega)
  obtain ⟨t9, ht9, hr9, ht9b, hval, hLI2, hS2⟩ := hcase
  have ht9r : zI ((upS M 8 0 (1 - bI (isBench S x))) 8 0) = r748 := by rw [ht9, hr9]
  refine lv_istore (lv' := [(7, .int (zI (itZ (isBench S x) (S 1 x)))), (6, .int r748), (0, .ref b), (1, .ref (ad 7 0)), (2, .ref (mo 0)), (3, .ref oa), (4, .ref od), (5, .int (zI i))]) hx hb dL_law_763 hl (by decide) rfl (fun ls hl => ?_)
  refine lv_aload_n hx hb dL_law_765 rfl (lv_at hl 4 rfl) ?_
  refine vp_callSi (W.runV (As := []) (rest := []) ⟨hx, hb, hml, hown, htg⟩ (m_thrown l dg ck mo S F1 F2 F3 F4 (upS M 8 0 (1 - bI (isBench S x)))) (cwV 0 htg (gwV wq_1627 wq_1628 wq_1629 wq_15 wq_1630) rfl rfl rfl (by decide +kernel) ⟨Nat.le_of_ble_eq_true rfl, Nat.le_of_ble_eq_true rfl⟩) (rd_preV hK (va_P_l (va_P_r hP)) 0 11 rfl rfl) rfl rfl hl.1 rfl (lv_room (Nat.le_of_ble_eq_true rfl)) dL_law_766 ⟨by show _ ≤ 603072; omega, by show _ ≤ 7207018; omega⟩) (fun r766 hr766 => ?_)
  subst hr766
  refine lv_iload hx hb dL_law_769 (lv_at hl 1 rfl) ?_
  refine lv_icmp_eq (tgt := 776) hx hb dL_law_771 (by decide) (fun _ => ?_) (fun c9 => absurd ht9r c9)
  refine lv_iload hx hb dL_law_776 (lv_at hl 1 rfl) ?_
  refine W.eq (g2 := F0 m 778 ls [.int (zI t9)]) (by rw [hr9]) ?_
  refine x_if_ne (tgt := 793) hx hb dL_law_778 (by decide) (by omega) (fun c9 => ?_) (fun c9 => ?_)
  · refine lv_goto (tgt := 3323) hx hb dL_law_793 (by decide) ?_
    refine W.widen (k := cells + 3) (n := slots + 18) (by omega) (by omega) ?_
    have hP : va_P dg vwCl (lawW ck ka ad ra mo oa od u748.1 F1 F2 F3 F4 (upS M 8 0 (1 - bI (isBench S x))) u748.2 E) H := va_P_eq (by rw [hS2] <;> rfl) hP
    have hD : va_D A (lawW ck ka ad ra mo oa od u748.1 F1 F2 F3 F4 (upS M 8 0 (1 - bI (isBench S x))) u748.2 E) := va_D_eq (by rw [hS2] <;> rfl) hD
    exact kk u748.1 F1 F2 F3 F4 (upS M 8 0 (1 - bI (isBench S x))) u748.2 E H locs ls hLI2 hP hD hS (lv_sub hl [2, 3, 4, 5, 6, 7] rfl)
  · have hv9 := hval (by omega)
    refine lv_aload_n hx hb dL_law_781 rfl (lv_at hl 5 rfl) ?_
    refine x_iconst hx hb dL_law_782 ?_
    refine va_lald hx hb hK hP 175 5 rfl rfl (zI_in (z := 0) (by decide) (by decide)) dL_law_783 ?_
    refine lv_iload hx hb dL_law_784 (lv_at hl 0 rfl) ?_
    refine lv_i2l hx hb dL_law_786 rfl ?_
    refine W.lcmp hx hb dL_law_787 ?_
    refine W.eq (g2 := F0 m 788 ls [.int (zI 0)]) (congrArg (fun v9 => F0 m 788 ls [.int v9]) ((congrArg (fun v9 => lg_cmp v9 _) hv9).trans (lg_self _))) ?_
    refine x_if_eq (tgt := 793) hx hb dL_law_788 (by decide) (by omega) (fun _ => ?_) (fun c => absurd rfl c)
    refine lv_goto (tgt := 3323) hx hb dL_law_793 (by decide) ?_
    refine W.widen (k := cells + 3) (n := slots + 18) (by omega) (by omega) ?_
    have hP : va_P dg vwCl (lawW ck ka ad ra mo oa od u748.1 F1 F2 F3 F4 (upS M 8 0 (1 - bI (isBench S x))) u748.2 E) H := va_P_eq (by rw [hS2] <;> rfl) hP
    have hD : va_D A (lawW ck ka ad ra mo oa od u748.1 F1 F2 F3 F4 (upS M 8 0 (1 - bI (isBench S x))) u748.2 E) := va_D_eq (by rw [hS2] <;> rfl) hD
    exact kk u748.1 F1 F2 F3 F4 (upS M 8 0 (1 - bI (isBench S x))) u748.2 E H locs ls hLI2 hP hD hS (lv_sub hl [2, 3, 4, 5, 6, 7] rfl)

set_option maxHeartbeats 4000000 in
set_option maxRecDepth 100000 in
/-- the law: a call of columnOf -/
theorem lc_8 {p : Program} {l : Launch} {e : Env} {s : State} {m : MethodId} {below : List Frame} {meth : Method} {c : Code} {dg : va_G} {ck : Nat → ClassId} {ka : Nat → Nat} {b L : Nat} {xs : Nat → Int32} {A : Nat → Prop} {ad ra : Nat → Nat → Nat} {mo : Nat → Nat} {oa od : Nat} {Qf : State → Prop} {i : Int} {cells slots : Nat} (C0 : LX p l s m c dg ck ka b L xs A) (hi : 0 ≤ i ∧ i + 4 ≤ L) (hcell : cells + 3 ≤ 603072) (hslot : slots + 18 ≤ 7207018) (kk : LKK p l e s m below meth c dg ck ka ad ra mo oa od b A Qf i cells slots) {Z O U X : Nat → Int} {S T P I : St} {V N Y : Int → Int} {Q : Nat → St} {F1 F2 F3 F4 : Int → Int} {M : St} {D : Nat → Int64} {E : Nat → UInt64} {H : Heap} {locs : List Loc} {ls : Array Slot} (hLI : LI (775 * i) Z U X S P I Y Q F2 F3 M) (hP : va_P dg vwCl (brkW ck ka ad ra Z O U X S T P I V N Y Q ++ (modelC ck mo (encZ S) F1 F2 F3 F4 M ++ (lngC ck oa D ++ (dblC ck od E)))) H) (hD : va_D A (brkW ck ka ad ra Z O U X S T P I V N Y Q ++ (modelC ck mo (encZ S) F1 F2 F3 F4 M ++ (lngC ck oa D ++ (dblC ck od E))))) (hS : va_S A s.heap H locs) (hl : lv_has ls 9 [(0, .ref b), (1, .ref (ad 7 0)), (2, .ref (mo 0)), (3, .ref oa), (4, .ref od), (5, .int (zI i))]) : W p l e room_1 s m #[Value.ref b] below meth c H locs cells slots Qf (F0 m 796 ls []) := by
  obtain ⟨hx, hb, hml, hown, htg, hX, hbl, hbA, hK, hC, hA, hst, hL⟩ := id C0
  obtain ⟨hV, hlh, hls, hlt, hlo, hlf⟩ := id hLI
  obtain ⟨hn, hz, hk1, hq10, hhist⟩ := id hlh
  obtain ⟨hk2, hz0, hp10, hsn⟩ := id hls
  obtain ⟨hk3, hln, hk5, htx, hkv⟩ := id hlt
  obtain ⟨hk4, hu0, hy7, hY⟩ := id hlo
  obtain ⟨⟨hk5a, hz4⟩, ⟨hk6, hz1⟩, hk7, hk8⟩ := id hlf
  have hI := hV.bd
  have hs10 : ∀ i, 0 ≤ S 10 i ∧ S 10 i ≤ 1 := hI.2.2.2.2.2.2.2.2.2.2.2.2.2.1
  obtain ⟨x, hv_x⟩ : ∃ v9 : Int, (xs (i + 1).toNat).toInt = v9 := ⟨_, rfl⟩
  have rgx_x := xi_r (xs (i + 1).toNat)
  rw [hv_x] at rgx_x
  obtain ⟨y, hv_y⟩ : ∃ v9 : Int, (xs (i + 2).toNat).toInt = v9 := ⟨_, rfl⟩
  have rgx_y := xi_r (xs (i + 2).toNat)
  rw [hv_y] at rgx_y
  obtain ⟨z, hv_z⟩ : ∃ v9 : Int, (xs (i + 3).toNat).toInt = v9 := ⟨_, rfl⟩
  have rgx_z := xi_r (xs (i + 3).toNat)
  rw [hv_z] at rgx_z
  refine lv_aload_n hx hb dL_law_796 rfl (lv_at hl 1 rfl) ?_
  refine lv_aload_n hx hb dL_law_797 rfl (lv_at hl 0 rfl) ?_
  refine lv_iload hx hb dL_law_798 (lv_at hl 5 rfl) ?_
  refine x_iconst hx hb dL_law_800 ?_
  refine x_iadd hx hb dL_law_801 ?_
  refine x_sld hx hb hX hbl hbA hS (by omega) (by omega) hv_x dL_law_802 ?_
  refine lv_aload_n hx hb dL_law_803 rfl (lv_at hl 3 rfl) ?_
  refine x_calliUB (wf := fun u804 : BU × (Nat → Int64) => brkU ck ka ad ra u804.1 ++ (modelC ck mo (encZ S) F1 F2 F3 F4 M ++ (lngC ck oa u804.2 ++ (dblC ck od E)))) (M := brkW ck ka ad ra Z O U X S T P I V N Y Q ++ (lngC ck oa D)) (Mf := fun u804 => brkU ck ka ad ra u804.1 ++ (lngC ck oa u804.2)) (N := modelC ck mo (encZ S) F1 F2 F3 F4 M ++ (dblC ck od E)) (cat_perm [brkW ck ka ad ra Z O U X S T P I V N Y Q, modelC ck mo (encZ S) F1 F2 F3 F4 M, lngC ck oa D, dblC ck od E] [0, 2] [1, 3] 4 rfl (by decide)) (fun u804 => cat_perm [brkU ck ka ad ra u804.1, modelC ck mo (encZ S) F1 F2 F3 F4 M, lngC ck oa u804.2, dblC ck od E] [0, 2] [1, 3] 4 rfl (by decide)) hP hD hS hA (fun hPm hDm => vx_runSW (As := [.ref (ad 7 0), .int (zI x), .ref oa]) (rest := []) ⟨hx, hb, hml, hown, htg⟩ (w_columnOf l dg ck ka ad ra Z O U X S T P I V N Y Q oa D x _ hI (by omega) hst) (vx_cwSW 3 htg (gwSW wq_767 wq_768 wq_0 wqL_columnOf) rfl rfl rfl (by decide +kernel) ⟨Nat.le_of_ble_eq_true rfl, Nat.le_of_ble_eq_true rfl⟩) (wrK_preS hK hPm hDm hC hS hA) rfl rfl hl.1 rfl (lv_room (Nat.le_of_ble_eq_true rfl)) dL_law_804 ⟨by show cells + 1 ≤ 603072; omega, by show slots + 6 ≤ 7207018; omega⟩) (fun r804 u804 H locs hw hP hD hS => ?_)
  have hP : va_P dg vwCl (brkU ck ka ad ra u804.1 ++ (modelC ck mo (encZ S) F1 F2 F3 F4 M ++ (lngC ck oa u804.2 ++ (dblC ck od E)))) H := hP
  have hD : va_D A (brkU ck ka ad ra u804.1 ++ (modelC ck mo (encZ S) F1 F2 F3 F4 M ++ (lngC ck oa u804.2 ++ (dblC ck od E)))) := hD
  refine lv_istore (lv' := [(6, .int r804), (0, .ref b), (1, .ref (ad 7 0)), (2, .ref (mo 0)), (3, .ref oa), (4, .ref od), (5, .int (zI i))]) hx hb dL_law_807 hl (by decide) rfl (fun ls hl => ?_)
  refine lv_aload_n hx hb dL_law_809 rfl (lv_at hl 3 rfl) ?_
  refine lv_aload_n hx hb dL_law_810 rfl (lv_at hl 1 rfl) ?_
  refine lv_iload hx hb dL_law_811 (lv_at hl 6 rfl) ?_
  refine x_iconst hx hb dL_law_813 ?_
  refine x_iadd hx hb dL_law_814 ?_
  refine x_sld hx hb hX hbl hbA hS (by omega) (by omega) hv_x dL_law_815 ?_
  refine x_calliB (ws' := brkU ck ka ad ra u804.1 ++ (modelC ck mo (encZ S) F1 F2 F3 F4 (upS M 8 0 (1 - bI (isBench S x))) ++ (lngC ck oa u804.2 ++ (dblC ck od E)))) (M := modelC ck mo (encZ S) F1 F2 F3 F4 M) (M' := modelC ck mo (encZ S) F1 F2 F3 F4 (upS M 8 0 (1 - bI (isBench S x)))) (N := brkU ck ka ad ra u804.1 ++ (lngC ck oa u804.2 ++ (dblC ck od E))) (cat_perm [brkU ck ka ad ra u804.1, modelC ck mo (encZ S) F1 F2 F3 F4 M, lngC ck oa u804.2, dblC ck od E] [1] [0, 2, 3] 4 rfl (by decide)) (cat_perm [brkU ck ka ad ra u804.1, modelC ck mo (encZ S) F1 F2 F3 F4 (upS M 8 0 (1 - bI (isBench S x))), lngC ck oa u804.2, dblC ck od E] [1] [0, 2, 3] 4 rfl (by decide)) hP hD hS hA (fun hPm hDm => va_runV (As := [.int (zI x)]) (rest := []) ⟨hx, hb, hml, hown, htg⟩ (m_columnOf l dg ck mo S F1 F2 F3 F4 M x _ hI (by omega)) (cwV 1 htg (gwV wq_1741 wq_1742 wq_1743 wq_15 wq_1744) rfl rfl rfl (by decide +kernel) ⟨Nat.le_of_ble_eq_true rfl, Nat.le_of_ble_eq_true rfl⟩) (wr_preV hK hPm hDm 0 11 rfl rfl) rfl rfl hl.1 rfl (lv_room (Nat.le_of_ble_eq_true rfl)) dL_law_816 ⟨by show _ ≤ 603072; omega, by show _ ≤ 7207018; omega⟩) (fun r816 H locs hr816 hP hD hS => ?_)
  subst hr816
  have hP : va_P dg vwCl (brkU ck ka ad ra u804.1 ++ (modelC ck mo (encZ S) F1 F2 F3 F4 (upS M 8 0 (1 - bI (isBench S x))) ++ (lngC ck oa u804.2 ++ (dblC ck od E)))) H := hP
  have hD : va_D A (brkU ck ka ad ra u804.1 ++ (modelC ck mo (encZ S) F1 F2 F3 F4 (upS M 8 0 (1 - bI (isBench S x))) ++ (lngC ck oa u804.2 ++ (dblC ck od E)))) := hD
  have hcase : ∃ t9 : Int, (upS M 8 0 (1 - bI (isBench S x))) 8 0 = t9 ∧ r804 = zI t9 ∧ (0 ≤ t9 ∧ t9 ≤ 3) ∧ (t9 = 0 → u804.2 0 = (zI (itZ (isBench S x) (S 2 x))).toInt64) ∧ LI (775 * i + 3100) (u804.1.1) (u804.1.2.2.1) (u804.1.2.2.2.1) (u804.1.2.2.2.2.1) (u804.1.2.2.2.2.2.2.1) (u804.1.2.2.2.2.2.2.2.1) (u804.1.2.2.2.2.2.2.2.2.2.2.1) (u804.1.2.2.2.2.2.2.2.2.2.2.2) F2 F3 (upS M 8 0 (1 - bI (isBench S x))) ∧ S = u804.1.2.2.2.2.1 := by
    rcases hw with ⟨e1, r1, hp, eu, ev⟩ | ⟨e1, hc, eu⟩
    · obtain ⟨rfl, hok⟩ := hp
      refine ⟨0, upS_s.trans (by (try unfold itZ); (try unfold bI); (repeat' split) <;> omega), e1, by decide, fun _ => ev.trans (congrArg (fun v9 : Int => (zI v9).toInt64) (by (try unfold itZ); (try unfold bI); (repeat' split) <;> omega)), ?_, (by rw [eu] <;> rfl)⟩
      rw [eu]
      exact (hLI.m (mK_0 M _)).mono (by omega) (by omega)
    · refine ⟨1, upS_s.trans (by (try unfold itZ); (try unfold bI); (repeat' split) <;> omega), e1, by decide, fun q => absurd q (by decide), ?_, (by rw [eu] <;> rfl)⟩
      rw [eu]
      exact (hLI.m (mK_0 M _)).mono (by omega) (by omega)
  obtain ⟨t9, ht9, hr9, ht9b, hval, hLI2, hS2⟩ := hcase
  have ht9r : zI ((upS M 8 0 (1 - bI (isBench S x))) 8 0) = r804 := by rw [ht9, hr9]
  refine lv_istore (lv' := [(7, .int (zI (itZ (isBench S x) (S 2 x)))), (6, .int r804), (0, .ref b), (1, .ref (ad 7 0)), (2, .ref (mo 0)), (3, .ref oa), (4, .ref od), (5, .int (zI i))]) hx hb dL_law_819 hl (by decide) rfl (fun ls hl => ?_)
  refine lv_aload_n hx hb dL_law_821 rfl (lv_at hl 4 rfl) ?_
  refine vp_callSi (W.runV (As := []) (rest := []) ⟨hx, hb, hml, hown, htg⟩ (m_thrown l dg ck mo S F1 F2 F3 F4 (upS M 8 0 (1 - bI (isBench S x)))) (cwV 0 htg (gwV wq_1627 wq_1628 wq_1629 wq_15 wq_1630) rfl rfl rfl (by decide +kernel) ⟨Nat.le_of_ble_eq_true rfl, Nat.le_of_ble_eq_true rfl⟩) (rd_preV hK (va_P_l (va_P_r hP)) 0 11 rfl rfl) rfl rfl hl.1 rfl (lv_room (Nat.le_of_ble_eq_true rfl)) dL_law_822 ⟨by show _ ≤ 603072; omega, by show _ ≤ 7207018; omega⟩) (fun r822 hr822 => ?_)
  subst hr822
  refine lv_iload hx hb dL_law_825 (lv_at hl 1 rfl) ?_
  refine lv_icmp_eq (tgt := 832) hx hb dL_law_827 (by decide) (fun _ => ?_) (fun c9 => absurd ht9r c9)
  refine lv_iload hx hb dL_law_832 (lv_at hl 1 rfl) ?_
  refine W.eq (g2 := F0 m 834 ls [.int (zI t9)]) (by rw [hr9]) ?_
  refine x_if_ne (tgt := 849) hx hb dL_law_834 (by decide) (by omega) (fun c9 => ?_) (fun c9 => ?_)
  · refine lv_goto (tgt := 3323) hx hb dL_law_849 (by decide) ?_
    refine W.widen (k := cells + 3) (n := slots + 18) (by omega) (by omega) ?_
    have hP : va_P dg vwCl (lawW ck ka ad ra mo oa od u804.1 F1 F2 F3 F4 (upS M 8 0 (1 - bI (isBench S x))) u804.2 E) H := va_P_eq (by rw [hS2] <;> rfl) hP
    have hD : va_D A (lawW ck ka ad ra mo oa od u804.1 F1 F2 F3 F4 (upS M 8 0 (1 - bI (isBench S x))) u804.2 E) := va_D_eq (by rw [hS2] <;> rfl) hD
    exact kk u804.1 F1 F2 F3 F4 (upS M 8 0 (1 - bI (isBench S x))) u804.2 E H locs ls hLI2 hP hD hS (lv_sub hl [2, 3, 4, 5, 6, 7] rfl)
  · have hv9 := hval (by omega)
    refine lv_aload_n hx hb dL_law_837 rfl (lv_at hl 5 rfl) ?_
    refine x_iconst hx hb dL_law_838 ?_
    refine va_lald hx hb hK hP 175 5 rfl rfl (zI_in (z := 0) (by decide) (by decide)) dL_law_839 ?_
    refine lv_iload hx hb dL_law_840 (lv_at hl 0 rfl) ?_
    refine lv_i2l hx hb dL_law_842 rfl ?_
    refine W.lcmp hx hb dL_law_843 ?_
    refine W.eq (g2 := F0 m 844 ls [.int (zI 0)]) (congrArg (fun v9 => F0 m 844 ls [.int v9]) ((congrArg (fun v9 => lg_cmp v9 _) hv9).trans (lg_self _))) ?_
    refine x_if_eq (tgt := 849) hx hb dL_law_844 (by decide) (by omega) (fun _ => ?_) (fun c => absurd rfl c)
    refine lv_goto (tgt := 3323) hx hb dL_law_849 (by decide) ?_
    refine W.widen (k := cells + 3) (n := slots + 18) (by omega) (by omega) ?_
    have hP : va_P dg vwCl (lawW ck ka ad ra mo oa od u804.1 F1 F2 F3 F4 (upS M 8 0 (1 - bI (isBench S x))) u804.2 E) H := va_P_eq (by rw [hS2] <;> rfl) hP
    have hD : va_D A (lawW ck ka ad ra mo oa od u804.1 F1 F2 F3 F4 (upS M 8 0 (1 - bI (isBench S x))) u804.2 E) := va_D_eq (by rw [hS2] <;> rfl) hD
    exact kk u804.1 F1 F2 F3 F4 (upS M 8 0 (1 - bI (isBench S x))) u804.2 E H locs ls hLI2 hP hD hS (lv_sub hl [2, 3, 4, 5, 6, 7] rfl)

set_option maxHeartbeats 4000000 in
set_option maxRecDepth 100000 in
/-- the law: a call of baseRent -/
theorem lc_9 {p : Program} {l : Launch} {e : Env} {s : State} {m : MethodId} {below : List Frame} {meth : Method} {c : Code} {dg : va_G} {ck : Nat → ClassId} {ka : Nat → Nat} {b L : Nat} {xs : Nat → Int32} {A : Nat → Prop} {ad ra : Nat → Nat → Nat} {mo : Nat → Nat} {oa od : Nat} {Qf : State → Prop} {i : Int} {cells slots : Nat} (C0 : LX p l s m c dg ck ka b L xs A) (hi : 0 ≤ i ∧ i + 4 ≤ L) (hcell : cells + 3 ≤ 603072) (hslot : slots + 18 ≤ 7207018) (kk : LKK p l e s m below meth c dg ck ka ad ra mo oa od b A Qf i cells slots) {Z O U X : Nat → Int} {S T P I : St} {V N Y : Int → Int} {Q : Nat → St} {F1 F2 F3 F4 : Int → Int} {M : St} {D : Nat → Int64} {E : Nat → UInt64} {H : Heap} {locs : List Loc} {ls : Array Slot} (hLI : LI (775 * i) Z U X S P I Y Q F2 F3 M) (hP : va_P dg vwCl (brkW ck ka ad ra Z O U X S T P I V N Y Q ++ (modelC ck mo (encZ S) F1 F2 F3 F4 M ++ (lngC ck oa D ++ (dblC ck od E)))) H) (hD : va_D A (brkW ck ka ad ra Z O U X S T P I V N Y Q ++ (modelC ck mo (encZ S) F1 F2 F3 F4 M ++ (lngC ck oa D ++ (dblC ck od E))))) (hS : va_S A s.heap H locs) (hl : lv_has ls 9 [(0, .ref b), (1, .ref (ad 7 0)), (2, .ref (mo 0)), (3, .ref oa), (4, .ref od), (5, .int (zI i))]) : W p l e room_1 s m #[Value.ref b] below meth c H locs cells slots Qf (F0 m 852 ls []) := by
  obtain ⟨hx, hb, hml, hown, htg, hX, hbl, hbA, hK, hC, hA, hst, hL⟩ := id C0
  obtain ⟨hV, hlh, hls, hlt, hlo, hlf⟩ := id hLI
  obtain ⟨hn, hz, hk1, hq10, hhist⟩ := id hlh
  obtain ⟨hk2, hz0, hp10, hsn⟩ := id hls
  obtain ⟨hk3, hln, hk5, htx, hkv⟩ := id hlt
  obtain ⟨hk4, hu0, hy7, hY⟩ := id hlo
  obtain ⟨⟨hk5a, hz4⟩, ⟨hk6, hz1⟩, hk7, hk8⟩ := id hlf
  have hI := hV.bd
  have hs10 : ∀ i, 0 ≤ S 10 i ∧ S 10 i ≤ 1 := hI.2.2.2.2.2.2.2.2.2.2.2.2.2.1
  obtain ⟨x, hv_x⟩ : ∃ v9 : Int, (xs (i + 1).toNat).toInt = v9 := ⟨_, rfl⟩
  have rgx_x := xi_r (xs (i + 1).toNat)
  rw [hv_x] at rgx_x
  obtain ⟨y, hv_y⟩ : ∃ v9 : Int, (xs (i + 2).toNat).toInt = v9 := ⟨_, rfl⟩
  have rgx_y := xi_r (xs (i + 2).toNat)
  rw [hv_y] at rgx_y
  obtain ⟨z, hv_z⟩ : ∃ v9 : Int, (xs (i + 3).toNat).toInt = v9 := ⟨_, rfl⟩
  have rgx_z := xi_r (xs (i + 3).toNat)
  rw [hv_z] at rgx_z
  refine lv_aload_n hx hb dL_law_852 rfl (lv_at hl 1 rfl) ?_
  refine lv_aload_n hx hb dL_law_853 rfl (lv_at hl 0 rfl) ?_
  refine lv_iload hx hb dL_law_854 (lv_at hl 5 rfl) ?_
  refine x_iconst hx hb dL_law_856 ?_
  refine x_iadd hx hb dL_law_857 ?_
  refine x_sld hx hb hX hbl hbA hS (by omega) (by omega) hv_x dL_law_858 ?_
  refine lv_aload_n hx hb dL_law_859 rfl (lv_at hl 3 rfl) ?_
  refine x_calliUB (wf := fun u860 : BU × (Nat → Int64) => brkU ck ka ad ra u860.1 ++ (modelC ck mo (encZ S) F1 F2 F3 F4 M ++ (lngC ck oa u860.2 ++ (dblC ck od E)))) (M := brkW ck ka ad ra Z O U X S T P I V N Y Q ++ (lngC ck oa D)) (Mf := fun u860 => brkU ck ka ad ra u860.1 ++ (lngC ck oa u860.2)) (N := modelC ck mo (encZ S) F1 F2 F3 F4 M ++ (dblC ck od E)) (cat_perm [brkW ck ka ad ra Z O U X S T P I V N Y Q, modelC ck mo (encZ S) F1 F2 F3 F4 M, lngC ck oa D, dblC ck od E] [0, 2] [1, 3] 4 rfl (by decide)) (fun u860 => cat_perm [brkU ck ka ad ra u860.1, modelC ck mo (encZ S) F1 F2 F3 F4 M, lngC ck oa u860.2, dblC ck od E] [0, 2] [1, 3] 4 rfl (by decide)) hP hD hS hA (fun hPm hDm => vx_runSW (As := [.ref (ad 7 0), .int (zI x), .ref oa]) (rest := []) ⟨hx, hb, hml, hown, htg⟩ (w_baseRent l dg ck ka ad ra Z O U X S T P I V N Y Q oa D x _ hI (by omega) hst) (vx_cwSW 3 htg (gwSW wq_774 wq_775 wq_0 wqL_baseRent) rfl rfl rfl (by decide +kernel) ⟨Nat.le_of_ble_eq_true rfl, Nat.le_of_ble_eq_true rfl⟩) (wrK_preS hK hPm hDm hC hS hA) rfl rfl hl.1 rfl (lv_room (Nat.le_of_ble_eq_true rfl)) dL_law_860 ⟨by show cells + 1 ≤ 603072; omega, by show slots + 6 ≤ 7207018; omega⟩) (fun r860 u860 H locs hw hP hD hS => ?_)
  have hP : va_P dg vwCl (brkU ck ka ad ra u860.1 ++ (modelC ck mo (encZ S) F1 F2 F3 F4 M ++ (lngC ck oa u860.2 ++ (dblC ck od E)))) H := hP
  have hD : va_D A (brkU ck ka ad ra u860.1 ++ (modelC ck mo (encZ S) F1 F2 F3 F4 M ++ (lngC ck oa u860.2 ++ (dblC ck od E)))) := hD
  refine lv_istore (lv' := [(6, .int r860), (0, .ref b), (1, .ref (ad 7 0)), (2, .ref (mo 0)), (3, .ref oa), (4, .ref od), (5, .int (zI i))]) hx hb dL_law_863 hl (by decide) rfl (fun ls hl => ?_)
  refine lv_aload_n hx hb dL_law_865 rfl (lv_at hl 3 rfl) ?_
  refine lv_aload_n hx hb dL_law_866 rfl (lv_at hl 1 rfl) ?_
  refine lv_iload hx hb dL_law_867 (lv_at hl 6 rfl) ?_
  refine x_iconst hx hb dL_law_869 ?_
  refine x_iadd hx hb dL_law_870 ?_
  refine x_sld hx hb hX hbl hbA hS (by omega) (by omega) hv_x dL_law_871 ?_
  refine x_calliB (ws' := brkU ck ka ad ra u860.1 ++ (modelC ck mo (encZ S) F1 F2 F3 F4 (upS M 8 0 (1 - bI (isBench S x))) ++ (lngC ck oa u860.2 ++ (dblC ck od E)))) (M := modelC ck mo (encZ S) F1 F2 F3 F4 M) (M' := modelC ck mo (encZ S) F1 F2 F3 F4 (upS M 8 0 (1 - bI (isBench S x)))) (N := brkU ck ka ad ra u860.1 ++ (lngC ck oa u860.2 ++ (dblC ck od E))) (cat_perm [brkU ck ka ad ra u860.1, modelC ck mo (encZ S) F1 F2 F3 F4 M, lngC ck oa u860.2, dblC ck od E] [1] [0, 2, 3] 4 rfl (by decide)) (cat_perm [brkU ck ka ad ra u860.1, modelC ck mo (encZ S) F1 F2 F3 F4 (upS M 8 0 (1 - bI (isBench S x))), lngC ck oa u860.2, dblC ck od E] [1] [0, 2, 3] 4 rfl (by decide)) hP hD hS hA (fun hPm hDm => va_runV (As := [.int (zI x)]) (rest := []) ⟨hx, hb, hml, hown, htg⟩ (m_baseRent l dg ck mo S F1 F2 F3 F4 M x _ hI (by omega)) (cwV 1 htg (gwV wq_1745 wq_1746 wq_1747 wq_15 wq_1748) rfl rfl rfl (by decide +kernel) ⟨Nat.le_of_ble_eq_true rfl, Nat.le_of_ble_eq_true rfl⟩) (wr_preV hK hPm hDm 0 11 rfl rfl) rfl rfl hl.1 rfl (lv_room (Nat.le_of_ble_eq_true rfl)) dL_law_872 ⟨by show _ ≤ 603072; omega, by show _ ≤ 7207018; omega⟩) (fun r872 H locs hr872 hP hD hS => ?_)
  subst hr872
  have hP : va_P dg vwCl (brkU ck ka ad ra u860.1 ++ (modelC ck mo (encZ S) F1 F2 F3 F4 (upS M 8 0 (1 - bI (isBench S x))) ++ (lngC ck oa u860.2 ++ (dblC ck od E)))) H := hP
  have hD : va_D A (brkU ck ka ad ra u860.1 ++ (modelC ck mo (encZ S) F1 F2 F3 F4 (upS M 8 0 (1 - bI (isBench S x))) ++ (lngC ck oa u860.2 ++ (dblC ck od E)))) := hD
  have hcase : ∃ t9 : Int, (upS M 8 0 (1 - bI (isBench S x))) 8 0 = t9 ∧ r860 = zI t9 ∧ (0 ≤ t9 ∧ t9 ≤ 3) ∧ (t9 = 0 → u860.2 0 = (zI (itZ (isBench S x) (S 3 x))).toInt64) ∧ LI (775 * i + 3100) (u860.1.1) (u860.1.2.2.1) (u860.1.2.2.2.1) (u860.1.2.2.2.2.1) (u860.1.2.2.2.2.2.2.1) (u860.1.2.2.2.2.2.2.2.1) (u860.1.2.2.2.2.2.2.2.2.2.2.1) (u860.1.2.2.2.2.2.2.2.2.2.2.2) F2 F3 (upS M 8 0 (1 - bI (isBench S x))) ∧ S = u860.1.2.2.2.2.1 := by
    rcases hw with ⟨e1, r1, hp, eu, ev⟩ | ⟨e1, hc, eu⟩
    · obtain ⟨rfl, hok⟩ := hp
      refine ⟨0, upS_s.trans (by (try unfold itZ); (try unfold bI); (repeat' split) <;> omega), e1, by decide, fun _ => ev.trans (congrArg (fun v9 : Int => (zI v9).toInt64) (by (try unfold itZ); (try unfold bI); (repeat' split) <;> omega)), ?_, (by rw [eu] <;> rfl)⟩
      rw [eu]
      exact (hLI.m (mK_0 M _)).mono (by omega) (by omega)
    · refine ⟨1, upS_s.trans (by (try unfold itZ); (try unfold bI); (repeat' split) <;> omega), e1, by decide, fun q => absurd q (by decide), ?_, (by rw [eu] <;> rfl)⟩
      rw [eu]
      exact (hLI.m (mK_0 M _)).mono (by omega) (by omega)
  obtain ⟨t9, ht9, hr9, ht9b, hval, hLI2, hS2⟩ := hcase
  have ht9r : zI ((upS M 8 0 (1 - bI (isBench S x))) 8 0) = r860 := by rw [ht9, hr9]
  refine lv_istore (lv' := [(7, .int (zI (itZ (isBench S x) (S 3 x)))), (6, .int r860), (0, .ref b), (1, .ref (ad 7 0)), (2, .ref (mo 0)), (3, .ref oa), (4, .ref od), (5, .int (zI i))]) hx hb dL_law_875 hl (by decide) rfl (fun ls hl => ?_)
  refine lv_aload_n hx hb dL_law_877 rfl (lv_at hl 4 rfl) ?_
  refine vp_callSi (W.runV (As := []) (rest := []) ⟨hx, hb, hml, hown, htg⟩ (m_thrown l dg ck mo S F1 F2 F3 F4 (upS M 8 0 (1 - bI (isBench S x)))) (cwV 0 htg (gwV wq_1627 wq_1628 wq_1629 wq_15 wq_1630) rfl rfl rfl (by decide +kernel) ⟨Nat.le_of_ble_eq_true rfl, Nat.le_of_ble_eq_true rfl⟩) (rd_preV hK (va_P_l (va_P_r hP)) 0 11 rfl rfl) rfl rfl hl.1 rfl (lv_room (Nat.le_of_ble_eq_true rfl)) dL_law_878 ⟨by show _ ≤ 603072; omega, by show _ ≤ 7207018; omega⟩) (fun r878 hr878 => ?_)
  subst hr878
  refine lv_iload hx hb dL_law_881 (lv_at hl 1 rfl) ?_
  refine lv_icmp_eq (tgt := 888) hx hb dL_law_883 (by decide) (fun _ => ?_) (fun c9 => absurd ht9r c9)
  refine lv_iload hx hb dL_law_888 (lv_at hl 1 rfl) ?_
  refine W.eq (g2 := F0 m 890 ls [.int (zI t9)]) (by rw [hr9]) ?_
  refine x_if_ne (tgt := 905) hx hb dL_law_890 (by decide) (by omega) (fun c9 => ?_) (fun c9 => ?_)
  · refine lv_goto (tgt := 3323) hx hb dL_law_905 (by decide) ?_
    refine W.widen (k := cells + 3) (n := slots + 18) (by omega) (by omega) ?_
    have hP : va_P dg vwCl (lawW ck ka ad ra mo oa od u860.1 F1 F2 F3 F4 (upS M 8 0 (1 - bI (isBench S x))) u860.2 E) H := va_P_eq (by rw [hS2] <;> rfl) hP
    have hD : va_D A (lawW ck ka ad ra mo oa od u860.1 F1 F2 F3 F4 (upS M 8 0 (1 - bI (isBench S x))) u860.2 E) := va_D_eq (by rw [hS2] <;> rfl) hD
    exact kk u860.1 F1 F2 F3 F4 (upS M 8 0 (1 - bI (isBench S x))) u860.2 E H locs ls hLI2 hP hD hS (lv_sub hl [2, 3, 4, 5, 6, 7] rfl)
  · have hv9 := hval (by omega)
    refine lv_aload_n hx hb dL_law_893 rfl (lv_at hl 5 rfl) ?_
    refine x_iconst hx hb dL_law_894 ?_
    refine va_lald hx hb hK hP 175 5 rfl rfl (zI_in (z := 0) (by decide) (by decide)) dL_law_895 ?_
    refine lv_iload hx hb dL_law_896 (lv_at hl 0 rfl) ?_
    refine lv_i2l hx hb dL_law_898 rfl ?_
    refine W.lcmp hx hb dL_law_899 ?_
    refine W.eq (g2 := F0 m 900 ls [.int (zI 0)]) (congrArg (fun v9 => F0 m 900 ls [.int v9]) ((congrArg (fun v9 => lg_cmp v9 _) hv9).trans (lg_self _))) ?_
    refine x_if_eq (tgt := 905) hx hb dL_law_900 (by decide) (by omega) (fun _ => ?_) (fun c => absurd rfl c)
    refine lv_goto (tgt := 3323) hx hb dL_law_905 (by decide) ?_
    refine W.widen (k := cells + 3) (n := slots + 18) (by omega) (by omega) ?_
    have hP : va_P dg vwCl (lawW ck ka ad ra mo oa od u860.1 F1 F2 F3 F4 (upS M 8 0 (1 - bI (isBench S x))) u860.2 E) H := va_P_eq (by rw [hS2] <;> rfl) hP
    have hD : va_D A (lawW ck ka ad ra mo oa od u860.1 F1 F2 F3 F4 (upS M 8 0 (1 - bI (isBench S x))) u860.2 E) := va_D_eq (by rw [hS2] <;> rfl) hD
    exact kk u860.1 F1 F2 F3 F4 (upS M 8 0 (1 - bI (isBench S x))) u860.2 E H locs ls hLI2 hP hD hS (lv_sub hl [2, 3, 4, 5, 6, 7] rfl)

set_option maxHeartbeats 4000000 in
set_option maxRecDepth 100000 in
/-- the law: a call of rentOf -/
theorem lc_10 {p : Program} {l : Launch} {e : Env} {s : State} {m : MethodId} {below : List Frame} {meth : Method} {c : Code} {dg : va_G} {ck : Nat → ClassId} {ka : Nat → Nat} {b L : Nat} {xs : Nat → Int32} {A : Nat → Prop} {ad ra : Nat → Nat → Nat} {mo : Nat → Nat} {oa od : Nat} {Qf : State → Prop} {i : Int} {cells slots : Nat} (C0 : LX p l s m c dg ck ka b L xs A) (hi : 0 ≤ i ∧ i + 4 ≤ L) (hcell : cells + 3 ≤ 603072) (hslot : slots + 18 ≤ 7207018) (kk : LKK p l e s m below meth c dg ck ka ad ra mo oa od b A Qf i cells slots) {Z O U X : Nat → Int} {S T P I : St} {V N Y : Int → Int} {Q : Nat → St} {F1 F2 F3 F4 : Int → Int} {M : St} {D : Nat → Int64} {E : Nat → UInt64} {H : Heap} {locs : List Loc} {ls : Array Slot} (hLI : LI (775 * i) Z U X S P I Y Q F2 F3 M) (hP : va_P dg vwCl (brkW ck ka ad ra Z O U X S T P I V N Y Q ++ (modelC ck mo (encZ S) F1 F2 F3 F4 M ++ (lngC ck oa D ++ (dblC ck od E)))) H) (hD : va_D A (brkW ck ka ad ra Z O U X S T P I V N Y Q ++ (modelC ck mo (encZ S) F1 F2 F3 F4 M ++ (lngC ck oa D ++ (dblC ck od E))))) (hS : va_S A s.heap H locs) (hl : lv_has ls 9 [(0, .ref b), (1, .ref (ad 7 0)), (2, .ref (mo 0)), (3, .ref oa), (4, .ref od), (5, .int (zI i))]) : W p l e room_1 s m #[Value.ref b] below meth c H locs cells slots Qf (F0 m 908 ls []) := by
  obtain ⟨hx, hb, hml, hown, htg, hX, hbl, hbA, hK, hC, hA, hst, hL⟩ := id C0
  obtain ⟨hV, hlh, hls, hlt, hlo, hlf⟩ := id hLI
  obtain ⟨hn, hz, hk1, hq10, hhist⟩ := id hlh
  obtain ⟨hk2, hz0, hp10, hsn⟩ := id hls
  obtain ⟨hk3, hln, hk5, htx, hkv⟩ := id hlt
  obtain ⟨hk4, hu0, hy7, hY⟩ := id hlo
  obtain ⟨⟨hk5a, hz4⟩, ⟨hk6, hz1⟩, hk7, hk8⟩ := id hlf
  have hI := hV.bd
  have hs10 : ∀ i, 0 ≤ S 10 i ∧ S 10 i ≤ 1 := hI.2.2.2.2.2.2.2.2.2.2.2.2.2.1
  obtain ⟨x, hv_x⟩ : ∃ v9 : Int, (xs (i + 1).toNat).toInt = v9 := ⟨_, rfl⟩
  have rgx_x := xi_r (xs (i + 1).toNat)
  rw [hv_x] at rgx_x
  obtain ⟨y, hv_y⟩ : ∃ v9 : Int, (xs (i + 2).toNat).toInt = v9 := ⟨_, rfl⟩
  have rgx_y := xi_r (xs (i + 2).toNat)
  rw [hv_y] at rgx_y
  obtain ⟨z, hv_z⟩ : ∃ v9 : Int, (xs (i + 3).toNat).toInt = v9 := ⟨_, rfl⟩
  have rgx_z := xi_r (xs (i + 3).toNat)
  rw [hv_z] at rgx_z
  refine lv_aload_n hx hb dL_law_908 rfl (lv_at hl 1 rfl) ?_
  refine lv_aload_n hx hb dL_law_909 rfl (lv_at hl 0 rfl) ?_
  refine lv_iload hx hb dL_law_910 (lv_at hl 5 rfl) ?_
  refine x_iconst hx hb dL_law_912 ?_
  refine x_iadd hx hb dL_law_913 ?_
  refine x_sld hx hb hX hbl hbA hS (by omega) (by omega) hv_x dL_law_914 ?_
  refine lv_aload_n hx hb dL_law_915 rfl (lv_at hl 3 rfl) ?_
  refine x_calliUB (wf := fun u916 : BU × (Nat → Int64) => brkU ck ka ad ra u916.1 ++ (modelC ck mo (encZ S) F1 F2 F3 F4 M ++ (lngC ck oa u916.2 ++ (dblC ck od E)))) (M := brkW ck ka ad ra Z O U X S T P I V N Y Q ++ (lngC ck oa D)) (Mf := fun u916 => brkU ck ka ad ra u916.1 ++ (lngC ck oa u916.2)) (N := modelC ck mo (encZ S) F1 F2 F3 F4 M ++ (dblC ck od E)) (cat_perm [brkW ck ka ad ra Z O U X S T P I V N Y Q, modelC ck mo (encZ S) F1 F2 F3 F4 M, lngC ck oa D, dblC ck od E] [0, 2] [1, 3] 4 rfl (by decide)) (fun u916 => cat_perm [brkU ck ka ad ra u916.1, modelC ck mo (encZ S) F1 F2 F3 F4 M, lngC ck oa u916.2, dblC ck od E] [0, 2] [1, 3] 4 rfl (by decide)) hP hD hS hA (fun hPm hDm => vx_runSW (As := [.ref (ad 7 0), .int (zI x), .ref oa]) (rest := []) ⟨hx, hb, hml, hown, htg⟩ (w_rentOf l dg ck ka ad ra Z O U X S T P I V N Y Q oa D x _ hI (by omega) hst) (vx_cwSW 3 htg (gwSW wq_781 wq_782 wq_0 wqL_rentOf) rfl rfl rfl (by decide +kernel) ⟨Nat.le_of_ble_eq_true rfl, Nat.le_of_ble_eq_true rfl⟩) (wrK_preS hK hPm hDm hC hS hA) rfl rfl hl.1 rfl (lv_room (Nat.le_of_ble_eq_true rfl)) dL_law_916 ⟨by show cells + 1 ≤ 603072; omega, by show slots + 6 ≤ 7207018; omega⟩) (fun r916 u916 H locs hw hP hD hS => ?_)
  have hP : va_P dg vwCl (brkU ck ka ad ra u916.1 ++ (modelC ck mo (encZ S) F1 F2 F3 F4 M ++ (lngC ck oa u916.2 ++ (dblC ck od E)))) H := hP
  have hD : va_D A (brkU ck ka ad ra u916.1 ++ (modelC ck mo (encZ S) F1 F2 F3 F4 M ++ (lngC ck oa u916.2 ++ (dblC ck od E)))) := hD
  refine lv_istore (lv' := [(6, .int r916), (0, .ref b), (1, .ref (ad 7 0)), (2, .ref (mo 0)), (3, .ref oa), (4, .ref od), (5, .int (zI i))]) hx hb dL_law_919 hl (by decide) rfl (fun ls hl => ?_)
  refine lv_aload_n hx hb dL_law_921 rfl (lv_at hl 3 rfl) ?_
  refine lv_aload_n hx hb dL_law_922 rfl (lv_at hl 1 rfl) ?_
  refine lv_iload hx hb dL_law_923 (lv_at hl 6 rfl) ?_
  refine x_iconst hx hb dL_law_925 ?_
  refine x_iadd hx hb dL_law_926 ?_
  refine x_sld hx hb hX hbl hbA hS (by omega) (by omega) hv_x dL_law_927 ?_
  refine x_calliB (ws' := brkU ck ka ad ra u916.1 ++ (modelC ck mo (encZ S) F1 F2 F3 F4 (upS M 8 0 (1 - bI (isBench S x))) ++ (lngC ck oa u916.2 ++ (dblC ck od E)))) (M := modelC ck mo (encZ S) F1 F2 F3 F4 M) (M' := modelC ck mo (encZ S) F1 F2 F3 F4 (upS M 8 0 (1 - bI (isBench S x)))) (N := brkU ck ka ad ra u916.1 ++ (lngC ck oa u916.2 ++ (dblC ck od E))) (cat_perm [brkU ck ka ad ra u916.1, modelC ck mo (encZ S) F1 F2 F3 F4 M, lngC ck oa u916.2, dblC ck od E] [1] [0, 2, 3] 4 rfl (by decide)) (cat_perm [brkU ck ka ad ra u916.1, modelC ck mo (encZ S) F1 F2 F3 F4 (upS M 8 0 (1 - bI (isBench S x))), lngC ck oa u916.2, dblC ck od E] [1] [0, 2, 3] 4 rfl (by decide)) hP hD hS hA (fun hPm hDm => va_runV (As := [.int (zI x)]) (rest := []) ⟨hx, hb, hml, hown, htg⟩ (m_rentOf l dg ck mo S F1 F2 F3 F4 M x _ hI (by omega)) (cwV 1 htg (gwV wq_1749 wq_1750 wq_1751 wq_15 wq_1752) rfl rfl rfl (by decide +kernel) ⟨Nat.le_of_ble_eq_true rfl, Nat.le_of_ble_eq_true rfl⟩) (wr_preV hK hPm hDm 0 11 rfl rfl) rfl rfl hl.1 rfl (lv_room (Nat.le_of_ble_eq_true rfl)) dL_law_928 ⟨by show _ ≤ 603072; omega, by show _ ≤ 7207018; omega⟩) (fun r928 H locs hr928 hP hD hS => ?_)
  subst hr928
  have hP : va_P dg vwCl (brkU ck ka ad ra u916.1 ++ (modelC ck mo (encZ S) F1 F2 F3 F4 (upS M 8 0 (1 - bI (isBench S x))) ++ (lngC ck oa u916.2 ++ (dblC ck od E)))) H := hP
  have hD : va_D A (brkU ck ka ad ra u916.1 ++ (modelC ck mo (encZ S) F1 F2 F3 F4 (upS M 8 0 (1 - bI (isBench S x))) ++ (lngC ck oa u916.2 ++ (dblC ck od E)))) := hD
  have hcase : ∃ t9 : Int, (upS M 8 0 (1 - bI (isBench S x))) 8 0 = t9 ∧ r916 = zI t9 ∧ (0 ≤ t9 ∧ t9 ≤ 3) ∧ (t9 = 0 → u916.2 0 = (zI (itZ (isBench S x) (rent S x))).toInt64) ∧ LI (775 * i + 3100) (u916.1.1) (u916.1.2.2.1) (u916.1.2.2.2.1) (u916.1.2.2.2.2.1) (u916.1.2.2.2.2.2.2.1) (u916.1.2.2.2.2.2.2.2.1) (u916.1.2.2.2.2.2.2.2.2.2.2.1) (u916.1.2.2.2.2.2.2.2.2.2.2.2) F2 F3 (upS M 8 0 (1 - bI (isBench S x))) ∧ S = u916.1.2.2.2.2.1 := by
    rcases hw with ⟨e1, r1, hp, eu, ev⟩ | ⟨e1, hc, eu⟩
    · obtain ⟨rfl, hok⟩ := hp
      refine ⟨0, upS_s.trans (by (try unfold itZ); (try unfold bI); (repeat' split) <;> omega), e1, by decide, fun _ => ev.trans (congrArg (fun v9 : Int => (zI v9).toInt64) (by (try unfold itZ); (try unfold bI); (repeat' split) <;> omega)), ?_, (by rw [eu] <;> rfl)⟩
      rw [eu]
      exact (hLI.m (mK_0 M _)).mono (by omega) (by omega)
    · refine ⟨1, upS_s.trans (by (try unfold itZ); (try unfold bI); (repeat' split) <;> omega), e1, by decide, fun q => absurd q (by decide), ?_, (by rw [eu] <;> rfl)⟩
      rw [eu]
      exact (hLI.m (mK_0 M _)).mono (by omega) (by omega)
  obtain ⟨t9, ht9, hr9, ht9b, hval, hLI2, hS2⟩ := hcase
  have ht9r : zI ((upS M 8 0 (1 - bI (isBench S x))) 8 0) = r916 := by rw [ht9, hr9]
  refine lv_istore (lv' := [(7, .int (zI (itZ (isBench S x) (rent S x)))), (6, .int r916), (0, .ref b), (1, .ref (ad 7 0)), (2, .ref (mo 0)), (3, .ref oa), (4, .ref od), (5, .int (zI i))]) hx hb dL_law_931 hl (by decide) rfl (fun ls hl => ?_)
  refine lv_aload_n hx hb dL_law_933 rfl (lv_at hl 4 rfl) ?_
  refine vp_callSi (W.runV (As := []) (rest := []) ⟨hx, hb, hml, hown, htg⟩ (m_thrown l dg ck mo S F1 F2 F3 F4 (upS M 8 0 (1 - bI (isBench S x)))) (cwV 0 htg (gwV wq_1627 wq_1628 wq_1629 wq_15 wq_1630) rfl rfl rfl (by decide +kernel) ⟨Nat.le_of_ble_eq_true rfl, Nat.le_of_ble_eq_true rfl⟩) (rd_preV hK (va_P_l (va_P_r hP)) 0 11 rfl rfl) rfl rfl hl.1 rfl (lv_room (Nat.le_of_ble_eq_true rfl)) dL_law_934 ⟨by show _ ≤ 603072; omega, by show _ ≤ 7207018; omega⟩) (fun r934 hr934 => ?_)
  subst hr934
  refine lv_iload hx hb dL_law_937 (lv_at hl 1 rfl) ?_
  refine lv_icmp_eq (tgt := 944) hx hb dL_law_939 (by decide) (fun _ => ?_) (fun c9 => absurd ht9r c9)
  refine lv_iload hx hb dL_law_944 (lv_at hl 1 rfl) ?_
  refine W.eq (g2 := F0 m 946 ls [.int (zI t9)]) (by rw [hr9]) ?_
  refine x_if_ne (tgt := 961) hx hb dL_law_946 (by decide) (by omega) (fun c9 => ?_) (fun c9 => ?_)
  · refine lv_goto (tgt := 3323) hx hb dL_law_961 (by decide) ?_
    refine W.widen (k := cells + 3) (n := slots + 18) (by omega) (by omega) ?_
    have hP : va_P dg vwCl (lawW ck ka ad ra mo oa od u916.1 F1 F2 F3 F4 (upS M 8 0 (1 - bI (isBench S x))) u916.2 E) H := va_P_eq (by rw [hS2] <;> rfl) hP
    have hD : va_D A (lawW ck ka ad ra mo oa od u916.1 F1 F2 F3 F4 (upS M 8 0 (1 - bI (isBench S x))) u916.2 E) := va_D_eq (by rw [hS2] <;> rfl) hD
    exact kk u916.1 F1 F2 F3 F4 (upS M 8 0 (1 - bI (isBench S x))) u916.2 E H locs ls hLI2 hP hD hS (lv_sub hl [2, 3, 4, 5, 6, 7] rfl)
  · have hv9 := hval (by omega)
    refine lv_aload_n hx hb dL_law_949 rfl (lv_at hl 5 rfl) ?_
    refine x_iconst hx hb dL_law_950 ?_
    refine va_lald hx hb hK hP 175 5 rfl rfl (zI_in (z := 0) (by decide) (by decide)) dL_law_951 ?_
    refine lv_iload hx hb dL_law_952 (lv_at hl 0 rfl) ?_
    refine lv_i2l hx hb dL_law_954 rfl ?_
    refine W.lcmp hx hb dL_law_955 ?_
    refine W.eq (g2 := F0 m 956 ls [.int (zI 0)]) (congrArg (fun v9 => F0 m 956 ls [.int v9]) ((congrArg (fun v9 => lg_cmp v9 _) hv9).trans (lg_self _))) ?_
    refine x_if_eq (tgt := 961) hx hb dL_law_956 (by decide) (by omega) (fun _ => ?_) (fun c => absurd rfl c)
    refine lv_goto (tgt := 3323) hx hb dL_law_961 (by decide) ?_
    refine W.widen (k := cells + 3) (n := slots + 18) (by omega) (by omega) ?_
    have hP : va_P dg vwCl (lawW ck ka ad ra mo oa od u916.1 F1 F2 F3 F4 (upS M 8 0 (1 - bI (isBench S x))) u916.2 E) H := va_P_eq (by rw [hS2] <;> rfl) hP
    have hD : va_D A (lawW ck ka ad ra mo oa od u916.1 F1 F2 F3 F4 (upS M 8 0 (1 - bI (isBench S x))) u916.2 E) := va_D_eq (by rw [hS2] <;> rfl) hD
    exact kk u916.1 F1 F2 F3 F4 (upS M 8 0 (1 - bI (isBench S x))) u916.2 E H locs ls hLI2 hP hD hS (lv_sub hl [2, 3, 4, 5, 6, 7] rfl)

set_option maxHeartbeats 4000000 in
set_option maxRecDepth 100000 in
/-- the law: a call of loudnessOf -/
theorem lc_12 {p : Program} {l : Launch} {e : Env} {s : State} {m : MethodId} {below : List Frame} {meth : Method} {c : Code} {dg : va_G} {ck : Nat → ClassId} {ka : Nat → Nat} {b L : Nat} {xs : Nat → Int32} {A : Nat → Prop} {ad ra : Nat → Nat → Nat} {mo : Nat → Nat} {oa od : Nat} {Qf : State → Prop} {i : Int} {cells slots : Nat} (C0 : LX p l s m c dg ck ka b L xs A) (hi : 0 ≤ i ∧ i + 4 ≤ L) (hcell : cells + 3 ≤ 603072) (hslot : slots + 18 ≤ 7207018) (kk : LKK p l e s m below meth c dg ck ka ad ra mo oa od b A Qf i cells slots) {Z O U X : Nat → Int} {S T P I : St} {V N Y : Int → Int} {Q : Nat → St} {F1 F2 F3 F4 : Int → Int} {M : St} {D : Nat → Int64} {E : Nat → UInt64} {H : Heap} {locs : List Loc} {ls : Array Slot} (hLI : LI (775 * i) Z U X S P I Y Q F2 F3 M) (hP : va_P dg vwCl (brkW ck ka ad ra Z O U X S T P I V N Y Q ++ (modelC ck mo (encZ S) F1 F2 F3 F4 M ++ (lngC ck oa D ++ (dblC ck od E)))) H) (hD : va_D A (brkW ck ka ad ra Z O U X S T P I V N Y Q ++ (modelC ck mo (encZ S) F1 F2 F3 F4 M ++ (lngC ck oa D ++ (dblC ck od E))))) (hS : va_S A s.heap H locs) (hl : lv_has ls 9 [(0, .ref b), (1, .ref (ad 7 0)), (2, .ref (mo 0)), (3, .ref oa), (4, .ref od), (5, .int (zI i))]) : W p l e room_1 s m #[Value.ref b] below meth c H locs cells slots Qf (F0 m 977 ls []) := by
  obtain ⟨hx, hb, hml, hown, htg, hX, hbl, hbA, hK, hC, hA, hst, hL⟩ := id C0
  obtain ⟨hV, hlh, hls, hlt, hlo, hlf⟩ := id hLI
  obtain ⟨hn, hz, hk1, hq10, hhist⟩ := id hlh
  obtain ⟨hk2, hz0, hp10, hsn⟩ := id hls
  obtain ⟨hk3, hln, hk5, htx, hkv⟩ := id hlt
  obtain ⟨hk4, hu0, hy7, hY⟩ := id hlo
  obtain ⟨⟨hk5a, hz4⟩, ⟨hk6, hz1⟩, hk7, hk8⟩ := id hlf
  have hI := hV.bd
  have hs10 : ∀ i, 0 ≤ S 10 i ∧ S 10 i ≤ 1 := hI.2.2.2.2.2.2.2.2.2.2.2.2.2.1
  obtain ⟨x, hv_x⟩ : ∃ v9 : Int, (xs (i + 1).toNat).toInt = v9 := ⟨_, rfl⟩
  have rgx_x := xi_r (xs (i + 1).toNat)
  rw [hv_x] at rgx_x
  obtain ⟨y, hv_y⟩ : ∃ v9 : Int, (xs (i + 2).toNat).toInt = v9 := ⟨_, rfl⟩
  have rgx_y := xi_r (xs (i + 2).toNat)
  rw [hv_y] at rgx_y
  obtain ⟨z, hv_z⟩ : ∃ v9 : Int, (xs (i + 3).toNat).toInt = v9 := ⟨_, rfl⟩
  have rgx_z := xi_r (xs (i + 3).toNat)
  rw [hv_z] at rgx_z
  refine lv_aload_n hx hb dL_law_977 rfl (lv_at hl 1 rfl) ?_
  refine lv_aload_n hx hb dL_law_978 rfl (lv_at hl 0 rfl) ?_
  refine lv_iload hx hb dL_law_979 (lv_at hl 5 rfl) ?_
  refine x_iconst hx hb dL_law_981 ?_
  refine x_iadd hx hb dL_law_982 ?_
  refine x_sld hx hb hX hbl hbA hS (by omega) (by omega) hv_x dL_law_983 ?_
  refine lv_aload_n hx hb dL_law_984 rfl (lv_at hl 3 rfl) ?_
  refine x_calliUB (wf := fun u985 : BU × (Nat → Int64) => brkU ck ka ad ra u985.1 ++ (modelC ck mo (encZ S) F1 F2 F3 F4 M ++ (lngC ck oa u985.2 ++ (dblC ck od E)))) (M := brkW ck ka ad ra Z O U X S T P I V N Y Q ++ (lngC ck oa D)) (Mf := fun u985 => brkU ck ka ad ra u985.1 ++ (lngC ck oa u985.2)) (N := modelC ck mo (encZ S) F1 F2 F3 F4 M ++ (dblC ck od E)) (cat_perm [brkW ck ka ad ra Z O U X S T P I V N Y Q, modelC ck mo (encZ S) F1 F2 F3 F4 M, lngC ck oa D, dblC ck od E] [0, 2] [1, 3] 4 rfl (by decide)) (fun u985 => cat_perm [brkU ck ka ad ra u985.1, modelC ck mo (encZ S) F1 F2 F3 F4 M, lngC ck oa u985.2, dblC ck od E] [0, 2] [1, 3] 4 rfl (by decide)) hP hD hS hA (fun hPm hDm => vx_runSW (As := [.ref (ad 7 0), .int (zI x), .ref oa]) (rest := []) ⟨hx, hb, hml, hown, htg⟩ (w_loudnessOf l dg ck ka ad ra Z O U X S T P I V N Y Q oa D x _ hI (by omega) hst) (vx_cwSW 3 htg (gwSW wq_789 wq_790 wq_0 wqL_loudnessOf) rfl rfl rfl (by decide +kernel) ⟨Nat.le_of_ble_eq_true rfl, Nat.le_of_ble_eq_true rfl⟩) (wrK_preS hK hPm hDm hC hS hA) rfl rfl hl.1 rfl (lv_room (Nat.le_of_ble_eq_true rfl)) dL_law_985 ⟨by show cells + 1 ≤ 603072; omega, by show slots + 6 ≤ 7207018; omega⟩) (fun r985 u985 H locs hw hP hD hS => ?_)
  have hP : va_P dg vwCl (brkU ck ka ad ra u985.1 ++ (modelC ck mo (encZ S) F1 F2 F3 F4 M ++ (lngC ck oa u985.2 ++ (dblC ck od E)))) H := hP
  have hD : va_D A (brkU ck ka ad ra u985.1 ++ (modelC ck mo (encZ S) F1 F2 F3 F4 M ++ (lngC ck oa u985.2 ++ (dblC ck od E)))) := hD
  refine lv_istore (lv' := [(6, .int r985), (0, .ref b), (1, .ref (ad 7 0)), (2, .ref (mo 0)), (3, .ref oa), (4, .ref od), (5, .int (zI i))]) hx hb dL_law_988 hl (by decide) rfl (fun ls hl => ?_)
  refine lv_aload_n hx hb dL_law_990 rfl (lv_at hl 3 rfl) ?_
  refine lv_aload_n hx hb dL_law_991 rfl (lv_at hl 1 rfl) ?_
  refine lv_iload hx hb dL_law_992 (lv_at hl 6 rfl) ?_
  refine x_iconst hx hb dL_law_994 ?_
  refine x_iadd hx hb dL_law_995 ?_
  refine x_sld hx hb hX hbl hbA hS (by omega) (by omega) hv_x dL_law_996 ?_
  refine x_calliB (ws' := brkU ck ka ad ra u985.1 ++ (modelC ck mo (encZ S) F1 F2 F3 F4 (upS M 8 0 (1 - bI (isFount S x))) ++ (lngC ck oa u985.2 ++ (dblC ck od E)))) (M := modelC ck mo (encZ S) F1 F2 F3 F4 M) (M' := modelC ck mo (encZ S) F1 F2 F3 F4 (upS M 8 0 (1 - bI (isFount S x)))) (N := brkU ck ka ad ra u985.1 ++ (lngC ck oa u985.2 ++ (dblC ck od E))) (cat_perm [brkU ck ka ad ra u985.1, modelC ck mo (encZ S) F1 F2 F3 F4 M, lngC ck oa u985.2, dblC ck od E] [1] [0, 2, 3] 4 rfl (by decide)) (cat_perm [brkU ck ka ad ra u985.1, modelC ck mo (encZ S) F1 F2 F3 F4 (upS M 8 0 (1 - bI (isFount S x))), lngC ck oa u985.2, dblC ck od E] [1] [0, 2, 3] 4 rfl (by decide)) hP hD hS hA (fun hPm hDm => va_runV (As := [.int (zI x)]) (rest := []) ⟨hx, hb, hml, hown, htg⟩ (m_loudnessOf l dg ck mo S F1 F2 F3 F4 M x _ hI (by omega)) (cwV 1 htg (gwV wq_1772 wq_1773 wq_1774 wq_15 wq_1775) rfl rfl rfl (by decide +kernel) ⟨Nat.le_of_ble_eq_true rfl, Nat.le_of_ble_eq_true rfl⟩) (wr_preV hK hPm hDm 0 11 rfl rfl) rfl rfl hl.1 rfl (lv_room (Nat.le_of_ble_eq_true rfl)) dL_law_997 ⟨by show _ ≤ 603072; omega, by show _ ≤ 7207018; omega⟩) (fun r997 H locs hr997 hP hD hS => ?_)
  subst hr997
  have hP : va_P dg vwCl (brkU ck ka ad ra u985.1 ++ (modelC ck mo (encZ S) F1 F2 F3 F4 (upS M 8 0 (1 - bI (isFount S x))) ++ (lngC ck oa u985.2 ++ (dblC ck od E)))) H := hP
  have hD : va_D A (brkU ck ka ad ra u985.1 ++ (modelC ck mo (encZ S) F1 F2 F3 F4 (upS M 8 0 (1 - bI (isFount S x))) ++ (lngC ck oa u985.2 ++ (dblC ck od E)))) := hD
  have hcase : ∃ t9 : Int, (upS M 8 0 (1 - bI (isFount S x))) 8 0 = t9 ∧ r985 = zI t9 ∧ (0 ≤ t9 ∧ t9 ≤ 3) ∧ (t9 = 0 → u985.2 0 = (zI (itZ (isFount S x) (S 9 x))).toInt64) ∧ LI (775 * i + 3100) (u985.1.1) (u985.1.2.2.1) (u985.1.2.2.2.1) (u985.1.2.2.2.2.1) (u985.1.2.2.2.2.2.2.1) (u985.1.2.2.2.2.2.2.2.1) (u985.1.2.2.2.2.2.2.2.2.2.2.1) (u985.1.2.2.2.2.2.2.2.2.2.2.2) F2 F3 (upS M 8 0 (1 - bI (isFount S x))) ∧ S = u985.1.2.2.2.2.1 := by
    rcases hw with ⟨e1, r1, hp, eu, ev⟩ | ⟨e1, hc, eu⟩
    · obtain ⟨rfl, hok⟩ := hp
      refine ⟨0, upS_s.trans (by (try unfold itZ); (try unfold bI); (repeat' split) <;> omega), e1, by decide, fun _ => ev.trans (congrArg (fun v9 : Int => (zI v9).toInt64) (by (try unfold itZ); (try unfold bI); (repeat' split) <;> omega)), ?_, (by rw [eu] <;> rfl)⟩
      rw [eu]
      exact (hLI.m (mK_0 M _)).mono (by omega) (by omega)
    · refine ⟨1, upS_s.trans (by (try unfold itZ); (try unfold bI); (repeat' split) <;> omega), e1, by decide, fun q => absurd q (by decide), ?_, (by rw [eu] <;> rfl)⟩
      rw [eu]
      exact (hLI.m (mK_0 M _)).mono (by omega) (by omega)
  obtain ⟨t9, ht9, hr9, ht9b, hval, hLI2, hS2⟩ := hcase
  have ht9r : zI ((upS M 8 0 (1 - bI (isFount S x))) 8 0) = r985 := by rw [ht9, hr9]
  refine lv_istore (lv' := [(7, .int (zI (itZ (isFount S x) (S 9 x)))), (6, .int r985), (0, .ref b), (1, .ref (ad 7 0)), (2, .ref (mo 0)), (3, .ref oa), (4, .ref od), (5, .int (zI i))]) hx hb dL_law_1000 hl (by decide) rfl (fun ls hl => ?_)
  refine lv_aload_n hx hb dL_law_1002 rfl (lv_at hl 4 rfl) ?_
  refine vp_callSi (W.runV (As := []) (rest := []) ⟨hx, hb, hml, hown, htg⟩ (m_thrown l dg ck mo S F1 F2 F3 F4 (upS M 8 0 (1 - bI (isFount S x)))) (cwV 0 htg (gwV wq_1627 wq_1628 wq_1629 wq_15 wq_1630) rfl rfl rfl (by decide +kernel) ⟨Nat.le_of_ble_eq_true rfl, Nat.le_of_ble_eq_true rfl⟩) (rd_preV hK (va_P_l (va_P_r hP)) 0 11 rfl rfl) rfl rfl hl.1 rfl (lv_room (Nat.le_of_ble_eq_true rfl)) dL_law_1003 ⟨by show _ ≤ 603072; omega, by show _ ≤ 7207018; omega⟩) (fun r1003 hr1003 => ?_)
  subst hr1003
  refine lv_iload hx hb dL_law_1006 (lv_at hl 1 rfl) ?_
  refine lv_icmp_eq (tgt := 1013) hx hb dL_law_1008 (by decide) (fun _ => ?_) (fun c9 => absurd ht9r c9)
  refine lv_iload hx hb dL_law_1013 (lv_at hl 1 rfl) ?_
  refine W.eq (g2 := F0 m 1015 ls [.int (zI t9)]) (by rw [hr9]) ?_
  refine x_if_ne (tgt := 1030) hx hb dL_law_1015 (by decide) (by omega) (fun c9 => ?_) (fun c9 => ?_)
  · refine lv_goto (tgt := 3323) hx hb dL_law_1030 (by decide) ?_
    refine W.widen (k := cells + 3) (n := slots + 18) (by omega) (by omega) ?_
    have hP : va_P dg vwCl (lawW ck ka ad ra mo oa od u985.1 F1 F2 F3 F4 (upS M 8 0 (1 - bI (isFount S x))) u985.2 E) H := va_P_eq (by rw [hS2] <;> rfl) hP
    have hD : va_D A (lawW ck ka ad ra mo oa od u985.1 F1 F2 F3 F4 (upS M 8 0 (1 - bI (isFount S x))) u985.2 E) := va_D_eq (by rw [hS2] <;> rfl) hD
    exact kk u985.1 F1 F2 F3 F4 (upS M 8 0 (1 - bI (isFount S x))) u985.2 E H locs ls hLI2 hP hD hS (lv_sub hl [2, 3, 4, 5, 6, 7] rfl)
  · have hv9 := hval (by omega)
    refine lv_aload_n hx hb dL_law_1018 rfl (lv_at hl 5 rfl) ?_
    refine x_iconst hx hb dL_law_1019 ?_
    refine va_lald hx hb hK hP 175 5 rfl rfl (zI_in (z := 0) (by decide) (by decide)) dL_law_1020 ?_
    refine lv_iload hx hb dL_law_1021 (lv_at hl 0 rfl) ?_
    refine lv_i2l hx hb dL_law_1023 rfl ?_
    refine W.lcmp hx hb dL_law_1024 ?_
    refine W.eq (g2 := F0 m 1025 ls [.int (zI 0)]) (congrArg (fun v9 => F0 m 1025 ls [.int v9]) ((congrArg (fun v9 => lg_cmp v9 _) hv9).trans (lg_self _))) ?_
    refine x_if_eq (tgt := 1030) hx hb dL_law_1025 (by decide) (by omega) (fun _ => ?_) (fun c => absurd rfl c)
    refine lv_goto (tgt := 3323) hx hb dL_law_1030 (by decide) ?_
    refine W.widen (k := cells + 3) (n := slots + 18) (by omega) (by omega) ?_
    have hP : va_P dg vwCl (lawW ck ka ad ra mo oa od u985.1 F1 F2 F3 F4 (upS M 8 0 (1 - bI (isFount S x))) u985.2 E) H := va_P_eq (by rw [hS2] <;> rfl) hP
    have hD : va_D A (lawW ck ka ad ra mo oa od u985.1 F1 F2 F3 F4 (upS M 8 0 (1 - bI (isFount S x))) u985.2 E) := va_D_eq (by rw [hS2] <;> rfl) hD
    exact kk u985.1 F1 F2 F3 F4 (upS M 8 0 (1 - bI (isFount S x))) u985.2 E H locs ls hLI2 hP hD hS (lv_sub hl [2, 3, 4, 5, 6, 7] rfl)

set_option maxHeartbeats 4000000 in
set_option maxRecDepth 100000 in
/-- the law: a call of isRunning -/
theorem lc_13 {p : Program} {l : Launch} {e : Env} {s : State} {m : MethodId} {below : List Frame} {meth : Method} {c : Code} {dg : va_G} {ck : Nat → ClassId} {ka : Nat → Nat} {b L : Nat} {xs : Nat → Int32} {A : Nat → Prop} {ad ra : Nat → Nat → Nat} {mo : Nat → Nat} {oa od : Nat} {Qf : State → Prop} {i : Int} {cells slots : Nat} (C0 : LX p l s m c dg ck ka b L xs A) (hi : 0 ≤ i ∧ i + 4 ≤ L) (hcell : cells + 3 ≤ 603072) (hslot : slots + 18 ≤ 7207018) (kk : LKK p l e s m below meth c dg ck ka ad ra mo oa od b A Qf i cells slots) {Z O U X : Nat → Int} {S T P I : St} {V N Y : Int → Int} {Q : Nat → St} {F1 F2 F3 F4 : Int → Int} {M : St} {D : Nat → Int64} {E : Nat → UInt64} {H : Heap} {locs : List Loc} {ls : Array Slot} (hLI : LI (775 * i) Z U X S P I Y Q F2 F3 M) (hP : va_P dg vwCl (brkW ck ka ad ra Z O U X S T P I V N Y Q ++ (modelC ck mo (encZ S) F1 F2 F3 F4 M ++ (lngC ck oa D ++ (dblC ck od E)))) H) (hD : va_D A (brkW ck ka ad ra Z O U X S T P I V N Y Q ++ (modelC ck mo (encZ S) F1 F2 F3 F4 M ++ (lngC ck oa D ++ (dblC ck od E))))) (hS : va_S A s.heap H locs) (hl : lv_has ls 9 [(0, .ref b), (1, .ref (ad 7 0)), (2, .ref (mo 0)), (3, .ref oa), (4, .ref od), (5, .int (zI i))]) : W p l e room_1 s m #[Value.ref b] below meth c H locs cells slots Qf (F0 m 1033 ls []) := by
  obtain ⟨hx, hb, hml, hown, htg, hX, hbl, hbA, hK, hC, hA, hst, hL⟩ := id C0
  obtain ⟨hV, hlh, hls, hlt, hlo, hlf⟩ := id hLI
  obtain ⟨hn, hz, hk1, hq10, hhist⟩ := id hlh
  obtain ⟨hk2, hz0, hp10, hsn⟩ := id hls
  obtain ⟨hk3, hln, hk5, htx, hkv⟩ := id hlt
  obtain ⟨hk4, hu0, hy7, hY⟩ := id hlo
  obtain ⟨⟨hk5a, hz4⟩, ⟨hk6, hz1⟩, hk7, hk8⟩ := id hlf
  have hI := hV.bd
  have hs10 : ∀ i, 0 ≤ S 10 i ∧ S 10 i ≤ 1 := hI.2.2.2.2.2.2.2.2.2.2.2.2.2.1
  obtain ⟨x, hv_x⟩ : ∃ v9 : Int, (xs (i + 1).toNat).toInt = v9 := ⟨_, rfl⟩
  have rgx_x := xi_r (xs (i + 1).toNat)
  rw [hv_x] at rgx_x
  obtain ⟨y, hv_y⟩ : ∃ v9 : Int, (xs (i + 2).toNat).toInt = v9 := ⟨_, rfl⟩
  have rgx_y := xi_r (xs (i + 2).toNat)
  rw [hv_y] at rgx_y
  obtain ⟨z, hv_z⟩ : ∃ v9 : Int, (xs (i + 3).toNat).toInt = v9 := ⟨_, rfl⟩
  have rgx_z := xi_r (xs (i + 3).toNat)
  rw [hv_z] at rgx_z
  refine lv_aload_n hx hb dL_law_1033 rfl (lv_at hl 1 rfl) ?_
  refine lv_aload_n hx hb dL_law_1034 rfl (lv_at hl 0 rfl) ?_
  refine lv_iload hx hb dL_law_1035 (lv_at hl 5 rfl) ?_
  refine x_iconst hx hb dL_law_1037 ?_
  refine x_iadd hx hb dL_law_1038 ?_
  refine x_sld hx hb hX hbl hbA hS (by omega) (by omega) hv_x dL_law_1039 ?_
  refine lv_aload_n hx hb dL_law_1040 rfl (lv_at hl 3 rfl) ?_
  refine x_calliUB (wf := fun u1041 : BU × (Nat → Int64) => brkU ck ka ad ra u1041.1 ++ (modelC ck mo (encZ S) F1 F2 F3 F4 M ++ (lngC ck oa u1041.2 ++ (dblC ck od E)))) (M := brkW ck ka ad ra Z O U X S T P I V N Y Q ++ (lngC ck oa D)) (Mf := fun u1041 => brkU ck ka ad ra u1041.1 ++ (lngC ck oa u1041.2)) (N := modelC ck mo (encZ S) F1 F2 F3 F4 M ++ (dblC ck od E)) (cat_perm [brkW ck ka ad ra Z O U X S T P I V N Y Q, modelC ck mo (encZ S) F1 F2 F3 F4 M, lngC ck oa D, dblC ck od E] [0, 2] [1, 3] 4 rfl (by decide)) (fun u1041 => cat_perm [brkU ck ka ad ra u1041.1, modelC ck mo (encZ S) F1 F2 F3 F4 M, lngC ck oa u1041.2, dblC ck od E] [0, 2] [1, 3] 4 rfl (by decide)) hP hD hS hA (fun hPm hDm => vx_runSW (As := [.ref (ad 7 0), .int (zI x), .ref oa]) (rest := []) ⟨hx, hb, hml, hown, htg⟩ (w_isRunning l dg ck ka ad ra Z O U X S T P I V N Y Q oa D x _ hI (by omega) hst) (vx_cwSW 3 htg (gwSW wq_801 wq_802 wq_0 wqL_isRunning) rfl rfl rfl (by decide +kernel) ⟨Nat.le_of_ble_eq_true rfl, Nat.le_of_ble_eq_true rfl⟩) (wrK_preS hK hPm hDm hC hS hA) rfl rfl hl.1 rfl (lv_room (Nat.le_of_ble_eq_true rfl)) dL_law_1041 ⟨by show cells + 1 ≤ 603072; omega, by show slots + 6 ≤ 7207018; omega⟩) (fun r1041 u1041 H locs hw hP hD hS => ?_)
  have hP : va_P dg vwCl (brkU ck ka ad ra u1041.1 ++ (modelC ck mo (encZ S) F1 F2 F3 F4 M ++ (lngC ck oa u1041.2 ++ (dblC ck od E)))) H := hP
  have hD : va_D A (brkU ck ka ad ra u1041.1 ++ (modelC ck mo (encZ S) F1 F2 F3 F4 M ++ (lngC ck oa u1041.2 ++ (dblC ck od E)))) := hD
  refine lv_istore (lv' := [(6, .int r1041), (0, .ref b), (1, .ref (ad 7 0)), (2, .ref (mo 0)), (3, .ref oa), (4, .ref od), (5, .int (zI i))]) hx hb dL_law_1044 hl (by decide) rfl (fun ls hl => ?_)
  refine lv_aload_n hx hb dL_law_1046 rfl (lv_at hl 3 rfl) ?_
  refine lv_aload_n hx hb dL_law_1047 rfl (lv_at hl 1 rfl) ?_
  refine lv_iload hx hb dL_law_1048 (lv_at hl 6 rfl) ?_
  refine x_iconst hx hb dL_law_1050 ?_
  refine x_iadd hx hb dL_law_1051 ?_
  refine x_sld hx hb hX hbl hbA hS (by omega) (by omega) hv_x dL_law_1052 ?_
  refine x_calliB (ws' := brkU ck ka ad ra u1041.1 ++ (modelC ck mo (encZ S) F1 F2 F3 F4 (upS M 8 0 (1 - bI (isFount S x))) ++ (lngC ck oa u1041.2 ++ (dblC ck od E)))) (M := modelC ck mo (encZ S) F1 F2 F3 F4 M) (M' := modelC ck mo (encZ S) F1 F2 F3 F4 (upS M 8 0 (1 - bI (isFount S x)))) (N := brkU ck ka ad ra u1041.1 ++ (lngC ck oa u1041.2 ++ (dblC ck od E))) (cat_perm [brkU ck ka ad ra u1041.1, modelC ck mo (encZ S) F1 F2 F3 F4 M, lngC ck oa u1041.2, dblC ck od E] [1] [0, 2, 3] 4 rfl (by decide)) (cat_perm [brkU ck ka ad ra u1041.1, modelC ck mo (encZ S) F1 F2 F3 F4 (upS M 8 0 (1 - bI (isFount S x))), lngC ck oa u1041.2, dblC ck od E] [1] [0, 2, 3] 4 rfl (by decide)) hP hD hS hA (fun hPm hDm => va_runV (As := [.int (zI x)]) (rest := []) ⟨hx, hb, hml, hown, htg⟩ (m_isRunning l dg ck mo S F1 F2 F3 F4 M x _ hI (by omega)) (cwV 1 htg (gwV wq_1776 wq_1777 wq_1778 wq_15 wq_1779) rfl rfl rfl (by decide +kernel) ⟨Nat.le_of_ble_eq_true rfl, Nat.le_of_ble_eq_true rfl⟩) (wr_preV hK hPm hDm 0 11 rfl rfl) rfl rfl hl.1 rfl (lv_room (Nat.le_of_ble_eq_true rfl)) dL_law_1053 ⟨by show _ ≤ 603072; omega, by show _ ≤ 7207018; omega⟩) (fun r1053 H locs hr1053 hP hD hS => ?_)
  subst hr1053
  have hP : va_P dg vwCl (brkU ck ka ad ra u1041.1 ++ (modelC ck mo (encZ S) F1 F2 F3 F4 (upS M 8 0 (1 - bI (isFount S x))) ++ (lngC ck oa u1041.2 ++ (dblC ck od E)))) H := hP
  have hD : va_D A (brkU ck ka ad ra u1041.1 ++ (modelC ck mo (encZ S) F1 F2 F3 F4 (upS M 8 0 (1 - bI (isFount S x))) ++ (lngC ck oa u1041.2 ++ (dblC ck od E)))) := hD
  have hcase : ∃ t9 : Int, (upS M 8 0 (1 - bI (isFount S x))) 8 0 = t9 ∧ r1041 = zI t9 ∧ (0 ≤ t9 ∧ t9 ≤ 3) ∧ (t9 = 0 → u1041.2 0 = (zI (bI (isFount S x ∧ S 10 x = 1))).toInt64) ∧ LI (775 * i + 3100) (u1041.1.1) (u1041.1.2.2.1) (u1041.1.2.2.2.1) (u1041.1.2.2.2.2.1) (u1041.1.2.2.2.2.2.2.1) (u1041.1.2.2.2.2.2.2.2.1) (u1041.1.2.2.2.2.2.2.2.2.2.2.1) (u1041.1.2.2.2.2.2.2.2.2.2.2.2) F2 F3 (upS M 8 0 (1 - bI (isFount S x))) ∧ S = u1041.1.2.2.2.2.1 := by
    rcases hw with ⟨e1, r1, hp, eu, ev⟩ | ⟨e1, hc, eu⟩
    · obtain ⟨rfl, hok⟩ := hp
      have hb10 := hs10 x
      refine ⟨0, upS_s.trans (by (try unfold itZ); (try unfold bI); (repeat' split) <;> omega), e1, by decide, fun _ => ev.trans (congrArg (fun v9 : Int => (zI v9).toInt64) (by (try unfold itZ); (try unfold bI); (repeat' split) <;> omega)), ?_, (by rw [eu] <;> rfl)⟩
      rw [eu]
      exact (hLI.m (mK_0 M _)).mono (by omega) (by omega)
    · refine ⟨1, upS_s.trans (by (try unfold itZ); (try unfold bI); (repeat' split) <;> omega), e1, by decide, fun q => absurd q (by decide), ?_, (by rw [eu] <;> rfl)⟩
      rw [eu]
      exact (hLI.m (mK_0 M _)).mono (by omega) (by omega)
  obtain ⟨t9, ht9, hr9, ht9b, hval, hLI2, hS2⟩ := hcase
  have ht9r : zI ((upS M 8 0 (1 - bI (isFount S x))) 8 0) = r1041 := by rw [ht9, hr9]
  refine lv_istore (lv' := [(7, .int (zI (bI (isFount S x ∧ S 10 x = 1)))), (6, .int r1041), (0, .ref b), (1, .ref (ad 7 0)), (2, .ref (mo 0)), (3, .ref oa), (4, .ref od), (5, .int (zI i))]) hx hb dL_law_1056 hl (by decide) rfl (fun ls hl => ?_)
  refine lv_aload_n hx hb dL_law_1058 rfl (lv_at hl 4 rfl) ?_
  refine vp_callSi (W.runV (As := []) (rest := []) ⟨hx, hb, hml, hown, htg⟩ (m_thrown l dg ck mo S F1 F2 F3 F4 (upS M 8 0 (1 - bI (isFount S x)))) (cwV 0 htg (gwV wq_1627 wq_1628 wq_1629 wq_15 wq_1630) rfl rfl rfl (by decide +kernel) ⟨Nat.le_of_ble_eq_true rfl, Nat.le_of_ble_eq_true rfl⟩) (rd_preV hK (va_P_l (va_P_r hP)) 0 11 rfl rfl) rfl rfl hl.1 rfl (lv_room (Nat.le_of_ble_eq_true rfl)) dL_law_1059 ⟨by show _ ≤ 603072; omega, by show _ ≤ 7207018; omega⟩) (fun r1059 hr1059 => ?_)
  subst hr1059
  refine lv_iload hx hb dL_law_1062 (lv_at hl 1 rfl) ?_
  refine lv_icmp_eq (tgt := 1069) hx hb dL_law_1064 (by decide) (fun _ => ?_) (fun c9 => absurd ht9r c9)
  refine lv_iload hx hb dL_law_1069 (lv_at hl 1 rfl) ?_
  refine W.eq (g2 := F0 m 1071 ls [.int (zI t9)]) (by rw [hr9]) ?_
  refine x_if_ne (tgt := 1093) hx hb dL_law_1071 (by decide) (by omega) (fun c9 => ?_) (fun c9 => ?_)
  · refine lv_goto (tgt := 3323) hx hb dL_law_1093 (by decide) ?_
    refine W.widen (k := cells + 3) (n := slots + 18) (by omega) (by omega) ?_
    have hP : va_P dg vwCl (lawW ck ka ad ra mo oa od u1041.1 F1 F2 F3 F4 (upS M 8 0 (1 - bI (isFount S x))) u1041.2 E) H := va_P_eq (by rw [hS2] <;> rfl) hP
    have hD : va_D A (lawW ck ka ad ra mo oa od u1041.1 F1 F2 F3 F4 (upS M 8 0 (1 - bI (isFount S x))) u1041.2 E) := va_D_eq (by rw [hS2] <;> rfl) hD
    exact kk u1041.1 F1 F2 F3 F4 (upS M 8 0 (1 - bI (isFount S x))) u1041.2 E H locs ls hLI2 hP hD hS (lv_sub hl [2, 3, 4, 5, 6, 7] rfl)
  · have hv9 := hval (by omega)
    refine lv_aload_n hx hb dL_law_1074 rfl (lv_at hl 5 rfl) ?_
    refine x_iconst hx hb dL_law_1075 ?_
    refine va_lald hx hb hK hP 175 5 rfl rfl (zI_in (z := 0) (by decide) (by decide)) dL_law_1076 ?_
    refine lv_iload hx hb dL_law_1077 (lv_at hl 0 rfl) ?_
    have hb01 := bI_r (isFount S x ∧ S 10 x = 1)
    rcases (show (bI (isFount S x ∧ S 10 x = 1)) = 1 ∨ (bI (isFount S x ∧ S 10 x = 1)) = 0 by omega) with h9 | h9
    · rw [h9] at hv9
      refine x_is h9 ?_
      refine x_if_eq (tgt := 1086) hx hb dL_law_1079 (by decide) (by omega) (fun c => absurd c (by decide)) (fun _ => ?_)
      refine lv_lconst (v := (zI 1).toInt64) hx hb dL_law_1082 (by decide) ?_
      refine lv_goto (tgt := 1087) hx hb dL_law_1083 (by decide) ?_
      refine W.lcmp hx hb dL_law_1087 ?_
      refine W.eq (g2 := F0 m 1088 ls [.int (zI 0)]) (congrArg (fun v9 => F0 m 1088 ls [.int v9]) ((congrArg (fun v9 => lg_cmp v9 _) hv9).trans (lg_self _))) ?_
      refine x_if_eq (tgt := 1093) hx hb dL_law_1088 (by decide) (by omega) (fun _ => ?_) (fun c => absurd rfl c)
      refine lv_goto (tgt := 3323) hx hb dL_law_1093 (by decide) ?_
      refine W.widen (k := cells + 3) (n := slots + 18) (by omega) (by omega) ?_
      have hP : va_P dg vwCl (lawW ck ka ad ra mo oa od u1041.1 F1 F2 F3 F4 (upS M 8 0 (1 - bI (isFount S x))) u1041.2 E) H := va_P_eq (by rw [hS2] <;> rfl) hP
      have hD : va_D A (lawW ck ka ad ra mo oa od u1041.1 F1 F2 F3 F4 (upS M 8 0 (1 - bI (isFount S x))) u1041.2 E) := va_D_eq (by rw [hS2] <;> rfl) hD
      exact kk u1041.1 F1 F2 F3 F4 (upS M 8 0 (1 - bI (isFount S x))) u1041.2 E H locs ls hLI2 hP hD hS (lv_sub hl [2, 3, 4, 5, 6, 7] rfl)
    · rw [h9] at hv9
      refine x_is h9 ?_
      refine x_if_eq (tgt := 1086) hx hb dL_law_1079 (by decide) (by omega) (fun _ => ?_) (fun c => absurd c (by decide))
      refine lv_lconst (v := (zI 0).toInt64) hx hb dL_law_1086 (by decide) ?_
      refine W.lcmp hx hb dL_law_1087 ?_
      refine W.eq (g2 := F0 m 1088 ls [.int (zI 0)]) (congrArg (fun v9 => F0 m 1088 ls [.int v9]) ((congrArg (fun v9 => lg_cmp v9 _) hv9).trans (lg_self _))) ?_
      refine x_if_eq (tgt := 1093) hx hb dL_law_1088 (by decide) (by omega) (fun _ => ?_) (fun c => absurd rfl c)
      refine lv_goto (tgt := 3323) hx hb dL_law_1093 (by decide) ?_
      refine W.widen (k := cells + 3) (n := slots + 18) (by omega) (by omega) ?_
      have hP : va_P dg vwCl (lawW ck ka ad ra mo oa od u1041.1 F1 F2 F3 F4 (upS M 8 0 (1 - bI (isFount S x))) u1041.2 E) H := va_P_eq (by rw [hS2] <;> rfl) hP
      have hD : va_D A (lawW ck ka ad ra mo oa od u1041.1 F1 F2 F3 F4 (upS M 8 0 (1 - bI (isFount S x))) u1041.2 E) := va_D_eq (by rw [hS2] <;> rfl) hD
      exact kk u1041.1 F1 F2 F3 F4 (upS M 8 0 (1 - bI (isFount S x))) u1041.2 E H locs ls hLI2 hP hD hS (lv_sub hl [2, 3, 4, 5, 6, 7] rfl)

set_option maxHeartbeats 4000000 in
set_option maxRecDepth 100000 in
/-- the law: a call of noiseAt -/
theorem lc_15 {p : Program} {l : Launch} {e : Env} {s : State} {m : MethodId} {below : List Frame} {meth : Method} {c : Code} {dg : va_G} {ck : Nat → ClassId} {ka : Nat → Nat} {b L : Nat} {xs : Nat → Int32} {A : Nat → Prop} {ad ra : Nat → Nat → Nat} {mo : Nat → Nat} {oa od : Nat} {Qf : State → Prop} {i : Int} {cells slots : Nat} (C0 : LX p l s m c dg ck ka b L xs A) (hi : 0 ≤ i ∧ i + 4 ≤ L) (hcell : cells + 3 ≤ 603072) (hslot : slots + 18 ≤ 7207018) (kk : LKK p l e s m below meth c dg ck ka ad ra mo oa od b A Qf i cells slots) {Z O U X : Nat → Int} {S T P I : St} {V N Y : Int → Int} {Q : Nat → St} {F1 F2 F3 F4 : Int → Int} {M : St} {D : Nat → Int64} {E : Nat → UInt64} {H : Heap} {locs : List Loc} {ls : Array Slot} (hLI : LI (775 * i) Z U X S P I Y Q F2 F3 M) (hP : va_P dg vwCl (brkW ck ka ad ra Z O U X S T P I V N Y Q ++ (modelC ck mo (encZ S) F1 F2 F3 F4 M ++ (lngC ck oa D ++ (dblC ck od E)))) H) (hD : va_D A (brkW ck ka ad ra Z O U X S T P I V N Y Q ++ (modelC ck mo (encZ S) F1 F2 F3 F4 M ++ (lngC ck oa D ++ (dblC ck od E))))) (hS : va_S A s.heap H locs) (hl : lv_has ls 9 [(0, .ref b), (1, .ref (ad 7 0)), (2, .ref (mo 0)), (3, .ref oa), (4, .ref od), (5, .int (zI i))]) : W p l e room_1 s m #[Value.ref b] below meth c H locs cells slots Qf (F0 m 1109 ls []) := by
  obtain ⟨hx, hb, hml, hown, htg, hX, hbl, hbA, hK, hC, hA, hst, hL⟩ := id C0
  obtain ⟨hV, hlh, hls, hlt, hlo, hlf⟩ := id hLI
  obtain ⟨hn, hz, hk1, hq10, hhist⟩ := id hlh
  obtain ⟨hk2, hz0, hp10, hsn⟩ := id hls
  obtain ⟨hk3, hln, hk5, htx, hkv⟩ := id hlt
  obtain ⟨hk4, hu0, hy7, hY⟩ := id hlo
  obtain ⟨⟨hk5a, hz4⟩, ⟨hk6, hz1⟩, hk7, hk8⟩ := id hlf
  have hI := hV.bd
  have hs10 : ∀ i, 0 ≤ S 10 i ∧ S 10 i ≤ 1 := hI.2.2.2.2.2.2.2.2.2.2.2.2.2.1
  obtain ⟨x, hv_x⟩ : ∃ v9 : Int, (xs (i + 1).toNat).toInt = v9 := ⟨_, rfl⟩
  have rgx_x := xi_r (xs (i + 1).toNat)
  rw [hv_x] at rgx_x
  obtain ⟨y, hv_y⟩ : ∃ v9 : Int, (xs (i + 2).toNat).toInt = v9 := ⟨_, rfl⟩
  have rgx_y := xi_r (xs (i + 2).toNat)
  rw [hv_y] at rgx_y
  obtain ⟨z, hv_z⟩ : ∃ v9 : Int, (xs (i + 3).toNat).toInt = v9 := ⟨_, rfl⟩
  have rgx_z := xi_r (xs (i + 3).toNat)
  rw [hv_z] at rgx_z
  refine lv_aload_n hx hb dL_law_1109 rfl (lv_at hl 1 rfl) ?_
  refine lv_aload_n hx hb dL_law_1110 rfl (lv_at hl 0 rfl) ?_
  refine lv_iload hx hb dL_law_1111 (lv_at hl 5 rfl) ?_
  refine x_iconst hx hb dL_law_1113 ?_
  refine x_iadd hx hb dL_law_1114 ?_
  refine x_sld hx hb hX hbl hbA hS (by omega) (by omega) hv_x dL_law_1115 ?_
  refine lv_aload_n hx hb dL_law_1116 rfl (lv_at hl 0 rfl) ?_
  refine lv_iload hx hb dL_law_1117 (lv_at hl 5 rfl) ?_
  refine x_iconst hx hb dL_law_1119 ?_
  refine x_iadd hx hb dL_law_1120 ?_
  refine x_sld hx hb hX hbl hbA hS (by omega) (by omega) hv_y dL_law_1121 ?_
  refine lv_aload_n hx hb dL_law_1122 rfl (lv_at hl 3 rfl) ?_
  refine x_calliUB (wf := fun u1123 : BU × (Nat → Int64) => brkU ck ka ad ra u1123.1 ++ (modelC ck mo (encZ S) F1 F2 F3 F4 M ++ (lngC ck oa u1123.2 ++ (dblC ck od E)))) (M := brkW ck ka ad ra Z O U X S T P I V N Y Q ++ (lngC ck oa D)) (Mf := fun u1123 => brkU ck ka ad ra u1123.1 ++ (lngC ck oa u1123.2)) (N := modelC ck mo (encZ S) F1 F2 F3 F4 M ++ (dblC ck od E)) (cat_perm [brkW ck ka ad ra Z O U X S T P I V N Y Q, modelC ck mo (encZ S) F1 F2 F3 F4 M, lngC ck oa D, dblC ck od E] [0, 2] [1, 3] 4 rfl (by decide)) (fun u1123 => cat_perm [brkU ck ka ad ra u1123.1, modelC ck mo (encZ S) F1 F2 F3 F4 M, lngC ck oa u1123.2, dblC ck od E] [0, 2] [1, 3] 4 rfl (by decide)) hP hD hS hA (fun hPm hDm => vx_runSW (As := [.ref (ad 7 0), .int (zI x), .int (zI y), .ref oa]) (rest := []) ⟨hx, hb, hml, hown, htg⟩ (w_noiseAt l dg ck ka ad ra Z O U X S T P I V N Y Q oa D x y _ hI (by omega) (by omega) hst) (vx_cwSW 4 htg (gwSW wq_808 wq_809 wq_0 wqL_noiseAt) rfl rfl rfl (by decide +kernel) ⟨Nat.le_of_ble_eq_true rfl, Nat.le_of_ble_eq_true rfl⟩) (wrK_preS hK hPm hDm hC hS hA) rfl rfl hl.1 rfl (lv_room (Nat.le_of_ble_eq_true rfl)) dL_law_1123 ⟨by show cells + 1 ≤ 603072; omega, by show slots + 6 ≤ 7207018; omega⟩) (fun r1123 u1123 H locs hw hP hD hS => ?_)
  have hP : va_P dg vwCl (brkU ck ka ad ra u1123.1 ++ (modelC ck mo (encZ S) F1 F2 F3 F4 M ++ (lngC ck oa u1123.2 ++ (dblC ck od E)))) H := hP
  have hD : va_D A (brkU ck ka ad ra u1123.1 ++ (modelC ck mo (encZ S) F1 F2 F3 F4 M ++ (lngC ck oa u1123.2 ++ (dblC ck od E)))) := hD
  refine lv_istore (lv' := [(6, .int r1123), (0, .ref b), (1, .ref (ad 7 0)), (2, .ref (mo 0)), (3, .ref oa), (4, .ref od), (5, .int (zI i))]) hx hb dL_law_1126 hl (by decide) rfl (fun ls hl => ?_)
  refine lv_aload_n hx hb dL_law_1128 rfl (lv_at hl 3 rfl) ?_
  refine lv_aload_n hx hb dL_law_1129 rfl (lv_at hl 1 rfl) ?_
  refine lv_iload hx hb dL_law_1130 (lv_at hl 6 rfl) ?_
  refine x_iconst hx hb dL_law_1132 ?_
  refine x_iadd hx hb dL_law_1133 ?_
  refine x_sld hx hb hX hbl hbA hS (by omega) (by omega) hv_x dL_law_1134 ?_
  refine lv_aload_n hx hb dL_law_1135 rfl (lv_at hl 1 rfl) ?_
  refine lv_iload hx hb dL_law_1136 (lv_at hl 6 rfl) ?_
  refine x_iconst hx hb dL_law_1138 ?_
  refine x_iadd hx hb dL_law_1139 ?_
  refine x_sld hx hb hX hbl hbA hS (by omega) (by omega) hv_y dL_law_1140 ?_
  refine x_calliB (ws' := brkU ck ka ad ra u1123.1 ++ (modelC ck mo (encZ S) F1 F2 F3 F4 (upS M 8 0 (1 - bI (isCell x y))) ++ (lngC ck oa u1123.2 ++ (dblC ck od E)))) (M := modelC ck mo (encZ S) F1 F2 F3 F4 M) (M' := modelC ck mo (encZ S) F1 F2 F3 F4 (upS M 8 0 (1 - bI (isCell x y)))) (N := brkU ck ka ad ra u1123.1 ++ (lngC ck oa u1123.2 ++ (dblC ck od E))) (cat_perm [brkU ck ka ad ra u1123.1, modelC ck mo (encZ S) F1 F2 F3 F4 M, lngC ck oa u1123.2, dblC ck od E] [1] [0, 2, 3] 4 rfl (by decide)) (cat_perm [brkU ck ka ad ra u1123.1, modelC ck mo (encZ S) F1 F2 F3 F4 (upS M 8 0 (1 - bI (isCell x y))), lngC ck oa u1123.2, dblC ck od E] [1] [0, 2, 3] 4 rfl (by decide)) hP hD hS hA (fun hPm hDm => va_runV (As := [.int (zI x), .int (zI y)]) (rest := []) ⟨hx, hb, hml, hown, htg⟩ (m_noiseAt l dg ck mo S F1 F2 F3 F4 M x y _ hI (by omega) (by omega)) (cwV 2 htg (gwV wq_1784 wq_1785 wq_1786 wq_15 wq_1787) rfl rfl rfl (by decide +kernel) ⟨Nat.le_of_ble_eq_true rfl, Nat.le_of_ble_eq_true rfl⟩) (wr_preV hK hPm hDm 0 11 rfl rfl) rfl rfl hl.1 rfl (lv_room (Nat.le_of_ble_eq_true rfl)) dL_law_1141 ⟨by show _ ≤ 603072; omega, by show _ ≤ 7207018; omega⟩) (fun r1141 H locs hr1141 hP hD hS => ?_)
  subst hr1141
  have hP : va_P dg vwCl (brkU ck ka ad ra u1123.1 ++ (modelC ck mo (encZ S) F1 F2 F3 F4 (upS M 8 0 (1 - bI (isCell x y))) ++ (lngC ck oa u1123.2 ++ (dblC ck od E)))) H := hP
  have hD : va_D A (brkU ck ka ad ra u1123.1 ++ (modelC ck mo (encZ S) F1 F2 F3 F4 (upS M 8 0 (1 - bI (isCell x y))) ++ (lngC ck oa u1123.2 ++ (dblC ck od E)))) := hD
  have hcase : ∃ t9 : Int, (upS M 8 0 (1 - bI (isCell x y))) 8 0 = t9 ∧ r1123 = zI t9 ∧ (0 ≤ t9 ∧ t9 ≤ 3) ∧ (t9 = 0 → u1123.2 0 = (zI (itZ (isCell x y) (noise S x y))).toInt64) ∧ LI (775 * i + 3100) (u1123.1.1) (u1123.1.2.2.1) (u1123.1.2.2.2.1) (u1123.1.2.2.2.2.1) (u1123.1.2.2.2.2.2.2.1) (u1123.1.2.2.2.2.2.2.2.1) (u1123.1.2.2.2.2.2.2.2.2.2.2.1) (u1123.1.2.2.2.2.2.2.2.2.2.2.2) F2 F3 (upS M 8 0 (1 - bI (isCell x y))) ∧ S = u1123.1.2.2.2.2.1 := by
    rcases hw with ⟨e1, r1, hp, eu, ev⟩ | ⟨e1, hc, eu⟩
    · obtain ⟨rfl, hok⟩ := hp
      refine ⟨0, upS_s.trans (by (try unfold itZ); (try unfold bI); (repeat' split) <;> omega), e1, by decide, fun _ => ev.trans (congrArg (fun v9 : Int => (zI v9).toInt64) (by (try unfold itZ); (try unfold bI); (repeat' split) <;> omega)), ?_, (by rw [eu] <;> rfl)⟩
      rw [eu]
      exact (hLI.m (mK_0 M _)).mono (by omega) (by omega)
    · refine ⟨1, upS_s.trans (by (try unfold itZ); (try unfold bI); (repeat' split) <;> omega), e1, by decide, fun q => absurd q (by decide), ?_, (by rw [eu] <;> rfl)⟩
      rw [eu]
      exact (hLI.m (mK_0 M _)).mono (by omega) (by omega)
  obtain ⟨t9, ht9, hr9, ht9b, hval, hLI2, hS2⟩ := hcase
  have ht9r : zI ((upS M 8 0 (1 - bI (isCell x y))) 8 0) = r1123 := by rw [ht9, hr9]
  refine lv_istore (lv' := [(7, .int (zI (itZ (isCell x y) (noise S x y)))), (6, .int r1123), (0, .ref b), (1, .ref (ad 7 0)), (2, .ref (mo 0)), (3, .ref oa), (4, .ref od), (5, .int (zI i))]) hx hb dL_law_1144 hl (by decide) rfl (fun ls hl => ?_)
  refine lv_aload_n hx hb dL_law_1146 rfl (lv_at hl 4 rfl) ?_
  refine vp_callSi (W.runV (As := []) (rest := []) ⟨hx, hb, hml, hown, htg⟩ (m_thrown l dg ck mo S F1 F2 F3 F4 (upS M 8 0 (1 - bI (isCell x y)))) (cwV 0 htg (gwV wq_1627 wq_1628 wq_1629 wq_15 wq_1630) rfl rfl rfl (by decide +kernel) ⟨Nat.le_of_ble_eq_true rfl, Nat.le_of_ble_eq_true rfl⟩) (rd_preV hK (va_P_l (va_P_r hP)) 0 11 rfl rfl) rfl rfl hl.1 rfl (lv_room (Nat.le_of_ble_eq_true rfl)) dL_law_1147 ⟨by show _ ≤ 603072; omega, by show _ ≤ 7207018; omega⟩) (fun r1147 hr1147 => ?_)
  subst hr1147
  refine lv_iload hx hb dL_law_1150 (lv_at hl 1 rfl) ?_
  refine lv_icmp_eq (tgt := 1157) hx hb dL_law_1152 (by decide) (fun _ => ?_) (fun c9 => absurd ht9r c9)
  refine lv_iload hx hb dL_law_1157 (lv_at hl 1 rfl) ?_
  refine W.eq (g2 := F0 m 1159 ls [.int (zI t9)]) (by rw [hr9]) ?_
  refine x_if_ne (tgt := 1174) hx hb dL_law_1159 (by decide) (by omega) (fun c9 => ?_) (fun c9 => ?_)
  · refine lv_goto (tgt := 3323) hx hb dL_law_1174 (by decide) ?_
    refine W.widen (k := cells + 3) (n := slots + 18) (by omega) (by omega) ?_
    have hP : va_P dg vwCl (lawW ck ka ad ra mo oa od u1123.1 F1 F2 F3 F4 (upS M 8 0 (1 - bI (isCell x y))) u1123.2 E) H := va_P_eq (by rw [hS2] <;> rfl) hP
    have hD : va_D A (lawW ck ka ad ra mo oa od u1123.1 F1 F2 F3 F4 (upS M 8 0 (1 - bI (isCell x y))) u1123.2 E) := va_D_eq (by rw [hS2] <;> rfl) hD
    exact kk u1123.1 F1 F2 F3 F4 (upS M 8 0 (1 - bI (isCell x y))) u1123.2 E H locs ls hLI2 hP hD hS (lv_sub hl [2, 3, 4, 5, 6, 7] rfl)
  · have hv9 := hval (by omega)
    refine lv_aload_n hx hb dL_law_1162 rfl (lv_at hl 5 rfl) ?_
    refine x_iconst hx hb dL_law_1163 ?_
    refine va_lald hx hb hK hP 175 5 rfl rfl (zI_in (z := 0) (by decide) (by decide)) dL_law_1164 ?_
    refine lv_iload hx hb dL_law_1165 (lv_at hl 0 rfl) ?_
    refine lv_i2l hx hb dL_law_1167 rfl ?_
    refine W.lcmp hx hb dL_law_1168 ?_
    refine W.eq (g2 := F0 m 1169 ls [.int (zI 0)]) (congrArg (fun v9 => F0 m 1169 ls [.int v9]) ((congrArg (fun v9 => lg_cmp v9 _) hv9).trans (lg_self _))) ?_
    refine x_if_eq (tgt := 1174) hx hb dL_law_1169 (by decide) (by omega) (fun _ => ?_) (fun c => absurd rfl c)
    refine lv_goto (tgt := 3323) hx hb dL_law_1174 (by decide) ?_
    refine W.widen (k := cells + 3) (n := slots + 18) (by omega) (by omega) ?_
    have hP : va_P dg vwCl (lawW ck ka ad ra mo oa od u1123.1 F1 F2 F3 F4 (upS M 8 0 (1 - bI (isCell x y))) u1123.2 E) H := va_P_eq (by rw [hS2] <;> rfl) hP
    have hD : va_D A (lawW ck ka ad ra mo oa od u1123.1 F1 F2 F3 F4 (upS M 8 0 (1 - bI (isCell x y))) u1123.2 E) := va_D_eq (by rw [hS2] <;> rfl) hD
    exact kk u1123.1 F1 F2 F3 F4 (upS M 8 0 (1 - bI (isCell x y))) u1123.2 E H locs ls hLI2 hP hD hS (lv_sub hl [2, 3, 4, 5, 6, 7] rfl)

set_option maxHeartbeats 4000000 in
set_option maxRecDepth 100000 in
/-- the law: a call of noiseBySpreading -/
theorem lc_16 {p : Program} {l : Launch} {e : Env} {s : State} {m : MethodId} {below : List Frame} {meth : Method} {c : Code} {dg : va_G} {ck : Nat → ClassId} {ka : Nat → Nat} {b L : Nat} {xs : Nat → Int32} {A : Nat → Prop} {ad ra : Nat → Nat → Nat} {mo : Nat → Nat} {oa od : Nat} {Qf : State → Prop} {i : Int} {cells slots : Nat} (C0 : LX p l s m c dg ck ka b L xs A) (hi : 0 ≤ i ∧ i + 4 ≤ L) (hcell : cells + 3 ≤ 603072) (hslot : slots + 18 ≤ 7207018) (kk : LKK p l e s m below meth c dg ck ka ad ra mo oa od b A Qf i cells slots) {Z O U X : Nat → Int} {S T P I : St} {V N Y : Int → Int} {Q : Nat → St} {F1 F2 F3 F4 : Int → Int} {M : St} {D : Nat → Int64} {E : Nat → UInt64} {H : Heap} {locs : List Loc} {ls : Array Slot} (hLI : LI (775 * i) Z U X S P I Y Q F2 F3 M) (hP : va_P dg vwCl (brkW ck ka ad ra Z O U X S T P I V N Y Q ++ (modelC ck mo (encZ S) F1 F2 F3 F4 M ++ (lngC ck oa D ++ (dblC ck od E)))) H) (hD : va_D A (brkW ck ka ad ra Z O U X S T P I V N Y Q ++ (modelC ck mo (encZ S) F1 F2 F3 F4 M ++ (lngC ck oa D ++ (dblC ck od E))))) (hS : va_S A s.heap H locs) (hl : lv_has ls 9 [(0, .ref b), (1, .ref (ad 7 0)), (2, .ref (mo 0)), (3, .ref oa), (4, .ref od), (5, .int (zI i))]) : W p l e room_1 s m #[Value.ref b] below meth c H locs cells slots Qf (F0 m 1177 ls []) := by
  obtain ⟨hx, hb, hml, hown, htg, hX, hbl, hbA, hK, hC, hA, hst, hL⟩ := id C0
  obtain ⟨hV, hlh, hls, hlt, hlo, hlf⟩ := id hLI
  obtain ⟨hn, hz, hk1, hq10, hhist⟩ := id hlh
  obtain ⟨hk2, hz0, hp10, hsn⟩ := id hls
  obtain ⟨hk3, hln, hk5, htx, hkv⟩ := id hlt
  obtain ⟨hk4, hu0, hy7, hY⟩ := id hlo
  obtain ⟨⟨hk5a, hz4⟩, ⟨hk6, hz1⟩, hk7, hk8⟩ := id hlf
  have hI := hV.bd
  have hs10 : ∀ i, 0 ≤ S 10 i ∧ S 10 i ≤ 1 := hI.2.2.2.2.2.2.2.2.2.2.2.2.2.1
  obtain ⟨x, hv_x⟩ : ∃ v9 : Int, (xs (i + 1).toNat).toInt = v9 := ⟨_, rfl⟩
  have rgx_x := xi_r (xs (i + 1).toNat)
  rw [hv_x] at rgx_x
  obtain ⟨y, hv_y⟩ : ∃ v9 : Int, (xs (i + 2).toNat).toInt = v9 := ⟨_, rfl⟩
  have rgx_y := xi_r (xs (i + 2).toNat)
  rw [hv_y] at rgx_y
  obtain ⟨z, hv_z⟩ : ∃ v9 : Int, (xs (i + 3).toNat).toInt = v9 := ⟨_, rfl⟩
  have rgx_z := xi_r (xs (i + 3).toNat)
  rw [hv_z] at rgx_z
  refine lv_aload_n hx hb dL_law_1177 rfl (lv_at hl 1 rfl) ?_
  refine lv_aload_n hx hb dL_law_1178 rfl (lv_at hl 0 rfl) ?_
  refine lv_iload hx hb dL_law_1179 (lv_at hl 5 rfl) ?_
  refine x_iconst hx hb dL_law_1181 ?_
  refine x_iadd hx hb dL_law_1182 ?_
  refine x_sld hx hb hX hbl hbA hS (by omega) (by omega) hv_x dL_law_1183 ?_
  refine lv_aload_n hx hb dL_law_1184 rfl (lv_at hl 0 rfl) ?_
  refine lv_iload hx hb dL_law_1185 (lv_at hl 5 rfl) ?_
  refine x_iconst hx hb dL_law_1187 ?_
  refine x_iadd hx hb dL_law_1188 ?_
  refine x_sld hx hb hX hbl hbA hS (by omega) (by omega) hv_y dL_law_1189 ?_
  refine lv_aload_n hx hb dL_law_1190 rfl (lv_at hl 3 rfl) ?_
  refine x_calliUB (wf := fun u1191 : BU × (Nat → Int64) => brkU ck ka ad ra u1191.1 ++ (modelC ck mo (encZ S) F1 F2 F3 F4 M ++ (lngC ck oa u1191.2 ++ (dblC ck od E)))) (M := brkW ck ka ad ra Z O U X S T P I V N Y Q ++ (lngC ck oa D)) (Mf := fun u1191 => brkU ck ka ad ra u1191.1 ++ (lngC ck oa u1191.2)) (N := modelC ck mo (encZ S) F1 F2 F3 F4 M ++ (dblC ck od E)) (cat_perm [brkW ck ka ad ra Z O U X S T P I V N Y Q, modelC ck mo (encZ S) F1 F2 F3 F4 M, lngC ck oa D, dblC ck od E] [0, 2] [1, 3] 4 rfl (by decide)) (fun u1191 => cat_perm [brkU ck ka ad ra u1191.1, modelC ck mo (encZ S) F1 F2 F3 F4 M, lngC ck oa u1191.2, dblC ck od E] [0, 2] [1, 3] 4 rfl (by decide)) hP hD hS hA (fun hPm hDm => vx_runSW (As := [.ref (ad 7 0), .int (zI x), .int (zI y), .ref oa]) (rest := []) ⟨hx, hb, hml, hown, htg⟩ (w_noiseBySpreading l dg ck ka ad ra Z O U X S T P I V N Y Q oa D x y _ hI (by omega) (by omega) hst) (vx_cwSW 4 htg (gwSW wq_820 wq_821 wq_0 wqL_noiseBySpreading) rfl rfl rfl (by decide +kernel) ⟨Nat.le_of_ble_eq_true rfl, Nat.le_of_ble_eq_true rfl⟩) (wrK_preS hK hPm hDm hC hS hA) rfl rfl hl.1 rfl (lv_room (Nat.le_of_ble_eq_true rfl)) dL_law_1191 ⟨by show cells + 1 ≤ 603072; omega, by show slots + 6 ≤ 7207018; omega⟩) (fun r1191 u1191 H locs hw hP hD hS => ?_)
  have hP : va_P dg vwCl (brkU ck ka ad ra u1191.1 ++ (modelC ck mo (encZ S) F1 F2 F3 F4 M ++ (lngC ck oa u1191.2 ++ (dblC ck od E)))) H := hP
  have hD : va_D A (brkU ck ka ad ra u1191.1 ++ (modelC ck mo (encZ S) F1 F2 F3 F4 M ++ (lngC ck oa u1191.2 ++ (dblC ck od E)))) := hD
  refine lv_istore (lv' := [(6, .int r1191), (0, .ref b), (1, .ref (ad 7 0)), (2, .ref (mo 0)), (3, .ref oa), (4, .ref od), (5, .int (zI i))]) hx hb dL_law_1194 hl (by decide) rfl (fun ls hl => ?_)
  refine lv_aload_n hx hb dL_law_1196 rfl (lv_at hl 3 rfl) ?_
  refine lv_aload_n hx hb dL_law_1197 rfl (lv_at hl 1 rfl) ?_
  refine lv_iload hx hb dL_law_1198 (lv_at hl 6 rfl) ?_
  refine x_iconst hx hb dL_law_1200 ?_
  refine x_iadd hx hb dL_law_1201 ?_
  refine x_sld hx hb hX hbl hbA hS (by omega) (by omega) hv_x dL_law_1202 ?_
  refine lv_aload_n hx hb dL_law_1203 rfl (lv_at hl 1 rfl) ?_
  refine lv_iload hx hb dL_law_1204 (lv_at hl 6 rfl) ?_
  refine x_iconst hx hb dL_law_1206 ?_
  refine x_iadd hx hb dL_law_1207 ?_
  refine x_sld hx hb hX hbl hbA hS (by omega) (by omega) hv_y dL_law_1208 ?_
  refine x_calliB (ws' := brkU ck ka ad ra u1191.1 ++ (modelC ck mo (encZ S) F1 F2 F3 F4 (upS M 8 0 (1 - bI (isCell x y))) ++ (lngC ck oa u1191.2 ++ (dblC ck od E)))) (M := modelC ck mo (encZ S) F1 F2 F3 F4 M) (M' := modelC ck mo (encZ S) F1 F2 F3 F4 (upS M 8 0 (1 - bI (isCell x y)))) (N := brkU ck ka ad ra u1191.1 ++ (lngC ck oa u1191.2 ++ (dblC ck od E))) (cat_perm [brkU ck ka ad ra u1191.1, modelC ck mo (encZ S) F1 F2 F3 F4 M, lngC ck oa u1191.2, dblC ck od E] [1] [0, 2, 3] 4 rfl (by decide)) (cat_perm [brkU ck ka ad ra u1191.1, modelC ck mo (encZ S) F1 F2 F3 F4 (upS M 8 0 (1 - bI (isCell x y))), lngC ck oa u1191.2, dblC ck od E] [1] [0, 2, 3] 4 rfl (by decide)) hP hD hS hA (fun hPm hDm => va_runV (As := [.int (zI x), .int (zI y)]) (rest := []) ⟨hx, hb, hml, hown, htg⟩ (m_noiseBySpreading l dg ck mo S F1 F2 F3 F4 M x y _ hI (by omega) (by omega)) (cwV 2 htg (gwV wq_1788 wq_1789 wq_1790 wq_15 wq_1791) rfl rfl rfl (by decide +kernel) ⟨Nat.le_of_ble_eq_true rfl, Nat.le_of_ble_eq_true rfl⟩) (wr_preV hK hPm hDm 0 11 rfl rfl) rfl rfl hl.1 rfl (lv_room (Nat.le_of_ble_eq_true rfl)) dL_law_1209 ⟨by show _ ≤ 603072; omega, by show _ ≤ 7207018; omega⟩) (fun r1209 H locs hr1209 hP hD hS => ?_)
  subst hr1209
  have hP : va_P dg vwCl (brkU ck ka ad ra u1191.1 ++ (modelC ck mo (encZ S) F1 F2 F3 F4 (upS M 8 0 (1 - bI (isCell x y))) ++ (lngC ck oa u1191.2 ++ (dblC ck od E)))) H := hP
  have hD : va_D A (brkU ck ka ad ra u1191.1 ++ (modelC ck mo (encZ S) F1 F2 F3 F4 (upS M 8 0 (1 - bI (isCell x y))) ++ (lngC ck oa u1191.2 ++ (dblC ck od E)))) := hD
  have hcase : ∃ t9 : Int, (upS M 8 0 (1 - bI (isCell x y))) 8 0 = t9 ∧ r1191 = zI t9 ∧ (0 ≤ t9 ∧ t9 ≤ 3) ∧ (t9 = 0 → u1191.2 0 = (zI (itZ (isCell x y) (noise S x y))).toInt64) ∧ LI (775 * i + 3100) (u1191.1.1) (u1191.1.2.2.1) (u1191.1.2.2.2.1) (u1191.1.2.2.2.2.1) (u1191.1.2.2.2.2.2.2.1) (u1191.1.2.2.2.2.2.2.2.1) (u1191.1.2.2.2.2.2.2.2.2.2.2.1) (u1191.1.2.2.2.2.2.2.2.2.2.2.2) F2 F3 (upS M 8 0 (1 - bI (isCell x y))) ∧ S = u1191.1.2.2.2.2.1 := by
    rcases hw with ⟨e1, r1, hp, eu, ev⟩ | ⟨e1, hc, eu⟩
    · obtain ⟨rfl, hok⟩ := hp
      refine ⟨0, upS_s.trans (by (try unfold itZ); (try unfold bI); (repeat' split) <;> omega), e1, by decide, fun _ => ev.trans (congrArg (fun v9 : Int => (zI v9).toInt64) (by (try unfold itZ); (try unfold bI); (repeat' split) <;> omega)), ?_, (by rw [eu] <;> rfl)⟩
      rw [eu]
      exact (hLI.m (mK_0 M _)).mono (by omega) (by omega)
    · refine ⟨1, upS_s.trans (by (try unfold itZ); (try unfold bI); (repeat' split) <;> omega), e1, by decide, fun q => absurd q (by decide), ?_, (by rw [eu] <;> rfl)⟩
      rw [eu]
      exact (hLI.m (mK_0 M _)).mono (by omega) (by omega)
  obtain ⟨t9, ht9, hr9, ht9b, hval, hLI2, hS2⟩ := hcase
  have ht9r : zI ((upS M 8 0 (1 - bI (isCell x y))) 8 0) = r1191 := by rw [ht9, hr9]
  refine lv_istore (lv' := [(7, .int (zI (itZ (isCell x y) (noise S x y)))), (6, .int r1191), (0, .ref b), (1, .ref (ad 7 0)), (2, .ref (mo 0)), (3, .ref oa), (4, .ref od), (5, .int (zI i))]) hx hb dL_law_1212 hl (by decide) rfl (fun ls hl => ?_)
  refine lv_aload_n hx hb dL_law_1214 rfl (lv_at hl 4 rfl) ?_
  refine vp_callSi (W.runV (As := []) (rest := []) ⟨hx, hb, hml, hown, htg⟩ (m_thrown l dg ck mo S F1 F2 F3 F4 (upS M 8 0 (1 - bI (isCell x y)))) (cwV 0 htg (gwV wq_1627 wq_1628 wq_1629 wq_15 wq_1630) rfl rfl rfl (by decide +kernel) ⟨Nat.le_of_ble_eq_true rfl, Nat.le_of_ble_eq_true rfl⟩) (rd_preV hK (va_P_l (va_P_r hP)) 0 11 rfl rfl) rfl rfl hl.1 rfl (lv_room (Nat.le_of_ble_eq_true rfl)) dL_law_1215 ⟨by show _ ≤ 603072; omega, by show _ ≤ 7207018; omega⟩) (fun r1215 hr1215 => ?_)
  subst hr1215
  refine lv_iload hx hb dL_law_1218 (lv_at hl 1 rfl) ?_
  refine lv_icmp_eq (tgt := 1225) hx hb dL_law_1220 (by decide) (fun _ => ?_) (fun c9 => absurd ht9r c9)
  refine lv_iload hx hb dL_law_1225 (lv_at hl 1 rfl) ?_
  refine W.eq (g2 := F0 m 1227 ls [.int (zI t9)]) (by rw [hr9]) ?_
  refine x_if_ne (tgt := 1242) hx hb dL_law_1227 (by decide) (by omega) (fun c9 => ?_) (fun c9 => ?_)
  · refine lv_goto (tgt := 3323) hx hb dL_law_1242 (by decide) ?_
    refine W.widen (k := cells + 3) (n := slots + 18) (by omega) (by omega) ?_
    have hP : va_P dg vwCl (lawW ck ka ad ra mo oa od u1191.1 F1 F2 F3 F4 (upS M 8 0 (1 - bI (isCell x y))) u1191.2 E) H := va_P_eq (by rw [hS2] <;> rfl) hP
    have hD : va_D A (lawW ck ka ad ra mo oa od u1191.1 F1 F2 F3 F4 (upS M 8 0 (1 - bI (isCell x y))) u1191.2 E) := va_D_eq (by rw [hS2] <;> rfl) hD
    exact kk u1191.1 F1 F2 F3 F4 (upS M 8 0 (1 - bI (isCell x y))) u1191.2 E H locs ls hLI2 hP hD hS (lv_sub hl [2, 3, 4, 5, 6, 7] rfl)
  · have hv9 := hval (by omega)
    refine lv_aload_n hx hb dL_law_1230 rfl (lv_at hl 5 rfl) ?_
    refine x_iconst hx hb dL_law_1231 ?_
    refine va_lald hx hb hK hP 175 5 rfl rfl (zI_in (z := 0) (by decide) (by decide)) dL_law_1232 ?_
    refine lv_iload hx hb dL_law_1233 (lv_at hl 0 rfl) ?_
    refine lv_i2l hx hb dL_law_1235 rfl ?_
    refine W.lcmp hx hb dL_law_1236 ?_
    refine W.eq (g2 := F0 m 1237 ls [.int (zI 0)]) (congrArg (fun v9 => F0 m 1237 ls [.int v9]) ((congrArg (fun v9 => lg_cmp v9 _) hv9).trans (lg_self _))) ?_
    refine x_if_eq (tgt := 1242) hx hb dL_law_1237 (by decide) (by omega) (fun _ => ?_) (fun c => absurd rfl c)
    refine lv_goto (tgt := 3323) hx hb dL_law_1242 (by decide) ?_
    refine W.widen (k := cells + 3) (n := slots + 18) (by omega) (by omega) ?_
    have hP : va_P dg vwCl (lawW ck ka ad ra mo oa od u1191.1 F1 F2 F3 F4 (upS M 8 0 (1 - bI (isCell x y))) u1191.2 E) H := va_P_eq (by rw [hS2] <;> rfl) hP
    have hD : va_D A (lawW ck ka ad ra mo oa od u1191.1 F1 F2 F3 F4 (upS M 8 0 (1 - bI (isCell x y))) u1191.2 E) := va_D_eq (by rw [hS2] <;> rfl) hD
    exact kk u1191.1 F1 F2 F3 F4 (upS M 8 0 (1 - bI (isCell x y))) u1191.2 E H locs ls hLI2 hP hD hS (lv_sub hl [2, 3, 4, 5, 6, 7] rfl)

set_option maxHeartbeats 4000000 in
set_option maxRecDepth 100000 in
/-- the law: a call of isQuiet -/
theorem lc_17 {p : Program} {l : Launch} {e : Env} {s : State} {m : MethodId} {below : List Frame} {meth : Method} {c : Code} {dg : va_G} {ck : Nat → ClassId} {ka : Nat → Nat} {b L : Nat} {xs : Nat → Int32} {A : Nat → Prop} {ad ra : Nat → Nat → Nat} {mo : Nat → Nat} {oa od : Nat} {Qf : State → Prop} {i : Int} {cells slots : Nat} (C0 : LX p l s m c dg ck ka b L xs A) (hi : 0 ≤ i ∧ i + 4 ≤ L) (hcell : cells + 3 ≤ 603072) (hslot : slots + 18 ≤ 7207018) (kk : LKK p l e s m below meth c dg ck ka ad ra mo oa od b A Qf i cells slots) {Z O U X : Nat → Int} {S T P I : St} {V N Y : Int → Int} {Q : Nat → St} {F1 F2 F3 F4 : Int → Int} {M : St} {D : Nat → Int64} {E : Nat → UInt64} {H : Heap} {locs : List Loc} {ls : Array Slot} (hLI : LI (775 * i) Z U X S P I Y Q F2 F3 M) (hP : va_P dg vwCl (brkW ck ka ad ra Z O U X S T P I V N Y Q ++ (modelC ck mo (encZ S) F1 F2 F3 F4 M ++ (lngC ck oa D ++ (dblC ck od E)))) H) (hD : va_D A (brkW ck ka ad ra Z O U X S T P I V N Y Q ++ (modelC ck mo (encZ S) F1 F2 F3 F4 M ++ (lngC ck oa D ++ (dblC ck od E))))) (hS : va_S A s.heap H locs) (hl : lv_has ls 9 [(0, .ref b), (1, .ref (ad 7 0)), (2, .ref (mo 0)), (3, .ref oa), (4, .ref od), (5, .int (zI i))]) : W p l e room_1 s m #[Value.ref b] below meth c H locs cells slots Qf (F0 m 1245 ls []) := by
  obtain ⟨hx, hb, hml, hown, htg, hX, hbl, hbA, hK, hC, hA, hst, hL⟩ := id C0
  obtain ⟨hV, hlh, hls, hlt, hlo, hlf⟩ := id hLI
  obtain ⟨hn, hz, hk1, hq10, hhist⟩ := id hlh
  obtain ⟨hk2, hz0, hp10, hsn⟩ := id hls
  obtain ⟨hk3, hln, hk5, htx, hkv⟩ := id hlt
  obtain ⟨hk4, hu0, hy7, hY⟩ := id hlo
  obtain ⟨⟨hk5a, hz4⟩, ⟨hk6, hz1⟩, hk7, hk8⟩ := id hlf
  have hI := hV.bd
  have hs10 : ∀ i, 0 ≤ S 10 i ∧ S 10 i ≤ 1 := hI.2.2.2.2.2.2.2.2.2.2.2.2.2.1
  obtain ⟨x, hv_x⟩ : ∃ v9 : Int, (xs (i + 1).toNat).toInt = v9 := ⟨_, rfl⟩
  have rgx_x := xi_r (xs (i + 1).toNat)
  rw [hv_x] at rgx_x
  obtain ⟨y, hv_y⟩ : ∃ v9 : Int, (xs (i + 2).toNat).toInt = v9 := ⟨_, rfl⟩
  have rgx_y := xi_r (xs (i + 2).toNat)
  rw [hv_y] at rgx_y
  obtain ⟨z, hv_z⟩ : ∃ v9 : Int, (xs (i + 3).toNat).toInt = v9 := ⟨_, rfl⟩
  have rgx_z := xi_r (xs (i + 3).toNat)
  rw [hv_z] at rgx_z
  refine lv_aload_n hx hb dL_law_1245 rfl (lv_at hl 1 rfl) ?_
  refine lv_aload_n hx hb dL_law_1246 rfl (lv_at hl 0 rfl) ?_
  refine lv_iload hx hb dL_law_1247 (lv_at hl 5 rfl) ?_
  refine x_iconst hx hb dL_law_1249 ?_
  refine x_iadd hx hb dL_law_1250 ?_
  refine x_sld hx hb hX hbl hbA hS (by omega) (by omega) hv_x dL_law_1251 ?_
  refine lv_aload_n hx hb dL_law_1252 rfl (lv_at hl 3 rfl) ?_
  refine x_calliUB (wf := fun u1253 : BU × (Nat → Int64) => brkU ck ka ad ra u1253.1 ++ (modelC ck mo (encZ S) F1 F2 F3 F4 M ++ (lngC ck oa u1253.2 ++ (dblC ck od E)))) (M := brkW ck ka ad ra Z O U X S T P I V N Y Q ++ (lngC ck oa D)) (Mf := fun u1253 => brkU ck ka ad ra u1253.1 ++ (lngC ck oa u1253.2)) (N := modelC ck mo (encZ S) F1 F2 F3 F4 M ++ (dblC ck od E)) (cat_perm [brkW ck ka ad ra Z O U X S T P I V N Y Q, modelC ck mo (encZ S) F1 F2 F3 F4 M, lngC ck oa D, dblC ck od E] [0, 2] [1, 3] 4 rfl (by decide)) (fun u1253 => cat_perm [brkU ck ka ad ra u1253.1, modelC ck mo (encZ S) F1 F2 F3 F4 M, lngC ck oa u1253.2, dblC ck od E] [0, 2] [1, 3] 4 rfl (by decide)) hP hD hS hA (fun hPm hDm => vx_runSW (As := [.ref (ad 7 0), .int (zI x), .ref oa]) (rest := []) ⟨hx, hb, hml, hown, htg⟩ (w_isQuiet l dg ck ka ad ra Z O U X S T P I V N Y Q oa D x _ hI (by omega) hst) (vx_cwSW 3 htg (gwSW wq_827 wq_828 wq_0 wqL_isQuiet) rfl rfl rfl (by decide +kernel) ⟨Nat.le_of_ble_eq_true rfl, Nat.le_of_ble_eq_true rfl⟩) (wrK_preS hK hPm hDm hC hS hA) rfl rfl hl.1 rfl (lv_room (Nat.le_of_ble_eq_true rfl)) dL_law_1253 ⟨by show cells + 1 ≤ 603072; omega, by show slots + 6 ≤ 7207018; omega⟩) (fun r1253 u1253 H locs hw hP hD hS => ?_)
  have hP : va_P dg vwCl (brkU ck ka ad ra u1253.1 ++ (modelC ck mo (encZ S) F1 F2 F3 F4 M ++ (lngC ck oa u1253.2 ++ (dblC ck od E)))) H := hP
  have hD : va_D A (brkU ck ka ad ra u1253.1 ++ (modelC ck mo (encZ S) F1 F2 F3 F4 M ++ (lngC ck oa u1253.2 ++ (dblC ck od E)))) := hD
  refine lv_istore (lv' := [(6, .int r1253), (0, .ref b), (1, .ref (ad 7 0)), (2, .ref (mo 0)), (3, .ref oa), (4, .ref od), (5, .int (zI i))]) hx hb dL_law_1256 hl (by decide) rfl (fun ls hl => ?_)
  refine lv_aload_n hx hb dL_law_1258 rfl (lv_at hl 3 rfl) ?_
  refine lv_aload_n hx hb dL_law_1259 rfl (lv_at hl 1 rfl) ?_
  refine lv_iload hx hb dL_law_1260 (lv_at hl 6 rfl) ?_
  refine x_iconst hx hb dL_law_1262 ?_
  refine x_iadd hx hb dL_law_1263 ?_
  refine x_sld hx hb hX hbl hbA hS (by omega) (by omega) hv_x dL_law_1264 ?_
  refine x_calliB (ws' := brkU ck ka ad ra u1253.1 ++ (modelC ck mo (encZ S) F1 F2 F3 F4 (upS M 8 0 (1 - bI (isBench S x))) ++ (lngC ck oa u1253.2 ++ (dblC ck od E)))) (M := modelC ck mo (encZ S) F1 F2 F3 F4 M) (M' := modelC ck mo (encZ S) F1 F2 F3 F4 (upS M 8 0 (1 - bI (isBench S x)))) (N := brkU ck ka ad ra u1253.1 ++ (lngC ck oa u1253.2 ++ (dblC ck od E))) (cat_perm [brkU ck ka ad ra u1253.1, modelC ck mo (encZ S) F1 F2 F3 F4 M, lngC ck oa u1253.2, dblC ck od E] [1] [0, 2, 3] 4 rfl (by decide)) (cat_perm [brkU ck ka ad ra u1253.1, modelC ck mo (encZ S) F1 F2 F3 F4 (upS M 8 0 (1 - bI (isBench S x))), lngC ck oa u1253.2, dblC ck od E] [1] [0, 2, 3] 4 rfl (by decide)) hP hD hS hA (fun hPm hDm => va_runV (As := [.int (zI x)]) (rest := []) ⟨hx, hb, hml, hown, htg⟩ (m_isQuiet l dg ck mo S F1 F2 F3 F4 M x _ hI (by omega)) (cwV 1 htg (gwV wq_1793 wq_1794 wq_1795 wq_15 wq_1796) rfl rfl rfl (by decide +kernel) ⟨Nat.le_of_ble_eq_true rfl, Nat.le_of_ble_eq_true rfl⟩) (wr_preV hK hPm hDm 0 11 rfl rfl) rfl rfl hl.1 rfl (lv_room (Nat.le_of_ble_eq_true rfl)) dL_law_1265 ⟨by show _ ≤ 603072; omega, by show _ ≤ 7207018; omega⟩) (fun r1265 H locs hr1265 hP hD hS => ?_)
  subst hr1265
  have hP : va_P dg vwCl (brkU ck ka ad ra u1253.1 ++ (modelC ck mo (encZ S) F1 F2 F3 F4 (upS M 8 0 (1 - bI (isBench S x))) ++ (lngC ck oa u1253.2 ++ (dblC ck od E)))) H := hP
  have hD : va_D A (brkU ck ka ad ra u1253.1 ++ (modelC ck mo (encZ S) F1 F2 F3 F4 (upS M 8 0 (1 - bI (isBench S x))) ++ (lngC ck oa u1253.2 ++ (dblC ck od E)))) := hD
  have hcase : ∃ t9 : Int, (upS M 8 0 (1 - bI (isBench S x))) 8 0 = t9 ∧ r1253 = zI t9 ∧ (0 ≤ t9 ∧ t9 ≤ 3) ∧ (t9 = 0 → u1253.2 0 = (zI (bI (isBench S x ∧ quietB S x))).toInt64) ∧ LI (775 * i + 3100) (u1253.1.1) (u1253.1.2.2.1) (u1253.1.2.2.2.1) (u1253.1.2.2.2.2.1) (u1253.1.2.2.2.2.2.2.1) (u1253.1.2.2.2.2.2.2.2.1) (u1253.1.2.2.2.2.2.2.2.2.2.2.1) (u1253.1.2.2.2.2.2.2.2.2.2.2.2) F2 F3 (upS M 8 0 (1 - bI (isBench S x))) ∧ S = u1253.1.2.2.2.2.1 := by
    rcases hw with ⟨e1, r1, hp, eu, ev⟩ | ⟨e1, hc, eu⟩
    · obtain ⟨rfl, hok⟩ := hp
      refine ⟨0, upS_s.trans (by (try unfold itZ); (try unfold bI); (repeat' split) <;> omega), e1, by decide, fun _ => ev.trans (congrArg (fun v9 : Int => (zI v9).toInt64) (by (try unfold itZ); (try unfold bI); (repeat' split) <;> omega)), ?_, (by rw [eu] <;> rfl)⟩
      rw [eu]
      exact (hLI.m (mK_0 M _)).mono (by omega) (by omega)
    · refine ⟨1, upS_s.trans (by (try unfold itZ); (try unfold bI); (repeat' split) <;> omega), e1, by decide, fun q => absurd q (by decide), ?_, (by rw [eu] <;> rfl)⟩
      rw [eu]
      exact (hLI.m (mK_0 M _)).mono (by omega) (by omega)
  obtain ⟨t9, ht9, hr9, ht9b, hval, hLI2, hS2⟩ := hcase
  have ht9r : zI ((upS M 8 0 (1 - bI (isBench S x))) 8 0) = r1253 := by rw [ht9, hr9]
  refine lv_istore (lv' := [(7, .int (zI (bI (isBench S x ∧ quietB S x)))), (6, .int r1253), (0, .ref b), (1, .ref (ad 7 0)), (2, .ref (mo 0)), (3, .ref oa), (4, .ref od), (5, .int (zI i))]) hx hb dL_law_1268 hl (by decide) rfl (fun ls hl => ?_)
  refine lv_aload_n hx hb dL_law_1270 rfl (lv_at hl 4 rfl) ?_
  refine vp_callSi (W.runV (As := []) (rest := []) ⟨hx, hb, hml, hown, htg⟩ (m_thrown l dg ck mo S F1 F2 F3 F4 (upS M 8 0 (1 - bI (isBench S x)))) (cwV 0 htg (gwV wq_1627 wq_1628 wq_1629 wq_15 wq_1630) rfl rfl rfl (by decide +kernel) ⟨Nat.le_of_ble_eq_true rfl, Nat.le_of_ble_eq_true rfl⟩) (rd_preV hK (va_P_l (va_P_r hP)) 0 11 rfl rfl) rfl rfl hl.1 rfl (lv_room (Nat.le_of_ble_eq_true rfl)) dL_law_1271 ⟨by show _ ≤ 603072; omega, by show _ ≤ 7207018; omega⟩) (fun r1271 hr1271 => ?_)
  subst hr1271
  refine lv_iload hx hb dL_law_1274 (lv_at hl 1 rfl) ?_
  refine lv_icmp_eq (tgt := 1281) hx hb dL_law_1276 (by decide) (fun _ => ?_) (fun c9 => absurd ht9r c9)
  refine lv_iload hx hb dL_law_1281 (lv_at hl 1 rfl) ?_
  refine W.eq (g2 := F0 m 1283 ls [.int (zI t9)]) (by rw [hr9]) ?_
  refine x_if_ne (tgt := 1305) hx hb dL_law_1283 (by decide) (by omega) (fun c9 => ?_) (fun c9 => ?_)
  · refine lv_goto (tgt := 3323) hx hb dL_law_1305 (by decide) ?_
    refine W.widen (k := cells + 3) (n := slots + 18) (by omega) (by omega) ?_
    have hP : va_P dg vwCl (lawW ck ka ad ra mo oa od u1253.1 F1 F2 F3 F4 (upS M 8 0 (1 - bI (isBench S x))) u1253.2 E) H := va_P_eq (by rw [hS2] <;> rfl) hP
    have hD : va_D A (lawW ck ka ad ra mo oa od u1253.1 F1 F2 F3 F4 (upS M 8 0 (1 - bI (isBench S x))) u1253.2 E) := va_D_eq (by rw [hS2] <;> rfl) hD
    exact kk u1253.1 F1 F2 F3 F4 (upS M 8 0 (1 - bI (isBench S x))) u1253.2 E H locs ls hLI2 hP hD hS (lv_sub hl [2, 3, 4, 5, 6, 7] rfl)
  · have hv9 := hval (by omega)
    refine lv_aload_n hx hb dL_law_1286 rfl (lv_at hl 5 rfl) ?_
    refine x_iconst hx hb dL_law_1287 ?_
    refine va_lald hx hb hK hP 175 5 rfl rfl (zI_in (z := 0) (by decide) (by decide)) dL_law_1288 ?_
    refine lv_iload hx hb dL_law_1289 (lv_at hl 0 rfl) ?_
    have hb01 := bI_r (isBench S x ∧ quietB S x)
    rcases (show (bI (isBench S x ∧ quietB S x)) = 1 ∨ (bI (isBench S x ∧ quietB S x)) = 0 by omega) with h9 | h9
    · rw [h9] at hv9
      refine x_is h9 ?_
      refine x_if_eq (tgt := 1298) hx hb dL_law_1291 (by decide) (by omega) (fun c => absurd c (by decide)) (fun _ => ?_)
      refine lv_lconst (v := (zI 1).toInt64) hx hb dL_law_1294 (by decide) ?_
      refine lv_goto (tgt := 1299) hx hb dL_law_1295 (by decide) ?_
      refine W.lcmp hx hb dL_law_1299 ?_
      refine W.eq (g2 := F0 m 1300 ls [.int (zI 0)]) (congrArg (fun v9 => F0 m 1300 ls [.int v9]) ((congrArg (fun v9 => lg_cmp v9 _) hv9).trans (lg_self _))) ?_
      refine x_if_eq (tgt := 1305) hx hb dL_law_1300 (by decide) (by omega) (fun _ => ?_) (fun c => absurd rfl c)
      refine lv_goto (tgt := 3323) hx hb dL_law_1305 (by decide) ?_
      refine W.widen (k := cells + 3) (n := slots + 18) (by omega) (by omega) ?_
      have hP : va_P dg vwCl (lawW ck ka ad ra mo oa od u1253.1 F1 F2 F3 F4 (upS M 8 0 (1 - bI (isBench S x))) u1253.2 E) H := va_P_eq (by rw [hS2] <;> rfl) hP
      have hD : va_D A (lawW ck ka ad ra mo oa od u1253.1 F1 F2 F3 F4 (upS M 8 0 (1 - bI (isBench S x))) u1253.2 E) := va_D_eq (by rw [hS2] <;> rfl) hD
      exact kk u1253.1 F1 F2 F3 F4 (upS M 8 0 (1 - bI (isBench S x))) u1253.2 E H locs ls hLI2 hP hD hS (lv_sub hl [2, 3, 4, 5, 6, 7] rfl)
    · rw [h9] at hv9
      refine x_is h9 ?_
      refine x_if_eq (tgt := 1298) hx hb dL_law_1291 (by decide) (by omega) (fun _ => ?_) (fun c => absurd c (by decide))
      refine lv_lconst (v := (zI 0).toInt64) hx hb dL_law_1298 (by decide) ?_
      refine W.lcmp hx hb dL_law_1299 ?_
      refine W.eq (g2 := F0 m 1300 ls [.int (zI 0)]) (congrArg (fun v9 => F0 m 1300 ls [.int v9]) ((congrArg (fun v9 => lg_cmp v9 _) hv9).trans (lg_self _))) ?_
      refine x_if_eq (tgt := 1305) hx hb dL_law_1300 (by decide) (by omega) (fun _ => ?_) (fun c => absurd rfl c)
      refine lv_goto (tgt := 3323) hx hb dL_law_1305 (by decide) ?_
      refine W.widen (k := cells + 3) (n := slots + 18) (by omega) (by omega) ?_
      have hP : va_P dg vwCl (lawW ck ka ad ra mo oa od u1253.1 F1 F2 F3 F4 (upS M 8 0 (1 - bI (isBench S x))) u1253.2 E) H := va_P_eq (by rw [hS2] <;> rfl) hP
      have hD : va_D A (lawW ck ka ad ra mo oa od u1253.1 F1 F2 F3 F4 (upS M 8 0 (1 - bI (isBench S x))) u1253.2 E) := va_D_eq (by rw [hS2] <;> rfl) hD
      exact kk u1253.1 F1 F2 F3 F4 (upS M 8 0 (1 - bI (isBench S x))) u1253.2 E H locs ls hLI2 hP hD hS (lv_sub hl [2, 3, 4, 5, 6, 7] rfl)

set_option maxHeartbeats 4000000 in
set_option maxRecDepth 100000 in
/-- the law: a call of coinsOf -/
theorem lc_22 {p : Program} {l : Launch} {e : Env} {s : State} {m : MethodId} {below : List Frame} {meth : Method} {c : Code} {dg : va_G} {ck : Nat → ClassId} {ka : Nat → Nat} {b L : Nat} {xs : Nat → Int32} {A : Nat → Prop} {ad ra : Nat → Nat → Nat} {mo : Nat → Nat} {oa od : Nat} {Qf : State → Prop} {i : Int} {cells slots : Nat} (C0 : LX p l s m c dg ck ka b L xs A) (hi : 0 ≤ i ∧ i + 4 ≤ L) (hcell : cells + 3 ≤ 603072) (hslot : slots + 18 ≤ 7207018) (kk : LKK p l e s m below meth c dg ck ka ad ra mo oa od b A Qf i cells slots) {Z O U X : Nat → Int} {S T P I : St} {V N Y : Int → Int} {Q : Nat → St} {F1 F2 F3 F4 : Int → Int} {M : St} {D : Nat → Int64} {E : Nat → UInt64} {H : Heap} {locs : List Loc} {ls : Array Slot} (hLI : LI (775 * i) Z U X S P I Y Q F2 F3 M) (hP : va_P dg vwCl (brkW ck ka ad ra Z O U X S T P I V N Y Q ++ (modelC ck mo (encZ S) F1 F2 F3 F4 M ++ (lngC ck oa D ++ (dblC ck od E)))) H) (hD : va_D A (brkW ck ka ad ra Z O U X S T P I V N Y Q ++ (modelC ck mo (encZ S) F1 F2 F3 F4 M ++ (lngC ck oa D ++ (dblC ck od E))))) (hS : va_S A s.heap H locs) (hl : lv_has ls 9 [(0, .ref b), (1, .ref (ad 7 0)), (2, .ref (mo 0)), (3, .ref oa), (4, .ref od), (5, .int (zI i))]) : W p l e room_1 s m #[Value.ref b] below meth c H locs cells slots Qf (F0 m 1458 ls []) := by
  obtain ⟨hx, hb, hml, hown, htg, hX, hbl, hbA, hK, hC, hA, hst, hL⟩ := id C0
  obtain ⟨hV, hlh, hls, hlt, hlo, hlf⟩ := id hLI
  obtain ⟨hn, hz, hk1, hq10, hhist⟩ := id hlh
  obtain ⟨hk2, hz0, hp10, hsn⟩ := id hls
  obtain ⟨hk3, hln, hk5, htx, hkv⟩ := id hlt
  obtain ⟨hk4, hu0, hy7, hY⟩ := id hlo
  obtain ⟨⟨hk5a, hz4⟩, ⟨hk6, hz1⟩, hk7, hk8⟩ := id hlf
  have hI := hV.bd
  have hs10 : ∀ i, 0 ≤ S 10 i ∧ S 10 i ≤ 1 := hI.2.2.2.2.2.2.2.2.2.2.2.2.2.1
  obtain ⟨x, hv_x⟩ : ∃ v9 : Int, (xs (i + 1).toNat).toInt = v9 := ⟨_, rfl⟩
  have rgx_x := xi_r (xs (i + 1).toNat)
  rw [hv_x] at rgx_x
  obtain ⟨y, hv_y⟩ : ∃ v9 : Int, (xs (i + 2).toNat).toInt = v9 := ⟨_, rfl⟩
  have rgx_y := xi_r (xs (i + 2).toNat)
  rw [hv_y] at rgx_y
  obtain ⟨z, hv_z⟩ : ∃ v9 : Int, (xs (i + 3).toNat).toInt = v9 := ⟨_, rfl⟩
  have rgx_z := xi_r (xs (i + 3).toNat)
  rw [hv_z] at rgx_z
  refine lv_aload_n hx hb dL_law_1458 rfl (lv_at hl 1 rfl) ?_
  refine lv_aload_n hx hb dL_law_1459 rfl (lv_at hl 0 rfl) ?_
  refine lv_iload hx hb dL_law_1460 (lv_at hl 5 rfl) ?_
  refine x_iconst hx hb dL_law_1462 ?_
  refine x_iadd hx hb dL_law_1463 ?_
  refine x_sld hx hb hX hbl hbA hS (by omega) (by omega) hv_x dL_law_1464 ?_
  refine lv_aload_n hx hb dL_law_1465 rfl (lv_at hl 3 rfl) ?_
  refine x_calliUB (wf := fun u1466 : BU × (Nat → Int64) => brkU ck ka ad ra u1466.1 ++ (modelC ck mo (encZ S) F1 F2 F3 F4 M ++ (lngC ck oa u1466.2 ++ (dblC ck od E)))) (M := brkW ck ka ad ra Z O U X S T P I V N Y Q ++ (lngC ck oa D)) (Mf := fun u1466 => brkU ck ka ad ra u1466.1 ++ (lngC ck oa u1466.2)) (N := modelC ck mo (encZ S) F1 F2 F3 F4 M ++ (dblC ck od E)) (cat_perm [brkW ck ka ad ra Z O U X S T P I V N Y Q, modelC ck mo (encZ S) F1 F2 F3 F4 M, lngC ck oa D, dblC ck od E] [0, 2] [1, 3] 4 rfl (by decide)) (fun u1466 => cat_perm [brkU ck ka ad ra u1466.1, modelC ck mo (encZ S) F1 F2 F3 F4 M, lngC ck oa u1466.2, dblC ck od E] [0, 2] [1, 3] 4 rfl (by decide)) hP hD hS hA (fun hPm hDm => vx_runSW (As := [.ref (ad 7 0), .int (zI x), .ref oa]) (rest := []) ⟨hx, hb, hml, hown, htg⟩ (w_coinsOf l dg ck ka ad ra Z O U X S T P I V N Y Q oa D x _ hI (by omega) hst) (vx_cwSW 3 htg (gwSW wq_858 wq_859 wq_0 wqL_coinsOf) rfl rfl rfl (by decide +kernel) ⟨Nat.le_of_ble_eq_true rfl, Nat.le_of_ble_eq_true rfl⟩) (wrK_preS hK hPm hDm hC hS hA) rfl rfl hl.1 rfl (lv_room (Nat.le_of_ble_eq_true rfl)) dL_law_1466 ⟨by show cells + 1 ≤ 603072; omega, by show slots + 6 ≤ 7207018; omega⟩) (fun r1466 u1466 H locs hw hP hD hS => ?_)
  have hP : va_P dg vwCl (brkU ck ka ad ra u1466.1 ++ (modelC ck mo (encZ S) F1 F2 F3 F4 M ++ (lngC ck oa u1466.2 ++ (dblC ck od E)))) H := hP
  have hD : va_D A (brkU ck ka ad ra u1466.1 ++ (modelC ck mo (encZ S) F1 F2 F3 F4 M ++ (lngC ck oa u1466.2 ++ (dblC ck od E)))) := hD
  refine lv_istore (lv' := [(6, .int r1466), (0, .ref b), (1, .ref (ad 7 0)), (2, .ref (mo 0)), (3, .ref oa), (4, .ref od), (5, .int (zI i))]) hx hb dL_law_1469 hl (by decide) rfl (fun ls hl => ?_)
  refine lv_aload_n hx hb dL_law_1471 rfl (lv_at hl 3 rfl) ?_
  refine lv_aload_n hx hb dL_law_1472 rfl (lv_at hl 1 rfl) ?_
  refine lv_iload hx hb dL_law_1473 (lv_at hl 6 rfl) ?_
  refine x_iconst hx hb dL_law_1475 ?_
  refine x_iadd hx hb dL_law_1476 ?_
  refine x_sld hx hb hX hbl hbA hS (by omega) (by omega) hv_x dL_law_1477 ?_
  refine x_calliB (ws' := brkU ck ka ad ra u1466.1 ++ (modelC ck mo (encZ S) F1 F2 F3 F4 (upS M 8 0 (1 - bI (isTen S x))) ++ (lngC ck oa u1466.2 ++ (dblC ck od E)))) (M := modelC ck mo (encZ S) F1 F2 F3 F4 M) (M' := modelC ck mo (encZ S) F1 F2 F3 F4 (upS M 8 0 (1 - bI (isTen S x)))) (N := brkU ck ka ad ra u1466.1 ++ (lngC ck oa u1466.2 ++ (dblC ck od E))) (cat_perm [brkU ck ka ad ra u1466.1, modelC ck mo (encZ S) F1 F2 F3 F4 M, lngC ck oa u1466.2, dblC ck od E] [1] [0, 2, 3] 4 rfl (by decide)) (cat_perm [brkU ck ka ad ra u1466.1, modelC ck mo (encZ S) F1 F2 F3 F4 (upS M 8 0 (1 - bI (isTen S x))), lngC ck oa u1466.2, dblC ck od E] [1] [0, 2, 3] 4 rfl (by decide)) hP hD hS hA (fun hPm hDm => va_runV (As := [.int (zI x)]) (rest := []) ⟨hx, hb, hml, hown, htg⟩ (m_coinsOf l dg ck mo S F1 F2 F3 F4 M x _ hI (by omega)) (cwV 1 htg (gwV wq_1833 wq_1834 wq_1835 wq_15 wq_1836) rfl rfl rfl (by decide +kernel) ⟨Nat.le_of_ble_eq_true rfl, Nat.le_of_ble_eq_true rfl⟩) (wr_preV hK hPm hDm 0 11 rfl rfl) rfl rfl hl.1 rfl (lv_room (Nat.le_of_ble_eq_true rfl)) dL_law_1478 ⟨by show _ ≤ 603072; omega, by show _ ≤ 7207018; omega⟩) (fun r1478 H locs hr1478 hP hD hS => ?_)
  subst hr1478
  have hP : va_P dg vwCl (brkU ck ka ad ra u1466.1 ++ (modelC ck mo (encZ S) F1 F2 F3 F4 (upS M 8 0 (1 - bI (isTen S x))) ++ (lngC ck oa u1466.2 ++ (dblC ck od E)))) H := hP
  have hD : va_D A (brkU ck ka ad ra u1466.1 ++ (modelC ck mo (encZ S) F1 F2 F3 F4 (upS M 8 0 (1 - bI (isTen S x))) ++ (lngC ck oa u1466.2 ++ (dblC ck od E)))) := hD
  have hcase : ∃ t9 : Int, (upS M 8 0 (1 - bI (isTen S x))) 8 0 = t9 ∧ r1466 = zI t9 ∧ (0 ≤ t9 ∧ t9 ≤ 3) ∧ (t9 = 0 → u1466.2 0 = (zI (itZ (isTen S x) (S 11 x))).toInt64) ∧ LI (775 * i + 3100) (u1466.1.1) (u1466.1.2.2.1) (u1466.1.2.2.2.1) (u1466.1.2.2.2.2.1) (u1466.1.2.2.2.2.2.2.1) (u1466.1.2.2.2.2.2.2.2.1) (u1466.1.2.2.2.2.2.2.2.2.2.2.1) (u1466.1.2.2.2.2.2.2.2.2.2.2.2) F2 F3 (upS M 8 0 (1 - bI (isTen S x))) ∧ S = u1466.1.2.2.2.2.1 := by
    rcases hw with ⟨e1, r1, hp, eu, ev⟩ | ⟨e1, hc, eu⟩
    · obtain ⟨rfl, hok⟩ := hp
      refine ⟨0, upS_s.trans (by (try unfold itZ); (try unfold bI); (repeat' split) <;> omega), e1, by decide, fun _ => ev.trans (congrArg (fun v9 : Int => (zI v9).toInt64) (by (try unfold itZ); (try unfold bI); (repeat' split) <;> omega)), ?_, (by rw [eu] <;> rfl)⟩
      rw [eu]
      exact (hLI.m (mK_0 M _)).mono (by omega) (by omega)
    · refine ⟨1, upS_s.trans (by (try unfold itZ); (try unfold bI); (repeat' split) <;> omega), e1, by decide, fun q => absurd q (by decide), ?_, (by rw [eu] <;> rfl)⟩
      rw [eu]
      exact (hLI.m (mK_0 M _)).mono (by omega) (by omega)
  obtain ⟨t9, ht9, hr9, ht9b, hval, hLI2, hS2⟩ := hcase
  have ht9r : zI ((upS M 8 0 (1 - bI (isTen S x))) 8 0) = r1466 := by rw [ht9, hr9]
  refine lv_istore (lv' := [(7, .int (zI (itZ (isTen S x) (S 11 x)))), (6, .int r1466), (0, .ref b), (1, .ref (ad 7 0)), (2, .ref (mo 0)), (3, .ref oa), (4, .ref od), (5, .int (zI i))]) hx hb dL_law_1481 hl (by decide) rfl (fun ls hl => ?_)
  refine lv_aload_n hx hb dL_law_1483 rfl (lv_at hl 4 rfl) ?_
  refine vp_callSi (W.runV (As := []) (rest := []) ⟨hx, hb, hml, hown, htg⟩ (m_thrown l dg ck mo S F1 F2 F3 F4 (upS M 8 0 (1 - bI (isTen S x)))) (cwV 0 htg (gwV wq_1627 wq_1628 wq_1629 wq_15 wq_1630) rfl rfl rfl (by decide +kernel) ⟨Nat.le_of_ble_eq_true rfl, Nat.le_of_ble_eq_true rfl⟩) (rd_preV hK (va_P_l (va_P_r hP)) 0 11 rfl rfl) rfl rfl hl.1 rfl (lv_room (Nat.le_of_ble_eq_true rfl)) dL_law_1484 ⟨by show _ ≤ 603072; omega, by show _ ≤ 7207018; omega⟩) (fun r1484 hr1484 => ?_)
  subst hr1484
  refine lv_iload hx hb dL_law_1487 (lv_at hl 1 rfl) ?_
  refine lv_icmp_eq (tgt := 1494) hx hb dL_law_1489 (by decide) (fun _ => ?_) (fun c9 => absurd ht9r c9)
  refine lv_iload hx hb dL_law_1494 (lv_at hl 1 rfl) ?_
  refine W.eq (g2 := F0 m 1496 ls [.int (zI t9)]) (by rw [hr9]) ?_
  refine x_if_ne (tgt := 1511) hx hb dL_law_1496 (by decide) (by omega) (fun c9 => ?_) (fun c9 => ?_)
  · refine lv_goto (tgt := 3323) hx hb dL_law_1511 (by decide) ?_
    refine W.widen (k := cells + 3) (n := slots + 18) (by omega) (by omega) ?_
    have hP : va_P dg vwCl (lawW ck ka ad ra mo oa od u1466.1 F1 F2 F3 F4 (upS M 8 0 (1 - bI (isTen S x))) u1466.2 E) H := va_P_eq (by rw [hS2] <;> rfl) hP
    have hD : va_D A (lawW ck ka ad ra mo oa od u1466.1 F1 F2 F3 F4 (upS M 8 0 (1 - bI (isTen S x))) u1466.2 E) := va_D_eq (by rw [hS2] <;> rfl) hD
    exact kk u1466.1 F1 F2 F3 F4 (upS M 8 0 (1 - bI (isTen S x))) u1466.2 E H locs ls hLI2 hP hD hS (lv_sub hl [2, 3, 4, 5, 6, 7] rfl)
  · have hv9 := hval (by omega)
    refine lv_aload_n hx hb dL_law_1499 rfl (lv_at hl 5 rfl) ?_
    refine x_iconst hx hb dL_law_1500 ?_
    refine va_lald hx hb hK hP 175 5 rfl rfl (zI_in (z := 0) (by decide) (by decide)) dL_law_1501 ?_
    refine lv_iload hx hb dL_law_1502 (lv_at hl 0 rfl) ?_
    refine lv_i2l hx hb dL_law_1504 rfl ?_
    refine W.lcmp hx hb dL_law_1505 ?_
    refine W.eq (g2 := F0 m 1506 ls [.int (zI 0)]) (congrArg (fun v9 => F0 m 1506 ls [.int v9]) ((congrArg (fun v9 => lg_cmp v9 _) hv9).trans (lg_self _))) ?_
    refine x_if_eq (tgt := 1511) hx hb dL_law_1506 (by decide) (by omega) (fun _ => ?_) (fun c => absurd rfl c)
    refine lv_goto (tgt := 3323) hx hb dL_law_1511 (by decide) ?_
    refine W.widen (k := cells + 3) (n := slots + 18) (by omega) (by omega) ?_
    have hP : va_P dg vwCl (lawW ck ka ad ra mo oa od u1466.1 F1 F2 F3 F4 (upS M 8 0 (1 - bI (isTen S x))) u1466.2 E) H := va_P_eq (by rw [hS2] <;> rfl) hP
    have hD : va_D A (lawW ck ka ad ra mo oa od u1466.1 F1 F2 F3 F4 (upS M 8 0 (1 - bI (isTen S x))) u1466.2 E) := va_D_eq (by rw [hS2] <;> rfl) hD
    exact kk u1466.1 F1 F2 F3 F4 (upS M 8 0 (1 - bI (isTen S x))) u1466.2 E H locs ls hLI2 hP hD hS (lv_sub hl [2, 3, 4, 5, 6, 7] rfl)

set_option maxHeartbeats 4000000 in
set_option maxRecDepth 100000 in
/-- the law: a call of defaultsOf -/
theorem lc_23 {p : Program} {l : Launch} {e : Env} {s : State} {m : MethodId} {below : List Frame} {meth : Method} {c : Code} {dg : va_G} {ck : Nat → ClassId} {ka : Nat → Nat} {b L : Nat} {xs : Nat → Int32} {A : Nat → Prop} {ad ra : Nat → Nat → Nat} {mo : Nat → Nat} {oa od : Nat} {Qf : State → Prop} {i : Int} {cells slots : Nat} (C0 : LX p l s m c dg ck ka b L xs A) (hi : 0 ≤ i ∧ i + 4 ≤ L) (hcell : cells + 3 ≤ 603072) (hslot : slots + 18 ≤ 7207018) (kk : LKK p l e s m below meth c dg ck ka ad ra mo oa od b A Qf i cells slots) {Z O U X : Nat → Int} {S T P I : St} {V N Y : Int → Int} {Q : Nat → St} {F1 F2 F3 F4 : Int → Int} {M : St} {D : Nat → Int64} {E : Nat → UInt64} {H : Heap} {locs : List Loc} {ls : Array Slot} (hLI : LI (775 * i) Z U X S P I Y Q F2 F3 M) (hP : va_P dg vwCl (brkW ck ka ad ra Z O U X S T P I V N Y Q ++ (modelC ck mo (encZ S) F1 F2 F3 F4 M ++ (lngC ck oa D ++ (dblC ck od E)))) H) (hD : va_D A (brkW ck ka ad ra Z O U X S T P I V N Y Q ++ (modelC ck mo (encZ S) F1 F2 F3 F4 M ++ (lngC ck oa D ++ (dblC ck od E))))) (hS : va_S A s.heap H locs) (hl : lv_has ls 9 [(0, .ref b), (1, .ref (ad 7 0)), (2, .ref (mo 0)), (3, .ref oa), (4, .ref od), (5, .int (zI i))]) : W p l e room_1 s m #[Value.ref b] below meth c H locs cells slots Qf (F0 m 1514 ls []) := by
  obtain ⟨hx, hb, hml, hown, htg, hX, hbl, hbA, hK, hC, hA, hst, hL⟩ := id C0
  obtain ⟨hV, hlh, hls, hlt, hlo, hlf⟩ := id hLI
  obtain ⟨hn, hz, hk1, hq10, hhist⟩ := id hlh
  obtain ⟨hk2, hz0, hp10, hsn⟩ := id hls
  obtain ⟨hk3, hln, hk5, htx, hkv⟩ := id hlt
  obtain ⟨hk4, hu0, hy7, hY⟩ := id hlo
  obtain ⟨⟨hk5a, hz4⟩, ⟨hk6, hz1⟩, hk7, hk8⟩ := id hlf
  have hI := hV.bd
  have hs10 : ∀ i, 0 ≤ S 10 i ∧ S 10 i ≤ 1 := hI.2.2.2.2.2.2.2.2.2.2.2.2.2.1
  obtain ⟨x, hv_x⟩ : ∃ v9 : Int, (xs (i + 1).toNat).toInt = v9 := ⟨_, rfl⟩
  have rgx_x := xi_r (xs (i + 1).toNat)
  rw [hv_x] at rgx_x
  obtain ⟨y, hv_y⟩ : ∃ v9 : Int, (xs (i + 2).toNat).toInt = v9 := ⟨_, rfl⟩
  have rgx_y := xi_r (xs (i + 2).toNat)
  rw [hv_y] at rgx_y
  obtain ⟨z, hv_z⟩ : ∃ v9 : Int, (xs (i + 3).toNat).toInt = v9 := ⟨_, rfl⟩
  have rgx_z := xi_r (xs (i + 3).toNat)
  rw [hv_z] at rgx_z
  refine lv_aload_n hx hb dL_law_1514 rfl (lv_at hl 1 rfl) ?_
  refine lv_aload_n hx hb dL_law_1515 rfl (lv_at hl 0 rfl) ?_
  refine lv_iload hx hb dL_law_1516 (lv_at hl 5 rfl) ?_
  refine x_iconst hx hb dL_law_1518 ?_
  refine x_iadd hx hb dL_law_1519 ?_
  refine x_sld hx hb hX hbl hbA hS (by omega) (by omega) hv_x dL_law_1520 ?_
  refine lv_aload_n hx hb dL_law_1521 rfl (lv_at hl 3 rfl) ?_
  refine x_calliUB (wf := fun u1522 : BU × (Nat → Int64) => brkU ck ka ad ra u1522.1 ++ (modelC ck mo (encZ S) F1 F2 F3 F4 M ++ (lngC ck oa u1522.2 ++ (dblC ck od E)))) (M := brkW ck ka ad ra Z O U X S T P I V N Y Q ++ (lngC ck oa D)) (Mf := fun u1522 => brkU ck ka ad ra u1522.1 ++ (lngC ck oa u1522.2)) (N := modelC ck mo (encZ S) F1 F2 F3 F4 M ++ (dblC ck od E)) (cat_perm [brkW ck ka ad ra Z O U X S T P I V N Y Q, modelC ck mo (encZ S) F1 F2 F3 F4 M, lngC ck oa D, dblC ck od E] [0, 2] [1, 3] 4 rfl (by decide)) (fun u1522 => cat_perm [brkU ck ka ad ra u1522.1, modelC ck mo (encZ S) F1 F2 F3 F4 M, lngC ck oa u1522.2, dblC ck od E] [0, 2] [1, 3] 4 rfl (by decide)) hP hD hS hA (fun hPm hDm => vx_runSW (As := [.ref (ad 7 0), .int (zI x), .ref oa]) (rest := []) ⟨hx, hb, hml, hown, htg⟩ (w_defaultsOf l dg ck ka ad ra Z O U X S T P I V N Y Q oa D x _ hI (by omega) hst) (vx_cwSW 3 htg (gwSW wq_870 wq_871 wq_0 wqL_defaultsOf) rfl rfl rfl (by decide +kernel) ⟨Nat.le_of_ble_eq_true rfl, Nat.le_of_ble_eq_true rfl⟩) (wrK_preS hK hPm hDm hC hS hA) rfl rfl hl.1 rfl (lv_room (Nat.le_of_ble_eq_true rfl)) dL_law_1522 ⟨by show cells + 1 ≤ 603072; omega, by show slots + 6 ≤ 7207018; omega⟩) (fun r1522 u1522 H locs hw hP hD hS => ?_)
  have hP : va_P dg vwCl (brkU ck ka ad ra u1522.1 ++ (modelC ck mo (encZ S) F1 F2 F3 F4 M ++ (lngC ck oa u1522.2 ++ (dblC ck od E)))) H := hP
  have hD : va_D A (brkU ck ka ad ra u1522.1 ++ (modelC ck mo (encZ S) F1 F2 F3 F4 M ++ (lngC ck oa u1522.2 ++ (dblC ck od E)))) := hD
  refine lv_istore (lv' := [(6, .int r1522), (0, .ref b), (1, .ref (ad 7 0)), (2, .ref (mo 0)), (3, .ref oa), (4, .ref od), (5, .int (zI i))]) hx hb dL_law_1525 hl (by decide) rfl (fun ls hl => ?_)
  refine lv_aload_n hx hb dL_law_1527 rfl (lv_at hl 3 rfl) ?_
  refine lv_aload_n hx hb dL_law_1528 rfl (lv_at hl 1 rfl) ?_
  refine lv_iload hx hb dL_law_1529 (lv_at hl 6 rfl) ?_
  refine x_iconst hx hb dL_law_1531 ?_
  refine x_iadd hx hb dL_law_1532 ?_
  refine x_sld hx hb hX hbl hbA hS (by omega) (by omega) hv_x dL_law_1533 ?_
  refine x_calliB (ws' := brkU ck ka ad ra u1522.1 ++ (modelC ck mo (encZ S) F1 F2 F3 F4 (upS M 8 0 (1 - bI (isTen S x))) ++ (lngC ck oa u1522.2 ++ (dblC ck od E)))) (M := modelC ck mo (encZ S) F1 F2 F3 F4 M) (M' := modelC ck mo (encZ S) F1 F2 F3 F4 (upS M 8 0 (1 - bI (isTen S x)))) (N := brkU ck ka ad ra u1522.1 ++ (lngC ck oa u1522.2 ++ (dblC ck od E))) (cat_perm [brkU ck ka ad ra u1522.1, modelC ck mo (encZ S) F1 F2 F3 F4 M, lngC ck oa u1522.2, dblC ck od E] [1] [0, 2, 3] 4 rfl (by decide)) (cat_perm [brkU ck ka ad ra u1522.1, modelC ck mo (encZ S) F1 F2 F3 F4 (upS M 8 0 (1 - bI (isTen S x))), lngC ck oa u1522.2, dblC ck od E] [1] [0, 2, 3] 4 rfl (by decide)) hP hD hS hA (fun hPm hDm => va_runV (As := [.int (zI x)]) (rest := []) ⟨hx, hb, hml, hown, htg⟩ (m_defaultsOf l dg ck mo S F1 F2 F3 F4 M x _ hI (by omega)) (cwV 1 htg (gwV wq_1841 wq_1842 wq_1843 wq_15 wq_1844) rfl rfl rfl (by decide +kernel) ⟨Nat.le_of_ble_eq_true rfl, Nat.le_of_ble_eq_true rfl⟩) (wr_preV hK hPm hDm 0 11 rfl rfl) rfl rfl hl.1 rfl (lv_room (Nat.le_of_ble_eq_true rfl)) dL_law_1534 ⟨by show _ ≤ 603072; omega, by show _ ≤ 7207018; omega⟩) (fun r1534 H locs hr1534 hP hD hS => ?_)
  subst hr1534
  have hP : va_P dg vwCl (brkU ck ka ad ra u1522.1 ++ (modelC ck mo (encZ S) F1 F2 F3 F4 (upS M 8 0 (1 - bI (isTen S x))) ++ (lngC ck oa u1522.2 ++ (dblC ck od E)))) H := hP
  have hD : va_D A (brkU ck ka ad ra u1522.1 ++ (modelC ck mo (encZ S) F1 F2 F3 F4 (upS M 8 0 (1 - bI (isTen S x))) ++ (lngC ck oa u1522.2 ++ (dblC ck od E)))) := hD
  have hcase : ∃ t9 : Int, (upS M 8 0 (1 - bI (isTen S x))) 8 0 = t9 ∧ r1522 = zI t9 ∧ (0 ≤ t9 ∧ t9 ≤ 3) ∧ (t9 = 0 → u1522.2 0 = (zI (itZ (isTen S x) (S 12 x))).toInt64) ∧ LI (775 * i + 3100) (u1522.1.1) (u1522.1.2.2.1) (u1522.1.2.2.2.1) (u1522.1.2.2.2.2.1) (u1522.1.2.2.2.2.2.2.1) (u1522.1.2.2.2.2.2.2.2.1) (u1522.1.2.2.2.2.2.2.2.2.2.2.1) (u1522.1.2.2.2.2.2.2.2.2.2.2.2) F2 F3 (upS M 8 0 (1 - bI (isTen S x))) ∧ S = u1522.1.2.2.2.2.1 := by
    rcases hw with ⟨e1, r1, hp, eu, ev⟩ | ⟨e1, hc, eu⟩
    · obtain ⟨rfl, hok⟩ := hp
      refine ⟨0, upS_s.trans (by (try unfold itZ); (try unfold bI); (repeat' split) <;> omega), e1, by decide, fun _ => ev.trans (congrArg (fun v9 : Int => (zI v9).toInt64) (by (try unfold itZ); (try unfold bI); (repeat' split) <;> omega)), ?_, (by rw [eu] <;> rfl)⟩
      rw [eu]
      exact (hLI.m (mK_0 M _)).mono (by omega) (by omega)
    · refine ⟨1, upS_s.trans (by (try unfold itZ); (try unfold bI); (repeat' split) <;> omega), e1, by decide, fun q => absurd q (by decide), ?_, (by rw [eu] <;> rfl)⟩
      rw [eu]
      exact (hLI.m (mK_0 M _)).mono (by omega) (by omega)
  obtain ⟨t9, ht9, hr9, ht9b, hval, hLI2, hS2⟩ := hcase
  have ht9r : zI ((upS M 8 0 (1 - bI (isTen S x))) 8 0) = r1522 := by rw [ht9, hr9]
  refine lv_istore (lv' := [(7, .int (zI (itZ (isTen S x) (S 12 x)))), (6, .int r1522), (0, .ref b), (1, .ref (ad 7 0)), (2, .ref (mo 0)), (3, .ref oa), (4, .ref od), (5, .int (zI i))]) hx hb dL_law_1537 hl (by decide) rfl (fun ls hl => ?_)
  refine lv_aload_n hx hb dL_law_1539 rfl (lv_at hl 4 rfl) ?_
  refine vp_callSi (W.runV (As := []) (rest := []) ⟨hx, hb, hml, hown, htg⟩ (m_thrown l dg ck mo S F1 F2 F3 F4 (upS M 8 0 (1 - bI (isTen S x)))) (cwV 0 htg (gwV wq_1627 wq_1628 wq_1629 wq_15 wq_1630) rfl rfl rfl (by decide +kernel) ⟨Nat.le_of_ble_eq_true rfl, Nat.le_of_ble_eq_true rfl⟩) (rd_preV hK (va_P_l (va_P_r hP)) 0 11 rfl rfl) rfl rfl hl.1 rfl (lv_room (Nat.le_of_ble_eq_true rfl)) dL_law_1540 ⟨by show _ ≤ 603072; omega, by show _ ≤ 7207018; omega⟩) (fun r1540 hr1540 => ?_)
  subst hr1540
  refine lv_iload hx hb dL_law_1543 (lv_at hl 1 rfl) ?_
  refine lv_icmp_eq (tgt := 1550) hx hb dL_law_1545 (by decide) (fun _ => ?_) (fun c9 => absurd ht9r c9)
  refine lv_iload hx hb dL_law_1550 (lv_at hl 1 rfl) ?_
  refine W.eq (g2 := F0 m 1552 ls [.int (zI t9)]) (by rw [hr9]) ?_
  refine x_if_ne (tgt := 1567) hx hb dL_law_1552 (by decide) (by omega) (fun c9 => ?_) (fun c9 => ?_)
  · refine lv_goto (tgt := 3323) hx hb dL_law_1567 (by decide) ?_
    refine W.widen (k := cells + 3) (n := slots + 18) (by omega) (by omega) ?_
    have hP : va_P dg vwCl (lawW ck ka ad ra mo oa od u1522.1 F1 F2 F3 F4 (upS M 8 0 (1 - bI (isTen S x))) u1522.2 E) H := va_P_eq (by rw [hS2] <;> rfl) hP
    have hD : va_D A (lawW ck ka ad ra mo oa od u1522.1 F1 F2 F3 F4 (upS M 8 0 (1 - bI (isTen S x))) u1522.2 E) := va_D_eq (by rw [hS2] <;> rfl) hD
    exact kk u1522.1 F1 F2 F3 F4 (upS M 8 0 (1 - bI (isTen S x))) u1522.2 E H locs ls hLI2 hP hD hS (lv_sub hl [2, 3, 4, 5, 6, 7] rfl)
  · have hv9 := hval (by omega)
    refine lv_aload_n hx hb dL_law_1555 rfl (lv_at hl 5 rfl) ?_
    refine x_iconst hx hb dL_law_1556 ?_
    refine va_lald hx hb hK hP 175 5 rfl rfl (zI_in (z := 0) (by decide) (by decide)) dL_law_1557 ?_
    refine lv_iload hx hb dL_law_1558 (lv_at hl 0 rfl) ?_
    refine lv_i2l hx hb dL_law_1560 rfl ?_
    refine W.lcmp hx hb dL_law_1561 ?_
    refine W.eq (g2 := F0 m 1562 ls [.int (zI 0)]) (congrArg (fun v9 => F0 m 1562 ls [.int v9]) ((congrArg (fun v9 => lg_cmp v9 _) hv9).trans (lg_self _))) ?_
    refine x_if_eq (tgt := 1567) hx hb dL_law_1562 (by decide) (by omega) (fun _ => ?_) (fun c => absurd rfl c)
    refine lv_goto (tgt := 3323) hx hb dL_law_1567 (by decide) ?_
    refine W.widen (k := cells + 3) (n := slots + 18) (by omega) (by omega) ?_
    have hP : va_P dg vwCl (lawW ck ka ad ra mo oa od u1522.1 F1 F2 F3 F4 (upS M 8 0 (1 - bI (isTen S x))) u1522.2 E) H := va_P_eq (by rw [hS2] <;> rfl) hP
    have hD : va_D A (lawW ck ka ad ra mo oa od u1522.1 F1 F2 F3 F4 (upS M 8 0 (1 - bI (isTen S x))) u1522.2 E) := va_D_eq (by rw [hS2] <;> rfl) hD
    exact kk u1522.1 F1 F2 F3 F4 (upS M 8 0 (1 - bI (isTen S x))) u1522.2 E H locs ls hLI2 hP hD hS (lv_sub hl [2, 3, 4, 5, 6, 7] rfl)

set_option maxHeartbeats 4000000 in
set_option maxRecDepth 100000 in
/-- the law: a call of benchOf -/
theorem lc_24 {p : Program} {l : Launch} {e : Env} {s : State} {m : MethodId} {below : List Frame} {meth : Method} {c : Code} {dg : va_G} {ck : Nat → ClassId} {ka : Nat → Nat} {b L : Nat} {xs : Nat → Int32} {A : Nat → Prop} {ad ra : Nat → Nat → Nat} {mo : Nat → Nat} {oa od : Nat} {Qf : State → Prop} {i : Int} {cells slots : Nat} (C0 : LX p l s m c dg ck ka b L xs A) (hi : 0 ≤ i ∧ i + 4 ≤ L) (hcell : cells + 3 ≤ 603072) (hslot : slots + 18 ≤ 7207018) (kk : LKK p l e s m below meth c dg ck ka ad ra mo oa od b A Qf i cells slots) {Z O U X : Nat → Int} {S T P I : St} {V N Y : Int → Int} {Q : Nat → St} {F1 F2 F3 F4 : Int → Int} {M : St} {D : Nat → Int64} {E : Nat → UInt64} {H : Heap} {locs : List Loc} {ls : Array Slot} (hLI : LI (775 * i) Z U X S P I Y Q F2 F3 M) (hP : va_P dg vwCl (brkW ck ka ad ra Z O U X S T P I V N Y Q ++ (modelC ck mo (encZ S) F1 F2 F3 F4 M ++ (lngC ck oa D ++ (dblC ck od E)))) H) (hD : va_D A (brkW ck ka ad ra Z O U X S T P I V N Y Q ++ (modelC ck mo (encZ S) F1 F2 F3 F4 M ++ (lngC ck oa D ++ (dblC ck od E))))) (hS : va_S A s.heap H locs) (hl : lv_has ls 9 [(0, .ref b), (1, .ref (ad 7 0)), (2, .ref (mo 0)), (3, .ref oa), (4, .ref od), (5, .int (zI i))]) : W p l e room_1 s m #[Value.ref b] below meth c H locs cells slots Qf (F0 m 1570 ls []) := by
  obtain ⟨hx, hb, hml, hown, htg, hX, hbl, hbA, hK, hC, hA, hst, hL⟩ := id C0
  obtain ⟨hV, hlh, hls, hlt, hlo, hlf⟩ := id hLI
  obtain ⟨hn, hz, hk1, hq10, hhist⟩ := id hlh
  obtain ⟨hk2, hz0, hp10, hsn⟩ := id hls
  obtain ⟨hk3, hln, hk5, htx, hkv⟩ := id hlt
  obtain ⟨hk4, hu0, hy7, hY⟩ := id hlo
  obtain ⟨⟨hk5a, hz4⟩, ⟨hk6, hz1⟩, hk7, hk8⟩ := id hlf
  have hI := hV.bd
  have hs10 : ∀ i, 0 ≤ S 10 i ∧ S 10 i ≤ 1 := hI.2.2.2.2.2.2.2.2.2.2.2.2.2.1
  obtain ⟨x, hv_x⟩ : ∃ v9 : Int, (xs (i + 1).toNat).toInt = v9 := ⟨_, rfl⟩
  have rgx_x := xi_r (xs (i + 1).toNat)
  rw [hv_x] at rgx_x
  obtain ⟨y, hv_y⟩ : ∃ v9 : Int, (xs (i + 2).toNat).toInt = v9 := ⟨_, rfl⟩
  have rgx_y := xi_r (xs (i + 2).toNat)
  rw [hv_y] at rgx_y
  obtain ⟨z, hv_z⟩ : ∃ v9 : Int, (xs (i + 3).toNat).toInt = v9 := ⟨_, rfl⟩
  have rgx_z := xi_r (xs (i + 3).toNat)
  rw [hv_z] at rgx_z
  refine lv_aload_n hx hb dL_law_1570 rfl (lv_at hl 1 rfl) ?_
  refine lv_aload_n hx hb dL_law_1571 rfl (lv_at hl 0 rfl) ?_
  refine lv_iload hx hb dL_law_1572 (lv_at hl 5 rfl) ?_
  refine x_iconst hx hb dL_law_1574 ?_
  refine x_iadd hx hb dL_law_1575 ?_
  refine x_sld hx hb hX hbl hbA hS (by omega) (by omega) hv_x dL_law_1576 ?_
  refine lv_aload_n hx hb dL_law_1577 rfl (lv_at hl 3 rfl) ?_
  refine x_calliUB (wf := fun u1578 : BU × (Nat → Int64) => brkU ck ka ad ra u1578.1 ++ (modelC ck mo (encZ S) F1 F2 F3 F4 M ++ (lngC ck oa u1578.2 ++ (dblC ck od E)))) (M := brkW ck ka ad ra Z O U X S T P I V N Y Q ++ (lngC ck oa D)) (Mf := fun u1578 => brkU ck ka ad ra u1578.1 ++ (lngC ck oa u1578.2)) (N := modelC ck mo (encZ S) F1 F2 F3 F4 M ++ (dblC ck od E)) (cat_perm [brkW ck ka ad ra Z O U X S T P I V N Y Q, modelC ck mo (encZ S) F1 F2 F3 F4 M, lngC ck oa D, dblC ck od E] [0, 2] [1, 3] 4 rfl (by decide)) (fun u1578 => cat_perm [brkU ck ka ad ra u1578.1, modelC ck mo (encZ S) F1 F2 F3 F4 M, lngC ck oa u1578.2, dblC ck od E] [0, 2] [1, 3] 4 rfl (by decide)) hP hD hS hA (fun hPm hDm => vx_runSW (As := [.ref (ad 7 0), .int (zI x), .ref oa]) (rest := []) ⟨hx, hb, hml, hown, htg⟩ (w_benchOf l dg ck ka ad ra Z O U X S T P I V N Y Q oa D x _ hI (by omega) hst) (vx_cwSW 3 htg (gwSW wq_877 wq_878 wq_0 wqL_benchOf) rfl rfl rfl (by decide +kernel) ⟨Nat.le_of_ble_eq_true rfl, Nat.le_of_ble_eq_true rfl⟩) (wrK_preS hK hPm hDm hC hS hA) rfl rfl hl.1 rfl (lv_room (Nat.le_of_ble_eq_true rfl)) dL_law_1578 ⟨by show cells + 2 ≤ 603072; omega, by show slots + 12 ≤ 7207018; omega⟩) (fun r1578 u1578 H locs hw hP hD hS => ?_)
  have hP : va_P dg vwCl (brkU ck ka ad ra u1578.1 ++ (modelC ck mo (encZ S) F1 F2 F3 F4 M ++ (lngC ck oa u1578.2 ++ (dblC ck od E)))) H := hP
  have hD : va_D A (brkU ck ka ad ra u1578.1 ++ (modelC ck mo (encZ S) F1 F2 F3 F4 M ++ (lngC ck oa u1578.2 ++ (dblC ck od E)))) := hD
  refine lv_istore (lv' := [(6, .int r1578), (0, .ref b), (1, .ref (ad 7 0)), (2, .ref (mo 0)), (3, .ref oa), (4, .ref od), (5, .int (zI i))]) hx hb dL_law_1581 hl (by decide) rfl (fun ls hl => ?_)
  refine lv_aload_n hx hb dL_law_1583 rfl (lv_at hl 3 rfl) ?_
  refine lv_aload_n hx hb dL_law_1584 rfl (lv_at hl 1 rfl) ?_
  refine lv_iload hx hb dL_law_1585 (lv_at hl 6 rfl) ?_
  refine x_iconst hx hb dL_law_1587 ?_
  refine x_iadd hx hb dL_law_1588 ?_
  refine x_sld hx hb hX hbl hbA hS (by omega) (by omega) hv_x dL_law_1589 ?_
  refine x_calliB (ws' := brkU ck ka ad ra u1578.1 ++ (modelC ck mo (encZ S) F1 F2 F3 F4 (upS M 8 0 (if ¬ isTen S x then 1 else if lb S x = -1 then 2 else 0)) ++ (lngC ck oa u1578.2 ++ (dblC ck od E)))) (M := modelC ck mo (encZ S) F1 F2 F3 F4 M) (M' := modelC ck mo (encZ S) F1 F2 F3 F4 (upS M 8 0 (if ¬ isTen S x then 1 else if lb S x = -1 then 2 else 0))) (N := brkU ck ka ad ra u1578.1 ++ (lngC ck oa u1578.2 ++ (dblC ck od E))) (cat_perm [brkU ck ka ad ra u1578.1, modelC ck mo (encZ S) F1 F2 F3 F4 M, lngC ck oa u1578.2, dblC ck od E] [1] [0, 2, 3] 4 rfl (by decide)) (cat_perm [brkU ck ka ad ra u1578.1, modelC ck mo (encZ S) F1 F2 F3 F4 (upS M 8 0 (if ¬ isTen S x then 1 else if lb S x = -1 then 2 else 0)), lngC ck oa u1578.2, dblC ck od E] [1] [0, 2, 3] 4 rfl (by decide)) hP hD hS hA (fun hPm hDm => va_runV (As := [.int (zI x)]) (rest := []) ⟨hx, hb, hml, hown, htg⟩ (m_benchOf l dg ck mo S F1 F2 F3 F4 M x _ hI (by omega)) (cwV 1 htg (gwV wq_1845 wq_1846 wq_1847 wq_15 wq_1848) rfl rfl rfl (by decide +kernel) ⟨Nat.le_of_ble_eq_true rfl, Nat.le_of_ble_eq_true rfl⟩) (wr_preV hK hPm hDm 0 11 rfl rfl) rfl rfl hl.1 rfl (lv_room (Nat.le_of_ble_eq_true rfl)) dL_law_1590 ⟨by show _ ≤ 603072; omega, by show _ ≤ 7207018; omega⟩) (fun r1590 H locs hr1590 hP hD hS => ?_)
  subst hr1590
  have hP : va_P dg vwCl (brkU ck ka ad ra u1578.1 ++ (modelC ck mo (encZ S) F1 F2 F3 F4 (upS M 8 0 (if ¬ isTen S x then 1 else if lb S x = -1 then 2 else 0)) ++ (lngC ck oa u1578.2 ++ (dblC ck od E)))) H := hP
  have hD : va_D A (brkU ck ka ad ra u1578.1 ++ (modelC ck mo (encZ S) F1 F2 F3 F4 (upS M 8 0 (if ¬ isTen S x then 1 else if lb S x = -1 then 2 else 0)) ++ (lngC ck oa u1578.2 ++ (dblC ck od E)))) := hD
  have hcase : ∃ t9 : Int, (upS M 8 0 (if ¬ isTen S x then 1 else if lb S x = -1 then 2 else 0)) 8 0 = t9 ∧ r1578 = zI t9 ∧ (0 ≤ t9 ∧ t9 ≤ 3) ∧ (t9 = 0 → u1578.2 0 = (zI (itZ ((isTen S x ∧ lb S x ≠ -1)) (lb S x))).toInt64) ∧ LI (775 * i + 3100) (u1578.1.1) (u1578.1.2.2.1) (u1578.1.2.2.2.1) (u1578.1.2.2.2.2.1) (u1578.1.2.2.2.2.2.2.1) (u1578.1.2.2.2.2.2.2.2.1) (u1578.1.2.2.2.2.2.2.2.2.2.2.1) (u1578.1.2.2.2.2.2.2.2.2.2.2.2) F2 F3 (upS M 8 0 (if ¬ isTen S x then 1 else if lb S x = -1 then 2 else 0)) ∧ S = u1578.1.2.2.2.2.1 := by
    rcases hw with ⟨e1, r1, hp, eu, ev⟩ | ⟨e1, hc, eu⟩ | ⟨e1, hc, eu⟩
    · obtain ⟨rfl, hok⟩ := hp
      refine ⟨0, upS_s.trans (by (try unfold itZ); (try unfold bI); (repeat' split) <;> omega), e1, by decide, fun _ => ev.trans (congrArg (fun v9 : Int => (zI v9).toInt64) (by (try unfold itZ); (try unfold bI); (repeat' split) <;> omega)), ?_, (by rw [eu] <;> rfl)⟩
      rw [eu]
      exact (hLI.m (mK_0 M _)).mono (by omega) (by omega)
    · refine ⟨1, upS_s.trans (by (try unfold itZ); (try unfold bI); (repeat' split) <;> omega), e1, by decide, fun q => absurd q (by decide), ?_, (by rw [eu] <;> rfl)⟩
      rw [eu]
      exact (hLI.m (mK_0 M _)).mono (by omega) (by omega)
    · refine ⟨2, upS_s.trans (by (try unfold itZ); (try unfold bI); (repeat' split) <;> omega), e1, by decide, fun q => absurd q (by decide), ?_, (by rw [eu] <;> rfl)⟩
      rw [eu]
      exact (hLI.m (mK_0 M _)).mono (by omega) (by omega)
  obtain ⟨t9, ht9, hr9, ht9b, hval, hLI2, hS2⟩ := hcase
  have ht9r : zI ((upS M 8 0 (if ¬ isTen S x then 1 else if lb S x = -1 then 2 else 0)) 8 0) = r1578 := by rw [ht9, hr9]
  refine lv_istore (lv' := [(7, .int (zI (itZ ((isTen S x ∧ lb S x ≠ -1)) (lb S x)))), (6, .int r1578), (0, .ref b), (1, .ref (ad 7 0)), (2, .ref (mo 0)), (3, .ref oa), (4, .ref od), (5, .int (zI i))]) hx hb dL_law_1593 hl (by decide) rfl (fun ls hl => ?_)
  refine lv_aload_n hx hb dL_law_1595 rfl (lv_at hl 4 rfl) ?_
  refine vp_callSi (W.runV (As := []) (rest := []) ⟨hx, hb, hml, hown, htg⟩ (m_thrown l dg ck mo S F1 F2 F3 F4 (upS M 8 0 (if ¬ isTen S x then 1 else if lb S x = -1 then 2 else 0))) (cwV 0 htg (gwV wq_1627 wq_1628 wq_1629 wq_15 wq_1630) rfl rfl rfl (by decide +kernel) ⟨Nat.le_of_ble_eq_true rfl, Nat.le_of_ble_eq_true rfl⟩) (rd_preV hK (va_P_l (va_P_r hP)) 0 11 rfl rfl) rfl rfl hl.1 rfl (lv_room (Nat.le_of_ble_eq_true rfl)) dL_law_1596 ⟨by show _ ≤ 603072; omega, by show _ ≤ 7207018; omega⟩) (fun r1596 hr1596 => ?_)
  subst hr1596
  refine lv_iload hx hb dL_law_1599 (lv_at hl 1 rfl) ?_
  refine lv_icmp_eq (tgt := 1606) hx hb dL_law_1601 (by decide) (fun _ => ?_) (fun c9 => absurd ht9r c9)
  refine lv_iload hx hb dL_law_1606 (lv_at hl 1 rfl) ?_
  refine W.eq (g2 := F0 m 1608 ls [.int (zI t9)]) (by rw [hr9]) ?_
  refine x_if_ne (tgt := 1623) hx hb dL_law_1608 (by decide) (by omega) (fun c9 => ?_) (fun c9 => ?_)
  · refine lv_goto (tgt := 3323) hx hb dL_law_1623 (by decide) ?_
    refine W.widen (k := cells + 3) (n := slots + 18) (by omega) (by omega) ?_
    have hP : va_P dg vwCl (lawW ck ka ad ra mo oa od u1578.1 F1 F2 F3 F4 (upS M 8 0 (if ¬ isTen S x then 1 else if lb S x = -1 then 2 else 0)) u1578.2 E) H := va_P_eq (by rw [hS2] <;> rfl) hP
    have hD : va_D A (lawW ck ka ad ra mo oa od u1578.1 F1 F2 F3 F4 (upS M 8 0 (if ¬ isTen S x then 1 else if lb S x = -1 then 2 else 0)) u1578.2 E) := va_D_eq (by rw [hS2] <;> rfl) hD
    exact kk u1578.1 F1 F2 F3 F4 (upS M 8 0 (if ¬ isTen S x then 1 else if lb S x = -1 then 2 else 0)) u1578.2 E H locs ls hLI2 hP hD hS (lv_sub hl [2, 3, 4, 5, 6, 7] rfl)
  · have hv9 := hval (by omega)
    refine lv_aload_n hx hb dL_law_1611 rfl (lv_at hl 5 rfl) ?_
    refine x_iconst hx hb dL_law_1612 ?_
    refine va_lald hx hb hK hP 175 5 rfl rfl (zI_in (z := 0) (by decide) (by decide)) dL_law_1613 ?_
    refine lv_iload hx hb dL_law_1614 (lv_at hl 0 rfl) ?_
    refine lv_i2l hx hb dL_law_1616 rfl ?_
    refine W.lcmp hx hb dL_law_1617 ?_
    refine W.eq (g2 := F0 m 1618 ls [.int (zI 0)]) (congrArg (fun v9 => F0 m 1618 ls [.int v9]) ((congrArg (fun v9 => lg_cmp v9 _) hv9).trans (lg_self _))) ?_
    refine x_if_eq (tgt := 1623) hx hb dL_law_1618 (by decide) (by omega) (fun _ => ?_) (fun c => absurd rfl c)
    refine lv_goto (tgt := 3323) hx hb dL_law_1623 (by decide) ?_
    refine W.widen (k := cells + 3) (n := slots + 18) (by omega) (by omega) ?_
    have hP : va_P dg vwCl (lawW ck ka ad ra mo oa od u1578.1 F1 F2 F3 F4 (upS M 8 0 (if ¬ isTen S x then 1 else if lb S x = -1 then 2 else 0)) u1578.2 E) H := va_P_eq (by rw [hS2] <;> rfl) hP
    have hD : va_D A (lawW ck ka ad ra mo oa od u1578.1 F1 F2 F3 F4 (upS M 8 0 (if ¬ isTen S x then 1 else if lb S x = -1 then 2 else 0)) u1578.2 E) := va_D_eq (by rw [hS2] <;> rfl) hD
    exact kk u1578.1 F1 F2 F3 F4 (upS M 8 0 (if ¬ isTen S x then 1 else if lb S x = -1 then 2 else 0)) u1578.2 E H locs ls hLI2 hP hD hS (lv_sub hl [2, 3, 4, 5, 6, 7] rfl)

set_option maxHeartbeats 4000000 in
set_option maxRecDepth 100000 in
/-- the law: a call of canLease -/
theorem lc_25 {p : Program} {l : Launch} {e : Env} {s : State} {m : MethodId} {below : List Frame} {meth : Method} {c : Code} {dg : va_G} {ck : Nat → ClassId} {ka : Nat → Nat} {b L : Nat} {xs : Nat → Int32} {A : Nat → Prop} {ad ra : Nat → Nat → Nat} {mo : Nat → Nat} {oa od : Nat} {Qf : State → Prop} {i : Int} {cells slots : Nat} (C0 : LX p l s m c dg ck ka b L xs A) (hi : 0 ≤ i ∧ i + 4 ≤ L) (hcell : cells + 3 ≤ 603072) (hslot : slots + 18 ≤ 7207018) (kk : LKK p l e s m below meth c dg ck ka ad ra mo oa od b A Qf i cells slots) {Z O U X : Nat → Int} {S T P I : St} {V N Y : Int → Int} {Q : Nat → St} {F1 F2 F3 F4 : Int → Int} {M : St} {D : Nat → Int64} {E : Nat → UInt64} {H : Heap} {locs : List Loc} {ls : Array Slot} (hLI : LI (775 * i) Z U X S P I Y Q F2 F3 M) (hP : va_P dg vwCl (brkW ck ka ad ra Z O U X S T P I V N Y Q ++ (modelC ck mo (encZ S) F1 F2 F3 F4 M ++ (lngC ck oa D ++ (dblC ck od E)))) H) (hD : va_D A (brkW ck ka ad ra Z O U X S T P I V N Y Q ++ (modelC ck mo (encZ S) F1 F2 F3 F4 M ++ (lngC ck oa D ++ (dblC ck od E))))) (hS : va_S A s.heap H locs) (hl : lv_has ls 9 [(0, .ref b), (1, .ref (ad 7 0)), (2, .ref (mo 0)), (3, .ref oa), (4, .ref od), (5, .int (zI i))]) : W p l e room_1 s m #[Value.ref b] below meth c H locs cells slots Qf (F0 m 1626 ls []) := by
  obtain ⟨hx, hb, hml, hown, htg, hX, hbl, hbA, hK, hC, hA, hst, hL⟩ := id C0
  obtain ⟨hV, hlh, hls, hlt, hlo, hlf⟩ := id hLI
  obtain ⟨hn, hz, hk1, hq10, hhist⟩ := id hlh
  obtain ⟨hk2, hz0, hp10, hsn⟩ := id hls
  obtain ⟨hk3, hln, hk5, htx, hkv⟩ := id hlt
  obtain ⟨hk4, hu0, hy7, hY⟩ := id hlo
  obtain ⟨⟨hk5a, hz4⟩, ⟨hk6, hz1⟩, hk7, hk8⟩ := id hlf
  have hI := hV.bd
  have hs10 : ∀ i, 0 ≤ S 10 i ∧ S 10 i ≤ 1 := hI.2.2.2.2.2.2.2.2.2.2.2.2.2.1
  obtain ⟨x, hv_x⟩ : ∃ v9 : Int, (xs (i + 1).toNat).toInt = v9 := ⟨_, rfl⟩
  have rgx_x := xi_r (xs (i + 1).toNat)
  rw [hv_x] at rgx_x
  obtain ⟨y, hv_y⟩ : ∃ v9 : Int, (xs (i + 2).toNat).toInt = v9 := ⟨_, rfl⟩
  have rgx_y := xi_r (xs (i + 2).toNat)
  rw [hv_y] at rgx_y
  obtain ⟨z, hv_z⟩ : ∃ v9 : Int, (xs (i + 3).toNat).toInt = v9 := ⟨_, rfl⟩
  have rgx_z := xi_r (xs (i + 3).toNat)
  rw [hv_z] at rgx_z
  refine lv_aload_n hx hb dL_law_1626 rfl (lv_at hl 1 rfl) ?_
  refine lv_aload_n hx hb dL_law_1627 rfl (lv_at hl 0 rfl) ?_
  refine lv_iload hx hb dL_law_1628 (lv_at hl 5 rfl) ?_
  refine x_iconst hx hb dL_law_1630 ?_
  refine x_iadd hx hb dL_law_1631 ?_
  refine x_sld hx hb hX hbl hbA hS (by omega) (by omega) hv_x dL_law_1632 ?_
  refine lv_aload_n hx hb dL_law_1633 rfl (lv_at hl 0 rfl) ?_
  refine lv_iload hx hb dL_law_1634 (lv_at hl 5 rfl) ?_
  refine x_iconst hx hb dL_law_1636 ?_
  refine x_iadd hx hb dL_law_1637 ?_
  refine x_sld hx hb hX hbl hbA hS (by omega) (by omega) hv_y dL_law_1638 ?_
  refine lv_aload_n hx hb dL_law_1639 rfl (lv_at hl 3 rfl) ?_
  refine x_calliUB (wf := fun u1640 : BU × (Nat → Int64) => brkU ck ka ad ra u1640.1 ++ (modelC ck mo (encZ S) F1 F2 F3 F4 M ++ (lngC ck oa u1640.2 ++ (dblC ck od E)))) (M := brkW ck ka ad ra Z O U X S T P I V N Y Q ++ (lngC ck oa D)) (Mf := fun u1640 => brkU ck ka ad ra u1640.1 ++ (lngC ck oa u1640.2)) (N := modelC ck mo (encZ S) F1 F2 F3 F4 M ++ (dblC ck od E)) (cat_perm [brkW ck ka ad ra Z O U X S T P I V N Y Q, modelC ck mo (encZ S) F1 F2 F3 F4 M, lngC ck oa D, dblC ck od E] [0, 2] [1, 3] 4 rfl (by decide)) (fun u1640 => cat_perm [brkU ck ka ad ra u1640.1, modelC ck mo (encZ S) F1 F2 F3 F4 M, lngC ck oa u1640.2, dblC ck od E] [0, 2] [1, 3] 4 rfl (by decide)) hP hD hS hA (fun hPm hDm => vx_runSW (As := [.ref (ad 7 0), .int (zI x), .int (zI y), .ref oa]) (rest := []) ⟨hx, hb, hml, hown, htg⟩ (w_canLease l dg ck ka ad ra Z O U X S T P I V N Y Q oa D x y _ hI (by omega) (by omega) hst) (vx_cwSW 4 htg (gwSW wq_901 wq_902 wq_0 wqL_canLease) rfl rfl rfl (by decide +kernel) ⟨Nat.le_of_ble_eq_true rfl, Nat.le_of_ble_eq_true rfl⟩) (wrK_preS hK hPm hDm hC hS hA) rfl rfl hl.1 rfl (lv_room (Nat.le_of_ble_eq_true rfl)) dL_law_1640 ⟨by show cells + 2 ≤ 603072; omega, by show slots + 12 ≤ 7207018; omega⟩) (fun r1640 u1640 H locs hw hP hD hS => ?_)
  have hP : va_P dg vwCl (brkU ck ka ad ra u1640.1 ++ (modelC ck mo (encZ S) F1 F2 F3 F4 M ++ (lngC ck oa u1640.2 ++ (dblC ck od E)))) H := hP
  have hD : va_D A (brkU ck ka ad ra u1640.1 ++ (modelC ck mo (encZ S) F1 F2 F3 F4 M ++ (lngC ck oa u1640.2 ++ (dblC ck od E)))) := hD
  refine lv_istore (lv' := [(6, .int r1640), (0, .ref b), (1, .ref (ad 7 0)), (2, .ref (mo 0)), (3, .ref oa), (4, .ref od), (5, .int (zI i))]) hx hb dL_law_1643 hl (by decide) rfl (fun ls hl => ?_)
  refine lv_aload_n hx hb dL_law_1645 rfl (lv_at hl 3 rfl) ?_
  refine lv_aload_n hx hb dL_law_1646 rfl (lv_at hl 1 rfl) ?_
  refine lv_iload hx hb dL_law_1647 (lv_at hl 6 rfl) ?_
  refine x_iconst hx hb dL_law_1649 ?_
  refine x_iadd hx hb dL_law_1650 ?_
  refine x_sld hx hb hX hbl hbA hS (by omega) (by omega) hv_x dL_law_1651 ?_
  refine lv_aload_n hx hb dL_law_1652 rfl (lv_at hl 1 rfl) ?_
  refine lv_iload hx hb dL_law_1653 (lv_at hl 6 rfl) ?_
  refine x_iconst hx hb dL_law_1655 ?_
  refine x_iadd hx hb dL_law_1656 ?_
  refine x_sld hx hb hX hbl hbA hS (by omega) (by omega) hv_y dL_law_1657 ?_
  refine x_calliUB (wf := fun M1658 : St => brkU ck ka ad ra u1640.1 ++ (modelC ck mo (encZ S) F1 F2 F3 F4 M1658 ++ (lngC ck oa u1640.2 ++ (dblC ck od E)))) (M := modelC ck mo (encZ S) F1 F2 F3 F4 M) (Mf := fun M1658 => modelC ck mo (encZ S) F1 F2 F3 F4 M1658) (N := brkU ck ka ad ra u1640.1 ++ (lngC ck oa u1640.2 ++ (dblC ck od E))) (cat_perm [brkU ck ka ad ra u1640.1, modelC ck mo (encZ S) F1 F2 F3 F4 M, lngC ck oa u1640.2, dblC ck od E] [1] [0, 2, 3] 4 rfl (by decide)) (fun M1658 => cat_perm [brkU ck ka ad ra u1640.1, modelC ck mo (encZ S) F1 F2 F3 F4 M1658, lngC ck oa u1640.2, dblC ck od E] [1] [0, 2, 3] 4 rfl (by decide)) hP hD hS hA (fun hPm hDm => va_runV (As := [.int (zI x), .int (zI y)]) (rest := []) ⟨hx, hb, hml, hown, htg⟩ (m_canLease l dg ck mo S F1 F2 F3 F4 M x y _ hI (by omega) (by omega)) (cwV 2 htg (gwV wq_1857 wq_1858 wq_1859 wq_15 wq_1860) rfl rfl rfl (by decide +kernel) ⟨Nat.le_of_ble_eq_true rfl, Nat.le_of_ble_eq_true rfl⟩) (wr_preV hK hPm hDm 0 11 rfl rfl) rfl rfl hl.1 rfl (lv_room (Nat.le_of_ble_eq_true rfl)) dL_law_1658 ⟨by show _ ≤ 603072; omega, by show _ ≤ 7207018; omega⟩) (fun r1658 M1658 H locs hm9 hP hD hS => ?_)
  obtain ⟨hm9, rfl⟩ := hm9
  have hP : va_P dg vwCl (brkU ck ka ad ra u1640.1 ++ (modelC ck mo (encZ S) F1 F2 F3 F4 M1658 ++ (lngC ck oa u1640.2 ++ (dblC ck od E)))) H := hP
  have hD : va_D A (brkU ck ka ad ra u1640.1 ++ (modelC ck mo (encZ S) F1 F2 F3 F4 M1658 ++ (lngC ck oa u1640.2 ++ (dblC ck od E)))) := hD
  have hcase : ∃ t9 : Int, M1658 8 0 = t9 ∧ r1640 = zI t9 ∧ (0 ≤ t9 ∧ t9 ≤ 3) ∧ (t9 = 0 → u1640.2 0 = (zI (bI (isTen S x ∧ isBench S y ∧ obst S x y = 0))).toInt64) ∧ LI (775 * i + 3100) (u1640.1.1) (u1640.1.2.2.1) (u1640.1.2.2.2.1) (u1640.1.2.2.2.2.1) (u1640.1.2.2.2.2.2.2.1) (u1640.1.2.2.2.2.2.2.2.1) (u1640.1.2.2.2.2.2.2.2.2.2.2.1) (u1640.1.2.2.2.2.2.2.2.2.2.2.2) F2 F3 M1658 ∧ S = u1640.1.2.2.2.2.1 := by
    rcases hw with ⟨e1, r1, hp, eu, ev⟩ | ⟨e1, hc, eu⟩
    · obtain ⟨rfl, hok⟩ := hp
      refine ⟨0, hm9.1.trans (by (try unfold itZ); (try unfold bI); (repeat' split) <;> omega), e1, by decide, fun _ => ev.trans (congrArg (fun v9 : Int => (zI v9).toInt64) (by (try unfold itZ); (try unfold bI); (repeat' split) <;> omega)), ?_, (by rw [eu] <;> rfl)⟩
      rw [eu]
      exact (hLI.m (mK_q hm9)).mono (by omega) (by omega)
    · refine ⟨1, hm9.1.trans (by (try unfold itZ); (try unfold bI); (repeat' split) <;> omega), e1, by decide, fun q => absurd q (by decide), ?_, (by rw [eu] <;> rfl)⟩
      rw [eu]
      exact (hLI.m (mK_q hm9)).mono (by omega) (by omega)
  obtain ⟨t9, ht9, hr9, ht9b, hval, hLI2, hS2⟩ := hcase
  have ht9r : zI (M1658 8 0) = r1640 := by rw [ht9, hr9]
  refine lv_istore (lv' := [(7, .int (zI (bI (isTen S x ∧ isBench S y ∧ obst S x y = 0)))), (6, .int r1640), (0, .ref b), (1, .ref (ad 7 0)), (2, .ref (mo 0)), (3, .ref oa), (4, .ref od), (5, .int (zI i))]) hx hb dL_law_1661 hl (by decide) rfl (fun ls hl => ?_)
  refine lv_aload_n hx hb dL_law_1663 rfl (lv_at hl 4 rfl) ?_
  refine vp_callSi (W.runV (As := []) (rest := []) ⟨hx, hb, hml, hown, htg⟩ (m_thrown l dg ck mo S F1 F2 F3 F4 M1658) (cwV 0 htg (gwV wq_1627 wq_1628 wq_1629 wq_15 wq_1630) rfl rfl rfl (by decide +kernel) ⟨Nat.le_of_ble_eq_true rfl, Nat.le_of_ble_eq_true rfl⟩) (rd_preV hK (va_P_l (va_P_r hP)) 0 11 rfl rfl) rfl rfl hl.1 rfl (lv_room (Nat.le_of_ble_eq_true rfl)) dL_law_1664 ⟨by show _ ≤ 603072; omega, by show _ ≤ 7207018; omega⟩) (fun r1664 hr1664 => ?_)
  subst hr1664
  refine lv_iload hx hb dL_law_1667 (lv_at hl 1 rfl) ?_
  refine lv_icmp_eq (tgt := 1674) hx hb dL_law_1669 (by decide) (fun _ => ?_) (fun c9 => absurd ht9r c9)
  refine lv_iload hx hb dL_law_1674 (lv_at hl 1 rfl) ?_
  refine W.eq (g2 := F0 m 1676 ls [.int (zI t9)]) (by rw [hr9]) ?_
  refine x_if_ne (tgt := 1698) hx hb dL_law_1676 (by decide) (by omega) (fun c9 => ?_) (fun c9 => ?_)
  · refine lv_goto (tgt := 3323) hx hb dL_law_1698 (by decide) ?_
    refine W.widen (k := cells + 3) (n := slots + 18) (by omega) (by omega) ?_
    have hP : va_P dg vwCl (lawW ck ka ad ra mo oa od u1640.1 F1 F2 F3 F4 M1658 u1640.2 E) H := va_P_eq (by rw [hS2] <;> rfl) hP
    have hD : va_D A (lawW ck ka ad ra mo oa od u1640.1 F1 F2 F3 F4 M1658 u1640.2 E) := va_D_eq (by rw [hS2] <;> rfl) hD
    exact kk u1640.1 F1 F2 F3 F4 M1658 u1640.2 E H locs ls hLI2 hP hD hS (lv_sub hl [2, 3, 4, 5, 6, 7] rfl)
  · have hv9 := hval (by omega)
    refine lv_aload_n hx hb dL_law_1679 rfl (lv_at hl 5 rfl) ?_
    refine x_iconst hx hb dL_law_1680 ?_
    refine va_lald hx hb hK hP 175 5 rfl rfl (zI_in (z := 0) (by decide) (by decide)) dL_law_1681 ?_
    refine lv_iload hx hb dL_law_1682 (lv_at hl 0 rfl) ?_
    have hb01 := bI_r (isTen S x ∧ isBench S y ∧ obst S x y = 0)
    rcases (show (bI (isTen S x ∧ isBench S y ∧ obst S x y = 0)) = 1 ∨ (bI (isTen S x ∧ isBench S y ∧ obst S x y = 0)) = 0 by omega) with h9 | h9
    · rw [h9] at hv9
      refine x_is h9 ?_
      refine x_if_eq (tgt := 1691) hx hb dL_law_1684 (by decide) (by omega) (fun c => absurd c (by decide)) (fun _ => ?_)
      refine lv_lconst (v := (zI 1).toInt64) hx hb dL_law_1687 (by decide) ?_
      refine lv_goto (tgt := 1692) hx hb dL_law_1688 (by decide) ?_
      refine W.lcmp hx hb dL_law_1692 ?_
      refine W.eq (g2 := F0 m 1693 ls [.int (zI 0)]) (congrArg (fun v9 => F0 m 1693 ls [.int v9]) ((congrArg (fun v9 => lg_cmp v9 _) hv9).trans (lg_self _))) ?_
      refine x_if_eq (tgt := 1698) hx hb dL_law_1693 (by decide) (by omega) (fun _ => ?_) (fun c => absurd rfl c)
      refine lv_goto (tgt := 3323) hx hb dL_law_1698 (by decide) ?_
      refine W.widen (k := cells + 3) (n := slots + 18) (by omega) (by omega) ?_
      have hP : va_P dg vwCl (lawW ck ka ad ra mo oa od u1640.1 F1 F2 F3 F4 M1658 u1640.2 E) H := va_P_eq (by rw [hS2] <;> rfl) hP
      have hD : va_D A (lawW ck ka ad ra mo oa od u1640.1 F1 F2 F3 F4 M1658 u1640.2 E) := va_D_eq (by rw [hS2] <;> rfl) hD
      exact kk u1640.1 F1 F2 F3 F4 M1658 u1640.2 E H locs ls hLI2 hP hD hS (lv_sub hl [2, 3, 4, 5, 6, 7] rfl)
    · rw [h9] at hv9
      refine x_is h9 ?_
      refine x_if_eq (tgt := 1691) hx hb dL_law_1684 (by decide) (by omega) (fun _ => ?_) (fun c => absurd c (by decide))
      refine lv_lconst (v := (zI 0).toInt64) hx hb dL_law_1691 (by decide) ?_
      refine W.lcmp hx hb dL_law_1692 ?_
      refine W.eq (g2 := F0 m 1693 ls [.int (zI 0)]) (congrArg (fun v9 => F0 m 1693 ls [.int v9]) ((congrArg (fun v9 => lg_cmp v9 _) hv9).trans (lg_self _))) ?_
      refine x_if_eq (tgt := 1698) hx hb dL_law_1693 (by decide) (by omega) (fun _ => ?_) (fun c => absurd rfl c)
      refine lv_goto (tgt := 3323) hx hb dL_law_1698 (by decide) ?_
      refine W.widen (k := cells + 3) (n := slots + 18) (by omega) (by omega) ?_
      have hP : va_P dg vwCl (lawW ck ka ad ra mo oa od u1640.1 F1 F2 F3 F4 M1658 u1640.2 E) H := va_P_eq (by rw [hS2] <;> rfl) hP
      have hD : va_D A (lawW ck ka ad ra mo oa od u1640.1 F1 F2 F3 F4 M1658 u1640.2 E) := va_D_eq (by rw [hS2] <;> rfl) hD
      exact kk u1640.1 F1 F2 F3 F4 M1658 u1640.2 E H locs ls hLI2 hP hD hS (lv_sub hl [2, 3, 4, 5, 6, 7] rfl)

set_option maxHeartbeats 4000000 in
set_option maxRecDepth 100000 in
/-- the law: a call of cheapestFor -/
theorem lc_26 {p : Program} {l : Launch} {e : Env} {s : State} {m : MethodId} {below : List Frame} {meth : Method} {c : Code} {dg : va_G} {ck : Nat → ClassId} {ka : Nat → Nat} {b L : Nat} {xs : Nat → Int32} {A : Nat → Prop} {ad ra : Nat → Nat → Nat} {mo : Nat → Nat} {oa od : Nat} {Qf : State → Prop} {i : Int} {cells slots : Nat} (C0 : LX p l s m c dg ck ka b L xs A) (hi : 0 ≤ i ∧ i + 4 ≤ L) (hcell : cells + 3 ≤ 603072) (hslot : slots + 18 ≤ 7207018) (kk : LKK p l e s m below meth c dg ck ka ad ra mo oa od b A Qf i cells slots) {Z O U X : Nat → Int} {S T P I : St} {V N Y : Int → Int} {Q : Nat → St} {F1 F2 F3 F4 : Int → Int} {M : St} {D : Nat → Int64} {E : Nat → UInt64} {H : Heap} {locs : List Loc} {ls : Array Slot} (hLI : LI (775 * i) Z U X S P I Y Q F2 F3 M) (hP : va_P dg vwCl (brkW ck ka ad ra Z O U X S T P I V N Y Q ++ (modelC ck mo (encZ S) F1 F2 F3 F4 M ++ (lngC ck oa D ++ (dblC ck od E)))) H) (hD : va_D A (brkW ck ka ad ra Z O U X S T P I V N Y Q ++ (modelC ck mo (encZ S) F1 F2 F3 F4 M ++ (lngC ck oa D ++ (dblC ck od E))))) (hS : va_S A s.heap H locs) (hl : lv_has ls 9 [(0, .ref b), (1, .ref (ad 7 0)), (2, .ref (mo 0)), (3, .ref oa), (4, .ref od), (5, .int (zI i))]) : W p l e room_1 s m #[Value.ref b] below meth c H locs cells slots Qf (F0 m 1701 ls []) := by
  obtain ⟨hx, hb, hml, hown, htg, hX, hbl, hbA, hK, hC, hA, hst, hL⟩ := id C0
  obtain ⟨hV, hlh, hls, hlt, hlo, hlf⟩ := id hLI
  obtain ⟨hn, hz, hk1, hq10, hhist⟩ := id hlh
  obtain ⟨hk2, hz0, hp10, hsn⟩ := id hls
  obtain ⟨hk3, hln, hk5, htx, hkv⟩ := id hlt
  obtain ⟨hk4, hu0, hy7, hY⟩ := id hlo
  obtain ⟨⟨hk5a, hz4⟩, ⟨hk6, hz1⟩, hk7, hk8⟩ := id hlf
  have hI := hV.bd
  have hs10 : ∀ i, 0 ≤ S 10 i ∧ S 10 i ≤ 1 := hI.2.2.2.2.2.2.2.2.2.2.2.2.2.1
  obtain ⟨x, hv_x⟩ : ∃ v9 : Int, (xs (i + 1).toNat).toInt = v9 := ⟨_, rfl⟩
  have rgx_x := xi_r (xs (i + 1).toNat)
  rw [hv_x] at rgx_x
  obtain ⟨y, hv_y⟩ : ∃ v9 : Int, (xs (i + 2).toNat).toInt = v9 := ⟨_, rfl⟩
  have rgx_y := xi_r (xs (i + 2).toNat)
  rw [hv_y] at rgx_y
  obtain ⟨z, hv_z⟩ : ∃ v9 : Int, (xs (i + 3).toNat).toInt = v9 := ⟨_, rfl⟩
  have rgx_z := xi_r (xs (i + 3).toNat)
  rw [hv_z] at rgx_z
  refine lv_aload_n hx hb dL_law_1701 rfl (lv_at hl 1 rfl) ?_
  refine lv_aload_n hx hb dL_law_1702 rfl (lv_at hl 0 rfl) ?_
  refine lv_iload hx hb dL_law_1703 (lv_at hl 5 rfl) ?_
  refine x_iconst hx hb dL_law_1705 ?_
  refine x_iadd hx hb dL_law_1706 ?_
  refine x_sld hx hb hX hbl hbA hS (by omega) (by omega) hv_x dL_law_1707 ?_
  refine lv_aload_n hx hb dL_law_1708 rfl (lv_at hl 3 rfl) ?_
  refine x_calliUB (wf := fun u1709 : BU × (Nat → Int64) => brkU ck ka ad ra u1709.1 ++ (modelC ck mo (encZ S) F1 F2 F3 F4 M ++ (lngC ck oa u1709.2 ++ (dblC ck od E)))) (M := brkW ck ka ad ra Z O U X S T P I V N Y Q ++ (lngC ck oa D)) (Mf := fun u1709 => brkU ck ka ad ra u1709.1 ++ (lngC ck oa u1709.2)) (N := modelC ck mo (encZ S) F1 F2 F3 F4 M ++ (dblC ck od E)) (cat_perm [brkW ck ka ad ra Z O U X S T P I V N Y Q, modelC ck mo (encZ S) F1 F2 F3 F4 M, lngC ck oa D, dblC ck od E] [0, 2] [1, 3] 4 rfl (by decide)) (fun u1709 => cat_perm [brkU ck ka ad ra u1709.1, modelC ck mo (encZ S) F1 F2 F3 F4 M, lngC ck oa u1709.2, dblC ck od E] [0, 2] [1, 3] 4 rfl (by decide)) hP hD hS hA (fun hPm hDm => vx_runSW (As := [.ref (ad 7 0), .int (zI x), .ref oa]) (rest := []) ⟨hx, hb, hml, hown, htg⟩ (w_cheapestFor l dg ck ka ad ra Z O U X S T P I V N Y Q oa D x _ hI (by omega) hst) (vx_cwSW 3 htg (gwSW wq_912 wq_913 wq_0 wqL_cheapestFor) rfl rfl rfl (by decide +kernel) ⟨Nat.le_of_ble_eq_true rfl, Nat.le_of_ble_eq_true rfl⟩) (wrK_preS hK hPm hDm hC hS hA) rfl rfl hl.1 rfl (lv_room (Nat.le_of_ble_eq_true rfl)) dL_law_1709 ⟨by show cells + 2 ≤ 603072; omega, by show slots + 12 ≤ 7207018; omega⟩) (fun r1709 u1709 H locs hw hP hD hS => ?_)
  have hP : va_P dg vwCl (brkU ck ka ad ra u1709.1 ++ (modelC ck mo (encZ S) F1 F2 F3 F4 M ++ (lngC ck oa u1709.2 ++ (dblC ck od E)))) H := hP
  have hD : va_D A (brkU ck ka ad ra u1709.1 ++ (modelC ck mo (encZ S) F1 F2 F3 F4 M ++ (lngC ck oa u1709.2 ++ (dblC ck od E)))) := hD
  refine lv_istore (lv' := [(6, .int r1709), (0, .ref b), (1, .ref (ad 7 0)), (2, .ref (mo 0)), (3, .ref oa), (4, .ref od), (5, .int (zI i))]) hx hb dL_law_1712 hl (by decide) rfl (fun ls hl => ?_)
  refine lv_aload_n hx hb dL_law_1714 rfl (lv_at hl 3 rfl) ?_
  refine lv_aload_n hx hb dL_law_1715 rfl (lv_at hl 1 rfl) ?_
  refine lv_iload hx hb dL_law_1716 (lv_at hl 6 rfl) ?_
  refine x_iconst hx hb dL_law_1718 ?_
  refine x_iadd hx hb dL_law_1719 ?_
  refine x_sld hx hb hX hbl hbA hS (by omega) (by omega) hv_x dL_law_1720 ?_
  refine x_calliUB (wf := fun M1721 : St => brkU ck ka ad ra u1709.1 ++ (modelC ck mo (encZ S) F1 F2 F3 F4 M1721 ++ (lngC ck oa u1709.2 ++ (dblC ck od E)))) (M := modelC ck mo (encZ S) F1 F2 F3 F4 M) (Mf := fun M1721 => modelC ck mo (encZ S) F1 F2 F3 F4 M1721) (N := brkU ck ka ad ra u1709.1 ++ (lngC ck oa u1709.2 ++ (dblC ck od E))) (cat_perm [brkU ck ka ad ra u1709.1, modelC ck mo (encZ S) F1 F2 F3 F4 M, lngC ck oa u1709.2, dblC ck od E] [1] [0, 2, 3] 4 rfl (by decide)) (fun M1721 => cat_perm [brkU ck ka ad ra u1709.1, modelC ck mo (encZ S) F1 F2 F3 F4 M1721, lngC ck oa u1709.2, dblC ck od E] [1] [0, 2, 3] 4 rfl (by decide)) hP hD hS hA (fun hPm hDm => va_runV (As := [.int (zI x)]) (rest := []) ⟨hx, hb, hml, hown, htg⟩ (m_cheapestFor l dg ck mo S F1 F2 F3 F4 M x _ hI (by omega)) (cwV 1 htg (gwV wq_1865 wq_1866 wq_1867 wq_15 wq_1868) rfl rfl rfl (by decide +kernel) ⟨Nat.le_of_ble_eq_true rfl, Nat.le_of_ble_eq_true rfl⟩) (wr_preV hK hPm hDm 0 11 rfl rfl) rfl rfl hl.1 rfl (lv_room (Nat.le_of_ble_eq_true rfl)) dL_law_1721 ⟨by show _ ≤ 603072; omega, by show _ ≤ 7207018; omega⟩) (fun r1721 M1721 H locs hm9 hP hD hS => ?_)
  obtain ⟨hm9, rfl⟩ := hm9
  have hP : va_P dg vwCl (brkU ck ka ad ra u1709.1 ++ (modelC ck mo (encZ S) F1 F2 F3 F4 M1721 ++ (lngC ck oa u1709.2 ++ (dblC ck od E)))) H := hP
  have hD : va_D A (brkU ck ka ad ra u1709.1 ++ (modelC ck mo (encZ S) F1 F2 F3 F4 M1721 ++ (lngC ck oa u1709.2 ++ (dblC ck od E)))) := hD
  have hcase : ∃ t9 : Int, M1721 8 0 = t9 ∧ r1709 = zI t9 ∧ (0 ≤ t9 ∧ t9 ≤ 3) ∧ (t9 = 0 → u1709.2 0 = (zI (if (if ¬ isTen S x then 1 else if chB S x (S 0 0).toNat = -1 then 2 else 0) = 0 then chB S x (S 0 0).toNat else 0)).toInt64) ∧ LI (775 * i + 3100) (u1709.1.1) (u1709.1.2.2.1) (u1709.1.2.2.2.1) (u1709.1.2.2.2.2.1) (u1709.1.2.2.2.2.2.2.1) (u1709.1.2.2.2.2.2.2.2.1) (u1709.1.2.2.2.2.2.2.2.2.2.2.1) (u1709.1.2.2.2.2.2.2.2.2.2.2.2) F2 F3 M1721 ∧ S = u1709.1.2.2.2.2.1 := by
    rcases hw with ⟨e1, r1, hp, eu, ev⟩ | ⟨e1, hc, eu⟩ | ⟨e1, hc, eu⟩
    · obtain ⟨rfl, hok⟩ := hp
      refine ⟨0, hm9.1.trans (by (try unfold itZ); (try unfold bI); (repeat' split) <;> omega), e1, by decide, fun _ => ev.trans (congrArg (fun v9 : Int => (zI v9).toInt64) (by (try unfold itZ); (try unfold bI); (repeat' split) <;> omega)), ?_, (by rw [eu] <;> rfl)⟩
      rw [eu]
      exact (hLI.m (mK_q hm9)).mono (by omega) (by omega)
    · refine ⟨1, hm9.1.trans (by (try unfold itZ); (try unfold bI); (repeat' split) <;> omega), e1, by decide, fun q => absurd q (by decide), ?_, (by rw [eu] <;> rfl)⟩
      rw [eu]
      exact (hLI.m (mK_q hm9)).mono (by omega) (by omega)
    · refine ⟨2, hm9.1.trans (by (try unfold itZ); (try unfold bI); (repeat' split) <;> omega), e1, by decide, fun q => absurd q (by decide), ?_, (by rw [eu] <;> rfl)⟩
      rw [eu]
      exact (hLI.m (mK_q hm9)).mono (by omega) (by omega)
  obtain ⟨t9, ht9, hr9, ht9b, hval, hLI2, hS2⟩ := hcase
  have ht9r : zI (M1721 8 0) = r1709 := by rw [ht9, hr9]
  refine lv_istore (lv' := [(7, .int (zI (if (if ¬ isTen S x then 1 else if chB S x (S 0 0).toNat = -1 then 2 else 0) = 0 then chB S x (S 0 0).toNat else 0))), (6, .int r1709), (0, .ref b), (1, .ref (ad 7 0)), (2, .ref (mo 0)), (3, .ref oa), (4, .ref od), (5, .int (zI i))]) hx hb dL_law_1724 hl (by decide) rfl (fun ls hl => ?_)
  refine lv_aload_n hx hb dL_law_1726 rfl (lv_at hl 4 rfl) ?_
  refine vp_callSi (W.runV (As := []) (rest := []) ⟨hx, hb, hml, hown, htg⟩ (m_thrown l dg ck mo S F1 F2 F3 F4 M1721) (cwV 0 htg (gwV wq_1627 wq_1628 wq_1629 wq_15 wq_1630) rfl rfl rfl (by decide +kernel) ⟨Nat.le_of_ble_eq_true rfl, Nat.le_of_ble_eq_true rfl⟩) (rd_preV hK (va_P_l (va_P_r hP)) 0 11 rfl rfl) rfl rfl hl.1 rfl (lv_room (Nat.le_of_ble_eq_true rfl)) dL_law_1727 ⟨by show _ ≤ 603072; omega, by show _ ≤ 7207018; omega⟩) (fun r1727 hr1727 => ?_)
  subst hr1727
  refine lv_iload hx hb dL_law_1730 (lv_at hl 1 rfl) ?_
  refine lv_icmp_eq (tgt := 1737) hx hb dL_law_1732 (by decide) (fun _ => ?_) (fun c9 => absurd ht9r c9)
  refine lv_iload hx hb dL_law_1737 (lv_at hl 1 rfl) ?_
  refine W.eq (g2 := F0 m 1739 ls [.int (zI t9)]) (by rw [hr9]) ?_
  refine x_if_ne (tgt := 1754) hx hb dL_law_1739 (by decide) (by omega) (fun c9 => ?_) (fun c9 => ?_)
  · refine lv_goto (tgt := 3323) hx hb dL_law_1754 (by decide) ?_
    refine W.widen (k := cells + 3) (n := slots + 18) (by omega) (by omega) ?_
    have hP : va_P dg vwCl (lawW ck ka ad ra mo oa od u1709.1 F1 F2 F3 F4 M1721 u1709.2 E) H := va_P_eq (by rw [hS2] <;> rfl) hP
    have hD : va_D A (lawW ck ka ad ra mo oa od u1709.1 F1 F2 F3 F4 M1721 u1709.2 E) := va_D_eq (by rw [hS2] <;> rfl) hD
    exact kk u1709.1 F1 F2 F3 F4 M1721 u1709.2 E H locs ls hLI2 hP hD hS (lv_sub hl [2, 3, 4, 5, 6, 7] rfl)
  · have hv9 := hval (by omega)
    refine lv_aload_n hx hb dL_law_1742 rfl (lv_at hl 5 rfl) ?_
    refine x_iconst hx hb dL_law_1743 ?_
    refine va_lald hx hb hK hP 175 5 rfl rfl (zI_in (z := 0) (by decide) (by decide)) dL_law_1744 ?_
    refine lv_iload hx hb dL_law_1745 (lv_at hl 0 rfl) ?_
    refine lv_i2l hx hb dL_law_1747 rfl ?_
    refine W.lcmp hx hb dL_law_1748 ?_
    refine W.eq (g2 := F0 m 1749 ls [.int (zI 0)]) (congrArg (fun v9 => F0 m 1749 ls [.int v9]) ((congrArg (fun v9 => lg_cmp v9 _) hv9).trans (lg_self _))) ?_
    refine x_if_eq (tgt := 1754) hx hb dL_law_1749 (by decide) (by omega) (fun _ => ?_) (fun c => absurd rfl c)
    refine lv_goto (tgt := 3323) hx hb dL_law_1754 (by decide) ?_
    refine W.widen (k := cells + 3) (n := slots + 18) (by omega) (by omega) ?_
    have hP : va_P dg vwCl (lawW ck ka ad ra mo oa od u1709.1 F1 F2 F3 F4 M1721 u1709.2 E) H := va_P_eq (by rw [hS2] <;> rfl) hP
    have hD : va_D A (lawW ck ka ad ra mo oa od u1709.1 F1 F2 F3 F4 M1721 u1709.2 E) := va_D_eq (by rw [hS2] <;> rfl) hD
    exact kk u1709.1 F1 F2 F3 F4 M1721 u1709.2 E H locs ls hLI2 hP hD hS (lv_sub hl [2, 3, 4, 5, 6, 7] rfl)

set_option maxHeartbeats 4000000 in
set_option maxRecDepth 100000 in
/-- the law: a call of isLet -/
theorem lc_30 {p : Program} {l : Launch} {e : Env} {s : State} {m : MethodId} {below : List Frame} {meth : Method} {c : Code} {dg : va_G} {ck : Nat → ClassId} {ka : Nat → Nat} {b L : Nat} {xs : Nat → Int32} {A : Nat → Prop} {ad ra : Nat → Nat → Nat} {mo : Nat → Nat} {oa od : Nat} {Qf : State → Prop} {i : Int} {cells slots : Nat} (C0 : LX p l s m c dg ck ka b L xs A) (hi : 0 ≤ i ∧ i + 4 ≤ L) (hcell : cells + 3 ≤ 603072) (hslot : slots + 18 ≤ 7207018) (kk : LKK p l e s m below meth c dg ck ka ad ra mo oa od b A Qf i cells slots) {Z O U X : Nat → Int} {S T P I : St} {V N Y : Int → Int} {Q : Nat → St} {F1 F2 F3 F4 : Int → Int} {M : St} {D : Nat → Int64} {E : Nat → UInt64} {H : Heap} {locs : List Loc} {ls : Array Slot} (hLI : LI (775 * i) Z U X S P I Y Q F2 F3 M) (hP : va_P dg vwCl (brkW ck ka ad ra Z O U X S T P I V N Y Q ++ (modelC ck mo (encZ S) F1 F2 F3 F4 M ++ (lngC ck oa D ++ (dblC ck od E)))) H) (hD : va_D A (brkW ck ka ad ra Z O U X S T P I V N Y Q ++ (modelC ck mo (encZ S) F1 F2 F3 F4 M ++ (lngC ck oa D ++ (dblC ck od E))))) (hS : va_S A s.heap H locs) (hl : lv_has ls 9 [(0, .ref b), (1, .ref (ad 7 0)), (2, .ref (mo 0)), (3, .ref oa), (4, .ref od), (5, .int (zI i))]) : W p l e room_1 s m #[Value.ref b] below meth c H locs cells slots Qf (F0 m 1961 ls []) := by
  obtain ⟨hx, hb, hml, hown, htg, hX, hbl, hbA, hK, hC, hA, hst, hL⟩ := id C0
  obtain ⟨hV, hlh, hls, hlt, hlo, hlf⟩ := id hLI
  obtain ⟨hn, hz, hk1, hq10, hhist⟩ := id hlh
  obtain ⟨hk2, hz0, hp10, hsn⟩ := id hls
  obtain ⟨hk3, hln, hk5, htx, hkv⟩ := id hlt
  obtain ⟨hk4, hu0, hy7, hY⟩ := id hlo
  obtain ⟨⟨hk5a, hz4⟩, ⟨hk6, hz1⟩, hk7, hk8⟩ := id hlf
  have hI := hV.bd
  have hs10 : ∀ i, 0 ≤ S 10 i ∧ S 10 i ≤ 1 := hI.2.2.2.2.2.2.2.2.2.2.2.2.2.1
  obtain ⟨x, hv_x⟩ : ∃ v9 : Int, (xs (i + 1).toNat).toInt = v9 := ⟨_, rfl⟩
  have rgx_x := xi_r (xs (i + 1).toNat)
  rw [hv_x] at rgx_x
  obtain ⟨y, hv_y⟩ : ∃ v9 : Int, (xs (i + 2).toNat).toInt = v9 := ⟨_, rfl⟩
  have rgx_y := xi_r (xs (i + 2).toNat)
  rw [hv_y] at rgx_y
  obtain ⟨z, hv_z⟩ : ∃ v9 : Int, (xs (i + 3).toNat).toInt = v9 := ⟨_, rfl⟩
  have rgx_z := xi_r (xs (i + 3).toNat)
  rw [hv_z] at rgx_z
  refine lv_aload_n hx hb dL_law_1961 rfl (lv_at hl 1 rfl) ?_
  refine lv_aload_n hx hb dL_law_1962 rfl (lv_at hl 0 rfl) ?_
  refine lv_iload hx hb dL_law_1963 (lv_at hl 5 rfl) ?_
  refine x_iconst hx hb dL_law_1965 ?_
  refine x_iadd hx hb dL_law_1966 ?_
  refine x_sld hx hb hX hbl hbA hS (by omega) (by omega) hv_x dL_law_1967 ?_
  refine lv_aload_n hx hb dL_law_1968 rfl (lv_at hl 3 rfl) ?_
  refine x_calliUB (wf := fun u1969 : BU × (Nat → Int64) => brkU ck ka ad ra u1969.1 ++ (modelC ck mo (encZ S) F1 F2 F3 F4 M ++ (lngC ck oa u1969.2 ++ (dblC ck od E)))) (M := brkW ck ka ad ra Z O U X S T P I V N Y Q ++ (lngC ck oa D)) (Mf := fun u1969 => brkU ck ka ad ra u1969.1 ++ (lngC ck oa u1969.2)) (N := modelC ck mo (encZ S) F1 F2 F3 F4 M ++ (dblC ck od E)) (cat_perm [brkW ck ka ad ra Z O U X S T P I V N Y Q, modelC ck mo (encZ S) F1 F2 F3 F4 M, lngC ck oa D, dblC ck od E] [0, 2] [1, 3] 4 rfl (by decide)) (fun u1969 => cat_perm [brkU ck ka ad ra u1969.1, modelC ck mo (encZ S) F1 F2 F3 F4 M, lngC ck oa u1969.2, dblC ck od E] [0, 2] [1, 3] 4 rfl (by decide)) hP hD hS hA (fun hPm hDm => vx_runSW (As := [.ref (ad 7 0), .int (zI x), .ref oa]) (rest := []) ⟨hx, hb, hml, hown, htg⟩ (w_isLet l dg ck ka ad ra Z O U X S T P I V N Y Q oa D x _ hI (by omega) hst) (vx_cwSW 3 htg (gwSW wq_963 wq_964 wq_0 wqL_isLet) rfl rfl rfl (by decide +kernel) ⟨Nat.le_of_ble_eq_true rfl, Nat.le_of_ble_eq_true rfl⟩) (wrK_preS hK hPm hDm hC hS hA) rfl rfl hl.1 rfl (lv_room (Nat.le_of_ble_eq_true rfl)) dL_law_1969 ⟨by show cells + 1 ≤ 603072; omega, by show slots + 6 ≤ 7207018; omega⟩) (fun r1969 u1969 H locs hw hP hD hS => ?_)
  have hP : va_P dg vwCl (brkU ck ka ad ra u1969.1 ++ (modelC ck mo (encZ S) F1 F2 F3 F4 M ++ (lngC ck oa u1969.2 ++ (dblC ck od E)))) H := hP
  have hD : va_D A (brkU ck ka ad ra u1969.1 ++ (modelC ck mo (encZ S) F1 F2 F3 F4 M ++ (lngC ck oa u1969.2 ++ (dblC ck od E)))) := hD
  refine lv_istore (lv' := [(6, .int r1969), (0, .ref b), (1, .ref (ad 7 0)), (2, .ref (mo 0)), (3, .ref oa), (4, .ref od), (5, .int (zI i))]) hx hb dL_law_1972 hl (by decide) rfl (fun ls hl => ?_)
  refine lv_aload_n hx hb dL_law_1974 rfl (lv_at hl 3 rfl) ?_
  refine lv_aload_n hx hb dL_law_1975 rfl (lv_at hl 1 rfl) ?_
  refine lv_iload hx hb dL_law_1976 (lv_at hl 6 rfl) ?_
  refine x_iconst hx hb dL_law_1978 ?_
  refine x_iadd hx hb dL_law_1979 ?_
  refine x_sld hx hb hX hbl hbA hS (by omega) (by omega) hv_x dL_law_1980 ?_
  refine x_calliB (ws' := brkU ck ka ad ra u1969.1 ++ (modelC ck mo (encZ S) F1 F2 F3 F4 (upS M 8 0 (1 - bI (isBench S x))) ++ (lngC ck oa u1969.2 ++ (dblC ck od E)))) (M := modelC ck mo (encZ S) F1 F2 F3 F4 M) (M' := modelC ck mo (encZ S) F1 F2 F3 F4 (upS M 8 0 (1 - bI (isBench S x)))) (N := brkU ck ka ad ra u1969.1 ++ (lngC ck oa u1969.2 ++ (dblC ck od E))) (cat_perm [brkU ck ka ad ra u1969.1, modelC ck mo (encZ S) F1 F2 F3 F4 M, lngC ck oa u1969.2, dblC ck od E] [1] [0, 2, 3] 4 rfl (by decide)) (cat_perm [brkU ck ka ad ra u1969.1, modelC ck mo (encZ S) F1 F2 F3 F4 (upS M 8 0 (1 - bI (isBench S x))), lngC ck oa u1969.2, dblC ck od E] [1] [0, 2, 3] 4 rfl (by decide)) hP hD hS hA (fun hPm hDm => va_runV (As := [.int (zI x)]) (rest := []) ⟨hx, hb, hml, hown, htg⟩ (m_isLet l dg ck mo S F1 F2 F3 F4 M x _ hI (by omega)) (cwV 1 htg (gwV wq_1897 wq_1898 wq_1899 wq_15 wq_1900) rfl rfl rfl (by decide +kernel) ⟨Nat.le_of_ble_eq_true rfl, Nat.le_of_ble_eq_true rfl⟩) (wr_preV hK hPm hDm 0 11 rfl rfl) rfl rfl hl.1 rfl (lv_room (Nat.le_of_ble_eq_true rfl)) dL_law_1981 ⟨by show _ ≤ 603072; omega, by show _ ≤ 7207018; omega⟩) (fun r1981 H locs hr1981 hP hD hS => ?_)
  subst hr1981
  have hP : va_P dg vwCl (brkU ck ka ad ra u1969.1 ++ (modelC ck mo (encZ S) F1 F2 F3 F4 (upS M 8 0 (1 - bI (isBench S x))) ++ (lngC ck oa u1969.2 ++ (dblC ck od E)))) H := hP
  have hD : va_D A (brkU ck ka ad ra u1969.1 ++ (modelC ck mo (encZ S) F1 F2 F3 F4 (upS M 8 0 (1 - bI (isBench S x))) ++ (lngC ck oa u1969.2 ++ (dblC ck od E)))) := hD
  have hcase : ∃ t9 : Int, (upS M 8 0 (1 - bI (isBench S x))) 8 0 = t9 ∧ r1969 = zI t9 ∧ (0 ≤ t9 ∧ t9 ≤ 3) ∧ (t9 = 0 → u1969.2 0 = (zI (bI (isBench S x ∧ S 4 x ≠ 0))).toInt64) ∧ LI (775 * i + 3100) (u1969.1.1) (u1969.1.2.2.1) (u1969.1.2.2.2.1) (u1969.1.2.2.2.2.1) (u1969.1.2.2.2.2.2.2.1) (u1969.1.2.2.2.2.2.2.2.1) (u1969.1.2.2.2.2.2.2.2.2.2.2.1) (u1969.1.2.2.2.2.2.2.2.2.2.2.2) F2 F3 (upS M 8 0 (1 - bI (isBench S x))) ∧ S = u1969.1.2.2.2.2.1 := by
    rcases hw with ⟨e1, r1, hp, eu, ev⟩ | ⟨e1, hc, eu⟩
    · obtain ⟨rfl, hok⟩ := hp
      refine ⟨0, upS_s.trans (by (try unfold itZ); (try unfold bI); (repeat' split) <;> omega), e1, by decide, fun _ => ev.trans (congrArg (fun v9 : Int => (zI v9).toInt64) (by (try unfold itZ); (try unfold bI); (repeat' split) <;> omega)), ?_, (by rw [eu] <;> rfl)⟩
      rw [eu]
      exact (hLI.m (mK_0 M _)).mono (by omega) (by omega)
    · refine ⟨1, upS_s.trans (by (try unfold itZ); (try unfold bI); (repeat' split) <;> omega), e1, by decide, fun q => absurd q (by decide), ?_, (by rw [eu] <;> rfl)⟩
      rw [eu]
      exact (hLI.m (mK_0 M _)).mono (by omega) (by omega)
  obtain ⟨t9, ht9, hr9, ht9b, hval, hLI2, hS2⟩ := hcase
  have ht9r : zI ((upS M 8 0 (1 - bI (isBench S x))) 8 0) = r1969 := by rw [ht9, hr9]
  refine lv_istore (lv' := [(7, .int (zI (bI (isBench S x ∧ S 4 x ≠ 0)))), (6, .int r1969), (0, .ref b), (1, .ref (ad 7 0)), (2, .ref (mo 0)), (3, .ref oa), (4, .ref od), (5, .int (zI i))]) hx hb dL_law_1984 hl (by decide) rfl (fun ls hl => ?_)
  refine lv_aload_n hx hb dL_law_1986 rfl (lv_at hl 4 rfl) ?_
  refine vp_callSi (W.runV (As := []) (rest := []) ⟨hx, hb, hml, hown, htg⟩ (m_thrown l dg ck mo S F1 F2 F3 F4 (upS M 8 0 (1 - bI (isBench S x)))) (cwV 0 htg (gwV wq_1627 wq_1628 wq_1629 wq_15 wq_1630) rfl rfl rfl (by decide +kernel) ⟨Nat.le_of_ble_eq_true rfl, Nat.le_of_ble_eq_true rfl⟩) (rd_preV hK (va_P_l (va_P_r hP)) 0 11 rfl rfl) rfl rfl hl.1 rfl (lv_room (Nat.le_of_ble_eq_true rfl)) dL_law_1987 ⟨by show _ ≤ 603072; omega, by show _ ≤ 7207018; omega⟩) (fun r1987 hr1987 => ?_)
  subst hr1987
  refine lv_iload hx hb dL_law_1990 (lv_at hl 1 rfl) ?_
  refine lv_icmp_eq (tgt := 1997) hx hb dL_law_1992 (by decide) (fun _ => ?_) (fun c9 => absurd ht9r c9)
  refine lv_iload hx hb dL_law_1997 (lv_at hl 1 rfl) ?_
  refine W.eq (g2 := F0 m 1999 ls [.int (zI t9)]) (by rw [hr9]) ?_
  refine x_if_ne (tgt := 2021) hx hb dL_law_1999 (by decide) (by omega) (fun c9 => ?_) (fun c9 => ?_)
  · refine lv_goto (tgt := 3323) hx hb dL_law_2021 (by decide) ?_
    refine W.widen (k := cells + 3) (n := slots + 18) (by omega) (by omega) ?_
    have hP : va_P dg vwCl (lawW ck ka ad ra mo oa od u1969.1 F1 F2 F3 F4 (upS M 8 0 (1 - bI (isBench S x))) u1969.2 E) H := va_P_eq (by rw [hS2] <;> rfl) hP
    have hD : va_D A (lawW ck ka ad ra mo oa od u1969.1 F1 F2 F3 F4 (upS M 8 0 (1 - bI (isBench S x))) u1969.2 E) := va_D_eq (by rw [hS2] <;> rfl) hD
    exact kk u1969.1 F1 F2 F3 F4 (upS M 8 0 (1 - bI (isBench S x))) u1969.2 E H locs ls hLI2 hP hD hS (lv_sub hl [2, 3, 4, 5, 6, 7] rfl)
  · have hv9 := hval (by omega)
    refine lv_aload_n hx hb dL_law_2002 rfl (lv_at hl 5 rfl) ?_
    refine x_iconst hx hb dL_law_2003 ?_
    refine va_lald hx hb hK hP 175 5 rfl rfl (zI_in (z := 0) (by decide) (by decide)) dL_law_2004 ?_
    refine lv_iload hx hb dL_law_2005 (lv_at hl 0 rfl) ?_
    have hb01 := bI_r (isBench S x ∧ S 4 x ≠ 0)
    rcases (show (bI (isBench S x ∧ S 4 x ≠ 0)) = 1 ∨ (bI (isBench S x ∧ S 4 x ≠ 0)) = 0 by omega) with h9 | h9
    · rw [h9] at hv9
      refine x_is h9 ?_
      refine x_if_eq (tgt := 2014) hx hb dL_law_2007 (by decide) (by omega) (fun c => absurd c (by decide)) (fun _ => ?_)
      refine lv_lconst (v := (zI 1).toInt64) hx hb dL_law_2010 (by decide) ?_
      refine lv_goto (tgt := 2015) hx hb dL_law_2011 (by decide) ?_
      refine W.lcmp hx hb dL_law_2015 ?_
      refine W.eq (g2 := F0 m 2016 ls [.int (zI 0)]) (congrArg (fun v9 => F0 m 2016 ls [.int v9]) ((congrArg (fun v9 => lg_cmp v9 _) hv9).trans (lg_self _))) ?_
      refine x_if_eq (tgt := 2021) hx hb dL_law_2016 (by decide) (by omega) (fun _ => ?_) (fun c => absurd rfl c)
      refine lv_goto (tgt := 3323) hx hb dL_law_2021 (by decide) ?_
      refine W.widen (k := cells + 3) (n := slots + 18) (by omega) (by omega) ?_
      have hP : va_P dg vwCl (lawW ck ka ad ra mo oa od u1969.1 F1 F2 F3 F4 (upS M 8 0 (1 - bI (isBench S x))) u1969.2 E) H := va_P_eq (by rw [hS2] <;> rfl) hP
      have hD : va_D A (lawW ck ka ad ra mo oa od u1969.1 F1 F2 F3 F4 (upS M 8 0 (1 - bI (isBench S x))) u1969.2 E) := va_D_eq (by rw [hS2] <;> rfl) hD
      exact kk u1969.1 F1 F2 F3 F4 (upS M 8 0 (1 - bI (isBench S x))) u1969.2 E H locs ls hLI2 hP hD hS (lv_sub hl [2, 3, 4, 5, 6, 7] rfl)
    · rw [h9] at hv9
      refine x_is h9 ?_
      refine x_if_eq (tgt := 2014) hx hb dL_law_2007 (by decide) (by omega) (fun _ => ?_) (fun c => absurd c (by decide))
      refine lv_lconst (v := (zI 0).toInt64) hx hb dL_law_2014 (by decide) ?_
      refine W.lcmp hx hb dL_law_2015 ?_
      refine W.eq (g2 := F0 m 2016 ls [.int (zI 0)]) (congrArg (fun v9 => F0 m 2016 ls [.int v9]) ((congrArg (fun v9 => lg_cmp v9 _) hv9).trans (lg_self _))) ?_
      refine x_if_eq (tgt := 2021) hx hb dL_law_2016 (by decide) (by omega) (fun _ => ?_) (fun c => absurd rfl c)
      refine lv_goto (tgt := 3323) hx hb dL_law_2021 (by decide) ?_
      refine W.widen (k := cells + 3) (n := slots + 18) (by omega) (by omega) ?_
      have hP : va_P dg vwCl (lawW ck ka ad ra mo oa od u1969.1 F1 F2 F3 F4 (upS M 8 0 (1 - bI (isBench S x))) u1969.2 E) H := va_P_eq (by rw [hS2] <;> rfl) hP
      have hD : va_D A (lawW ck ka ad ra mo oa od u1969.1 F1 F2 F3 F4 (upS M 8 0 (1 - bI (isBench S x))) u1969.2 E) := va_D_eq (by rw [hS2] <;> rfl) hD
      exact kk u1969.1 F1 F2 F3 F4 (upS M 8 0 (1 - bI (isBench S x))) u1969.2 E H locs ls hLI2 hP hD hS (lv_sub hl [2, 3, 4, 5, 6, 7] rfl)

set_option maxHeartbeats 4000000 in
set_option maxRecDepth 100000 in
/-- the law: a call of tenantOf -/
theorem lc_31 {p : Program} {l : Launch} {e : Env} {s : State} {m : MethodId} {below : List Frame} {meth : Method} {c : Code} {dg : va_G} {ck : Nat → ClassId} {ka : Nat → Nat} {b L : Nat} {xs : Nat → Int32} {A : Nat → Prop} {ad ra : Nat → Nat → Nat} {mo : Nat → Nat} {oa od : Nat} {Qf : State → Prop} {i : Int} {cells slots : Nat} (C0 : LX p l s m c dg ck ka b L xs A) (hi : 0 ≤ i ∧ i + 4 ≤ L) (hcell : cells + 3 ≤ 603072) (hslot : slots + 18 ≤ 7207018) (kk : LKK p l e s m below meth c dg ck ka ad ra mo oa od b A Qf i cells slots) {Z O U X : Nat → Int} {S T P I : St} {V N Y : Int → Int} {Q : Nat → St} {F1 F2 F3 F4 : Int → Int} {M : St} {D : Nat → Int64} {E : Nat → UInt64} {H : Heap} {locs : List Loc} {ls : Array Slot} (hLI : LI (775 * i) Z U X S P I Y Q F2 F3 M) (hP : va_P dg vwCl (brkW ck ka ad ra Z O U X S T P I V N Y Q ++ (modelC ck mo (encZ S) F1 F2 F3 F4 M ++ (lngC ck oa D ++ (dblC ck od E)))) H) (hD : va_D A (brkW ck ka ad ra Z O U X S T P I V N Y Q ++ (modelC ck mo (encZ S) F1 F2 F3 F4 M ++ (lngC ck oa D ++ (dblC ck od E))))) (hS : va_S A s.heap H locs) (hl : lv_has ls 9 [(0, .ref b), (1, .ref (ad 7 0)), (2, .ref (mo 0)), (3, .ref oa), (4, .ref od), (5, .int (zI i))]) : W p l e room_1 s m #[Value.ref b] below meth c H locs cells slots Qf (F0 m 2024 ls []) := by
  obtain ⟨hx, hb, hml, hown, htg, hX, hbl, hbA, hK, hC, hA, hst, hL⟩ := id C0
  obtain ⟨hV, hlh, hls, hlt, hlo, hlf⟩ := id hLI
  obtain ⟨hn, hz, hk1, hq10, hhist⟩ := id hlh
  obtain ⟨hk2, hz0, hp10, hsn⟩ := id hls
  obtain ⟨hk3, hln, hk5, htx, hkv⟩ := id hlt
  obtain ⟨hk4, hu0, hy7, hY⟩ := id hlo
  obtain ⟨⟨hk5a, hz4⟩, ⟨hk6, hz1⟩, hk7, hk8⟩ := id hlf
  have hI := hV.bd
  have hs10 : ∀ i, 0 ≤ S 10 i ∧ S 10 i ≤ 1 := hI.2.2.2.2.2.2.2.2.2.2.2.2.2.1
  obtain ⟨x, hv_x⟩ : ∃ v9 : Int, (xs (i + 1).toNat).toInt = v9 := ⟨_, rfl⟩
  have rgx_x := xi_r (xs (i + 1).toNat)
  rw [hv_x] at rgx_x
  obtain ⟨y, hv_y⟩ : ∃ v9 : Int, (xs (i + 2).toNat).toInt = v9 := ⟨_, rfl⟩
  have rgx_y := xi_r (xs (i + 2).toNat)
  rw [hv_y] at rgx_y
  obtain ⟨z, hv_z⟩ : ∃ v9 : Int, (xs (i + 3).toNat).toInt = v9 := ⟨_, rfl⟩
  have rgx_z := xi_r (xs (i + 3).toNat)
  rw [hv_z] at rgx_z
  refine lv_aload_n hx hb dL_law_2024 rfl (lv_at hl 1 rfl) ?_
  refine lv_aload_n hx hb dL_law_2025 rfl (lv_at hl 0 rfl) ?_
  refine lv_iload hx hb dL_law_2026 (lv_at hl 5 rfl) ?_
  refine x_iconst hx hb dL_law_2028 ?_
  refine x_iadd hx hb dL_law_2029 ?_
  refine x_sld hx hb hX hbl hbA hS (by omega) (by omega) hv_x dL_law_2030 ?_
  refine lv_aload_n hx hb dL_law_2031 rfl (lv_at hl 3 rfl) ?_
  refine x_calliUB (wf := fun u2032 : BU × (Nat → Int64) => brkU ck ka ad ra u2032.1 ++ (modelC ck mo (encZ S) F1 F2 F3 F4 M ++ (lngC ck oa u2032.2 ++ (dblC ck od E)))) (M := brkW ck ka ad ra Z O U X S T P I V N Y Q ++ (lngC ck oa D)) (Mf := fun u2032 => brkU ck ka ad ra u2032.1 ++ (lngC ck oa u2032.2)) (N := modelC ck mo (encZ S) F1 F2 F3 F4 M ++ (dblC ck od E)) (cat_perm [brkW ck ka ad ra Z O U X S T P I V N Y Q, modelC ck mo (encZ S) F1 F2 F3 F4 M, lngC ck oa D, dblC ck od E] [0, 2] [1, 3] 4 rfl (by decide)) (fun u2032 => cat_perm [brkU ck ka ad ra u2032.1, modelC ck mo (encZ S) F1 F2 F3 F4 M, lngC ck oa u2032.2, dblC ck od E] [0, 2] [1, 3] 4 rfl (by decide)) hP hD hS hA (fun hPm hDm => vx_runSW (As := [.ref (ad 7 0), .int (zI x), .ref oa]) (rest := []) ⟨hx, hb, hml, hown, htg⟩ (w_tenantOf l dg ck ka ad ra Z O U X S T P I V N Y Q oa D x _ hI (by omega) hst) (vx_cwSW 3 htg (gwSW wq_971 wq_972 wq_0 wqL_tenantOf) rfl rfl rfl (by decide +kernel) ⟨Nat.le_of_ble_eq_true rfl, Nat.le_of_ble_eq_true rfl⟩) (wrK_preS hK hPm hDm hC hS hA) rfl rfl hl.1 rfl (lv_room (Nat.le_of_ble_eq_true rfl)) dL_law_2032 ⟨by show cells + 2 ≤ 603072; omega, by show slots + 12 ≤ 7207018; omega⟩) (fun r2032 u2032 H locs hw hP hD hS => ?_)
  have hP : va_P dg vwCl (brkU ck ka ad ra u2032.1 ++ (modelC ck mo (encZ S) F1 F2 F3 F4 M ++ (lngC ck oa u2032.2 ++ (dblC ck od E)))) H := hP
  have hD : va_D A (brkU ck ka ad ra u2032.1 ++ (modelC ck mo (encZ S) F1 F2 F3 F4 M ++ (lngC ck oa u2032.2 ++ (dblC ck od E)))) := hD
  refine lv_istore (lv' := [(6, .int r2032), (0, .ref b), (1, .ref (ad 7 0)), (2, .ref (mo 0)), (3, .ref oa), (4, .ref od), (5, .int (zI i))]) hx hb dL_law_2035 hl (by decide) rfl (fun ls hl => ?_)
  refine lv_aload_n hx hb dL_law_2037 rfl (lv_at hl 3 rfl) ?_
  refine lv_aload_n hx hb dL_law_2038 rfl (lv_at hl 1 rfl) ?_
  refine lv_iload hx hb dL_law_2039 (lv_at hl 6 rfl) ?_
  refine x_iconst hx hb dL_law_2041 ?_
  refine x_iadd hx hb dL_law_2042 ?_
  refine x_sld hx hb hX hbl hbA hS (by omega) (by omega) hv_x dL_law_2043 ?_
  refine x_calliB (ws' := brkU ck ka ad ra u2032.1 ++ (modelC ck mo (encZ S) F1 F2 F3 F4 (upS M 8 0 (if ¬ isBench S x then 1 else if S 4 x = 0 then 2 else 0)) ++ (lngC ck oa u2032.2 ++ (dblC ck od E)))) (M := modelC ck mo (encZ S) F1 F2 F3 F4 M) (M' := modelC ck mo (encZ S) F1 F2 F3 F4 (upS M 8 0 (if ¬ isBench S x then 1 else if S 4 x = 0 then 2 else 0))) (N := brkU ck ka ad ra u2032.1 ++ (lngC ck oa u2032.2 ++ (dblC ck od E))) (cat_perm [brkU ck ka ad ra u2032.1, modelC ck mo (encZ S) F1 F2 F3 F4 M, lngC ck oa u2032.2, dblC ck od E] [1] [0, 2, 3] 4 rfl (by decide)) (cat_perm [brkU ck ka ad ra u2032.1, modelC ck mo (encZ S) F1 F2 F3 F4 (upS M 8 0 (if ¬ isBench S x then 1 else if S 4 x = 0 then 2 else 0)), lngC ck oa u2032.2, dblC ck od E] [1] [0, 2, 3] 4 rfl (by decide)) hP hD hS hA (fun hPm hDm => va_runV (As := [.int (zI x)]) (rest := []) ⟨hx, hb, hml, hown, htg⟩ (m_tenantOf l dg ck mo S F1 F2 F3 F4 M x _ hI (by omega)) (cwV 1 htg (gwV wq_1901 wq_1902 wq_1903 wq_15 wq_1904) rfl rfl rfl (by decide +kernel) ⟨Nat.le_of_ble_eq_true rfl, Nat.le_of_ble_eq_true rfl⟩) (wr_preV hK hPm hDm 0 11 rfl rfl) rfl rfl hl.1 rfl (lv_room (Nat.le_of_ble_eq_true rfl)) dL_law_2044 ⟨by show _ ≤ 603072; omega, by show _ ≤ 7207018; omega⟩) (fun r2044 H locs hr2044 hP hD hS => ?_)
  subst hr2044
  have hP : va_P dg vwCl (brkU ck ka ad ra u2032.1 ++ (modelC ck mo (encZ S) F1 F2 F3 F4 (upS M 8 0 (if ¬ isBench S x then 1 else if S 4 x = 0 then 2 else 0)) ++ (lngC ck oa u2032.2 ++ (dblC ck od E)))) H := hP
  have hD : va_D A (brkU ck ka ad ra u2032.1 ++ (modelC ck mo (encZ S) F1 F2 F3 F4 (upS M 8 0 (if ¬ isBench S x then 1 else if S 4 x = 0 then 2 else 0)) ++ (lngC ck oa u2032.2 ++ (dblC ck od E)))) := hD
  have hcase : ∃ t9 : Int, (upS M 8 0 (if ¬ isBench S x then 1 else if S 4 x = 0 then 2 else 0)) 8 0 = t9 ∧ r2032 = zI t9 ∧ (0 ≤ t9 ∧ t9 ≤ 3) ∧ (t9 = 0 → u2032.2 0 = (zI (itZ ((isBench S x ∧ S 4 x ≠ 0)) (S 4 x - 1))).toInt64) ∧ LI (775 * i + 3100) (u2032.1.1) (u2032.1.2.2.1) (u2032.1.2.2.2.1) (u2032.1.2.2.2.2.1) (u2032.1.2.2.2.2.2.2.1) (u2032.1.2.2.2.2.2.2.2.1) (u2032.1.2.2.2.2.2.2.2.2.2.2.1) (u2032.1.2.2.2.2.2.2.2.2.2.2.2) F2 F3 (upS M 8 0 (if ¬ isBench S x then 1 else if S 4 x = 0 then 2 else 0)) ∧ S = u2032.1.2.2.2.2.1 := by
    rcases hw with ⟨e1, r1, hp, eu, ev⟩ | ⟨e1, hc, eu⟩ | ⟨e1, hc, eu⟩
    · obtain ⟨rfl, hok⟩ := hp
      refine ⟨0, upS_s.trans (by (try unfold itZ); (try unfold bI); (repeat' split) <;> omega), e1, by decide, fun _ => ev.trans (congrArg (fun v9 : Int => (zI v9).toInt64) (by (try unfold itZ); (try unfold bI); (repeat' split) <;> omega)), ?_, (by rw [eu] <;> rfl)⟩
      rw [eu]
      exact (hLI.m (mK_0 M _)).mono (by omega) (by omega)
    · refine ⟨1, upS_s.trans (by (try unfold itZ); (try unfold bI); (repeat' split) <;> omega), e1, by decide, fun q => absurd q (by decide), ?_, (by rw [eu] <;> rfl)⟩
      rw [eu]
      exact (hLI.m (mK_0 M _)).mono (by omega) (by omega)
    · refine ⟨2, upS_s.trans (by (try unfold itZ); (try unfold bI); (repeat' split) <;> omega), e1, by decide, fun q => absurd q (by decide), ?_, (by rw [eu] <;> rfl)⟩
      rw [eu]
      exact (hLI.m (mK_0 M _)).mono (by omega) (by omega)
  obtain ⟨t9, ht9, hr9, ht9b, hval, hLI2, hS2⟩ := hcase
  have ht9r : zI ((upS M 8 0 (if ¬ isBench S x then 1 else if S 4 x = 0 then 2 else 0)) 8 0) = r2032 := by rw [ht9, hr9]
  refine lv_istore (lv' := [(7, .int (zI (itZ ((isBench S x ∧ S 4 x ≠ 0)) (S 4 x - 1)))), (6, .int r2032), (0, .ref b), (1, .ref (ad 7 0)), (2, .ref (mo 0)), (3, .ref oa), (4, .ref od), (5, .int (zI i))]) hx hb dL_law_2047 hl (by decide) rfl (fun ls hl => ?_)
  refine lv_aload_n hx hb dL_law_2049 rfl (lv_at hl 4 rfl) ?_
  refine vp_callSi (W.runV (As := []) (rest := []) ⟨hx, hb, hml, hown, htg⟩ (m_thrown l dg ck mo S F1 F2 F3 F4 (upS M 8 0 (if ¬ isBench S x then 1 else if S 4 x = 0 then 2 else 0))) (cwV 0 htg (gwV wq_1627 wq_1628 wq_1629 wq_15 wq_1630) rfl rfl rfl (by decide +kernel) ⟨Nat.le_of_ble_eq_true rfl, Nat.le_of_ble_eq_true rfl⟩) (rd_preV hK (va_P_l (va_P_r hP)) 0 11 rfl rfl) rfl rfl hl.1 rfl (lv_room (Nat.le_of_ble_eq_true rfl)) dL_law_2050 ⟨by show _ ≤ 603072; omega, by show _ ≤ 7207018; omega⟩) (fun r2050 hr2050 => ?_)
  subst hr2050
  refine lv_iload hx hb dL_law_2053 (lv_at hl 1 rfl) ?_
  refine lv_icmp_eq (tgt := 2060) hx hb dL_law_2055 (by decide) (fun _ => ?_) (fun c9 => absurd ht9r c9)
  refine lv_iload hx hb dL_law_2060 (lv_at hl 1 rfl) ?_
  refine W.eq (g2 := F0 m 2062 ls [.int (zI t9)]) (by rw [hr9]) ?_
  refine x_if_ne (tgt := 2077) hx hb dL_law_2062 (by decide) (by omega) (fun c9 => ?_) (fun c9 => ?_)
  · refine lv_goto (tgt := 3323) hx hb dL_law_2077 (by decide) ?_
    refine W.widen (k := cells + 3) (n := slots + 18) (by omega) (by omega) ?_
    have hP : va_P dg vwCl (lawW ck ka ad ra mo oa od u2032.1 F1 F2 F3 F4 (upS M 8 0 (if ¬ isBench S x then 1 else if S 4 x = 0 then 2 else 0)) u2032.2 E) H := va_P_eq (by rw [hS2] <;> rfl) hP
    have hD : va_D A (lawW ck ka ad ra mo oa od u2032.1 F1 F2 F3 F4 (upS M 8 0 (if ¬ isBench S x then 1 else if S 4 x = 0 then 2 else 0)) u2032.2 E) := va_D_eq (by rw [hS2] <;> rfl) hD
    exact kk u2032.1 F1 F2 F3 F4 (upS M 8 0 (if ¬ isBench S x then 1 else if S 4 x = 0 then 2 else 0)) u2032.2 E H locs ls hLI2 hP hD hS (lv_sub hl [2, 3, 4, 5, 6, 7] rfl)
  · have hv9 := hval (by omega)
    refine lv_aload_n hx hb dL_law_2065 rfl (lv_at hl 5 rfl) ?_
    refine x_iconst hx hb dL_law_2066 ?_
    refine va_lald hx hb hK hP 175 5 rfl rfl (zI_in (z := 0) (by decide) (by decide)) dL_law_2067 ?_
    refine lv_iload hx hb dL_law_2068 (lv_at hl 0 rfl) ?_
    refine lv_i2l hx hb dL_law_2070 rfl ?_
    refine W.lcmp hx hb dL_law_2071 ?_
    refine W.eq (g2 := F0 m 2072 ls [.int (zI 0)]) (congrArg (fun v9 => F0 m 2072 ls [.int v9]) ((congrArg (fun v9 => lg_cmp v9 _) hv9).trans (lg_self _))) ?_
    refine x_if_eq (tgt := 2077) hx hb dL_law_2072 (by decide) (by omega) (fun _ => ?_) (fun c => absurd rfl c)
    refine lv_goto (tgt := 3323) hx hb dL_law_2077 (by decide) ?_
    refine W.widen (k := cells + 3) (n := slots + 18) (by omega) (by omega) ?_
    have hP : va_P dg vwCl (lawW ck ka ad ra mo oa od u2032.1 F1 F2 F3 F4 (upS M 8 0 (if ¬ isBench S x then 1 else if S 4 x = 0 then 2 else 0)) u2032.2 E) H := va_P_eq (by rw [hS2] <;> rfl) hP
    have hD : va_D A (lawW ck ka ad ra mo oa od u2032.1 F1 F2 F3 F4 (upS M 8 0 (if ¬ isBench S x then 1 else if S 4 x = 0 then 2 else 0)) u2032.2 E) := va_D_eq (by rw [hS2] <;> rfl) hD
    exact kk u2032.1 F1 F2 F3 F4 (upS M 8 0 (if ¬ isBench S x then 1 else if S 4 x = 0 then 2 else 0)) u2032.2 E H locs ls hLI2 hP hD hS (lv_sub hl [2, 3, 4, 5, 6, 7] rfl)

set_option maxHeartbeats 4000000 in
set_option maxRecDepth 100000 in
/-- the law: a call of depositOf -/
theorem lc_32 {p : Program} {l : Launch} {e : Env} {s : State} {m : MethodId} {below : List Frame} {meth : Method} {c : Code} {dg : va_G} {ck : Nat → ClassId} {ka : Nat → Nat} {b L : Nat} {xs : Nat → Int32} {A : Nat → Prop} {ad ra : Nat → Nat → Nat} {mo : Nat → Nat} {oa od : Nat} {Qf : State → Prop} {i : Int} {cells slots : Nat} (C0 : LX p l s m c dg ck ka b L xs A) (hi : 0 ≤ i ∧ i + 4 ≤ L) (hcell : cells + 3 ≤ 603072) (hslot : slots + 18 ≤ 7207018) (kk : LKK p l e s m below meth c dg ck ka ad ra mo oa od b A Qf i cells slots) {Z O U X : Nat → Int} {S T P I : St} {V N Y : Int → Int} {Q : Nat → St} {F1 F2 F3 F4 : Int → Int} {M : St} {D : Nat → Int64} {E : Nat → UInt64} {H : Heap} {locs : List Loc} {ls : Array Slot} (hLI : LI (775 * i) Z U X S P I Y Q F2 F3 M) (hP : va_P dg vwCl (brkW ck ka ad ra Z O U X S T P I V N Y Q ++ (modelC ck mo (encZ S) F1 F2 F3 F4 M ++ (lngC ck oa D ++ (dblC ck od E)))) H) (hD : va_D A (brkW ck ka ad ra Z O U X S T P I V N Y Q ++ (modelC ck mo (encZ S) F1 F2 F3 F4 M ++ (lngC ck oa D ++ (dblC ck od E))))) (hS : va_S A s.heap H locs) (hl : lv_has ls 9 [(0, .ref b), (1, .ref (ad 7 0)), (2, .ref (mo 0)), (3, .ref oa), (4, .ref od), (5, .int (zI i))]) : W p l e room_1 s m #[Value.ref b] below meth c H locs cells slots Qf (F0 m 2080 ls []) := by
  obtain ⟨hx, hb, hml, hown, htg, hX, hbl, hbA, hK, hC, hA, hst, hL⟩ := id C0
  obtain ⟨hV, hlh, hls, hlt, hlo, hlf⟩ := id hLI
  obtain ⟨hn, hz, hk1, hq10, hhist⟩ := id hlh
  obtain ⟨hk2, hz0, hp10, hsn⟩ := id hls
  obtain ⟨hk3, hln, hk5, htx, hkv⟩ := id hlt
  obtain ⟨hk4, hu0, hy7, hY⟩ := id hlo
  obtain ⟨⟨hk5a, hz4⟩, ⟨hk6, hz1⟩, hk7, hk8⟩ := id hlf
  have hI := hV.bd
  have hs10 : ∀ i, 0 ≤ S 10 i ∧ S 10 i ≤ 1 := hI.2.2.2.2.2.2.2.2.2.2.2.2.2.1
  obtain ⟨x, hv_x⟩ : ∃ v9 : Int, (xs (i + 1).toNat).toInt = v9 := ⟨_, rfl⟩
  have rgx_x := xi_r (xs (i + 1).toNat)
  rw [hv_x] at rgx_x
  obtain ⟨y, hv_y⟩ : ∃ v9 : Int, (xs (i + 2).toNat).toInt = v9 := ⟨_, rfl⟩
  have rgx_y := xi_r (xs (i + 2).toNat)
  rw [hv_y] at rgx_y
  obtain ⟨z, hv_z⟩ : ∃ v9 : Int, (xs (i + 3).toNat).toInt = v9 := ⟨_, rfl⟩
  have rgx_z := xi_r (xs (i + 3).toNat)
  rw [hv_z] at rgx_z
  refine lv_aload_n hx hb dL_law_2080 rfl (lv_at hl 1 rfl) ?_
  refine lv_aload_n hx hb dL_law_2081 rfl (lv_at hl 0 rfl) ?_
  refine lv_iload hx hb dL_law_2082 (lv_at hl 5 rfl) ?_
  refine x_iconst hx hb dL_law_2084 ?_
  refine x_iadd hx hb dL_law_2085 ?_
  refine x_sld hx hb hX hbl hbA hS (by omega) (by omega) hv_x dL_law_2086 ?_
  refine lv_aload_n hx hb dL_law_2087 rfl (lv_at hl 3 rfl) ?_
  refine x_calliUB (wf := fun u2088 : BU × (Nat → Int64) => brkU ck ka ad ra u2088.1 ++ (modelC ck mo (encZ S) F1 F2 F3 F4 M ++ (lngC ck oa u2088.2 ++ (dblC ck od E)))) (M := brkW ck ka ad ra Z O U X S T P I V N Y Q ++ (lngC ck oa D)) (Mf := fun u2088 => brkU ck ka ad ra u2088.1 ++ (lngC ck oa u2088.2)) (N := modelC ck mo (encZ S) F1 F2 F3 F4 M ++ (dblC ck od E)) (cat_perm [brkW ck ka ad ra Z O U X S T P I V N Y Q, modelC ck mo (encZ S) F1 F2 F3 F4 M, lngC ck oa D, dblC ck od E] [0, 2] [1, 3] 4 rfl (by decide)) (fun u2088 => cat_perm [brkU ck ka ad ra u2088.1, modelC ck mo (encZ S) F1 F2 F3 F4 M, lngC ck oa u2088.2, dblC ck od E] [0, 2] [1, 3] 4 rfl (by decide)) hP hD hS hA (fun hPm hDm => vx_runSW (As := [.ref (ad 7 0), .int (zI x), .ref oa]) (rest := []) ⟨hx, hb, hml, hown, htg⟩ (w_depositOf l dg ck ka ad ra Z O U X S T P I V N Y Q oa D x _ hI (by omega) hst) (vx_cwSW 3 htg (gwSW wq_982 wq_983 wq_0 wqL_depositOf) rfl rfl rfl (by decide +kernel) ⟨Nat.le_of_ble_eq_true rfl, Nat.le_of_ble_eq_true rfl⟩) (wrK_preS hK hPm hDm hC hS hA) rfl rfl hl.1 rfl (lv_room (Nat.le_of_ble_eq_true rfl)) dL_law_2088 ⟨by show cells + 2 ≤ 603072; omega, by show slots + 12 ≤ 7207018; omega⟩) (fun r2088 u2088 H locs hw hP hD hS => ?_)
  have hP : va_P dg vwCl (brkU ck ka ad ra u2088.1 ++ (modelC ck mo (encZ S) F1 F2 F3 F4 M ++ (lngC ck oa u2088.2 ++ (dblC ck od E)))) H := hP
  have hD : va_D A (brkU ck ka ad ra u2088.1 ++ (modelC ck mo (encZ S) F1 F2 F3 F4 M ++ (lngC ck oa u2088.2 ++ (dblC ck od E)))) := hD
  refine lv_istore (lv' := [(6, .int r2088), (0, .ref b), (1, .ref (ad 7 0)), (2, .ref (mo 0)), (3, .ref oa), (4, .ref od), (5, .int (zI i))]) hx hb dL_law_2091 hl (by decide) rfl (fun ls hl => ?_)
  refine lv_aload_n hx hb dL_law_2093 rfl (lv_at hl 3 rfl) ?_
  refine lv_aload_n hx hb dL_law_2094 rfl (lv_at hl 1 rfl) ?_
  refine lv_iload hx hb dL_law_2095 (lv_at hl 6 rfl) ?_
  refine x_iconst hx hb dL_law_2097 ?_
  refine x_iadd hx hb dL_law_2098 ?_
  refine x_sld hx hb hX hbl hbA hS (by omega) (by omega) hv_x dL_law_2099 ?_
  refine x_calliB (ws' := brkU ck ka ad ra u2088.1 ++ (modelC ck mo (encZ S) F1 F2 F3 F4 (upS M 8 0 (if ¬ isBench S x then 1 else if S 4 x = 0 then 2 else 0)) ++ (lngC ck oa u2088.2 ++ (dblC ck od E)))) (M := modelC ck mo (encZ S) F1 F2 F3 F4 M) (M' := modelC ck mo (encZ S) F1 F2 F3 F4 (upS M 8 0 (if ¬ isBench S x then 1 else if S 4 x = 0 then 2 else 0))) (N := brkU ck ka ad ra u2088.1 ++ (lngC ck oa u2088.2 ++ (dblC ck od E))) (cat_perm [brkU ck ka ad ra u2088.1, modelC ck mo (encZ S) F1 F2 F3 F4 M, lngC ck oa u2088.2, dblC ck od E] [1] [0, 2, 3] 4 rfl (by decide)) (cat_perm [brkU ck ka ad ra u2088.1, modelC ck mo (encZ S) F1 F2 F3 F4 (upS M 8 0 (if ¬ isBench S x then 1 else if S 4 x = 0 then 2 else 0)), lngC ck oa u2088.2, dblC ck od E] [1] [0, 2, 3] 4 rfl (by decide)) hP hD hS hA (fun hPm hDm => va_runV (As := [.int (zI x)]) (rest := []) ⟨hx, hb, hml, hown, htg⟩ (m_depositOf l dg ck mo S F1 F2 F3 F4 M x _ hI (by omega)) (cwV 1 htg (gwV wq_1909 wq_1910 wq_1911 wq_15 wq_1912) rfl rfl rfl (by decide +kernel) ⟨Nat.le_of_ble_eq_true rfl, Nat.le_of_ble_eq_true rfl⟩) (wr_preV hK hPm hDm 0 11 rfl rfl) rfl rfl hl.1 rfl (lv_room (Nat.le_of_ble_eq_true rfl)) dL_law_2100 ⟨by show _ ≤ 603072; omega, by show _ ≤ 7207018; omega⟩) (fun r2100 H locs hr2100 hP hD hS => ?_)
  subst hr2100
  have hP : va_P dg vwCl (brkU ck ka ad ra u2088.1 ++ (modelC ck mo (encZ S) F1 F2 F3 F4 (upS M 8 0 (if ¬ isBench S x then 1 else if S 4 x = 0 then 2 else 0)) ++ (lngC ck oa u2088.2 ++ (dblC ck od E)))) H := hP
  have hD : va_D A (brkU ck ka ad ra u2088.1 ++ (modelC ck mo (encZ S) F1 F2 F3 F4 (upS M 8 0 (if ¬ isBench S x then 1 else if S 4 x = 0 then 2 else 0)) ++ (lngC ck oa u2088.2 ++ (dblC ck od E)))) := hD
  have hcase : ∃ t9 : Int, (upS M 8 0 (if ¬ isBench S x then 1 else if S 4 x = 0 then 2 else 0)) 8 0 = t9 ∧ r2088 = zI t9 ∧ (0 ≤ t9 ∧ t9 ≤ 3) ∧ (t9 = 0 → u2088.2 0 = (zI (itZ ((isBench S x ∧ S 4 x ≠ 0)) (S 5 x))).toInt64) ∧ LI (775 * i + 3100) (u2088.1.1) (u2088.1.2.2.1) (u2088.1.2.2.2.1) (u2088.1.2.2.2.2.1) (u2088.1.2.2.2.2.2.2.1) (u2088.1.2.2.2.2.2.2.2.1) (u2088.1.2.2.2.2.2.2.2.2.2.2.1) (u2088.1.2.2.2.2.2.2.2.2.2.2.2) F2 F3 (upS M 8 0 (if ¬ isBench S x then 1 else if S 4 x = 0 then 2 else 0)) ∧ S = u2088.1.2.2.2.2.1 := by
    rcases hw with ⟨e1, r1, hp, eu, ev⟩ | ⟨e1, hc, eu⟩ | ⟨e1, hc, eu⟩
    · obtain ⟨rfl, hok⟩ := hp
      refine ⟨0, upS_s.trans (by (try unfold itZ); (try unfold bI); (repeat' split) <;> omega), e1, by decide, fun _ => ev.trans (congrArg (fun v9 : Int => (zI v9).toInt64) (by (try unfold itZ); (try unfold bI); (repeat' split) <;> omega)), ?_, (by rw [eu] <;> rfl)⟩
      rw [eu]
      exact (hLI.m (mK_0 M _)).mono (by omega) (by omega)
    · refine ⟨1, upS_s.trans (by (try unfold itZ); (try unfold bI); (repeat' split) <;> omega), e1, by decide, fun q => absurd q (by decide), ?_, (by rw [eu] <;> rfl)⟩
      rw [eu]
      exact (hLI.m (mK_0 M _)).mono (by omega) (by omega)
    · refine ⟨2, upS_s.trans (by (try unfold itZ); (try unfold bI); (repeat' split) <;> omega), e1, by decide, fun q => absurd q (by decide), ?_, (by rw [eu] <;> rfl)⟩
      rw [eu]
      exact (hLI.m (mK_0 M _)).mono (by omega) (by omega)
  obtain ⟨t9, ht9, hr9, ht9b, hval, hLI2, hS2⟩ := hcase
  have ht9r : zI ((upS M 8 0 (if ¬ isBench S x then 1 else if S 4 x = 0 then 2 else 0)) 8 0) = r2088 := by rw [ht9, hr9]
  refine lv_istore (lv' := [(7, .int (zI (itZ ((isBench S x ∧ S 4 x ≠ 0)) (S 5 x)))), (6, .int r2088), (0, .ref b), (1, .ref (ad 7 0)), (2, .ref (mo 0)), (3, .ref oa), (4, .ref od), (5, .int (zI i))]) hx hb dL_law_2103 hl (by decide) rfl (fun ls hl => ?_)
  refine lv_aload_n hx hb dL_law_2105 rfl (lv_at hl 4 rfl) ?_
  refine vp_callSi (W.runV (As := []) (rest := []) ⟨hx, hb, hml, hown, htg⟩ (m_thrown l dg ck mo S F1 F2 F3 F4 (upS M 8 0 (if ¬ isBench S x then 1 else if S 4 x = 0 then 2 else 0))) (cwV 0 htg (gwV wq_1627 wq_1628 wq_1629 wq_15 wq_1630) rfl rfl rfl (by decide +kernel) ⟨Nat.le_of_ble_eq_true rfl, Nat.le_of_ble_eq_true rfl⟩) (rd_preV hK (va_P_l (va_P_r hP)) 0 11 rfl rfl) rfl rfl hl.1 rfl (lv_room (Nat.le_of_ble_eq_true rfl)) dL_law_2106 ⟨by show _ ≤ 603072; omega, by show _ ≤ 7207018; omega⟩) (fun r2106 hr2106 => ?_)
  subst hr2106
  refine lv_iload hx hb dL_law_2109 (lv_at hl 1 rfl) ?_
  refine lv_icmp_eq (tgt := 2116) hx hb dL_law_2111 (by decide) (fun _ => ?_) (fun c9 => absurd ht9r c9)
  refine lv_iload hx hb dL_law_2116 (lv_at hl 1 rfl) ?_
  refine W.eq (g2 := F0 m 2118 ls [.int (zI t9)]) (by rw [hr9]) ?_
  refine x_if_ne (tgt := 2133) hx hb dL_law_2118 (by decide) (by omega) (fun c9 => ?_) (fun c9 => ?_)
  · refine lv_goto (tgt := 3323) hx hb dL_law_2133 (by decide) ?_
    refine W.widen (k := cells + 3) (n := slots + 18) (by omega) (by omega) ?_
    have hP : va_P dg vwCl (lawW ck ka ad ra mo oa od u2088.1 F1 F2 F3 F4 (upS M 8 0 (if ¬ isBench S x then 1 else if S 4 x = 0 then 2 else 0)) u2088.2 E) H := va_P_eq (by rw [hS2] <;> rfl) hP
    have hD : va_D A (lawW ck ka ad ra mo oa od u2088.1 F1 F2 F3 F4 (upS M 8 0 (if ¬ isBench S x then 1 else if S 4 x = 0 then 2 else 0)) u2088.2 E) := va_D_eq (by rw [hS2] <;> rfl) hD
    exact kk u2088.1 F1 F2 F3 F4 (upS M 8 0 (if ¬ isBench S x then 1 else if S 4 x = 0 then 2 else 0)) u2088.2 E H locs ls hLI2 hP hD hS (lv_sub hl [2, 3, 4, 5, 6, 7] rfl)
  · have hv9 := hval (by omega)
    refine lv_aload_n hx hb dL_law_2121 rfl (lv_at hl 5 rfl) ?_
    refine x_iconst hx hb dL_law_2122 ?_
    refine va_lald hx hb hK hP 175 5 rfl rfl (zI_in (z := 0) (by decide) (by decide)) dL_law_2123 ?_
    refine lv_iload hx hb dL_law_2124 (lv_at hl 0 rfl) ?_
    refine lv_i2l hx hb dL_law_2126 rfl ?_
    refine W.lcmp hx hb dL_law_2127 ?_
    refine W.eq (g2 := F0 m 2128 ls [.int (zI 0)]) (congrArg (fun v9 => F0 m 2128 ls [.int v9]) ((congrArg (fun v9 => lg_cmp v9 _) hv9).trans (lg_self _))) ?_
    refine x_if_eq (tgt := 2133) hx hb dL_law_2128 (by decide) (by omega) (fun _ => ?_) (fun c => absurd rfl c)
    refine lv_goto (tgt := 3323) hx hb dL_law_2133 (by decide) ?_
    refine W.widen (k := cells + 3) (n := slots + 18) (by omega) (by omega) ?_
    have hP : va_P dg vwCl (lawW ck ka ad ra mo oa od u2088.1 F1 F2 F3 F4 (upS M 8 0 (if ¬ isBench S x then 1 else if S 4 x = 0 then 2 else 0)) u2088.2 E) H := va_P_eq (by rw [hS2] <;> rfl) hP
    have hD : va_D A (lawW ck ka ad ra mo oa od u2088.1 F1 F2 F3 F4 (upS M 8 0 (if ¬ isBench S x then 1 else if S 4 x = 0 then 2 else 0)) u2088.2 E) := va_D_eq (by rw [hS2] <;> rfl) hD
    exact kk u2088.1 F1 F2 F3 F4 (upS M 8 0 (if ¬ isBench S x then 1 else if S 4 x = 0 then 2 else 0)) u2088.2 E H locs ls hLI2 hP hD hS (lv_sub hl [2, 3, 4, 5, 6, 7] rfl)

set_option maxHeartbeats 4000000 in
set_option maxRecDepth 100000 in
/-- the law: a call of monthsLeft -/
theorem lc_33 {p : Program} {l : Launch} {e : Env} {s : State} {m : MethodId} {below : List Frame} {meth : Method} {c : Code} {dg : va_G} {ck : Nat → ClassId} {ka : Nat → Nat} {b L : Nat} {xs : Nat → Int32} {A : Nat → Prop} {ad ra : Nat → Nat → Nat} {mo : Nat → Nat} {oa od : Nat} {Qf : State → Prop} {i : Int} {cells slots : Nat} (C0 : LX p l s m c dg ck ka b L xs A) (hi : 0 ≤ i ∧ i + 4 ≤ L) (hcell : cells + 3 ≤ 603072) (hslot : slots + 18 ≤ 7207018) (kk : LKK p l e s m below meth c dg ck ka ad ra mo oa od b A Qf i cells slots) {Z O U X : Nat → Int} {S T P I : St} {V N Y : Int → Int} {Q : Nat → St} {F1 F2 F3 F4 : Int → Int} {M : St} {D : Nat → Int64} {E : Nat → UInt64} {H : Heap} {locs : List Loc} {ls : Array Slot} (hLI : LI (775 * i) Z U X S P I Y Q F2 F3 M) (hP : va_P dg vwCl (brkW ck ka ad ra Z O U X S T P I V N Y Q ++ (modelC ck mo (encZ S) F1 F2 F3 F4 M ++ (lngC ck oa D ++ (dblC ck od E)))) H) (hD : va_D A (brkW ck ka ad ra Z O U X S T P I V N Y Q ++ (modelC ck mo (encZ S) F1 F2 F3 F4 M ++ (lngC ck oa D ++ (dblC ck od E))))) (hS : va_S A s.heap H locs) (hl : lv_has ls 9 [(0, .ref b), (1, .ref (ad 7 0)), (2, .ref (mo 0)), (3, .ref oa), (4, .ref od), (5, .int (zI i))]) : W p l e room_1 s m #[Value.ref b] below meth c H locs cells slots Qf (F0 m 2136 ls []) := by
  obtain ⟨hx, hb, hml, hown, htg, hX, hbl, hbA, hK, hC, hA, hst, hL⟩ := id C0
  obtain ⟨hV, hlh, hls, hlt, hlo, hlf⟩ := id hLI
  obtain ⟨hn, hz, hk1, hq10, hhist⟩ := id hlh
  obtain ⟨hk2, hz0, hp10, hsn⟩ := id hls
  obtain ⟨hk3, hln, hk5, htx, hkv⟩ := id hlt
  obtain ⟨hk4, hu0, hy7, hY⟩ := id hlo
  obtain ⟨⟨hk5a, hz4⟩, ⟨hk6, hz1⟩, hk7, hk8⟩ := id hlf
  have hI := hV.bd
  have hs10 : ∀ i, 0 ≤ S 10 i ∧ S 10 i ≤ 1 := hI.2.2.2.2.2.2.2.2.2.2.2.2.2.1
  obtain ⟨x, hv_x⟩ : ∃ v9 : Int, (xs (i + 1).toNat).toInt = v9 := ⟨_, rfl⟩
  have rgx_x := xi_r (xs (i + 1).toNat)
  rw [hv_x] at rgx_x
  obtain ⟨y, hv_y⟩ : ∃ v9 : Int, (xs (i + 2).toNat).toInt = v9 := ⟨_, rfl⟩
  have rgx_y := xi_r (xs (i + 2).toNat)
  rw [hv_y] at rgx_y
  obtain ⟨z, hv_z⟩ : ∃ v9 : Int, (xs (i + 3).toNat).toInt = v9 := ⟨_, rfl⟩
  have rgx_z := xi_r (xs (i + 3).toNat)
  rw [hv_z] at rgx_z
  refine lv_aload_n hx hb dL_law_2136 rfl (lv_at hl 1 rfl) ?_
  refine lv_aload_n hx hb dL_law_2137 rfl (lv_at hl 0 rfl) ?_
  refine lv_iload hx hb dL_law_2138 (lv_at hl 5 rfl) ?_
  refine x_iconst hx hb dL_law_2140 ?_
  refine x_iadd hx hb dL_law_2141 ?_
  refine x_sld hx hb hX hbl hbA hS (by omega) (by omega) hv_x dL_law_2142 ?_
  refine lv_aload_n hx hb dL_law_2143 rfl (lv_at hl 3 rfl) ?_
  refine x_calliUB (wf := fun u2144 : BU × (Nat → Int64) => brkU ck ka ad ra u2144.1 ++ (modelC ck mo (encZ S) F1 F2 F3 F4 M ++ (lngC ck oa u2144.2 ++ (dblC ck od E)))) (M := brkW ck ka ad ra Z O U X S T P I V N Y Q ++ (lngC ck oa D)) (Mf := fun u2144 => brkU ck ka ad ra u2144.1 ++ (lngC ck oa u2144.2)) (N := modelC ck mo (encZ S) F1 F2 F3 F4 M ++ (dblC ck od E)) (cat_perm [brkW ck ka ad ra Z O U X S T P I V N Y Q, modelC ck mo (encZ S) F1 F2 F3 F4 M, lngC ck oa D, dblC ck od E] [0, 2] [1, 3] 4 rfl (by decide)) (fun u2144 => cat_perm [brkU ck ka ad ra u2144.1, modelC ck mo (encZ S) F1 F2 F3 F4 M, lngC ck oa u2144.2, dblC ck od E] [0, 2] [1, 3] 4 rfl (by decide)) hP hD hS hA (fun hPm hDm => vx_runSW (As := [.ref (ad 7 0), .int (zI x), .ref oa]) (rest := []) ⟨hx, hb, hml, hown, htg⟩ (w_monthsLeft l dg ck ka ad ra Z O U X S T P I V N Y Q oa D x _ hI (by omega) hst) (vx_cwSW 3 htg (gwSW wq_989 wq_990 wq_0 wqL_monthsLeft) rfl rfl rfl (by decide +kernel) ⟨Nat.le_of_ble_eq_true rfl, Nat.le_of_ble_eq_true rfl⟩) (wrK_preS hK hPm hDm hC hS hA) rfl rfl hl.1 rfl (lv_room (Nat.le_of_ble_eq_true rfl)) dL_law_2144 ⟨by show cells + 2 ≤ 603072; omega, by show slots + 12 ≤ 7207018; omega⟩) (fun r2144 u2144 H locs hw hP hD hS => ?_)
  have hP : va_P dg vwCl (brkU ck ka ad ra u2144.1 ++ (modelC ck mo (encZ S) F1 F2 F3 F4 M ++ (lngC ck oa u2144.2 ++ (dblC ck od E)))) H := hP
  have hD : va_D A (brkU ck ka ad ra u2144.1 ++ (modelC ck mo (encZ S) F1 F2 F3 F4 M ++ (lngC ck oa u2144.2 ++ (dblC ck od E)))) := hD
  refine lv_istore (lv' := [(6, .int r2144), (0, .ref b), (1, .ref (ad 7 0)), (2, .ref (mo 0)), (3, .ref oa), (4, .ref od), (5, .int (zI i))]) hx hb dL_law_2147 hl (by decide) rfl (fun ls hl => ?_)
  refine lv_aload_n hx hb dL_law_2149 rfl (lv_at hl 3 rfl) ?_
  refine lv_aload_n hx hb dL_law_2150 rfl (lv_at hl 1 rfl) ?_
  refine lv_iload hx hb dL_law_2151 (lv_at hl 6 rfl) ?_
  refine x_iconst hx hb dL_law_2153 ?_
  refine x_iadd hx hb dL_law_2154 ?_
  refine x_sld hx hb hX hbl hbA hS (by omega) (by omega) hv_x dL_law_2155 ?_
  refine x_calliB (ws' := brkU ck ka ad ra u2144.1 ++ (modelC ck mo (encZ S) F1 F2 F3 F4 (upS M 8 0 (if ¬ isBench S x then 1 else if S 4 x = 0 then 2 else 0)) ++ (lngC ck oa u2144.2 ++ (dblC ck od E)))) (M := modelC ck mo (encZ S) F1 F2 F3 F4 M) (M' := modelC ck mo (encZ S) F1 F2 F3 F4 (upS M 8 0 (if ¬ isBench S x then 1 else if S 4 x = 0 then 2 else 0))) (N := brkU ck ka ad ra u2144.1 ++ (lngC ck oa u2144.2 ++ (dblC ck od E))) (cat_perm [brkU ck ka ad ra u2144.1, modelC ck mo (encZ S) F1 F2 F3 F4 M, lngC ck oa u2144.2, dblC ck od E] [1] [0, 2, 3] 4 rfl (by decide)) (cat_perm [brkU ck ka ad ra u2144.1, modelC ck mo (encZ S) F1 F2 F3 F4 (upS M 8 0 (if ¬ isBench S x then 1 else if S 4 x = 0 then 2 else 0)), lngC ck oa u2144.2, dblC ck od E] [1] [0, 2, 3] 4 rfl (by decide)) hP hD hS hA (fun hPm hDm => va_runV (As := [.int (zI x)]) (rest := []) ⟨hx, hb, hml, hown, htg⟩ (m_monthsLeft l dg ck mo S F1 F2 F3 F4 M x _ hI (by omega)) (cwV 1 htg (gwV wq_1913 wq_1914 wq_1915 wq_15 wq_1916) rfl rfl rfl (by decide +kernel) ⟨Nat.le_of_ble_eq_true rfl, Nat.le_of_ble_eq_true rfl⟩) (wr_preV hK hPm hDm 0 11 rfl rfl) rfl rfl hl.1 rfl (lv_room (Nat.le_of_ble_eq_true rfl)) dL_law_2156 ⟨by show _ ≤ 603072; omega, by show _ ≤ 7207018; omega⟩) (fun r2156 H locs hr2156 hP hD hS => ?_)
  subst hr2156
  have hP : va_P dg vwCl (brkU ck ka ad ra u2144.1 ++ (modelC ck mo (encZ S) F1 F2 F3 F4 (upS M 8 0 (if ¬ isBench S x then 1 else if S 4 x = 0 then 2 else 0)) ++ (lngC ck oa u2144.2 ++ (dblC ck od E)))) H := hP
  have hD : va_D A (brkU ck ka ad ra u2144.1 ++ (modelC ck mo (encZ S) F1 F2 F3 F4 (upS M 8 0 (if ¬ isBench S x then 1 else if S 4 x = 0 then 2 else 0)) ++ (lngC ck oa u2144.2 ++ (dblC ck od E)))) := hD
  have hcase : ∃ t9 : Int, (upS M 8 0 (if ¬ isBench S x then 1 else if S 4 x = 0 then 2 else 0)) 8 0 = t9 ∧ r2144 = zI t9 ∧ (0 ≤ t9 ∧ t9 ≤ 3) ∧ (t9 = 0 → u2144.2 0 = (zI (itZ ((isBench S x ∧ S 4 x ≠ 0)) (S 6 x))).toInt64) ∧ LI (775 * i + 3100) (u2144.1.1) (u2144.1.2.2.1) (u2144.1.2.2.2.1) (u2144.1.2.2.2.2.1) (u2144.1.2.2.2.2.2.2.1) (u2144.1.2.2.2.2.2.2.2.1) (u2144.1.2.2.2.2.2.2.2.2.2.2.1) (u2144.1.2.2.2.2.2.2.2.2.2.2.2) F2 F3 (upS M 8 0 (if ¬ isBench S x then 1 else if S 4 x = 0 then 2 else 0)) ∧ S = u2144.1.2.2.2.2.1 := by
    rcases hw with ⟨e1, r1, hp, eu, ev⟩ | ⟨e1, hc, eu⟩ | ⟨e1, hc, eu⟩
    · obtain ⟨rfl, hok⟩ := hp
      refine ⟨0, upS_s.trans (by (try unfold itZ); (try unfold bI); (repeat' split) <;> omega), e1, by decide, fun _ => ev.trans (congrArg (fun v9 : Int => (zI v9).toInt64) (by (try unfold itZ); (try unfold bI); (repeat' split) <;> omega)), ?_, (by rw [eu] <;> rfl)⟩
      rw [eu]
      exact (hLI.m (mK_0 M _)).mono (by omega) (by omega)
    · refine ⟨1, upS_s.trans (by (try unfold itZ); (try unfold bI); (repeat' split) <;> omega), e1, by decide, fun q => absurd q (by decide), ?_, (by rw [eu] <;> rfl)⟩
      rw [eu]
      exact (hLI.m (mK_0 M _)).mono (by omega) (by omega)
    · refine ⟨2, upS_s.trans (by (try unfold itZ); (try unfold bI); (repeat' split) <;> omega), e1, by decide, fun q => absurd q (by decide), ?_, (by rw [eu] <;> rfl)⟩
      rw [eu]
      exact (hLI.m (mK_0 M _)).mono (by omega) (by omega)
  obtain ⟨t9, ht9, hr9, ht9b, hval, hLI2, hS2⟩ := hcase
  have ht9r : zI ((upS M 8 0 (if ¬ isBench S x then 1 else if S 4 x = 0 then 2 else 0)) 8 0) = r2144 := by rw [ht9, hr9]
  refine lv_istore (lv' := [(7, .int (zI (itZ ((isBench S x ∧ S 4 x ≠ 0)) (S 6 x)))), (6, .int r2144), (0, .ref b), (1, .ref (ad 7 0)), (2, .ref (mo 0)), (3, .ref oa), (4, .ref od), (5, .int (zI i))]) hx hb dL_law_2159 hl (by decide) rfl (fun ls hl => ?_)
  refine lv_aload_n hx hb dL_law_2161 rfl (lv_at hl 4 rfl) ?_
  refine vp_callSi (W.runV (As := []) (rest := []) ⟨hx, hb, hml, hown, htg⟩ (m_thrown l dg ck mo S F1 F2 F3 F4 (upS M 8 0 (if ¬ isBench S x then 1 else if S 4 x = 0 then 2 else 0))) (cwV 0 htg (gwV wq_1627 wq_1628 wq_1629 wq_15 wq_1630) rfl rfl rfl (by decide +kernel) ⟨Nat.le_of_ble_eq_true rfl, Nat.le_of_ble_eq_true rfl⟩) (rd_preV hK (va_P_l (va_P_r hP)) 0 11 rfl rfl) rfl rfl hl.1 rfl (lv_room (Nat.le_of_ble_eq_true rfl)) dL_law_2162 ⟨by show _ ≤ 603072; omega, by show _ ≤ 7207018; omega⟩) (fun r2162 hr2162 => ?_)
  subst hr2162
  refine lv_iload hx hb dL_law_2165 (lv_at hl 1 rfl) ?_
  refine lv_icmp_eq (tgt := 2172) hx hb dL_law_2167 (by decide) (fun _ => ?_) (fun c9 => absurd ht9r c9)
  refine lv_iload hx hb dL_law_2172 (lv_at hl 1 rfl) ?_
  refine W.eq (g2 := F0 m 2174 ls [.int (zI t9)]) (by rw [hr9]) ?_
  refine x_if_ne (tgt := 2189) hx hb dL_law_2174 (by decide) (by omega) (fun c9 => ?_) (fun c9 => ?_)
  · refine lv_goto (tgt := 3323) hx hb dL_law_2189 (by decide) ?_
    refine W.widen (k := cells + 3) (n := slots + 18) (by omega) (by omega) ?_
    have hP : va_P dg vwCl (lawW ck ka ad ra mo oa od u2144.1 F1 F2 F3 F4 (upS M 8 0 (if ¬ isBench S x then 1 else if S 4 x = 0 then 2 else 0)) u2144.2 E) H := va_P_eq (by rw [hS2] <;> rfl) hP
    have hD : va_D A (lawW ck ka ad ra mo oa od u2144.1 F1 F2 F3 F4 (upS M 8 0 (if ¬ isBench S x then 1 else if S 4 x = 0 then 2 else 0)) u2144.2 E) := va_D_eq (by rw [hS2] <;> rfl) hD
    exact kk u2144.1 F1 F2 F3 F4 (upS M 8 0 (if ¬ isBench S x then 1 else if S 4 x = 0 then 2 else 0)) u2144.2 E H locs ls hLI2 hP hD hS (lv_sub hl [2, 3, 4, 5, 6, 7] rfl)
  · have hv9 := hval (by omega)
    refine lv_aload_n hx hb dL_law_2177 rfl (lv_at hl 5 rfl) ?_
    refine x_iconst hx hb dL_law_2178 ?_
    refine va_lald hx hb hK hP 175 5 rfl rfl (zI_in (z := 0) (by decide) (by decide)) dL_law_2179 ?_
    refine lv_iload hx hb dL_law_2180 (lv_at hl 0 rfl) ?_
    refine lv_i2l hx hb dL_law_2182 rfl ?_
    refine W.lcmp hx hb dL_law_2183 ?_
    refine W.eq (g2 := F0 m 2184 ls [.int (zI 0)]) (congrArg (fun v9 => F0 m 2184 ls [.int v9]) ((congrArg (fun v9 => lg_cmp v9 _) hv9).trans (lg_self _))) ?_
    refine x_if_eq (tgt := 2189) hx hb dL_law_2184 (by decide) (by omega) (fun _ => ?_) (fun c => absurd rfl c)
    refine lv_goto (tgt := 3323) hx hb dL_law_2189 (by decide) ?_
    refine W.widen (k := cells + 3) (n := slots + 18) (by omega) (by omega) ?_
    have hP : va_P dg vwCl (lawW ck ka ad ra mo oa od u2144.1 F1 F2 F3 F4 (upS M 8 0 (if ¬ isBench S x then 1 else if S 4 x = 0 then 2 else 0)) u2144.2 E) H := va_P_eq (by rw [hS2] <;> rfl) hP
    have hD : va_D A (lawW ck ka ad ra mo oa od u2144.1 F1 F2 F3 F4 (upS M 8 0 (if ¬ isBench S x then 1 else if S 4 x = 0 then 2 else 0)) u2144.2 E) := va_D_eq (by rw [hS2] <;> rfl) hD
    exact kk u2144.1 F1 F2 F3 F4 (upS M 8 0 (if ¬ isBench S x then 1 else if S 4 x = 0 then 2 else 0)) u2144.2 E H locs ls hLI2 hP hD hS (lv_sub hl [2, 3, 4, 5, 6, 7] rfl)

set_option maxHeartbeats 4000000 in
set_option maxRecDepth 100000 in
/-- the law: a call of defaultMonth -/
theorem lc_34 {p : Program} {l : Launch} {e : Env} {s : State} {m : MethodId} {below : List Frame} {meth : Method} {c : Code} {dg : va_G} {ck : Nat → ClassId} {ka : Nat → Nat} {b L : Nat} {xs : Nat → Int32} {A : Nat → Prop} {ad ra : Nat → Nat → Nat} {mo : Nat → Nat} {oa od : Nat} {Qf : State → Prop} {i : Int} {cells slots : Nat} (C0 : LX p l s m c dg ck ka b L xs A) (hi : 0 ≤ i ∧ i + 4 ≤ L) (hcell : cells + 3 ≤ 603072) (hslot : slots + 18 ≤ 7207018) (kk : LKK p l e s m below meth c dg ck ka ad ra mo oa od b A Qf i cells slots) {Z O U X : Nat → Int} {S T P I : St} {V N Y : Int → Int} {Q : Nat → St} {F1 F2 F3 F4 : Int → Int} {M : St} {D : Nat → Int64} {E : Nat → UInt64} {H : Heap} {locs : List Loc} {ls : Array Slot} (hLI : LI (775 * i) Z U X S P I Y Q F2 F3 M) (hP : va_P dg vwCl (brkW ck ka ad ra Z O U X S T P I V N Y Q ++ (modelC ck mo (encZ S) F1 F2 F3 F4 M ++ (lngC ck oa D ++ (dblC ck od E)))) H) (hD : va_D A (brkW ck ka ad ra Z O U X S T P I V N Y Q ++ (modelC ck mo (encZ S) F1 F2 F3 F4 M ++ (lngC ck oa D ++ (dblC ck od E))))) (hS : va_S A s.heap H locs) (hl : lv_has ls 9 [(0, .ref b), (1, .ref (ad 7 0)), (2, .ref (mo 0)), (3, .ref oa), (4, .ref od), (5, .int (zI i))]) : W p l e room_1 s m #[Value.ref b] below meth c H locs cells slots Qf (F0 m 2192 ls []) := by
  obtain ⟨hx, hb, hml, hown, htg, hX, hbl, hbA, hK, hC, hA, hst, hL⟩ := id C0
  obtain ⟨hV, hlh, hls, hlt, hlo, hlf⟩ := id hLI
  obtain ⟨hn, hz, hk1, hq10, hhist⟩ := id hlh
  obtain ⟨hk2, hz0, hp10, hsn⟩ := id hls
  obtain ⟨hk3, hln, hk5, htx, hkv⟩ := id hlt
  obtain ⟨hk4, hu0, hy7, hY⟩ := id hlo
  obtain ⟨⟨hk5a, hz4⟩, ⟨hk6, hz1⟩, hk7, hk8⟩ := id hlf
  have hI := hV.bd
  have hs10 : ∀ i, 0 ≤ S 10 i ∧ S 10 i ≤ 1 := hI.2.2.2.2.2.2.2.2.2.2.2.2.2.1
  obtain ⟨x, hv_x⟩ : ∃ v9 : Int, (xs (i + 1).toNat).toInt = v9 := ⟨_, rfl⟩
  have rgx_x := xi_r (xs (i + 1).toNat)
  rw [hv_x] at rgx_x
  obtain ⟨y, hv_y⟩ : ∃ v9 : Int, (xs (i + 2).toNat).toInt = v9 := ⟨_, rfl⟩
  have rgx_y := xi_r (xs (i + 2).toNat)
  rw [hv_y] at rgx_y
  obtain ⟨z, hv_z⟩ : ∃ v9 : Int, (xs (i + 3).toNat).toInt = v9 := ⟨_, rfl⟩
  have rgx_z := xi_r (xs (i + 3).toNat)
  rw [hv_z] at rgx_z
  refine lv_aload_n hx hb dL_law_2192 rfl (lv_at hl 1 rfl) ?_
  refine lv_aload_n hx hb dL_law_2193 rfl (lv_at hl 0 rfl) ?_
  refine lv_iload hx hb dL_law_2194 (lv_at hl 5 rfl) ?_
  refine x_iconst hx hb dL_law_2196 ?_
  refine x_iadd hx hb dL_law_2197 ?_
  refine x_sld hx hb hX hbl hbA hS (by omega) (by omega) hv_x dL_law_2198 ?_
  refine lv_aload_n hx hb dL_law_2199 rfl (lv_at hl 3 rfl) ?_
  refine x_calliUB (wf := fun u2200 : BU × (Nat → Int64) => brkU ck ka ad ra u2200.1 ++ (modelC ck mo (encZ S) F1 F2 F3 F4 M ++ (lngC ck oa u2200.2 ++ (dblC ck od E)))) (M := brkW ck ka ad ra Z O U X S T P I V N Y Q ++ (lngC ck oa D)) (Mf := fun u2200 => brkU ck ka ad ra u2200.1 ++ (lngC ck oa u2200.2)) (N := modelC ck mo (encZ S) F1 F2 F3 F4 M ++ (dblC ck od E)) (cat_perm [brkW ck ka ad ra Z O U X S T P I V N Y Q, modelC ck mo (encZ S) F1 F2 F3 F4 M, lngC ck oa D, dblC ck od E] [0, 2] [1, 3] 4 rfl (by decide)) (fun u2200 => cat_perm [brkU ck ka ad ra u2200.1, modelC ck mo (encZ S) F1 F2 F3 F4 M, lngC ck oa u2200.2, dblC ck od E] [0, 2] [1, 3] 4 rfl (by decide)) hP hD hS hA (fun hPm hDm => vx_runSW (As := [.ref (ad 7 0), .int (zI x), .ref oa]) (rest := []) ⟨hx, hb, hml, hown, htg⟩ (w_defaultMonth l dg ck ka ad ra Z O U X S T P I V N Y Q oa D x _ hI (by omega) hst) (vx_cwSW 3 htg (gwSW wq_996 wq_997 wq_0 wqL_defaultMonth) rfl rfl rfl (by decide +kernel) ⟨Nat.le_of_ble_eq_true rfl, Nat.le_of_ble_eq_true rfl⟩) (wrK_preS hK hPm hDm hC hS hA) rfl rfl hl.1 rfl (lv_room (Nat.le_of_ble_eq_true rfl)) dL_law_2200 ⟨by show cells + 3 ≤ 603072; omega, by show slots + 18 ≤ 7207018; omega⟩) (fun r2200 u2200 H locs hw hP hD hS => ?_)
  have hP : va_P dg vwCl (brkU ck ka ad ra u2200.1 ++ (modelC ck mo (encZ S) F1 F2 F3 F4 M ++ (lngC ck oa u2200.2 ++ (dblC ck od E)))) H := hP
  have hD : va_D A (brkU ck ka ad ra u2200.1 ++ (modelC ck mo (encZ S) F1 F2 F3 F4 M ++ (lngC ck oa u2200.2 ++ (dblC ck od E)))) := hD
  refine lv_istore (lv' := [(6, .int r2200), (0, .ref b), (1, .ref (ad 7 0)), (2, .ref (mo 0)), (3, .ref oa), (4, .ref od), (5, .int (zI i))]) hx hb dL_law_2203 hl (by decide) rfl (fun ls hl => ?_)
  refine lv_aload_n hx hb dL_law_2205 rfl (lv_at hl 3 rfl) ?_
  refine lv_aload_n hx hb dL_law_2206 rfl (lv_at hl 1 rfl) ?_
  refine lv_iload hx hb dL_law_2207 (lv_at hl 6 rfl) ?_
  refine x_iconst hx hb dL_law_2209 ?_
  refine x_iadd hx hb dL_law_2210 ?_
  refine x_sld hx hb hX hbl hbA hS (by omega) (by omega) hv_x dL_law_2211 ?_
  refine x_calliB (ws' := brkU ck ka ad ra u2200.1 ++ (modelC ck mo (encZ S) F1 F2 F3 F4 (upS M 8 0 (if (isBench S x ∧ S 4 x ≠ 0 ∧ quietB S x ∧ payable S x < S 6 x) then 0 else if ¬ isBench S x then 1 else 2)) ++ (lngC ck oa u2200.2 ++ (dblC ck od E)))) (M := modelC ck mo (encZ S) F1 F2 F3 F4 M) (M' := modelC ck mo (encZ S) F1 F2 F3 F4 (upS M 8 0 (if (isBench S x ∧ S 4 x ≠ 0 ∧ quietB S x ∧ payable S x < S 6 x) then 0 else if ¬ isBench S x then 1 else 2))) (N := brkU ck ka ad ra u2200.1 ++ (lngC ck oa u2200.2 ++ (dblC ck od E))) (cat_perm [brkU ck ka ad ra u2200.1, modelC ck mo (encZ S) F1 F2 F3 F4 M, lngC ck oa u2200.2, dblC ck od E] [1] [0, 2, 3] 4 rfl (by decide)) (cat_perm [brkU ck ka ad ra u2200.1, modelC ck mo (encZ S) F1 F2 F3 F4 (upS M 8 0 (if (isBench S x ∧ S 4 x ≠ 0 ∧ quietB S x ∧ payable S x < S 6 x) then 0 else if ¬ isBench S x then 1 else 2)), lngC ck oa u2200.2, dblC ck od E] [1] [0, 2, 3] 4 rfl (by decide)) hP hD hS hA (fun hPm hDm => va_runV (As := [.int (zI x)]) (rest := []) ⟨hx, hb, hml, hown, htg⟩ (m_defaultMonth l dg ck mo S F1 F2 F3 F4 M x _ hI (by omega)) (cwV 1 htg (gwV wq_1917 wq_1918 wq_1919 wq_15 wq_1920) rfl rfl rfl (by decide +kernel) ⟨Nat.le_of_ble_eq_true rfl, Nat.le_of_ble_eq_true rfl⟩) (wr_preV hK hPm hDm 0 11 rfl rfl) rfl rfl hl.1 rfl (lv_room (Nat.le_of_ble_eq_true rfl)) dL_law_2212 ⟨by show _ ≤ 603072; omega, by show _ ≤ 7207018; omega⟩) (fun r2212 H locs hr2212 hP hD hS => ?_)
  subst hr2212
  have hP : va_P dg vwCl (brkU ck ka ad ra u2200.1 ++ (modelC ck mo (encZ S) F1 F2 F3 F4 (upS M 8 0 (if (isBench S x ∧ S 4 x ≠ 0 ∧ quietB S x ∧ payable S x < S 6 x) then 0 else if ¬ isBench S x then 1 else 2)) ++ (lngC ck oa u2200.2 ++ (dblC ck od E)))) H := hP
  have hD : va_D A (brkU ck ka ad ra u2200.1 ++ (modelC ck mo (encZ S) F1 F2 F3 F4 (upS M 8 0 (if (isBench S x ∧ S 4 x ≠ 0 ∧ quietB S x ∧ payable S x < S 6 x) then 0 else if ¬ isBench S x then 1 else 2)) ++ (lngC ck oa u2200.2 ++ (dblC ck od E)))) := hD
  have hcase : ∃ t9 : Int, (upS M 8 0 (if (isBench S x ∧ S 4 x ≠ 0 ∧ quietB S x ∧ payable S x < S 6 x) then 0 else if ¬ isBench S x then 1 else 2)) 8 0 = t9 ∧ r2200 = zI t9 ∧ (0 ≤ t9 ∧ t9 ≤ 3) ∧ (t9 = 0 → u2200.2 0 = (zI (itZ ((isBench S x ∧ S 4 x ≠ 0 ∧ quietB S x ∧ payable S x < S 6 x)) (payable S x + 1))).toInt64) ∧ LI (775 * i + 3100) (u2200.1.1) (u2200.1.2.2.1) (u2200.1.2.2.2.1) (u2200.1.2.2.2.2.1) (u2200.1.2.2.2.2.2.2.1) (u2200.1.2.2.2.2.2.2.2.1) (u2200.1.2.2.2.2.2.2.2.2.2.2.1) (u2200.1.2.2.2.2.2.2.2.2.2.2.2) F2 F3 (upS M 8 0 (if (isBench S x ∧ S 4 x ≠ 0 ∧ quietB S x ∧ payable S x < S 6 x) then 0 else if ¬ isBench S x then 1 else 2)) ∧ S = u2200.1.2.2.2.2.1 := by
    rcases hw with ⟨e1, r1, hp, eu, ev⟩ | ⟨e1, hc, eu⟩ | ⟨e1, hc, eu⟩
    · obtain ⟨rfl, hok⟩ := hp
      refine ⟨0, upS_s.trans (by (try unfold itZ); (try unfold bI); (repeat' split) <;> omega), e1, by decide, fun _ => ev.trans (congrArg (fun v9 : Int => (zI v9).toInt64) (by (try unfold itZ); (try unfold bI); (repeat' split) <;> omega)), ?_, (by rw [eu] <;> rfl)⟩
      rw [eu]
      exact (hLI.m (mK_0 M _)).mono (by omega) (by omega)
    · refine ⟨1, upS_s.trans (by (try unfold itZ); (try unfold bI); (repeat' split) <;> omega), e1, by decide, fun q => absurd q (by decide), ?_, (by rw [eu] <;> rfl)⟩
      rw [eu]
      exact (hLI.m (mK_0 M _)).mono (by omega) (by omega)
    · refine ⟨2, upS_s.trans (by (try unfold itZ); (try unfold bI); (repeat' split) <;> omega), e1, by decide, fun q => absurd q (by decide), ?_, (by rw [eu] <;> rfl)⟩
      rw [eu]
      exact (hLI.m (mK_0 M _)).mono (by omega) (by omega)
  obtain ⟨t9, ht9, hr9, ht9b, hval, hLI2, hS2⟩ := hcase
  have ht9r : zI ((upS M 8 0 (if (isBench S x ∧ S 4 x ≠ 0 ∧ quietB S x ∧ payable S x < S 6 x) then 0 else if ¬ isBench S x then 1 else 2)) 8 0) = r2200 := by rw [ht9, hr9]
  refine lv_istore (lv' := [(7, .int (zI (itZ ((isBench S x ∧ S 4 x ≠ 0 ∧ quietB S x ∧ payable S x < S 6 x)) (payable S x + 1)))), (6, .int r2200), (0, .ref b), (1, .ref (ad 7 0)), (2, .ref (mo 0)), (3, .ref oa), (4, .ref od), (5, .int (zI i))]) hx hb dL_law_2215 hl (by decide) rfl (fun ls hl => ?_)
  refine lv_aload_n hx hb dL_law_2217 rfl (lv_at hl 4 rfl) ?_
  refine vp_callSi (W.runV (As := []) (rest := []) ⟨hx, hb, hml, hown, htg⟩ (m_thrown l dg ck mo S F1 F2 F3 F4 (upS M 8 0 (if (isBench S x ∧ S 4 x ≠ 0 ∧ quietB S x ∧ payable S x < S 6 x) then 0 else if ¬ isBench S x then 1 else 2))) (cwV 0 htg (gwV wq_1627 wq_1628 wq_1629 wq_15 wq_1630) rfl rfl rfl (by decide +kernel) ⟨Nat.le_of_ble_eq_true rfl, Nat.le_of_ble_eq_true rfl⟩) (rd_preV hK (va_P_l (va_P_r hP)) 0 11 rfl rfl) rfl rfl hl.1 rfl (lv_room (Nat.le_of_ble_eq_true rfl)) dL_law_2218 ⟨by show _ ≤ 603072; omega, by show _ ≤ 7207018; omega⟩) (fun r2218 hr2218 => ?_)
  subst hr2218
  refine lv_iload hx hb dL_law_2221 (lv_at hl 1 rfl) ?_
  refine lv_icmp_eq (tgt := 2228) hx hb dL_law_2223 (by decide) (fun _ => ?_) (fun c9 => absurd ht9r c9)
  refine lv_iload hx hb dL_law_2228 (lv_at hl 1 rfl) ?_
  refine W.eq (g2 := F0 m 2230 ls [.int (zI t9)]) (by rw [hr9]) ?_
  refine x_if_ne (tgt := 2245) hx hb dL_law_2230 (by decide) (by omega) (fun c9 => ?_) (fun c9 => ?_)
  · refine lv_goto (tgt := 3323) hx hb dL_law_2245 (by decide) ?_
    refine W.widen (k := cells + 3) (n := slots + 18) (by omega) (by omega) ?_
    have hP : va_P dg vwCl (lawW ck ka ad ra mo oa od u2200.1 F1 F2 F3 F4 (upS M 8 0 (if (isBench S x ∧ S 4 x ≠ 0 ∧ quietB S x ∧ payable S x < S 6 x) then 0 else if ¬ isBench S x then 1 else 2)) u2200.2 E) H := va_P_eq (by rw [hS2] <;> rfl) hP
    have hD : va_D A (lawW ck ka ad ra mo oa od u2200.1 F1 F2 F3 F4 (upS M 8 0 (if (isBench S x ∧ S 4 x ≠ 0 ∧ quietB S x ∧ payable S x < S 6 x) then 0 else if ¬ isBench S x then 1 else 2)) u2200.2 E) := va_D_eq (by rw [hS2] <;> rfl) hD
    exact kk u2200.1 F1 F2 F3 F4 (upS M 8 0 (if (isBench S x ∧ S 4 x ≠ 0 ∧ quietB S x ∧ payable S x < S 6 x) then 0 else if ¬ isBench S x then 1 else 2)) u2200.2 E H locs ls hLI2 hP hD hS (lv_sub hl [2, 3, 4, 5, 6, 7] rfl)
  · have hv9 := hval (by omega)
    refine lv_aload_n hx hb dL_law_2233 rfl (lv_at hl 5 rfl) ?_
    refine x_iconst hx hb dL_law_2234 ?_
    refine va_lald hx hb hK hP 175 5 rfl rfl (zI_in (z := 0) (by decide) (by decide)) dL_law_2235 ?_
    refine lv_iload hx hb dL_law_2236 (lv_at hl 0 rfl) ?_
    refine lv_i2l hx hb dL_law_2238 rfl ?_
    refine W.lcmp hx hb dL_law_2239 ?_
    refine W.eq (g2 := F0 m 2240 ls [.int (zI 0)]) (congrArg (fun v9 => F0 m 2240 ls [.int v9]) ((congrArg (fun v9 => lg_cmp v9 _) hv9).trans (lg_self _))) ?_
    refine x_if_eq (tgt := 2245) hx hb dL_law_2240 (by decide) (by omega) (fun _ => ?_) (fun c => absurd rfl c)
    refine lv_goto (tgt := 3323) hx hb dL_law_2245 (by decide) ?_
    refine W.widen (k := cells + 3) (n := slots + 18) (by omega) (by omega) ?_
    have hP : va_P dg vwCl (lawW ck ka ad ra mo oa od u2200.1 F1 F2 F3 F4 (upS M 8 0 (if (isBench S x ∧ S 4 x ≠ 0 ∧ quietB S x ∧ payable S x < S 6 x) then 0 else if ¬ isBench S x then 1 else 2)) u2200.2 E) H := va_P_eq (by rw [hS2] <;> rfl) hP
    have hD : va_D A (lawW ck ka ad ra mo oa od u2200.1 F1 F2 F3 F4 (upS M 8 0 (if (isBench S x ∧ S 4 x ≠ 0 ∧ quietB S x ∧ payable S x < S 6 x) then 0 else if ¬ isBench S x then 1 else 2)) u2200.2 E) := va_D_eq (by rw [hS2] <;> rfl) hD
    exact kk u2200.1 F1 F2 F3 F4 (upS M 8 0 (if (isBench S x ∧ S 4 x ≠ 0 ∧ quietB S x ∧ payable S x < S 6 x) then 0 else if ¬ isBench S x then 1 else 2)) u2200.2 E H locs ls hLI2 hP hD hS (lv_sub hl [2, 3, 4, 5, 6, 7] rfl)

set_option maxHeartbeats 4000000 in
set_option maxRecDepth 100000 in
/-- the law: a call of incomeWithin -/
theorem lc_37 {p : Program} {l : Launch} {e : Env} {s : State} {m : MethodId} {below : List Frame} {meth : Method} {c : Code} {dg : va_G} {ck : Nat → ClassId} {ka : Nat → Nat} {b L : Nat} {xs : Nat → Int32} {A : Nat → Prop} {ad ra : Nat → Nat → Nat} {mo : Nat → Nat} {oa od : Nat} {Qf : State → Prop} {i : Int} {cells slots : Nat} (C0 : LX p l s m c dg ck ka b L xs A) (hi : 0 ≤ i ∧ i + 4 ≤ L) (hcell : cells + 3 ≤ 603072) (hslot : slots + 18 ≤ 7207018) (kk : LKK p l e s m below meth c dg ck ka ad ra mo oa od b A Qf i cells slots) {Z O U X : Nat → Int} {S T P I : St} {V N Y : Int → Int} {Q : Nat → St} {F1 F2 F3 F4 : Int → Int} {M : St} {D : Nat → Int64} {E : Nat → UInt64} {H : Heap} {locs : List Loc} {ls : Array Slot} (hLI : LI (775 * i) Z U X S P I Y Q F2 F3 M) (hP : va_P dg vwCl (brkW ck ka ad ra Z O U X S T P I V N Y Q ++ (modelC ck mo (encZ S) F1 F2 F3 F4 M ++ (lngC ck oa D ++ (dblC ck od E)))) H) (hD : va_D A (brkW ck ka ad ra Z O U X S T P I V N Y Q ++ (modelC ck mo (encZ S) F1 F2 F3 F4 M ++ (lngC ck oa D ++ (dblC ck od E))))) (hS : va_S A s.heap H locs) (hl : lv_has ls 9 [(0, .ref b), (1, .ref (ad 7 0)), (2, .ref (mo 0)), (3, .ref oa), (4, .ref od), (5, .int (zI i))]) : W p l e room_1 s m #[Value.ref b] below meth c H locs cells slots Qf (F0 m 2317 ls []) := by
  obtain ⟨hx, hb, hml, hown, htg, hX, hbl, hbA, hK, hC, hA, hst, hL⟩ := id C0
  obtain ⟨hV, hlh, hls, hlt, hlo, hlf⟩ := id hLI
  obtain ⟨hn, hz, hk1, hq10, hhist⟩ := id hlh
  obtain ⟨hk2, hz0, hp10, hsn⟩ := id hls
  obtain ⟨hk3, hln, hk5, htx, hkv⟩ := id hlt
  obtain ⟨hk4, hu0, hy7, hY⟩ := id hlo
  obtain ⟨⟨hk5a, hz4⟩, ⟨hk6, hz1⟩, hk7, hk8⟩ := id hlf
  have hI := hV.bd
  have hs10 : ∀ i, 0 ≤ S 10 i ∧ S 10 i ≤ 1 := hI.2.2.2.2.2.2.2.2.2.2.2.2.2.1
  obtain ⟨x, hv_x⟩ : ∃ v9 : Int, (xs (i + 1).toNat).toInt = v9 := ⟨_, rfl⟩
  have rgx_x := xi_r (xs (i + 1).toNat)
  rw [hv_x] at rgx_x
  obtain ⟨y, hv_y⟩ : ∃ v9 : Int, (xs (i + 2).toNat).toInt = v9 := ⟨_, rfl⟩
  have rgx_y := xi_r (xs (i + 2).toNat)
  rw [hv_y] at rgx_y
  obtain ⟨z, hv_z⟩ : ∃ v9 : Int, (xs (i + 3).toNat).toInt = v9 := ⟨_, rfl⟩
  have rgx_z := xi_r (xs (i + 3).toNat)
  rw [hv_z] at rgx_z
  refine lv_aload_n hx hb dL_law_2317 rfl (lv_at hl 1 rfl) ?_
  refine lv_aload_n hx hb dL_law_2318 rfl (lv_at hl 0 rfl) ?_
  refine lv_iload hx hb dL_law_2319 (lv_at hl 5 rfl) ?_
  refine x_iconst hx hb dL_law_2321 ?_
  refine x_iadd hx hb dL_law_2322 ?_
  refine x_sld hx hb hX hbl hbA hS (by omega) (by omega) hv_x dL_law_2323 ?_
  refine lv_aload_n hx hb dL_law_2324 rfl (lv_at hl 3 rfl) ?_
  refine x_calliUB (wf := fun u2325 : BU × (Nat → Int64) => brkU ck ka ad ra u2325.1 ++ (modelC ck mo (encZ S) F1 F2 F3 F4 M ++ (lngC ck oa u2325.2 ++ (dblC ck od E)))) (M := brkW ck ka ad ra Z O U X S T P I V N Y Q ++ (lngC ck oa D)) (Mf := fun u2325 => brkU ck ka ad ra u2325.1 ++ (lngC ck oa u2325.2)) (N := modelC ck mo (encZ S) F1 F2 F3 F4 M ++ (dblC ck od E)) (cat_perm [brkW ck ka ad ra Z O U X S T P I V N Y Q, modelC ck mo (encZ S) F1 F2 F3 F4 M, lngC ck oa D, dblC ck od E] [0, 2] [1, 3] 4 rfl (by decide)) (fun u2325 => cat_perm [brkU ck ka ad ra u2325.1, modelC ck mo (encZ S) F1 F2 F3 F4 M, lngC ck oa u2325.2, dblC ck od E] [0, 2] [1, 3] 4 rfl (by decide)) hP hD hS hA (fun hPm hDm => vx_runSW (As := [.ref (ad 7 0), .int (zI x), .ref oa]) (rest := []) ⟨hx, hb, hml, hown, htg⟩ (w_incomeWithin l dg ck ka ad ra Z O U X S T P I V N Y Q oa D x _ hV (by omega) hst) (vx_cwSW 3 htg (gwSW wq_1011 wq_1012 wq_0 wqL_incomeWithin) rfl rfl rfl (by decide +kernel) ⟨Nat.le_of_ble_eq_true rfl, Nat.le_of_ble_eq_true rfl⟩) (wrK_preS hK hPm hDm hC hS hA) rfl rfl hl.1 rfl (lv_room (Nat.le_of_ble_eq_true rfl)) dL_law_2325 ⟨by show cells + 1 ≤ 603072; omega, by show slots + 6 ≤ 7207018; omega⟩) (fun r2325 u2325 H locs hw hP hD hS => ?_)
  have hP : va_P dg vwCl (brkU ck ka ad ra u2325.1 ++ (modelC ck mo (encZ S) F1 F2 F3 F4 M ++ (lngC ck oa u2325.2 ++ (dblC ck od E)))) H := hP
  have hD : va_D A (brkU ck ka ad ra u2325.1 ++ (modelC ck mo (encZ S) F1 F2 F3 F4 M ++ (lngC ck oa u2325.2 ++ (dblC ck od E)))) := hD
  refine lv_istore (lv' := [(6, .int r2325), (0, .ref b), (1, .ref (ad 7 0)), (2, .ref (mo 0)), (3, .ref oa), (4, .ref od), (5, .int (zI i))]) hx hb dL_law_2328 hl (by decide) rfl (fun ls hl => ?_)
  refine lv_aload_n hx hb dL_law_2330 rfl (lv_at hl 3 rfl) ?_
  refine lv_aload_n hx hb dL_law_2331 rfl (lv_at hl 1 rfl) ?_
  refine lv_iload hx hb dL_law_2332 (lv_at hl 6 rfl) ?_
  refine x_iconst hx hb dL_law_2334 ?_
  refine x_iadd hx hb dL_law_2335 ?_
  refine x_sld hx hb hX hbl hbA hS (by omega) (by omega) hv_x dL_law_2336 ?_
  refine x_calliB (ws' := brkU ck ka ad ra u2325.1 ++ (modelC ck mo (encZ S) F1 F2 F3 (if isTerm x then encZ S else F4) (upS (upS M 8 10 (if isTerm x then (elZ S x).2.1 else M 8 10)) 8 0 (1 - bI (isTerm x))) ++ (lngC ck oa u2325.2 ++ (dblC ck od E)))) (M := modelC ck mo (encZ S) F1 F2 F3 F4 M) (M' := modelC ck mo (encZ S) F1 F2 F3 (if isTerm x then encZ S else F4) (upS (upS M 8 10 (if isTerm x then (elZ S x).2.1 else M 8 10)) 8 0 (1 - bI (isTerm x)))) (N := brkU ck ka ad ra u2325.1 ++ (lngC ck oa u2325.2 ++ (dblC ck od E))) (cat_perm [brkU ck ka ad ra u2325.1, modelC ck mo (encZ S) F1 F2 F3 F4 M, lngC ck oa u2325.2, dblC ck od E] [1] [0, 2, 3] 4 rfl (by decide)) (cat_perm [brkU ck ka ad ra u2325.1, modelC ck mo (encZ S) F1 F2 F3 (if isTerm x then encZ S else F4) (upS (upS M 8 10 (if isTerm x then (elZ S x).2.1 else M 8 10)) 8 0 (1 - bI (isTerm x))), lngC ck oa u2325.2, dblC ck od E] [1] [0, 2, 3] 4 rfl (by decide)) hP hD hS hA (fun hPm hDm => va_runV (As := [.int (zI x)]) (rest := []) ⟨hx, hb, hml, hown, htg⟩ (m_incomeWithin l dg ck mo S F1 F2 F3 F4 M x _ hV (by omega)) (cwV 1 htg (gwV wq_1937 wq_1938 wq_1939 wq_15 wq_1940) rfl rfl rfl (by decide +kernel) ⟨Nat.le_of_ble_eq_true rfl, Nat.le_of_ble_eq_true rfl⟩) (wr_preV hK hPm hDm 0 11 rfl rfl) rfl rfl hl.1 rfl (lv_room (Nat.le_of_ble_eq_true rfl)) dL_law_2337 ⟨by show _ ≤ 603072; omega, by show _ ≤ 7207018; omega⟩) (fun r2337 H locs hr2337 hP hD hS => ?_)
  subst hr2337
  have hP : va_P dg vwCl (brkU ck ka ad ra u2325.1 ++ (modelC ck mo (encZ S) F1 F2 F3 (if isTerm x then encZ S else F4) (upS (upS M 8 10 (if isTerm x then (elZ S x).2.1 else M 8 10)) 8 0 (1 - bI (isTerm x))) ++ (lngC ck oa u2325.2 ++ (dblC ck od E)))) H := hP
  have hD : va_D A (brkU ck ka ad ra u2325.1 ++ (modelC ck mo (encZ S) F1 F2 F3 (if isTerm x then encZ S else F4) (upS (upS M 8 10 (if isTerm x then (elZ S x).2.1 else M 8 10)) 8 0 (1 - bI (isTerm x))) ++ (lngC ck oa u2325.2 ++ (dblC ck od E)))) := hD
  have hcase : ∃ t9 : Int, (upS (upS M 8 10 (if isTerm x then (elZ S x).2.1 else M 8 10)) 8 0 (1 - bI (isTerm x))) 8 0 = t9 ∧ r2325 = zI t9 ∧ (0 ≤ t9 ∧ t9 ≤ 3) ∧ (t9 = 0 → u2325.2 0 = (zI (itZ (isTerm x) ((elZ S x).2.2 0 5 - S 0 5))).toInt64) ∧ LI (775 * i + 3100) (u2325.1.1) (u2325.1.2.2.1) (u2325.1.2.2.2.1) (u2325.1.2.2.2.2.1) (u2325.1.2.2.2.2.2.2.1) (u2325.1.2.2.2.2.2.2.2.1) (u2325.1.2.2.2.2.2.2.2.2.2.2.1) (u2325.1.2.2.2.2.2.2.2.2.2.2.2) F2 F3 (upS (upS M 8 10 (if isTerm x then (elZ S x).2.1 else M 8 10)) 8 0 (1 - bI (isTerm x))) ∧ S = u2325.1.2.2.2.2.1 := by
    rcases hw with ⟨e1, r1, hp, eu, ev⟩ | ⟨e1, hc, eu⟩
    · obtain ⟨rfl, hok⟩ := hp
      refine ⟨0, upS_s.trans (by (try unfold itZ); (try unfold bI); (repeat' split) <;> omega), e1, by decide, fun _ => ev.trans (congrArg (fun v9 : Int => (zI v9).toInt64) (by (try unfold itZ); (try unfold bI); (repeat' split) <;> omega)), ?_, (by rw [eu] <;> rfl)⟩
      rw [eu]
      exact (hLI.m ((mK_a M (Or.inr (by decide))).trans (mK_0 _ _))).mono (by omega) (by omega)
    · refine ⟨1, upS_s.trans (by (try unfold itZ); (try unfold bI); (repeat' split) <;> omega), e1, by decide, fun q => absurd q (by decide), ?_, (by rw [eu] <;> rfl)⟩
      rw [eu]
      exact (hLI.m ((mK_a M (Or.inr (by decide))).trans (mK_0 _ _))).mono (by omega) (by omega)
  obtain ⟨t9, ht9, hr9, ht9b, hval, hLI2, hS2⟩ := hcase
  have ht9r : zI ((upS (upS M 8 10 (if isTerm x then (elZ S x).2.1 else M 8 10)) 8 0 (1 - bI (isTerm x))) 8 0) = r2325 := by rw [ht9, hr9]
  refine lv_istore (lv' := [(7, .int (zI (itZ (isTerm x) ((elZ S x).2.2 0 5 - S 0 5)))), (6, .int r2325), (0, .ref b), (1, .ref (ad 7 0)), (2, .ref (mo 0)), (3, .ref oa), (4, .ref od), (5, .int (zI i))]) hx hb dL_law_2340 hl (by decide) rfl (fun ls hl => ?_)
  refine lv_aload_n hx hb dL_law_2342 rfl (lv_at hl 4 rfl) ?_
  refine vp_callSi (W.runV (As := []) (rest := []) ⟨hx, hb, hml, hown, htg⟩ (m_thrown l dg ck mo S F1 F2 F3 (if isTerm x then encZ S else F4) (upS (upS M 8 10 (if isTerm x then (elZ S x).2.1 else M 8 10)) 8 0 (1 - bI (isTerm x)))) (cwV 0 htg (gwV wq_1627 wq_1628 wq_1629 wq_15 wq_1630) rfl rfl rfl (by decide +kernel) ⟨Nat.le_of_ble_eq_true rfl, Nat.le_of_ble_eq_true rfl⟩) (rd_preV hK (va_P_l (va_P_r hP)) 0 11 rfl rfl) rfl rfl hl.1 rfl (lv_room (Nat.le_of_ble_eq_true rfl)) dL_law_2343 ⟨by show _ ≤ 603072; omega, by show _ ≤ 7207018; omega⟩) (fun r2343 hr2343 => ?_)
  subst hr2343
  refine lv_iload hx hb dL_law_2346 (lv_at hl 1 rfl) ?_
  refine lv_icmp_eq (tgt := 2353) hx hb dL_law_2348 (by decide) (fun _ => ?_) (fun c9 => absurd ht9r c9)
  refine lv_iload hx hb dL_law_2353 (lv_at hl 1 rfl) ?_
  refine W.eq (g2 := F0 m 2355 ls [.int (zI t9)]) (by rw [hr9]) ?_
  refine x_if_ne (tgt := 2370) hx hb dL_law_2355 (by decide) (by omega) (fun c9 => ?_) (fun c9 => ?_)
  · refine lv_goto (tgt := 3323) hx hb dL_law_2370 (by decide) ?_
    refine W.widen (k := cells + 3) (n := slots + 18) (by omega) (by omega) ?_
    have hP : va_P dg vwCl (lawW ck ka ad ra mo oa od u2325.1 F1 F2 F3 (if isTerm x then encZ S else F4) (upS (upS M 8 10 (if isTerm x then (elZ S x).2.1 else M 8 10)) 8 0 (1 - bI (isTerm x))) u2325.2 E) H := va_P_eq (by rw [hS2] <;> rfl) hP
    have hD : va_D A (lawW ck ka ad ra mo oa od u2325.1 F1 F2 F3 (if isTerm x then encZ S else F4) (upS (upS M 8 10 (if isTerm x then (elZ S x).2.1 else M 8 10)) 8 0 (1 - bI (isTerm x))) u2325.2 E) := va_D_eq (by rw [hS2] <;> rfl) hD
    exact kk u2325.1 F1 F2 F3 (if isTerm x then encZ S else F4) (upS (upS M 8 10 (if isTerm x then (elZ S x).2.1 else M 8 10)) 8 0 (1 - bI (isTerm x))) u2325.2 E H locs ls hLI2 hP hD hS (lv_sub hl [2, 3, 4, 5, 6, 7] rfl)
  · have hv9 := hval (by omega)
    refine lv_aload_n hx hb dL_law_2358 rfl (lv_at hl 5 rfl) ?_
    refine x_iconst hx hb dL_law_2359 ?_
    refine va_lald hx hb hK hP 175 5 rfl rfl (zI_in (z := 0) (by decide) (by decide)) dL_law_2360 ?_
    refine lv_iload hx hb dL_law_2361 (lv_at hl 0 rfl) ?_
    refine lv_i2l hx hb dL_law_2363 rfl ?_
    refine W.lcmp hx hb dL_law_2364 ?_
    refine W.eq (g2 := F0 m 2365 ls [.int (zI 0)]) (congrArg (fun v9 => F0 m 2365 ls [.int v9]) ((congrArg (fun v9 => lg_cmp v9 _) hv9).trans (lg_self _))) ?_
    refine x_if_eq (tgt := 2370) hx hb dL_law_2365 (by decide) (by omega) (fun _ => ?_) (fun c => absurd rfl c)
    refine lv_goto (tgt := 3323) hx hb dL_law_2370 (by decide) ?_
    refine W.widen (k := cells + 3) (n := slots + 18) (by omega) (by omega) ?_
    have hP : va_P dg vwCl (lawW ck ka ad ra mo oa od u2325.1 F1 F2 F3 (if isTerm x then encZ S else F4) (upS (upS M 8 10 (if isTerm x then (elZ S x).2.1 else M 8 10)) 8 0 (1 - bI (isTerm x))) u2325.2 E) H := va_P_eq (by rw [hS2] <;> rfl) hP
    have hD : va_D A (lawW ck ka ad ra mo oa od u2325.1 F1 F2 F3 (if isTerm x then encZ S else F4) (upS (upS M 8 10 (if isTerm x then (elZ S x).2.1 else M 8 10)) 8 0 (1 - bI (isTerm x))) u2325.2 E) := va_D_eq (by rw [hS2] <;> rfl) hD
    exact kk u2325.1 F1 F2 F3 (if isTerm x then encZ S else F4) (upS (upS M 8 10 (if isTerm x then (elZ S x).2.1 else M 8 10)) 8 0 (1 - bI (isTerm x))) u2325.2 E H locs ls hLI2 hP hD hS (lv_sub hl [2, 3, 4, 5, 6, 7] rfl)

set_option maxHeartbeats 4000000 in
set_option maxRecDepth 100000 in
/-- the law: a call of incomeByLeases -/
theorem lc_38 {p : Program} {l : Launch} {e : Env} {s : State} {m : MethodId} {below : List Frame} {meth : Method} {c : Code} {dg : va_G} {ck : Nat → ClassId} {ka : Nat → Nat} {b L : Nat} {xs : Nat → Int32} {A : Nat → Prop} {ad ra : Nat → Nat → Nat} {mo : Nat → Nat} {oa od : Nat} {Qf : State → Prop} {i : Int} {cells slots : Nat} (C0 : LX p l s m c dg ck ka b L xs A) (hi : 0 ≤ i ∧ i + 4 ≤ L) (hcell : cells + 3 ≤ 603072) (hslot : slots + 18 ≤ 7207018) (kk : LKK p l e s m below meth c dg ck ka ad ra mo oa od b A Qf i cells slots) {Z O U X : Nat → Int} {S T P I : St} {V N Y : Int → Int} {Q : Nat → St} {F1 F2 F3 F4 : Int → Int} {M : St} {D : Nat → Int64} {E : Nat → UInt64} {H : Heap} {locs : List Loc} {ls : Array Slot} (hLI : LI (775 * i) Z U X S P I Y Q F2 F3 M) (hP : va_P dg vwCl (brkW ck ka ad ra Z O U X S T P I V N Y Q ++ (modelC ck mo (encZ S) F1 F2 F3 F4 M ++ (lngC ck oa D ++ (dblC ck od E)))) H) (hD : va_D A (brkW ck ka ad ra Z O U X S T P I V N Y Q ++ (modelC ck mo (encZ S) F1 F2 F3 F4 M ++ (lngC ck oa D ++ (dblC ck od E))))) (hS : va_S A s.heap H locs) (hl : lv_has ls 9 [(0, .ref b), (1, .ref (ad 7 0)), (2, .ref (mo 0)), (3, .ref oa), (4, .ref od), (5, .int (zI i))]) : W p l e room_1 s m #[Value.ref b] below meth c H locs cells slots Qf (F0 m 2373 ls []) := by
  obtain ⟨hx, hb, hml, hown, htg, hX, hbl, hbA, hK, hC, hA, hst, hL⟩ := id C0
  obtain ⟨hV, hlh, hls, hlt, hlo, hlf⟩ := id hLI
  obtain ⟨hn, hz, hk1, hq10, hhist⟩ := id hlh
  obtain ⟨hk2, hz0, hp10, hsn⟩ := id hls
  obtain ⟨hk3, hln, hk5, htx, hkv⟩ := id hlt
  obtain ⟨hk4, hu0, hy7, hY⟩ := id hlo
  obtain ⟨⟨hk5a, hz4⟩, ⟨hk6, hz1⟩, hk7, hk8⟩ := id hlf
  have hI := hV.bd
  have hs10 : ∀ i, 0 ≤ S 10 i ∧ S 10 i ≤ 1 := hI.2.2.2.2.2.2.2.2.2.2.2.2.2.1
  obtain ⟨x, hv_x⟩ : ∃ v9 : Int, (xs (i + 1).toNat).toInt = v9 := ⟨_, rfl⟩
  have rgx_x := xi_r (xs (i + 1).toNat)
  rw [hv_x] at rgx_x
  obtain ⟨y, hv_y⟩ : ∃ v9 : Int, (xs (i + 2).toNat).toInt = v9 := ⟨_, rfl⟩
  have rgx_y := xi_r (xs (i + 2).toNat)
  rw [hv_y] at rgx_y
  obtain ⟨z, hv_z⟩ : ∃ v9 : Int, (xs (i + 3).toNat).toInt = v9 := ⟨_, rfl⟩
  have rgx_z := xi_r (xs (i + 3).toNat)
  rw [hv_z] at rgx_z
  refine lv_aload_n hx hb dL_law_2373 rfl (lv_at hl 1 rfl) ?_
  refine lv_aload_n hx hb dL_law_2374 rfl (lv_at hl 0 rfl) ?_
  refine lv_iload hx hb dL_law_2375 (lv_at hl 5 rfl) ?_
  refine x_iconst hx hb dL_law_2377 ?_
  refine x_iadd hx hb dL_law_2378 ?_
  refine x_sld hx hb hX hbl hbA hS (by omega) (by omega) hv_x dL_law_2379 ?_
  refine lv_aload_n hx hb dL_law_2380 rfl (lv_at hl 3 rfl) ?_
  refine x_calliUB (wf := fun u2381 : BU × (Nat → Int64) => brkU ck ka ad ra u2381.1 ++ (modelC ck mo (encZ S) F1 F2 F3 F4 M ++ (lngC ck oa u2381.2 ++ (dblC ck od E)))) (M := brkW ck ka ad ra Z O U X S T P I V N Y Q ++ (lngC ck oa D)) (Mf := fun u2381 => brkU ck ka ad ra u2381.1 ++ (lngC ck oa u2381.2)) (N := modelC ck mo (encZ S) F1 F2 F3 F4 M ++ (dblC ck od E)) (cat_perm [brkW ck ka ad ra Z O U X S T P I V N Y Q, modelC ck mo (encZ S) F1 F2 F3 F4 M, lngC ck oa D, dblC ck od E] [0, 2] [1, 3] 4 rfl (by decide)) (fun u2381 => cat_perm [brkU ck ka ad ra u2381.1, modelC ck mo (encZ S) F1 F2 F3 F4 M, lngC ck oa u2381.2, dblC ck od E] [0, 2] [1, 3] 4 rfl (by decide)) hP hD hS hA (fun hPm hDm => vx_runSW (As := [.ref (ad 7 0), .int (zI x), .ref oa]) (rest := []) ⟨hx, hb, hml, hown, htg⟩ (w_incomeByLeases l dg ck ka ad ra Z O U X S T P I V N Y Q oa D x _ hI (by omega) hst) (vx_cwSW 3 htg (gwSW wq_1023 wq_1024 wq_0 wqL_incomeByLeases) rfl rfl rfl (by decide +kernel) ⟨Nat.le_of_ble_eq_true rfl, Nat.le_of_ble_eq_true rfl⟩) (wrK_preS hK hPm hDm hC hS hA) rfl rfl hl.1 rfl (lv_room (Nat.le_of_ble_eq_true rfl)) dL_law_2381 ⟨by show cells + 1 ≤ 603072; omega, by show slots + 6 ≤ 7207018; omega⟩) (fun r2381 u2381 H locs hw hP hD hS => ?_)
  have hP : va_P dg vwCl (brkU ck ka ad ra u2381.1 ++ (modelC ck mo (encZ S) F1 F2 F3 F4 M ++ (lngC ck oa u2381.2 ++ (dblC ck od E)))) H := hP
  have hD : va_D A (brkU ck ka ad ra u2381.1 ++ (modelC ck mo (encZ S) F1 F2 F3 F4 M ++ (lngC ck oa u2381.2 ++ (dblC ck od E)))) := hD
  refine lv_istore (lv' := [(6, .int r2381), (0, .ref b), (1, .ref (ad 7 0)), (2, .ref (mo 0)), (3, .ref oa), (4, .ref od), (5, .int (zI i))]) hx hb dL_law_2384 hl (by decide) rfl (fun ls hl => ?_)
  refine lv_aload_n hx hb dL_law_2386 rfl (lv_at hl 3 rfl) ?_
  refine lv_aload_n hx hb dL_law_2387 rfl (lv_at hl 1 rfl) ?_
  refine lv_iload hx hb dL_law_2388 (lv_at hl 6 rfl) ?_
  refine x_iconst hx hb dL_law_2390 ?_
  refine x_iadd hx hb dL_law_2391 ?_
  refine x_sld hx hb hX hbl hbA hS (by omega) (by omega) hv_x dL_law_2392 ?_
  refine x_calliB (ws' := brkU ck ka ad ra u2381.1 ++ (modelC ck mo (encZ S) F1 F2 F3 (if isTerm x then encZ S else F4) (upS (upS M 8 10 (if isTerm x then (elZ S x).2.1 else M 8 10)) 8 0 (1 - bI (isTerm x))) ++ (lngC ck oa u2381.2 ++ (dblC ck od E)))) (M := modelC ck mo (encZ S) F1 F2 F3 F4 M) (M' := modelC ck mo (encZ S) F1 F2 F3 (if isTerm x then encZ S else F4) (upS (upS M 8 10 (if isTerm x then (elZ S x).2.1 else M 8 10)) 8 0 (1 - bI (isTerm x)))) (N := brkU ck ka ad ra u2381.1 ++ (lngC ck oa u2381.2 ++ (dblC ck od E))) (cat_perm [brkU ck ka ad ra u2381.1, modelC ck mo (encZ S) F1 F2 F3 F4 M, lngC ck oa u2381.2, dblC ck od E] [1] [0, 2, 3] 4 rfl (by decide)) (cat_perm [brkU ck ka ad ra u2381.1, modelC ck mo (encZ S) F1 F2 F3 (if isTerm x then encZ S else F4) (upS (upS M 8 10 (if isTerm x then (elZ S x).2.1 else M 8 10)) 8 0 (1 - bI (isTerm x))), lngC ck oa u2381.2, dblC ck od E] [1] [0, 2, 3] 4 rfl (by decide)) hP hD hS hA (fun hPm hDm => va_runV (As := [.int (zI x)]) (rest := []) ⟨hx, hb, hml, hown, htg⟩ (m_incomeByLeases l dg ck mo S F1 F2 F3 F4 M x _ hV (by omega)) (cwV 1 htg (gwV wq_1941 wq_1942 wq_1943 wq_15 wq_1944) rfl rfl rfl (by decide +kernel) ⟨Nat.le_of_ble_eq_true rfl, Nat.le_of_ble_eq_true rfl⟩) (wr_preV hK hPm hDm 0 11 rfl rfl) rfl rfl hl.1 rfl (lv_room (Nat.le_of_ble_eq_true rfl)) dL_law_2393 ⟨by show _ ≤ 603072; omega, by show _ ≤ 7207018; omega⟩) (fun r2393 H locs hr2393 hP hD hS => ?_)
  subst hr2393
  have hP : va_P dg vwCl (brkU ck ka ad ra u2381.1 ++ (modelC ck mo (encZ S) F1 F2 F3 (if isTerm x then encZ S else F4) (upS (upS M 8 10 (if isTerm x then (elZ S x).2.1 else M 8 10)) 8 0 (1 - bI (isTerm x))) ++ (lngC ck oa u2381.2 ++ (dblC ck od E)))) H := hP
  have hD : va_D A (brkU ck ka ad ra u2381.1 ++ (modelC ck mo (encZ S) F1 F2 F3 (if isTerm x then encZ S else F4) (upS (upS M 8 10 (if isTerm x then (elZ S x).2.1 else M 8 10)) 8 0 (1 - bI (isTerm x))) ++ (lngC ck oa u2381.2 ++ (dblC ck od E)))) := hD
  have hcase : ∃ t9 : Int, (upS (upS M 8 10 (if isTerm x then (elZ S x).2.1 else M 8 10)) 8 0 (1 - bI (isTerm x))) 8 0 = t9 ∧ r2381 = zI t9 ∧ (0 ≤ t9 ∧ t9 ≤ 3) ∧ (t9 = 0 → u2381.2 0 = (zI (itZ (isTerm x) ((elZ S x).2.2 0 5 - S 0 5))).toInt64) ∧ LI (775 * i + 3100) (u2381.1.1) (u2381.1.2.2.1) (u2381.1.2.2.2.1) (u2381.1.2.2.2.2.1) (u2381.1.2.2.2.2.2.2.1) (u2381.1.2.2.2.2.2.2.2.1) (u2381.1.2.2.2.2.2.2.2.2.2.2.1) (u2381.1.2.2.2.2.2.2.2.2.2.2.2) F2 F3 (upS (upS M 8 10 (if isTerm x then (elZ S x).2.1 else M 8 10)) 8 0 (1 - bI (isTerm x))) ∧ S = u2381.1.2.2.2.2.1 := by
    rcases hw with ⟨e1, r1, hp, eu, ev⟩ | ⟨e1, hc, eu⟩
    · obtain ⟨rfl, hok⟩ := hp
      have hie := income_e hV hok
      refine ⟨0, upS_s.trans (by (try unfold itZ); (try unfold bI); (repeat' split) <;> omega), e1, by decide, fun _ => ev.trans (congrArg (fun v9 : Int => (zI v9).toInt64) (by (try unfold itZ); (try unfold bI); (repeat' split) <;> omega)), ?_, (by rw [eu] <;> rfl)⟩
      rw [eu]
      exact (hLI.m ((mK_a M (Or.inr (by decide))).trans (mK_0 _ _))).mono (by omega) (by omega)
    · refine ⟨1, upS_s.trans (by (try unfold itZ); (try unfold bI); (repeat' split) <;> omega), e1, by decide, fun q => absurd q (by decide), ?_, (by rw [eu] <;> rfl)⟩
      rw [eu]
      exact (hLI.m ((mK_a M (Or.inr (by decide))).trans (mK_0 _ _))).mono (by omega) (by omega)
  obtain ⟨t9, ht9, hr9, ht9b, hval, hLI2, hS2⟩ := hcase
  have ht9r : zI ((upS (upS M 8 10 (if isTerm x then (elZ S x).2.1 else M 8 10)) 8 0 (1 - bI (isTerm x))) 8 0) = r2381 := by rw [ht9, hr9]
  refine lv_istore (lv' := [(7, .int (zI (itZ (isTerm x) ((elZ S x).2.2 0 5 - S 0 5)))), (6, .int r2381), (0, .ref b), (1, .ref (ad 7 0)), (2, .ref (mo 0)), (3, .ref oa), (4, .ref od), (5, .int (zI i))]) hx hb dL_law_2396 hl (by decide) rfl (fun ls hl => ?_)
  refine lv_aload_n hx hb dL_law_2398 rfl (lv_at hl 4 rfl) ?_
  refine vp_callSi (W.runV (As := []) (rest := []) ⟨hx, hb, hml, hown, htg⟩ (m_thrown l dg ck mo S F1 F2 F3 (if isTerm x then encZ S else F4) (upS (upS M 8 10 (if isTerm x then (elZ S x).2.1 else M 8 10)) 8 0 (1 - bI (isTerm x)))) (cwV 0 htg (gwV wq_1627 wq_1628 wq_1629 wq_15 wq_1630) rfl rfl rfl (by decide +kernel) ⟨Nat.le_of_ble_eq_true rfl, Nat.le_of_ble_eq_true rfl⟩) (rd_preV hK (va_P_l (va_P_r hP)) 0 11 rfl rfl) rfl rfl hl.1 rfl (lv_room (Nat.le_of_ble_eq_true rfl)) dL_law_2399 ⟨by show _ ≤ 603072; omega, by show _ ≤ 7207018; omega⟩) (fun r2399 hr2399 => ?_)
  subst hr2399
  refine lv_iload hx hb dL_law_2402 (lv_at hl 1 rfl) ?_
  refine lv_icmp_eq (tgt := 2409) hx hb dL_law_2404 (by decide) (fun _ => ?_) (fun c9 => absurd ht9r c9)
  refine lv_iload hx hb dL_law_2409 (lv_at hl 1 rfl) ?_
  refine W.eq (g2 := F0 m 2411 ls [.int (zI t9)]) (by rw [hr9]) ?_
  refine x_if_ne (tgt := 2426) hx hb dL_law_2411 (by decide) (by omega) (fun c9 => ?_) (fun c9 => ?_)
  · refine lv_goto (tgt := 3323) hx hb dL_law_2426 (by decide) ?_
    refine W.widen (k := cells + 3) (n := slots + 18) (by omega) (by omega) ?_
    have hP : va_P dg vwCl (lawW ck ka ad ra mo oa od u2381.1 F1 F2 F3 (if isTerm x then encZ S else F4) (upS (upS M 8 10 (if isTerm x then (elZ S x).2.1 else M 8 10)) 8 0 (1 - bI (isTerm x))) u2381.2 E) H := va_P_eq (by rw [hS2] <;> rfl) hP
    have hD : va_D A (lawW ck ka ad ra mo oa od u2381.1 F1 F2 F3 (if isTerm x then encZ S else F4) (upS (upS M 8 10 (if isTerm x then (elZ S x).2.1 else M 8 10)) 8 0 (1 - bI (isTerm x))) u2381.2 E) := va_D_eq (by rw [hS2] <;> rfl) hD
    exact kk u2381.1 F1 F2 F3 (if isTerm x then encZ S else F4) (upS (upS M 8 10 (if isTerm x then (elZ S x).2.1 else M 8 10)) 8 0 (1 - bI (isTerm x))) u2381.2 E H locs ls hLI2 hP hD hS (lv_sub hl [2, 3, 4, 5, 6, 7] rfl)
  · have hv9 := hval (by omega)
    refine lv_aload_n hx hb dL_law_2414 rfl (lv_at hl 5 rfl) ?_
    refine x_iconst hx hb dL_law_2415 ?_
    refine va_lald hx hb hK hP 175 5 rfl rfl (zI_in (z := 0) (by decide) (by decide)) dL_law_2416 ?_
    refine lv_iload hx hb dL_law_2417 (lv_at hl 0 rfl) ?_
    refine lv_i2l hx hb dL_law_2419 rfl ?_
    refine W.lcmp hx hb dL_law_2420 ?_
    refine W.eq (g2 := F0 m 2421 ls [.int (zI 0)]) (congrArg (fun v9 => F0 m 2421 ls [.int v9]) ((congrArg (fun v9 => lg_cmp v9 _) hv9).trans (lg_self _))) ?_
    refine x_if_eq (tgt := 2426) hx hb dL_law_2421 (by decide) (by omega) (fun _ => ?_) (fun c => absurd rfl c)
    refine lv_goto (tgt := 3323) hx hb dL_law_2426 (by decide) ?_
    refine W.widen (k := cells + 3) (n := slots + 18) (by omega) (by omega) ?_
    have hP : va_P dg vwCl (lawW ck ka ad ra mo oa od u2381.1 F1 F2 F3 (if isTerm x then encZ S else F4) (upS (upS M 8 10 (if isTerm x then (elZ S x).2.1 else M 8 10)) 8 0 (1 - bI (isTerm x))) u2381.2 E) H := va_P_eq (by rw [hS2] <;> rfl) hP
    have hD : va_D A (lawW ck ka ad ra mo oa od u2381.1 F1 F2 F3 (if isTerm x then encZ S else F4) (upS (upS M 8 10 (if isTerm x then (elZ S x).2.1 else M 8 10)) 8 0 (1 - bI (isTerm x))) u2381.2 E) := va_D_eq (by rw [hS2] <;> rfl) hD
    exact kk u2381.1 F1 F2 F3 (if isTerm x then encZ S else F4) (upS (upS M 8 10 (if isTerm x then (elZ S x).2.1 else M 8 10)) 8 0 (1 - bI (isTerm x))) u2381.2 E H locs ls hLI2 hP hD hS (lv_sub hl [2, 3, 4, 5, 6, 7] rfl)

set_option maxHeartbeats 4000000 in
set_option maxRecDepth 100000 in
/-- the law: a call of benchByRent -/
theorem lc_46 {p : Program} {l : Launch} {e : Env} {s : State} {m : MethodId} {below : List Frame} {meth : Method} {c : Code} {dg : va_G} {ck : Nat → ClassId} {ka : Nat → Nat} {b L : Nat} {xs : Nat → Int32} {A : Nat → Prop} {ad ra : Nat → Nat → Nat} {mo : Nat → Nat} {oa od : Nat} {Qf : State → Prop} {i : Int} {cells slots : Nat} (C0 : LX p l s m c dg ck ka b L xs A) (hi : 0 ≤ i ∧ i + 4 ≤ L) (hcell : cells + 3 ≤ 603072) (hslot : slots + 18 ≤ 7207018) (kk : LKK p l e s m below meth c dg ck ka ad ra mo oa od b A Qf i cells slots) {Z O U X : Nat → Int} {S T P I : St} {V N Y : Int → Int} {Q : Nat → St} {F1 F2 F3 F4 : Int → Int} {M : St} {D : Nat → Int64} {E : Nat → UInt64} {H : Heap} {locs : List Loc} {ls : Array Slot} (hLI : LI (775 * i) Z U X S P I Y Q F2 F3 M) (hP : va_P dg vwCl (brkW ck ka ad ra Z O U X S T P I V N Y Q ++ (modelC ck mo (encZ S) F1 F2 F3 F4 M ++ (lngC ck oa D ++ (dblC ck od E)))) H) (hD : va_D A (brkW ck ka ad ra Z O U X S T P I V N Y Q ++ (modelC ck mo (encZ S) F1 F2 F3 F4 M ++ (lngC ck oa D ++ (dblC ck od E))))) (hS : va_S A s.heap H locs) (hl : lv_has ls 9 [(0, .ref b), (1, .ref (ad 7 0)), (2, .ref (mo 0)), (3, .ref oa), (4, .ref od), (5, .int (zI i))]) : W p l e room_1 s m #[Value.ref b] below meth c H locs cells slots Qf (F0 m 2520 ls []) := by
  obtain ⟨hx, hb, hml, hown, htg, hX, hbl, hbA, hK, hC, hA, hst, hL⟩ := id C0
  obtain ⟨hV, hlh, hls, hlt, hlo, hlf⟩ := id hLI
  obtain ⟨hn, hz, hk1, hq10, hhist⟩ := id hlh
  obtain ⟨hk2, hz0, hp10, hsn⟩ := id hls
  obtain ⟨hk3, hln, hk5, htx, hkv⟩ := id hlt
  obtain ⟨hk4, hu0, hy7, hY⟩ := id hlo
  obtain ⟨⟨hk5a, hz4⟩, ⟨hk6, hz1⟩, hk7, hk8⟩ := id hlf
  have hI := hV.bd
  have hs10 : ∀ i, 0 ≤ S 10 i ∧ S 10 i ≤ 1 := hI.2.2.2.2.2.2.2.2.2.2.2.2.2.1
  obtain ⟨x, hv_x⟩ : ∃ v9 : Int, (xs (i + 1).toNat).toInt = v9 := ⟨_, rfl⟩
  have rgx_x := xi_r (xs (i + 1).toNat)
  rw [hv_x] at rgx_x
  obtain ⟨y, hv_y⟩ : ∃ v9 : Int, (xs (i + 2).toNat).toInt = v9 := ⟨_, rfl⟩
  have rgx_y := xi_r (xs (i + 2).toNat)
  rw [hv_y] at rgx_y
  obtain ⟨z, hv_z⟩ : ∃ v9 : Int, (xs (i + 3).toNat).toInt = v9 := ⟨_, rfl⟩
  have rgx_z := xi_r (xs (i + 3).toNat)
  rw [hv_z] at rgx_z
  refine lv_aload_n hx hb dL_law_2520 rfl (lv_at hl 1 rfl) ?_
  refine lv_aload_n hx hb dL_law_2521 rfl (lv_at hl 0 rfl) ?_
  refine lv_iload hx hb dL_law_2522 (lv_at hl 5 rfl) ?_
  refine x_iconst hx hb dL_law_2524 ?_
  refine x_iadd hx hb dL_law_2525 ?_
  refine x_sld hx hb hX hbl hbA hS (by omega) (by omega) hv_x dL_law_2526 ?_
  refine lv_aload_n hx hb dL_law_2527 rfl (lv_at hl 3 rfl) ?_
  refine x_calliUB (wf := fun u2528 : BU × (Nat → Int64) => brkU ck ka ad ra u2528.1 ++ (modelC ck mo (encZ S) F1 F2 F3 F4 M ++ (lngC ck oa u2528.2 ++ (dblC ck od E)))) (M := brkW ck ka ad ra Z O U X S T P I V N Y Q ++ (lngC ck oa D)) (Mf := fun u2528 => brkU ck ka ad ra u2528.1 ++ (lngC ck oa u2528.2)) (N := modelC ck mo (encZ S) F1 F2 F3 F4 M ++ (dblC ck od E)) (cat_perm [brkW ck ka ad ra Z O U X S T P I V N Y Q, modelC ck mo (encZ S) F1 F2 F3 F4 M, lngC ck oa D, dblC ck od E] [0, 2] [1, 3] 4 rfl (by decide)) (fun u2528 => cat_perm [brkU ck ka ad ra u2528.1, modelC ck mo (encZ S) F1 F2 F3 F4 M, lngC ck oa u2528.2, dblC ck od E] [0, 2] [1, 3] 4 rfl (by decide)) hP hD hS hA (fun hPm hDm => vx_runSW (As := [.ref (ad 7 0), .int (zI x), .ref oa]) (rest := []) ⟨hx, hb, hml, hown, htg⟩ (w_benchByRent l dg ck ka ad ra Z O U X S T P I V N Y Q oa D x _ hI (by omega) hst) (vx_cwSW 3 htg (gwSW wq_1030 wq_1031 wq_0 wqL_benchByRent) rfl rfl rfl (by decide +kernel) ⟨Nat.le_of_ble_eq_true rfl, Nat.le_of_ble_eq_true rfl⟩) (wrK_preS hK hPm hDm hC hS hA) rfl rfl hl.1 rfl (lv_room (Nat.le_of_ble_eq_true rfl)) dL_law_2528 ⟨by show cells + 1 ≤ 603072; omega, by show slots + 6 ≤ 7207018; omega⟩) (fun r2528 u2528 H locs hw hP hD hS => ?_)
  have hP : va_P dg vwCl (brkU ck ka ad ra u2528.1 ++ (modelC ck mo (encZ S) F1 F2 F3 F4 M ++ (lngC ck oa u2528.2 ++ (dblC ck od E)))) H := hP
  have hD : va_D A (brkU ck ka ad ra u2528.1 ++ (modelC ck mo (encZ S) F1 F2 F3 F4 M ++ (lngC ck oa u2528.2 ++ (dblC ck od E)))) := hD
  refine lv_istore (lv' := [(6, .int r2528), (0, .ref b), (1, .ref (ad 7 0)), (2, .ref (mo 0)), (3, .ref oa), (4, .ref od), (5, .int (zI i))]) hx hb dL_law_2531 hl (by decide) rfl (fun ls hl => ?_)
  refine lv_aload_n hx hb dL_law_2533 rfl (lv_at hl 3 rfl) ?_
  refine lv_aload_n hx hb dL_law_2534 rfl (lv_at hl 1 rfl) ?_
  refine lv_iload hx hb dL_law_2535 (lv_at hl 6 rfl) ?_
  refine x_iconst hx hb dL_law_2537 ?_
  refine x_iadd hx hb dL_law_2538 ?_
  refine x_sld hx hb hX hbl hbA hS (by omega) (by omega) hv_x dL_law_2539 ?_
  refine x_calliB (ws' := brkU ck ka ad ra u2528.1 ++ (modelC ck mo (encZ S) F1 F2 F3 F4 (upS M 8 0 (1 - bI (bbR S x ≠ -1))) ++ (lngC ck oa u2528.2 ++ (dblC ck od E)))) (M := modelC ck mo (encZ S) F1 F2 F3 F4 M) (M' := modelC ck mo (encZ S) F1 F2 F3 F4 (upS M 8 0 (1 - bI (bbR S x ≠ -1)))) (N := brkU ck ka ad ra u2528.1 ++ (lngC ck oa u2528.2 ++ (dblC ck od E))) (cat_perm [brkU ck ka ad ra u2528.1, modelC ck mo (encZ S) F1 F2 F3 F4 M, lngC ck oa u2528.2, dblC ck od E] [1] [0, 2, 3] 4 rfl (by decide)) (cat_perm [brkU ck ka ad ra u2528.1, modelC ck mo (encZ S) F1 F2 F3 F4 (upS M 8 0 (1 - bI (bbR S x ≠ -1))), lngC ck oa u2528.2, dblC ck od E] [1] [0, 2, 3] 4 rfl (by decide)) hP hD hS hA (fun hPm hDm => va_runV (As := [.int (zI x)]) (rest := []) ⟨hx, hb, hml, hown, htg⟩ (m_benchByRent l dg ck mo S F1 F2 F3 F4 M x _ hI (by omega)) (cwV 1 htg (gwV wq_1978 wq_1979 wq_1980 wq_15 wq_1981) rfl rfl rfl (by decide +kernel) ⟨Nat.le_of_ble_eq_true rfl, Nat.le_of_ble_eq_true rfl⟩) (wr_preV hK hPm hDm 0 11 rfl rfl) rfl rfl hl.1 rfl (lv_room (Nat.le_of_ble_eq_true rfl)) dL_law_2540 ⟨by show _ ≤ 603072; omega, by show _ ≤ 7207018; omega⟩) (fun r2540 H locs hr2540 hP hD hS => ?_)
  subst hr2540
  have hP : va_P dg vwCl (brkU ck ka ad ra u2528.1 ++ (modelC ck mo (encZ S) F1 F2 F3 F4 (upS M 8 0 (1 - bI (bbR S x ≠ -1))) ++ (lngC ck oa u2528.2 ++ (dblC ck od E)))) H := hP
  have hD : va_D A (brkU ck ka ad ra u2528.1 ++ (modelC ck mo (encZ S) F1 F2 F3 F4 (upS M 8 0 (1 - bI (bbR S x ≠ -1))) ++ (lngC ck oa u2528.2 ++ (dblC ck od E)))) := hD
  have hcase : ∃ t9 : Int, (upS M 8 0 (1 - bI (bbR S x ≠ -1))) 8 0 = t9 ∧ r2528 = zI t9 ∧ (0 ≤ t9 ∧ t9 ≤ 3) ∧ (t9 = 0 → u2528.2 0 = (zI (itZ (bbR S x ≠ -1) (bbR S x))).toInt64) ∧ LI (775 * i + 3100) (u2528.1.1) (u2528.1.2.2.1) (u2528.1.2.2.2.1) (u2528.1.2.2.2.2.1) (u2528.1.2.2.2.2.2.2.1) (u2528.1.2.2.2.2.2.2.2.1) (u2528.1.2.2.2.2.2.2.2.2.2.2.1) (u2528.1.2.2.2.2.2.2.2.2.2.2.2) F2 F3 (upS M 8 0 (1 - bI (bbR S x ≠ -1))) ∧ S = u2528.1.2.2.2.2.1 := by
    rcases hw with ⟨e1, r1, hp, eu, ev⟩ | ⟨e1, hc, eu⟩
    · obtain ⟨rfl, hok⟩ := hp
      refine ⟨0, upS_s.trans (by (try unfold itZ); (try unfold bI); (repeat' split) <;> omega), e1, by decide, fun _ => ev.trans (congrArg (fun v9 : Int => (zI v9).toInt64) (by (try unfold itZ); (try unfold bI); (repeat' split) <;> omega)), ?_, (by rw [eu] <;> rfl)⟩
      rw [eu]
      exact (hLI.m (mK_0 M _)).mono (by omega) (by omega)
    · refine ⟨1, upS_s.trans (by (try unfold itZ); (try unfold bI); (repeat' split) <;> omega), e1, by decide, fun q => absurd q (by decide), ?_, (by rw [eu] <;> rfl)⟩
      rw [eu]
      exact (hLI.m (mK_0 M _)).mono (by omega) (by omega)
  obtain ⟨t9, ht9, hr9, ht9b, hval, hLI2, hS2⟩ := hcase
  have ht9r : zI ((upS M 8 0 (1 - bI (bbR S x ≠ -1))) 8 0) = r2528 := by rw [ht9, hr9]
  refine lv_istore (lv' := [(7, .int (zI (itZ (bbR S x ≠ -1) (bbR S x)))), (6, .int r2528), (0, .ref b), (1, .ref (ad 7 0)), (2, .ref (mo 0)), (3, .ref oa), (4, .ref od), (5, .int (zI i))]) hx hb dL_law_2543 hl (by decide) rfl (fun ls hl => ?_)
  refine lv_aload_n hx hb dL_law_2545 rfl (lv_at hl 4 rfl) ?_
  refine vp_callSi (W.runV (As := []) (rest := []) ⟨hx, hb, hml, hown, htg⟩ (m_thrown l dg ck mo S F1 F2 F3 F4 (upS M 8 0 (1 - bI (bbR S x ≠ -1)))) (cwV 0 htg (gwV wq_1627 wq_1628 wq_1629 wq_15 wq_1630) rfl rfl rfl (by decide +kernel) ⟨Nat.le_of_ble_eq_true rfl, Nat.le_of_ble_eq_true rfl⟩) (rd_preV hK (va_P_l (va_P_r hP)) 0 11 rfl rfl) rfl rfl hl.1 rfl (lv_room (Nat.le_of_ble_eq_true rfl)) dL_law_2546 ⟨by show _ ≤ 603072; omega, by show _ ≤ 7207018; omega⟩) (fun r2546 hr2546 => ?_)
  subst hr2546
  refine lv_iload hx hb dL_law_2549 (lv_at hl 1 rfl) ?_
  refine lv_icmp_eq (tgt := 2556) hx hb dL_law_2551 (by decide) (fun _ => ?_) (fun c9 => absurd ht9r c9)
  refine lv_iload hx hb dL_law_2556 (lv_at hl 1 rfl) ?_
  refine W.eq (g2 := F0 m 2558 ls [.int (zI t9)]) (by rw [hr9]) ?_
  refine x_if_ne (tgt := 2573) hx hb dL_law_2558 (by decide) (by omega) (fun c9 => ?_) (fun c9 => ?_)
  · refine lv_goto (tgt := 3323) hx hb dL_law_2573 (by decide) ?_
    refine W.widen (k := cells + 3) (n := slots + 18) (by omega) (by omega) ?_
    have hP : va_P dg vwCl (lawW ck ka ad ra mo oa od u2528.1 F1 F2 F3 F4 (upS M 8 0 (1 - bI (bbR S x ≠ -1))) u2528.2 E) H := va_P_eq (by rw [hS2] <;> rfl) hP
    have hD : va_D A (lawW ck ka ad ra mo oa od u2528.1 F1 F2 F3 F4 (upS M 8 0 (1 - bI (bbR S x ≠ -1))) u2528.2 E) := va_D_eq (by rw [hS2] <;> rfl) hD
    exact kk u2528.1 F1 F2 F3 F4 (upS M 8 0 (1 - bI (bbR S x ≠ -1))) u2528.2 E H locs ls hLI2 hP hD hS (lv_sub hl [2, 3, 4, 5, 6, 7] rfl)
  · have hv9 := hval (by omega)
    refine lv_aload_n hx hb dL_law_2561 rfl (lv_at hl 5 rfl) ?_
    refine x_iconst hx hb dL_law_2562 ?_
    refine va_lald hx hb hK hP 175 5 rfl rfl (zI_in (z := 0) (by decide) (by decide)) dL_law_2563 ?_
    refine lv_iload hx hb dL_law_2564 (lv_at hl 0 rfl) ?_
    refine lv_i2l hx hb dL_law_2566 rfl ?_
    refine W.lcmp hx hb dL_law_2567 ?_
    refine W.eq (g2 := F0 m 2568 ls [.int (zI 0)]) (congrArg (fun v9 => F0 m 2568 ls [.int v9]) ((congrArg (fun v9 => lg_cmp v9 _) hv9).trans (lg_self _))) ?_
    refine x_if_eq (tgt := 2573) hx hb dL_law_2568 (by decide) (by omega) (fun _ => ?_) (fun c => absurd rfl c)
    refine lv_goto (tgt := 3323) hx hb dL_law_2573 (by decide) ?_
    refine W.widen (k := cells + 3) (n := slots + 18) (by omega) (by omega) ?_
    have hP : va_P dg vwCl (lawW ck ka ad ra mo oa od u2528.1 F1 F2 F3 F4 (upS M 8 0 (1 - bI (bbR S x ≠ -1))) u2528.2 E) H := va_P_eq (by rw [hS2] <;> rfl) hP
    have hD : va_D A (lawW ck ka ad ra mo oa od u2528.1 F1 F2 F3 F4 (upS M 8 0 (1 - bI (bbR S x ≠ -1))) u2528.2 E) := va_D_eq (by rw [hS2] <;> rfl) hD
    exact kk u2528.1 F1 F2 F3 F4 (upS M 8 0 (1 - bI (bbR S x ≠ -1))) u2528.2 E H locs ls hLI2 hP hD hS (lv_sub hl [2, 3, 4, 5, 6, 7] rfl)

set_option maxHeartbeats 4000000 in
set_option maxRecDepth 100000 in
/-- the law: a call of tenantByCoins -/
theorem lc_47 {p : Program} {l : Launch} {e : Env} {s : State} {m : MethodId} {below : List Frame} {meth : Method} {c : Code} {dg : va_G} {ck : Nat → ClassId} {ka : Nat → Nat} {b L : Nat} {xs : Nat → Int32} {A : Nat → Prop} {ad ra : Nat → Nat → Nat} {mo : Nat → Nat} {oa od : Nat} {Qf : State → Prop} {i : Int} {cells slots : Nat} (C0 : LX p l s m c dg ck ka b L xs A) (hi : 0 ≤ i ∧ i + 4 ≤ L) (hcell : cells + 3 ≤ 603072) (hslot : slots + 18 ≤ 7207018) (kk : LKK p l e s m below meth c dg ck ka ad ra mo oa od b A Qf i cells slots) {Z O U X : Nat → Int} {S T P I : St} {V N Y : Int → Int} {Q : Nat → St} {F1 F2 F3 F4 : Int → Int} {M : St} {D : Nat → Int64} {E : Nat → UInt64} {H : Heap} {locs : List Loc} {ls : Array Slot} (hLI : LI (775 * i) Z U X S P I Y Q F2 F3 M) (hP : va_P dg vwCl (brkW ck ka ad ra Z O U X S T P I V N Y Q ++ (modelC ck mo (encZ S) F1 F2 F3 F4 M ++ (lngC ck oa D ++ (dblC ck od E)))) H) (hD : va_D A (brkW ck ka ad ra Z O U X S T P I V N Y Q ++ (modelC ck mo (encZ S) F1 F2 F3 F4 M ++ (lngC ck oa D ++ (dblC ck od E))))) (hS : va_S A s.heap H locs) (hl : lv_has ls 9 [(0, .ref b), (1, .ref (ad 7 0)), (2, .ref (mo 0)), (3, .ref oa), (4, .ref od), (5, .int (zI i))]) : W p l e room_1 s m #[Value.ref b] below meth c H locs cells slots Qf (F0 m 2576 ls []) := by
  obtain ⟨hx, hb, hml, hown, htg, hX, hbl, hbA, hK, hC, hA, hst, hL⟩ := id C0
  obtain ⟨hV, hlh, hls, hlt, hlo, hlf⟩ := id hLI
  obtain ⟨hn, hz, hk1, hq10, hhist⟩ := id hlh
  obtain ⟨hk2, hz0, hp10, hsn⟩ := id hls
  obtain ⟨hk3, hln, hk5, htx, hkv⟩ := id hlt
  obtain ⟨hk4, hu0, hy7, hY⟩ := id hlo
  obtain ⟨⟨hk5a, hz4⟩, ⟨hk6, hz1⟩, hk7, hk8⟩ := id hlf
  have hI := hV.bd
  have hs10 : ∀ i, 0 ≤ S 10 i ∧ S 10 i ≤ 1 := hI.2.2.2.2.2.2.2.2.2.2.2.2.2.1
  obtain ⟨x, hv_x⟩ : ∃ v9 : Int, (xs (i + 1).toNat).toInt = v9 := ⟨_, rfl⟩
  have rgx_x := xi_r (xs (i + 1).toNat)
  rw [hv_x] at rgx_x
  obtain ⟨y, hv_y⟩ : ∃ v9 : Int, (xs (i + 2).toNat).toInt = v9 := ⟨_, rfl⟩
  have rgx_y := xi_r (xs (i + 2).toNat)
  rw [hv_y] at rgx_y
  obtain ⟨z, hv_z⟩ : ∃ v9 : Int, (xs (i + 3).toNat).toInt = v9 := ⟨_, rfl⟩
  have rgx_z := xi_r (xs (i + 3).toNat)
  rw [hv_z] at rgx_z
  refine lv_aload_n hx hb dL_law_2576 rfl (lv_at hl 1 rfl) ?_
  refine lv_aload_n hx hb dL_law_2577 rfl (lv_at hl 0 rfl) ?_
  refine lv_iload hx hb dL_law_2578 (lv_at hl 5 rfl) ?_
  refine x_iconst hx hb dL_law_2580 ?_
  refine x_iadd hx hb dL_law_2581 ?_
  refine x_sld hx hb hX hbl hbA hS (by omega) (by omega) hv_x dL_law_2582 ?_
  refine lv_aload_n hx hb dL_law_2583 rfl (lv_at hl 3 rfl) ?_
  refine x_calliUB (wf := fun u2584 : BU × (Nat → Int64) => brkU ck ka ad ra u2584.1 ++ (modelC ck mo (encZ S) F1 F2 F3 F4 M ++ (lngC ck oa u2584.2 ++ (dblC ck od E)))) (M := brkW ck ka ad ra Z O U X S T P I V N Y Q ++ (lngC ck oa D)) (Mf := fun u2584 => brkU ck ka ad ra u2584.1 ++ (lngC ck oa u2584.2)) (N := modelC ck mo (encZ S) F1 F2 F3 F4 M ++ (dblC ck od E)) (cat_perm [brkW ck ka ad ra Z O U X S T P I V N Y Q, modelC ck mo (encZ S) F1 F2 F3 F4 M, lngC ck oa D, dblC ck od E] [0, 2] [1, 3] 4 rfl (by decide)) (fun u2584 => cat_perm [brkU ck ka ad ra u2584.1, modelC ck mo (encZ S) F1 F2 F3 F4 M, lngC ck oa u2584.2, dblC ck od E] [0, 2] [1, 3] 4 rfl (by decide)) hP hD hS hA (fun hPm hDm => vx_runSW (As := [.ref (ad 7 0), .int (zI x), .ref oa]) (rest := []) ⟨hx, hb, hml, hown, htg⟩ (w_tenantByCoins l dg ck ka ad ra Z O U X S T P I V N Y Q oa D x _ hI (by omega) hst) (vx_cwSW 3 htg (gwSW wq_1045 wq_1046 wq_0 wqL_tenantByCoins) rfl rfl rfl (by decide +kernel) ⟨Nat.le_of_ble_eq_true rfl, Nat.le_of_ble_eq_true rfl⟩) (wrK_preS hK hPm hDm hC hS hA) rfl rfl hl.1 rfl (lv_room (Nat.le_of_ble_eq_true rfl)) dL_law_2584 ⟨by show cells + 1 ≤ 603072; omega, by show slots + 6 ≤ 7207018; omega⟩) (fun r2584 u2584 H locs hw hP hD hS => ?_)
  have hP : va_P dg vwCl (brkU ck ka ad ra u2584.1 ++ (modelC ck mo (encZ S) F1 F2 F3 F4 M ++ (lngC ck oa u2584.2 ++ (dblC ck od E)))) H := hP
  have hD : va_D A (brkU ck ka ad ra u2584.1 ++ (modelC ck mo (encZ S) F1 F2 F3 F4 M ++ (lngC ck oa u2584.2 ++ (dblC ck od E)))) := hD
  refine lv_istore (lv' := [(6, .int r2584), (0, .ref b), (1, .ref (ad 7 0)), (2, .ref (mo 0)), (3, .ref oa), (4, .ref od), (5, .int (zI i))]) hx hb dL_law_2587 hl (by decide) rfl (fun ls hl => ?_)
  refine lv_aload_n hx hb dL_law_2589 rfl (lv_at hl 3 rfl) ?_
  refine lv_aload_n hx hb dL_law_2590 rfl (lv_at hl 1 rfl) ?_
  refine lv_iload hx hb dL_law_2591 (lv_at hl 6 rfl) ?_
  refine x_iconst hx hb dL_law_2593 ?_
  refine x_iadd hx hb dL_law_2594 ?_
  refine x_sld hx hb hX hbl hbA hS (by omega) (by omega) hv_x dL_law_2595 ?_
  refine x_calliB (ws' := brkU ck ka ad ra u2584.1 ++ (modelC ck mo (encZ S) F1 F2 F3 F4 (upS M 8 0 (1 - bI (tbC S x ≠ -1))) ++ (lngC ck oa u2584.2 ++ (dblC ck od E)))) (M := modelC ck mo (encZ S) F1 F2 F3 F4 M) (M' := modelC ck mo (encZ S) F1 F2 F3 F4 (upS M 8 0 (1 - bI (tbC S x ≠ -1)))) (N := brkU ck ka ad ra u2584.1 ++ (lngC ck oa u2584.2 ++ (dblC ck od E))) (cat_perm [brkU ck ka ad ra u2584.1, modelC ck mo (encZ S) F1 F2 F3 F4 M, lngC ck oa u2584.2, dblC ck od E] [1] [0, 2, 3] 4 rfl (by decide)) (cat_perm [brkU ck ka ad ra u2584.1, modelC ck mo (encZ S) F1 F2 F3 F4 (upS M 8 0 (1 - bI (tbC S x ≠ -1))), lngC ck oa u2584.2, dblC ck od E] [1] [0, 2, 3] 4 rfl (by decide)) hP hD hS hA (fun hPm hDm => va_runV (As := [.int (zI x)]) (rest := []) ⟨hx, hb, hml, hown, htg⟩ (m_tenantByCoins l dg ck mo S F1 F2 F3 F4 M x _ hI (by omega)) (cwV 1 htg (gwV wq_1986 wq_1987 wq_1988 wq_15 wq_1989) rfl rfl rfl (by decide +kernel) ⟨Nat.le_of_ble_eq_true rfl, Nat.le_of_ble_eq_true rfl⟩) (wr_preV hK hPm hDm 0 11 rfl rfl) rfl rfl hl.1 rfl (lv_room (Nat.le_of_ble_eq_true rfl)) dL_law_2596 ⟨by show _ ≤ 603072; omega, by show _ ≤ 7207018; omega⟩) (fun r2596 H locs hr2596 hP hD hS => ?_)
  subst hr2596
  have hP : va_P dg vwCl (brkU ck ka ad ra u2584.1 ++ (modelC ck mo (encZ S) F1 F2 F3 F4 (upS M 8 0 (1 - bI (tbC S x ≠ -1))) ++ (lngC ck oa u2584.2 ++ (dblC ck od E)))) H := hP
  have hD : va_D A (brkU ck ka ad ra u2584.1 ++ (modelC ck mo (encZ S) F1 F2 F3 F4 (upS M 8 0 (1 - bI (tbC S x ≠ -1))) ++ (lngC ck oa u2584.2 ++ (dblC ck od E)))) := hD
  have hcase : ∃ t9 : Int, (upS M 8 0 (1 - bI (tbC S x ≠ -1))) 8 0 = t9 ∧ r2584 = zI t9 ∧ (0 ≤ t9 ∧ t9 ≤ 3) ∧ (t9 = 0 → u2584.2 0 = (zI (itZ (tbC S x ≠ -1) (tbC S x))).toInt64) ∧ LI (775 * i + 3100) (u2584.1.1) (u2584.1.2.2.1) (u2584.1.2.2.2.1) (u2584.1.2.2.2.2.1) (u2584.1.2.2.2.2.2.2.1) (u2584.1.2.2.2.2.2.2.2.1) (u2584.1.2.2.2.2.2.2.2.2.2.2.1) (u2584.1.2.2.2.2.2.2.2.2.2.2.2) F2 F3 (upS M 8 0 (1 - bI (tbC S x ≠ -1))) ∧ S = u2584.1.2.2.2.2.1 := by
    rcases hw with ⟨e1, r1, hp, eu, ev⟩ | ⟨e1, hc, eu⟩
    · obtain ⟨rfl, hok⟩ := hp
      refine ⟨0, upS_s.trans (by (try unfold itZ); (try unfold bI); (repeat' split) <;> omega), e1, by decide, fun _ => ev.trans (congrArg (fun v9 : Int => (zI v9).toInt64) (by (try unfold itZ); (try unfold bI); (repeat' split) <;> omega)), ?_, (by rw [eu] <;> rfl)⟩
      rw [eu]
      exact (hLI.m (mK_0 M _)).mono (by omega) (by omega)
    · refine ⟨1, upS_s.trans (by (try unfold itZ); (try unfold bI); (repeat' split) <;> omega), e1, by decide, fun q => absurd q (by decide), ?_, (by rw [eu] <;> rfl)⟩
      rw [eu]
      exact (hLI.m (mK_0 M _)).mono (by omega) (by omega)
  obtain ⟨t9, ht9, hr9, ht9b, hval, hLI2, hS2⟩ := hcase
  have ht9r : zI ((upS M 8 0 (1 - bI (tbC S x ≠ -1))) 8 0) = r2584 := by rw [ht9, hr9]
  refine lv_istore (lv' := [(7, .int (zI (itZ (tbC S x ≠ -1) (tbC S x)))), (6, .int r2584), (0, .ref b), (1, .ref (ad 7 0)), (2, .ref (mo 0)), (3, .ref oa), (4, .ref od), (5, .int (zI i))]) hx hb dL_law_2599 hl (by decide) rfl (fun ls hl => ?_)
  refine lv_aload_n hx hb dL_law_2601 rfl (lv_at hl 4 rfl) ?_
  refine vp_callSi (W.runV (As := []) (rest := []) ⟨hx, hb, hml, hown, htg⟩ (m_thrown l dg ck mo S F1 F2 F3 F4 (upS M 8 0 (1 - bI (tbC S x ≠ -1)))) (cwV 0 htg (gwV wq_1627 wq_1628 wq_1629 wq_15 wq_1630) rfl rfl rfl (by decide +kernel) ⟨Nat.le_of_ble_eq_true rfl, Nat.le_of_ble_eq_true rfl⟩) (rd_preV hK (va_P_l (va_P_r hP)) 0 11 rfl rfl) rfl rfl hl.1 rfl (lv_room (Nat.le_of_ble_eq_true rfl)) dL_law_2602 ⟨by show _ ≤ 603072; omega, by show _ ≤ 7207018; omega⟩) (fun r2602 hr2602 => ?_)
  subst hr2602
  refine lv_iload hx hb dL_law_2605 (lv_at hl 1 rfl) ?_
  refine lv_icmp_eq (tgt := 2612) hx hb dL_law_2607 (by decide) (fun _ => ?_) (fun c9 => absurd ht9r c9)
  refine lv_iload hx hb dL_law_2612 (lv_at hl 1 rfl) ?_
  refine W.eq (g2 := F0 m 2614 ls [.int (zI t9)]) (by rw [hr9]) ?_
  refine x_if_ne (tgt := 2629) hx hb dL_law_2614 (by decide) (by omega) (fun c9 => ?_) (fun c9 => ?_)
  · refine lv_goto (tgt := 3323) hx hb dL_law_2629 (by decide) ?_
    refine W.widen (k := cells + 3) (n := slots + 18) (by omega) (by omega) ?_
    have hP : va_P dg vwCl (lawW ck ka ad ra mo oa od u2584.1 F1 F2 F3 F4 (upS M 8 0 (1 - bI (tbC S x ≠ -1))) u2584.2 E) H := va_P_eq (by rw [hS2] <;> rfl) hP
    have hD : va_D A (lawW ck ka ad ra mo oa od u2584.1 F1 F2 F3 F4 (upS M 8 0 (1 - bI (tbC S x ≠ -1))) u2584.2 E) := va_D_eq (by rw [hS2] <;> rfl) hD
    exact kk u2584.1 F1 F2 F3 F4 (upS M 8 0 (1 - bI (tbC S x ≠ -1))) u2584.2 E H locs ls hLI2 hP hD hS (lv_sub hl [2, 3, 4, 5, 6, 7] rfl)
  · have hv9 := hval (by omega)
    refine lv_aload_n hx hb dL_law_2617 rfl (lv_at hl 5 rfl) ?_
    refine x_iconst hx hb dL_law_2618 ?_
    refine va_lald hx hb hK hP 175 5 rfl rfl (zI_in (z := 0) (by decide) (by decide)) dL_law_2619 ?_
    refine lv_iload hx hb dL_law_2620 (lv_at hl 0 rfl) ?_
    refine lv_i2l hx hb dL_law_2622 rfl ?_
    refine W.lcmp hx hb dL_law_2623 ?_
    refine W.eq (g2 := F0 m 2624 ls [.int (zI 0)]) (congrArg (fun v9 => F0 m 2624 ls [.int v9]) ((congrArg (fun v9 => lg_cmp v9 _) hv9).trans (lg_self _))) ?_
    refine x_if_eq (tgt := 2629) hx hb dL_law_2624 (by decide) (by omega) (fun _ => ?_) (fun c => absurd rfl c)
    refine lv_goto (tgt := 3323) hx hb dL_law_2629 (by decide) ?_
    refine W.widen (k := cells + 3) (n := slots + 18) (by omega) (by omega) ?_
    have hP : va_P dg vwCl (lawW ck ka ad ra mo oa od u2584.1 F1 F2 F3 F4 (upS M 8 0 (1 - bI (tbC S x ≠ -1))) u2584.2 E) H := va_P_eq (by rw [hS2] <;> rfl) hP
    have hD : va_D A (lawW ck ka ad ra mo oa od u2584.1 F1 F2 F3 F4 (upS M 8 0 (1 - bI (tbC S x ≠ -1))) u2584.2 E) := va_D_eq (by rw [hS2] <;> rfl) hD
    exact kk u2584.1 F1 F2 F3 F4 (upS M 8 0 (1 - bI (tbC S x ≠ -1))) u2584.2 E H locs ls hLI2 hP hD hS (lv_sub hl [2, 3, 4, 5, 6, 7] rfl)

set_option maxHeartbeats 4000000 in
set_option maxRecDepth 100000 in
/-- the law: a call of syntaxErrorOffset -/
theorem lc_56 {p : Program} {l : Launch} {e : Env} {s : State} {m : MethodId} {below : List Frame} {meth : Method} {c : Code} {dg : va_G} {ck : Nat → ClassId} {ka : Nat → Nat} {b L : Nat} {xs : Nat → Int32} {A : Nat → Prop} {ad ra : Nat → Nat → Nat} {mo : Nat → Nat} {oa od : Nat} {Qf : State → Prop} {i : Int} {cells slots : Nat} (C0 : LX p l s m c dg ck ka b L xs A) (hi : 0 ≤ i ∧ i + 4 ≤ L) (hcell : cells + 3 ≤ 603072) (hslot : slots + 18 ≤ 7207018) (kk : LKK p l e s m below meth c dg ck ka ad ra mo oa od b A Qf i cells slots) {Z O U X : Nat → Int} {S T P I : St} {V N Y : Int → Int} {Q : Nat → St} {F1 F2 F3 F4 : Int → Int} {M : St} {D : Nat → Int64} {E : Nat → UInt64} {H : Heap} {locs : List Loc} {ls : Array Slot} (hLI : LI (775 * i) Z U X S P I Y Q F2 F3 M) (hP : va_P dg vwCl (brkW ck ka ad ra Z O U X S T P I V N Y Q ++ (modelC ck mo (encZ S) F1 F2 F3 F4 M ++ (lngC ck oa D ++ (dblC ck od E)))) H) (hD : va_D A (brkW ck ka ad ra Z O U X S T P I V N Y Q ++ (modelC ck mo (encZ S) F1 F2 F3 F4 M ++ (lngC ck oa D ++ (dblC ck od E))))) (hS : va_S A s.heap H locs) (hl : lv_has ls 9 [(0, .ref b), (1, .ref (ad 7 0)), (2, .ref (mo 0)), (3, .ref oa), (4, .ref od), (5, .int (zI i))]) : W p l e room_1 s m #[Value.ref b] below meth c H locs cells slots Qf (F0 m 3046 ls []) := by
  obtain ⟨hx, hb, hml, hown, htg, hX, hbl, hbA, hK, hC, hA, hst, hL⟩ := id C0
  obtain ⟨hV, hlh, hls, hlt, hlo, hlf⟩ := id hLI
  obtain ⟨hn, hz, hk1, hq10, hhist⟩ := id hlh
  obtain ⟨hk2, hz0, hp10, hsn⟩ := id hls
  obtain ⟨hk3, hln, hk5, htx, hkv⟩ := id hlt
  obtain ⟨hk4, hu0, hy7, hY⟩ := id hlo
  obtain ⟨⟨hk5a, hz4⟩, ⟨hk6, hz1⟩, hk7, hk8⟩ := id hlf
  have hI := hV.bd
  have hs10 : ∀ i, 0 ≤ S 10 i ∧ S 10 i ≤ 1 := hI.2.2.2.2.2.2.2.2.2.2.2.2.2.1
  obtain ⟨x, hv_x⟩ : ∃ v9 : Int, (xs (i + 1).toNat).toInt = v9 := ⟨_, rfl⟩
  have rgx_x := xi_r (xs (i + 1).toNat)
  rw [hv_x] at rgx_x
  obtain ⟨y, hv_y⟩ : ∃ v9 : Int, (xs (i + 2).toNat).toInt = v9 := ⟨_, rfl⟩
  have rgx_y := xi_r (xs (i + 2).toNat)
  rw [hv_y] at rgx_y
  obtain ⟨z, hv_z⟩ : ∃ v9 : Int, (xs (i + 3).toNat).toInt = v9 := ⟨_, rfl⟩
  have rgx_z := xi_r (xs (i + 3).toNat)
  rw [hv_z] at rgx_z
  refine lv_aload_n hx hb dL_law_3046 rfl (lv_at hl 1 rfl) ?_
  refine lv_aload_n hx hb dL_law_3047 rfl (lv_at hl 3 rfl) ?_
  refine x_calliUB (wf := fun u3048 : BU × (Nat → Int64) => brkU ck ka ad ra u3048.1 ++ (modelC ck mo (encZ S) F1 F2 F3 F4 M ++ (lngC ck oa u3048.2 ++ (dblC ck od E)))) (M := brkW ck ka ad ra Z O U X S T P I V N Y Q ++ (lngC ck oa D)) (Mf := fun u3048 => brkU ck ka ad ra u3048.1 ++ (lngC ck oa u3048.2)) (N := modelC ck mo (encZ S) F1 F2 F3 F4 M ++ (dblC ck od E)) (cat_perm [brkW ck ka ad ra Z O U X S T P I V N Y Q, modelC ck mo (encZ S) F1 F2 F3 F4 M, lngC ck oa D, dblC ck od E] [0, 2] [1, 3] 4 rfl (by decide)) (fun u3048 => cat_perm [brkU ck ka ad ra u3048.1, modelC ck mo (encZ S) F1 F2 F3 F4 M, lngC ck oa u3048.2, dblC ck od E] [0, 2] [1, 3] 4 rfl (by decide)) hP hD hS hA (fun hPm hDm => vx_runSW (As := [.ref (ad 7 0), .ref oa]) (rest := []) ⟨hx, hb, hml, hown, htg⟩ (w_syntaxErrorOffset l dg ck ka ad ra Z O U X S T P I V N Y Q oa D  _ (by omega) hst) (vx_cwSW 2 htg (gwSW wq_1505 wq_1506 wq_0 wqL_syntaxErrorOffset) rfl rfl rfl (by decide +kernel) ⟨Nat.le_of_ble_eq_true rfl, Nat.le_of_ble_eq_true rfl⟩) (wrK_preS hK hPm hDm hC hS hA) rfl rfl hl.1 rfl (lv_room (Nat.le_of_ble_eq_true rfl)) dL_law_3048 ⟨by show cells + 1 ≤ 603072; omega, by show slots + 6 ≤ 7207018; omega⟩) (fun r3048 u3048 H locs hw hP hD hS => ?_)
  have hP : va_P dg vwCl (brkU ck ka ad ra u3048.1 ++ (modelC ck mo (encZ S) F1 F2 F3 F4 M ++ (lngC ck oa u3048.2 ++ (dblC ck od E)))) H := hP
  have hD : va_D A (brkU ck ka ad ra u3048.1 ++ (modelC ck mo (encZ S) F1 F2 F3 F4 M ++ (lngC ck oa u3048.2 ++ (dblC ck od E)))) := hD
  refine lv_istore (lv' := [(6, .int r3048), (0, .ref b), (1, .ref (ad 7 0)), (2, .ref (mo 0)), (3, .ref oa), (4, .ref od), (5, .int (zI i))]) hx hb dL_law_3051 hl (by decide) rfl (fun ls hl => ?_)
  refine lv_aload_n hx hb dL_law_3053 rfl (lv_at hl 3 rfl) ?_
  refine x_calliB (ws' := brkU ck ka ad ra u3048.1 ++ (modelC ck mo (encZ S) F1 F2 F3 F4 (upS M 8 0 (bI (M 8 5 = -1))) ++ (lngC ck oa u3048.2 ++ (dblC ck od E)))) (M := modelC ck mo (encZ S) F1 F2 F3 F4 M) (M' := modelC ck mo (encZ S) F1 F2 F3 F4 (upS M 8 0 (bI (M 8 5 = -1)))) (N := brkU ck ka ad ra u3048.1 ++ (lngC ck oa u3048.2 ++ (dblC ck od E))) (cat_perm [brkU ck ka ad ra u3048.1, modelC ck mo (encZ S) F1 F2 F3 F4 M, lngC ck oa u3048.2, dblC ck od E] [1] [0, 2, 3] 4 rfl (by decide)) (cat_perm [brkU ck ka ad ra u3048.1, modelC ck mo (encZ S) F1 F2 F3 F4 (upS M 8 0 (bI (M 8 5 = -1))), lngC ck oa u3048.2, dblC ck od E] [1] [0, 2, 3] 4 rfl (by decide)) hP hD hS hA (fun hPm hDm => va_runV (As := []) (rest := []) ⟨hx, hb, hml, hown, htg⟩ (m_syntaxErrorOffset l dg ck mo S F1 F2 F3 F4 M  _ (by omega)) (cwV 0 htg (gwV wq_2071 wq_2072 wq_2073 wq_15 wq_2074) rfl rfl rfl (by decide +kernel) ⟨Nat.le_of_ble_eq_true rfl, Nat.le_of_ble_eq_true rfl⟩) (wr_preV hK hPm hDm 0 11 rfl rfl) rfl rfl hl.1 rfl (lv_room (Nat.le_of_ble_eq_true rfl)) dL_law_3054 ⟨by show _ ≤ 603072; omega, by show _ ≤ 7207018; omega⟩) (fun r3054 H locs hr3054 hP hD hS => ?_)
  subst hr3054
  have hP : va_P dg vwCl (brkU ck ka ad ra u3048.1 ++ (modelC ck mo (encZ S) F1 F2 F3 F4 (upS M 8 0 (bI (M 8 5 = -1))) ++ (lngC ck oa u3048.2 ++ (dblC ck od E)))) H := hP
  have hD : va_D A (brkU ck ka ad ra u3048.1 ++ (modelC ck mo (encZ S) F1 F2 F3 F4 (upS M 8 0 (bI (M 8 5 = -1))) ++ (lngC ck oa u3048.2 ++ (dblC ck od E)))) := hD
  have hcase : ∃ t9 : Int, (upS M 8 0 (bI (M 8 5 = -1))) 8 0 = t9 ∧ r3048 = zI t9 ∧ (0 ≤ t9 ∧ t9 ≤ 3) ∧ (t9 = 0 → u3048.2 0 = (zI (itZ (M 8 5 ≠ -1) (M 8 5))).toInt64) ∧ LI (775 * i + 3100) (u3048.1.1) (u3048.1.2.2.1) (u3048.1.2.2.2.1) (u3048.1.2.2.2.2.1) (u3048.1.2.2.2.2.2.2.1) (u3048.1.2.2.2.2.2.2.2.1) (u3048.1.2.2.2.2.2.2.2.2.2.2.1) (u3048.1.2.2.2.2.2.2.2.2.2.2.2) F2 F3 (upS M 8 0 (bI (M 8 5 = -1))) ∧ S = u3048.1.2.2.2.2.1 := by
    rcases hw with ⟨e1, r1, hp, eu, ev⟩ | ⟨e1, hc, eu⟩
    · obtain ⟨rfl, hok⟩ := hp
      refine ⟨0, upS_s.trans (by (try unfold itZ); (try unfold bI); (repeat' split) <;> omega), e1, by decide, fun _ => ev.trans (congrArg (fun v9 : Int => (zI v9).toInt64) (by (try unfold itZ); (try unfold bI); (repeat' split) <;> omega)), ?_, (by rw [eu] <;> rfl)⟩
      rw [eu]
      exact (hLI.m (mK_0 M _)).mono (by omega) (by omega)
    · refine ⟨1, upS_s.trans (by (try unfold itZ); (try unfold bI); (repeat' split) <;> omega), e1, by decide, fun q => absurd q (by decide), ?_, (by rw [eu] <;> rfl)⟩
      rw [eu]
      exact (hLI.m (mK_0 M _)).mono (by omega) (by omega)
  obtain ⟨t9, ht9, hr9, ht9b, hval, hLI2, hS2⟩ := hcase
  have ht9r : zI ((upS M 8 0 (bI (M 8 5 = -1))) 8 0) = r3048 := by rw [ht9, hr9]
  refine lv_istore (lv' := [(7, .int (zI (itZ (M 8 5 ≠ -1) (M 8 5)))), (6, .int r3048), (0, .ref b), (1, .ref (ad 7 0)), (2, .ref (mo 0)), (3, .ref oa), (4, .ref od), (5, .int (zI i))]) hx hb dL_law_3057 hl (by decide) rfl (fun ls hl => ?_)
  refine lv_aload_n hx hb dL_law_3059 rfl (lv_at hl 4 rfl) ?_
  refine vp_callSi (W.runV (As := []) (rest := []) ⟨hx, hb, hml, hown, htg⟩ (m_thrown l dg ck mo S F1 F2 F3 F4 (upS M 8 0 (bI (M 8 5 = -1)))) (cwV 0 htg (gwV wq_1627 wq_1628 wq_1629 wq_15 wq_1630) rfl rfl rfl (by decide +kernel) ⟨Nat.le_of_ble_eq_true rfl, Nat.le_of_ble_eq_true rfl⟩) (rd_preV hK (va_P_l (va_P_r hP)) 0 11 rfl rfl) rfl rfl hl.1 rfl (lv_room (Nat.le_of_ble_eq_true rfl)) dL_law_3060 ⟨by show _ ≤ 603072; omega, by show _ ≤ 7207018; omega⟩) (fun r3060 hr3060 => ?_)
  subst hr3060
  refine lv_iload hx hb dL_law_3063 (lv_at hl 1 rfl) ?_
  refine lv_icmp_eq (tgt := 3070) hx hb dL_law_3065 (by decide) (fun _ => ?_) (fun c9 => absurd ht9r c9)
  refine lv_iload hx hb dL_law_3070 (lv_at hl 1 rfl) ?_
  refine W.eq (g2 := F0 m 3072 ls [.int (zI t9)]) (by rw [hr9]) ?_
  refine x_if_ne (tgt := 3087) hx hb dL_law_3072 (by decide) (by omega) (fun c9 => ?_) (fun c9 => ?_)
  · refine lv_goto (tgt := 3323) hx hb dL_law_3087 (by decide) ?_
    refine W.widen (k := cells + 3) (n := slots + 18) (by omega) (by omega) ?_
    have hP : va_P dg vwCl (lawW ck ka ad ra mo oa od u3048.1 F1 F2 F3 F4 (upS M 8 0 (bI (M 8 5 = -1))) u3048.2 E) H := va_P_eq (by rw [hS2] <;> rfl) hP
    have hD : va_D A (lawW ck ka ad ra mo oa od u3048.1 F1 F2 F3 F4 (upS M 8 0 (bI (M 8 5 = -1))) u3048.2 E) := va_D_eq (by rw [hS2] <;> rfl) hD
    exact kk u3048.1 F1 F2 F3 F4 (upS M 8 0 (bI (M 8 5 = -1))) u3048.2 E H locs ls hLI2 hP hD hS (lv_sub hl [2, 3, 4, 5, 6, 7] rfl)
  · have hv9 := hval (by omega)
    refine lv_aload_n hx hb dL_law_3075 rfl (lv_at hl 5 rfl) ?_
    refine x_iconst hx hb dL_law_3076 ?_
    refine va_lald hx hb hK hP 175 5 rfl rfl (zI_in (z := 0) (by decide) (by decide)) dL_law_3077 ?_
    refine lv_iload hx hb dL_law_3078 (lv_at hl 0 rfl) ?_
    refine lv_i2l hx hb dL_law_3080 rfl ?_
    refine W.lcmp hx hb dL_law_3081 ?_
    refine W.eq (g2 := F0 m 3082 ls [.int (zI 0)]) (congrArg (fun v9 => F0 m 3082 ls [.int v9]) ((congrArg (fun v9 => lg_cmp v9 _) hv9).trans (lg_self _))) ?_
    refine x_if_eq (tgt := 3087) hx hb dL_law_3082 (by decide) (by omega) (fun _ => ?_) (fun c => absurd rfl c)
    refine lv_goto (tgt := 3323) hx hb dL_law_3087 (by decide) ?_
    refine W.widen (k := cells + 3) (n := slots + 18) (by omega) (by omega) ?_
    have hP : va_P dg vwCl (lawW ck ka ad ra mo oa od u3048.1 F1 F2 F3 F4 (upS M 8 0 (bI (M 8 5 = -1))) u3048.2 E) H := va_P_eq (by rw [hS2] <;> rfl) hP
    have hD : va_D A (lawW ck ka ad ra mo oa od u3048.1 F1 F2 F3 F4 (upS M 8 0 (bI (M 8 5 = -1))) u3048.2 E) := va_D_eq (by rw [hS2] <;> rfl) hD
    exact kk u3048.1 F1 F2 F3 F4 (upS M 8 0 (bI (M 8 5 = -1))) u3048.2 E H locs ls hLI2 hP hD hS (lv_sub hl [2, 3, 4, 5, 6, 7] rfl)

set_option maxHeartbeats 4000000 in
set_option maxRecDepth 100000 in
/-- the law: a call of rejectionReason -/
theorem lc_57 {p : Program} {l : Launch} {e : Env} {s : State} {m : MethodId} {below : List Frame} {meth : Method} {c : Code} {dg : va_G} {ck : Nat → ClassId} {ka : Nat → Nat} {b L : Nat} {xs : Nat → Int32} {A : Nat → Prop} {ad ra : Nat → Nat → Nat} {mo : Nat → Nat} {oa od : Nat} {Qf : State → Prop} {i : Int} {cells slots : Nat} (C0 : LX p l s m c dg ck ka b L xs A) (hi : 0 ≤ i ∧ i + 4 ≤ L) (hcell : cells + 3 ≤ 603072) (hslot : slots + 18 ≤ 7207018) (kk : LKK p l e s m below meth c dg ck ka ad ra mo oa od b A Qf i cells slots) {Z O U X : Nat → Int} {S T P I : St} {V N Y : Int → Int} {Q : Nat → St} {F1 F2 F3 F4 : Int → Int} {M : St} {D : Nat → Int64} {E : Nat → UInt64} {H : Heap} {locs : List Loc} {ls : Array Slot} (hLI : LI (775 * i) Z U X S P I Y Q F2 F3 M) (hP : va_P dg vwCl (brkW ck ka ad ra Z O U X S T P I V N Y Q ++ (modelC ck mo (encZ S) F1 F2 F3 F4 M ++ (lngC ck oa D ++ (dblC ck od E)))) H) (hD : va_D A (brkW ck ka ad ra Z O U X S T P I V N Y Q ++ (modelC ck mo (encZ S) F1 F2 F3 F4 M ++ (lngC ck oa D ++ (dblC ck od E))))) (hS : va_S A s.heap H locs) (hl : lv_has ls 9 [(0, .ref b), (1, .ref (ad 7 0)), (2, .ref (mo 0)), (3, .ref oa), (4, .ref od), (5, .int (zI i))]) : W p l e room_1 s m #[Value.ref b] below meth c H locs cells slots Qf (F0 m 3090 ls []) := by
  obtain ⟨hx, hb, hml, hown, htg, hX, hbl, hbA, hK, hC, hA, hst, hL⟩ := id C0
  obtain ⟨hV, hlh, hls, hlt, hlo, hlf⟩ := id hLI
  obtain ⟨hn, hz, hk1, hq10, hhist⟩ := id hlh
  obtain ⟨hk2, hz0, hp10, hsn⟩ := id hls
  obtain ⟨hk3, hln, hk5, htx, hkv⟩ := id hlt
  obtain ⟨hk4, hu0, hy7, hY⟩ := id hlo
  obtain ⟨⟨hk5a, hz4⟩, ⟨hk6, hz1⟩, hk7, hk8⟩ := id hlf
  have hI := hV.bd
  have hs10 : ∀ i, 0 ≤ S 10 i ∧ S 10 i ≤ 1 := hI.2.2.2.2.2.2.2.2.2.2.2.2.2.1
  obtain ⟨x, hv_x⟩ : ∃ v9 : Int, (xs (i + 1).toNat).toInt = v9 := ⟨_, rfl⟩
  have rgx_x := xi_r (xs (i + 1).toNat)
  rw [hv_x] at rgx_x
  obtain ⟨y, hv_y⟩ : ∃ v9 : Int, (xs (i + 2).toNat).toInt = v9 := ⟨_, rfl⟩
  have rgx_y := xi_r (xs (i + 2).toNat)
  rw [hv_y] at rgx_y
  obtain ⟨z, hv_z⟩ : ∃ v9 : Int, (xs (i + 3).toNat).toInt = v9 := ⟨_, rfl⟩
  have rgx_z := xi_r (xs (i + 3).toNat)
  rw [hv_z] at rgx_z
  refine lv_aload_n hx hb dL_law_3090 rfl (lv_at hl 1 rfl) ?_
  refine lv_aload_n hx hb dL_law_3091 rfl (lv_at hl 3 rfl) ?_
  refine x_calliUB (wf := fun u3092 : BU × (Nat → Int64) => brkU ck ka ad ra u3092.1 ++ (modelC ck mo (encZ S) F1 F2 F3 F4 M ++ (lngC ck oa u3092.2 ++ (dblC ck od E)))) (M := brkW ck ka ad ra Z O U X S T P I V N Y Q ++ (lngC ck oa D)) (Mf := fun u3092 => brkU ck ka ad ra u3092.1 ++ (lngC ck oa u3092.2)) (N := modelC ck mo (encZ S) F1 F2 F3 F4 M ++ (dblC ck od E)) (cat_perm [brkW ck ka ad ra Z O U X S T P I V N Y Q, modelC ck mo (encZ S) F1 F2 F3 F4 M, lngC ck oa D, dblC ck od E] [0, 2] [1, 3] 4 rfl (by decide)) (fun u3092 => cat_perm [brkU ck ka ad ra u3092.1, modelC ck mo (encZ S) F1 F2 F3 F4 M, lngC ck oa u3092.2, dblC ck od E] [0, 2] [1, 3] 4 rfl (by decide)) hP hD hS hA (fun hPm hDm => vx_runSW (As := [.ref (ad 7 0), .ref oa]) (rest := []) ⟨hx, hb, hml, hown, htg⟩ (w_rejectionReason l dg ck ka ad ra Z O U X S T P I V N Y Q oa D  _ (by omega) hst) (vx_cwSW 2 htg (gwSW wq_1512 wq_1513 wq_0 wqL_rejectionReason) rfl rfl rfl (by decide +kernel) ⟨Nat.le_of_ble_eq_true rfl, Nat.le_of_ble_eq_true rfl⟩) (wrK_preS hK hPm hDm hC hS hA) rfl rfl hl.1 rfl (lv_room (Nat.le_of_ble_eq_true rfl)) dL_law_3092 ⟨by show cells + 1 ≤ 603072; omega, by show slots + 6 ≤ 7207018; omega⟩) (fun r3092 u3092 H locs hw hP hD hS => ?_)
  have hP : va_P dg vwCl (brkU ck ka ad ra u3092.1 ++ (modelC ck mo (encZ S) F1 F2 F3 F4 M ++ (lngC ck oa u3092.2 ++ (dblC ck od E)))) H := hP
  have hD : va_D A (brkU ck ka ad ra u3092.1 ++ (modelC ck mo (encZ S) F1 F2 F3 F4 M ++ (lngC ck oa u3092.2 ++ (dblC ck od E)))) := hD
  refine lv_istore (lv' := [(6, .int r3092), (0, .ref b), (1, .ref (ad 7 0)), (2, .ref (mo 0)), (3, .ref oa), (4, .ref od), (5, .int (zI i))]) hx hb dL_law_3095 hl (by decide) rfl (fun ls hl => ?_)
  refine lv_aload_n hx hb dL_law_3097 rfl (lv_at hl 3 rfl) ?_
  refine x_calliB (ws' := brkU ck ka ad ra u3092.1 ++ (modelC ck mo (encZ S) F1 F2 F3 F4 (upS M 8 0 (bI (M 8 6 = 0))) ++ (lngC ck oa u3092.2 ++ (dblC ck od E)))) (M := modelC ck mo (encZ S) F1 F2 F3 F4 M) (M' := modelC ck mo (encZ S) F1 F2 F3 F4 (upS M 8 0 (bI (M 8 6 = 0)))) (N := brkU ck ka ad ra u3092.1 ++ (lngC ck oa u3092.2 ++ (dblC ck od E))) (cat_perm [brkU ck ka ad ra u3092.1, modelC ck mo (encZ S) F1 F2 F3 F4 M, lngC ck oa u3092.2, dblC ck od E] [1] [0, 2, 3] 4 rfl (by decide)) (cat_perm [brkU ck ka ad ra u3092.1, modelC ck mo (encZ S) F1 F2 F3 F4 (upS M 8 0 (bI (M 8 6 = 0))), lngC ck oa u3092.2, dblC ck od E] [1] [0, 2, 3] 4 rfl (by decide)) hP hD hS hA (fun hPm hDm => va_runV (As := []) (rest := []) ⟨hx, hb, hml, hown, htg⟩ (m_rejectionReason l dg ck mo S F1 F2 F3 F4 M  _ (by omega)) (cwV 0 htg (gwV wq_2075 wq_2076 wq_2077 wq_15 wq_2078) rfl rfl rfl (by decide +kernel) ⟨Nat.le_of_ble_eq_true rfl, Nat.le_of_ble_eq_true rfl⟩) (wr_preV hK hPm hDm 0 11 rfl rfl) rfl rfl hl.1 rfl (lv_room (Nat.le_of_ble_eq_true rfl)) dL_law_3098 ⟨by show _ ≤ 603072; omega, by show _ ≤ 7207018; omega⟩) (fun r3098 H locs hr3098 hP hD hS => ?_)
  subst hr3098
  have hP : va_P dg vwCl (brkU ck ka ad ra u3092.1 ++ (modelC ck mo (encZ S) F1 F2 F3 F4 (upS M 8 0 (bI (M 8 6 = 0))) ++ (lngC ck oa u3092.2 ++ (dblC ck od E)))) H := hP
  have hD : va_D A (brkU ck ka ad ra u3092.1 ++ (modelC ck mo (encZ S) F1 F2 F3 F4 (upS M 8 0 (bI (M 8 6 = 0))) ++ (lngC ck oa u3092.2 ++ (dblC ck od E)))) := hD
  have hcase : ∃ t9 : Int, (upS M 8 0 (bI (M 8 6 = 0))) 8 0 = t9 ∧ r3092 = zI t9 ∧ (0 ≤ t9 ∧ t9 ≤ 3) ∧ (t9 = 0 → u3092.2 0 = (zI (M 8 6)).toInt64) ∧ LI (775 * i + 3100) (u3092.1.1) (u3092.1.2.2.1) (u3092.1.2.2.2.1) (u3092.1.2.2.2.2.1) (u3092.1.2.2.2.2.2.2.1) (u3092.1.2.2.2.2.2.2.2.1) (u3092.1.2.2.2.2.2.2.2.2.2.2.1) (u3092.1.2.2.2.2.2.2.2.2.2.2.2) F2 F3 (upS M 8 0 (bI (M 8 6 = 0))) ∧ S = u3092.1.2.2.2.2.1 := by
    rcases hw with ⟨e1, r1, hp, eu, ev⟩ | ⟨e1, hc, eu⟩
    · obtain ⟨rfl, hok⟩ := hp
      refine ⟨0, upS_s.trans (by (try unfold itZ); (try unfold bI); (repeat' split) <;> omega), e1, by decide, fun _ => ev.trans (congrArg (fun v9 : Int => (zI v9).toInt64) (by (try unfold itZ); (try unfold bI); (repeat' split) <;> omega)), ?_, (by rw [eu] <;> rfl)⟩
      rw [eu]
      exact (hLI.m (mK_0 M _)).mono (by omega) (by omega)
    · refine ⟨1, upS_s.trans (by (try unfold itZ); (try unfold bI); (repeat' split) <;> omega), e1, by decide, fun q => absurd q (by decide), ?_, (by rw [eu] <;> rfl)⟩
      rw [eu]
      exact (hLI.m (mK_0 M _)).mono (by omega) (by omega)
  obtain ⟨t9, ht9, hr9, ht9b, hval, hLI2, hS2⟩ := hcase
  have ht9r : zI ((upS M 8 0 (bI (M 8 6 = 0))) 8 0) = r3092 := by rw [ht9, hr9]
  refine lv_istore (lv' := [(7, .int (zI (M 8 6))), (6, .int r3092), (0, .ref b), (1, .ref (ad 7 0)), (2, .ref (mo 0)), (3, .ref oa), (4, .ref od), (5, .int (zI i))]) hx hb dL_law_3101 hl (by decide) rfl (fun ls hl => ?_)
  refine lv_aload_n hx hb dL_law_3103 rfl (lv_at hl 4 rfl) ?_
  refine vp_callSi (W.runV (As := []) (rest := []) ⟨hx, hb, hml, hown, htg⟩ (m_thrown l dg ck mo S F1 F2 F3 F4 (upS M 8 0 (bI (M 8 6 = 0)))) (cwV 0 htg (gwV wq_1627 wq_1628 wq_1629 wq_15 wq_1630) rfl rfl rfl (by decide +kernel) ⟨Nat.le_of_ble_eq_true rfl, Nat.le_of_ble_eq_true rfl⟩) (rd_preV hK (va_P_l (va_P_r hP)) 0 11 rfl rfl) rfl rfl hl.1 rfl (lv_room (Nat.le_of_ble_eq_true rfl)) dL_law_3104 ⟨by show _ ≤ 603072; omega, by show _ ≤ 7207018; omega⟩) (fun r3104 hr3104 => ?_)
  subst hr3104
  refine lv_iload hx hb dL_law_3107 (lv_at hl 1 rfl) ?_
  refine lv_icmp_eq (tgt := 3114) hx hb dL_law_3109 (by decide) (fun _ => ?_) (fun c9 => absurd ht9r c9)
  refine lv_iload hx hb dL_law_3114 (lv_at hl 1 rfl) ?_
  refine W.eq (g2 := F0 m 3116 ls [.int (zI t9)]) (by rw [hr9]) ?_
  refine x_if_ne (tgt := 3131) hx hb dL_law_3116 (by decide) (by omega) (fun c9 => ?_) (fun c9 => ?_)
  · refine lv_goto (tgt := 3323) hx hb dL_law_3131 (by decide) ?_
    refine W.widen (k := cells + 3) (n := slots + 18) (by omega) (by omega) ?_
    have hP : va_P dg vwCl (lawW ck ka ad ra mo oa od u3092.1 F1 F2 F3 F4 (upS M 8 0 (bI (M 8 6 = 0))) u3092.2 E) H := va_P_eq (by rw [hS2] <;> rfl) hP
    have hD : va_D A (lawW ck ka ad ra mo oa od u3092.1 F1 F2 F3 F4 (upS M 8 0 (bI (M 8 6 = 0))) u3092.2 E) := va_D_eq (by rw [hS2] <;> rfl) hD
    exact kk u3092.1 F1 F2 F3 F4 (upS M 8 0 (bI (M 8 6 = 0))) u3092.2 E H locs ls hLI2 hP hD hS (lv_sub hl [2, 3, 4, 5, 6, 7] rfl)
  · have hv9 := hval (by omega)
    refine lv_aload_n hx hb dL_law_3119 rfl (lv_at hl 5 rfl) ?_
    refine x_iconst hx hb dL_law_3120 ?_
    refine va_lald hx hb hK hP 175 5 rfl rfl (zI_in (z := 0) (by decide) (by decide)) dL_law_3121 ?_
    refine lv_iload hx hb dL_law_3122 (lv_at hl 0 rfl) ?_
    refine lv_i2l hx hb dL_law_3124 rfl ?_
    refine W.lcmp hx hb dL_law_3125 ?_
    refine W.eq (g2 := F0 m 3126 ls [.int (zI 0)]) (congrArg (fun v9 => F0 m 3126 ls [.int v9]) ((congrArg (fun v9 => lg_cmp v9 _) hv9).trans (lg_self _))) ?_
    refine x_if_eq (tgt := 3131) hx hb dL_law_3126 (by decide) (by omega) (fun _ => ?_) (fun c => absurd rfl c)
    refine lv_goto (tgt := 3323) hx hb dL_law_3131 (by decide) ?_
    refine W.widen (k := cells + 3) (n := slots + 18) (by omega) (by omega) ?_
    have hP : va_P dg vwCl (lawW ck ka ad ra mo oa od u3092.1 F1 F2 F3 F4 (upS M 8 0 (bI (M 8 6 = 0))) u3092.2 E) H := va_P_eq (by rw [hS2] <;> rfl) hP
    have hD : va_D A (lawW ck ka ad ra mo oa od u3092.1 F1 F2 F3 F4 (upS M 8 0 (bI (M 8 6 = 0))) u3092.2 E) := va_D_eq (by rw [hS2] <;> rfl) hD
    exact kk u3092.1 F1 F2 F3 F4 (upS M 8 0 (bI (M 8 6 = 0))) u3092.2 E H locs ls hLI2 hP hD hS (lv_sub hl [2, 3, 4, 5, 6, 7] rfl)

set_option maxHeartbeats 4000000 in
set_option maxRecDepth 100000 in
/-- the law: a call of rejectionDetail -/
theorem lc_58 {p : Program} {l : Launch} {e : Env} {s : State} {m : MethodId} {below : List Frame} {meth : Method} {c : Code} {dg : va_G} {ck : Nat → ClassId} {ka : Nat → Nat} {b L : Nat} {xs : Nat → Int32} {A : Nat → Prop} {ad ra : Nat → Nat → Nat} {mo : Nat → Nat} {oa od : Nat} {Qf : State → Prop} {i : Int} {cells slots : Nat} (C0 : LX p l s m c dg ck ka b L xs A) (hi : 0 ≤ i ∧ i + 4 ≤ L) (hcell : cells + 3 ≤ 603072) (hslot : slots + 18 ≤ 7207018) (kk : LKK p l e s m below meth c dg ck ka ad ra mo oa od b A Qf i cells slots) {Z O U X : Nat → Int} {S T P I : St} {V N Y : Int → Int} {Q : Nat → St} {F1 F2 F3 F4 : Int → Int} {M : St} {D : Nat → Int64} {E : Nat → UInt64} {H : Heap} {locs : List Loc} {ls : Array Slot} (hLI : LI (775 * i) Z U X S P I Y Q F2 F3 M) (hP : va_P dg vwCl (brkW ck ka ad ra Z O U X S T P I V N Y Q ++ (modelC ck mo (encZ S) F1 F2 F3 F4 M ++ (lngC ck oa D ++ (dblC ck od E)))) H) (hD : va_D A (brkW ck ka ad ra Z O U X S T P I V N Y Q ++ (modelC ck mo (encZ S) F1 F2 F3 F4 M ++ (lngC ck oa D ++ (dblC ck od E))))) (hS : va_S A s.heap H locs) (hl : lv_has ls 9 [(0, .ref b), (1, .ref (ad 7 0)), (2, .ref (mo 0)), (3, .ref oa), (4, .ref od), (5, .int (zI i))]) : W p l e room_1 s m #[Value.ref b] below meth c H locs cells slots Qf (F0 m 3134 ls []) := by
  obtain ⟨hx, hb, hml, hown, htg, hX, hbl, hbA, hK, hC, hA, hst, hL⟩ := id C0
  obtain ⟨hV, hlh, hls, hlt, hlo, hlf⟩ := id hLI
  obtain ⟨hn, hz, hk1, hq10, hhist⟩ := id hlh
  obtain ⟨hk2, hz0, hp10, hsn⟩ := id hls
  obtain ⟨hk3, hln, hk5, htx, hkv⟩ := id hlt
  obtain ⟨hk4, hu0, hy7, hY⟩ := id hlo
  obtain ⟨⟨hk5a, hz4⟩, ⟨hk6, hz1⟩, hk7, hk8⟩ := id hlf
  have hI := hV.bd
  have hs10 : ∀ i, 0 ≤ S 10 i ∧ S 10 i ≤ 1 := hI.2.2.2.2.2.2.2.2.2.2.2.2.2.1
  obtain ⟨x, hv_x⟩ : ∃ v9 : Int, (xs (i + 1).toNat).toInt = v9 := ⟨_, rfl⟩
  have rgx_x := xi_r (xs (i + 1).toNat)
  rw [hv_x] at rgx_x
  obtain ⟨y, hv_y⟩ : ∃ v9 : Int, (xs (i + 2).toNat).toInt = v9 := ⟨_, rfl⟩
  have rgx_y := xi_r (xs (i + 2).toNat)
  rw [hv_y] at rgx_y
  obtain ⟨z, hv_z⟩ : ∃ v9 : Int, (xs (i + 3).toNat).toInt = v9 := ⟨_, rfl⟩
  have rgx_z := xi_r (xs (i + 3).toNat)
  rw [hv_z] at rgx_z
  refine lv_aload_n hx hb dL_law_3134 rfl (lv_at hl 1 rfl) ?_
  refine lv_aload_n hx hb dL_law_3135 rfl (lv_at hl 3 rfl) ?_
  refine x_calliUB (wf := fun u3136 : BU × (Nat → Int64) => brkU ck ka ad ra u3136.1 ++ (modelC ck mo (encZ S) F1 F2 F3 F4 M ++ (lngC ck oa u3136.2 ++ (dblC ck od E)))) (M := brkW ck ka ad ra Z O U X S T P I V N Y Q ++ (lngC ck oa D)) (Mf := fun u3136 => brkU ck ka ad ra u3136.1 ++ (lngC ck oa u3136.2)) (N := modelC ck mo (encZ S) F1 F2 F3 F4 M ++ (dblC ck od E)) (cat_perm [brkW ck ka ad ra Z O U X S T P I V N Y Q, modelC ck mo (encZ S) F1 F2 F3 F4 M, lngC ck oa D, dblC ck od E] [0, 2] [1, 3] 4 rfl (by decide)) (fun u3136 => cat_perm [brkU ck ka ad ra u3136.1, modelC ck mo (encZ S) F1 F2 F3 F4 M, lngC ck oa u3136.2, dblC ck od E] [0, 2] [1, 3] 4 rfl (by decide)) hP hD hS hA (fun hPm hDm => vx_runSW (As := [.ref (ad 7 0), .ref oa]) (rest := []) ⟨hx, hb, hml, hown, htg⟩ (w_rejectionDetail l dg ck ka ad ra Z O U X S T P I V N Y Q oa D  _ (by omega) hst) (vx_cwSW 2 htg (gwSW wq_1519 wq_1520 wq_0 wqL_rejectionDetail) rfl rfl rfl (by decide +kernel) ⟨Nat.le_of_ble_eq_true rfl, Nat.le_of_ble_eq_true rfl⟩) (wrK_preS hK hPm hDm hC hS hA) rfl rfl hl.1 rfl (lv_room (Nat.le_of_ble_eq_true rfl)) dL_law_3136 ⟨by show cells + 1 ≤ 603072; omega, by show slots + 6 ≤ 7207018; omega⟩) (fun r3136 u3136 H locs hw hP hD hS => ?_)
  have hP : va_P dg vwCl (brkU ck ka ad ra u3136.1 ++ (modelC ck mo (encZ S) F1 F2 F3 F4 M ++ (lngC ck oa u3136.2 ++ (dblC ck od E)))) H := hP
  have hD : va_D A (brkU ck ka ad ra u3136.1 ++ (modelC ck mo (encZ S) F1 F2 F3 F4 M ++ (lngC ck oa u3136.2 ++ (dblC ck od E)))) := hD
  refine lv_istore (lv' := [(6, .int r3136), (0, .ref b), (1, .ref (ad 7 0)), (2, .ref (mo 0)), (3, .ref oa), (4, .ref od), (5, .int (zI i))]) hx hb dL_law_3139 hl (by decide) rfl (fun ls hl => ?_)
  refine lv_aload_n hx hb dL_law_3141 rfl (lv_at hl 3 rfl) ?_
  refine x_calliB (ws' := brkU ck ka ad ra u3136.1 ++ (modelC ck mo (encZ S) F1 F2 F3 F4 (upS M 8 0 (bI (M 8 6 = 0))) ++ (lngC ck oa u3136.2 ++ (dblC ck od E)))) (M := modelC ck mo (encZ S) F1 F2 F3 F4 M) (M' := modelC ck mo (encZ S) F1 F2 F3 F4 (upS M 8 0 (bI (M 8 6 = 0)))) (N := brkU ck ka ad ra u3136.1 ++ (lngC ck oa u3136.2 ++ (dblC ck od E))) (cat_perm [brkU ck ka ad ra u3136.1, modelC ck mo (encZ S) F1 F2 F3 F4 M, lngC ck oa u3136.2, dblC ck od E] [1] [0, 2, 3] 4 rfl (by decide)) (cat_perm [brkU ck ka ad ra u3136.1, modelC ck mo (encZ S) F1 F2 F3 F4 (upS M 8 0 (bI (M 8 6 = 0))), lngC ck oa u3136.2, dblC ck od E] [1] [0, 2, 3] 4 rfl (by decide)) hP hD hS hA (fun hPm hDm => va_runV (As := []) (rest := []) ⟨hx, hb, hml, hown, htg⟩ (m_rejectionDetail l dg ck mo S F1 F2 F3 F4 M  _ (by omega)) (cwV 0 htg (gwV wq_2079 wq_2080 wq_2081 wq_15 wq_2082) rfl rfl rfl (by decide +kernel) ⟨Nat.le_of_ble_eq_true rfl, Nat.le_of_ble_eq_true rfl⟩) (wr_preV hK hPm hDm 0 11 rfl rfl) rfl rfl hl.1 rfl (lv_room (Nat.le_of_ble_eq_true rfl)) dL_law_3142 ⟨by show _ ≤ 603072; omega, by show _ ≤ 7207018; omega⟩) (fun r3142 H locs hr3142 hP hD hS => ?_)
  subst hr3142
  have hP : va_P dg vwCl (brkU ck ka ad ra u3136.1 ++ (modelC ck mo (encZ S) F1 F2 F3 F4 (upS M 8 0 (bI (M 8 6 = 0))) ++ (lngC ck oa u3136.2 ++ (dblC ck od E)))) H := hP
  have hD : va_D A (brkU ck ka ad ra u3136.1 ++ (modelC ck mo (encZ S) F1 F2 F3 F4 (upS M 8 0 (bI (M 8 6 = 0))) ++ (lngC ck oa u3136.2 ++ (dblC ck od E)))) := hD
  have hcase : ∃ t9 : Int, (upS M 8 0 (bI (M 8 6 = 0))) 8 0 = t9 ∧ r3136 = zI t9 ∧ (0 ≤ t9 ∧ t9 ≤ 3) ∧ (t9 = 0 → u3136.2 0 = (zI (itZ (M 8 6 ≠ 0) (M 8 7))).toInt64) ∧ LI (775 * i + 3100) (u3136.1.1) (u3136.1.2.2.1) (u3136.1.2.2.2.1) (u3136.1.2.2.2.2.1) (u3136.1.2.2.2.2.2.2.1) (u3136.1.2.2.2.2.2.2.2.1) (u3136.1.2.2.2.2.2.2.2.2.2.2.1) (u3136.1.2.2.2.2.2.2.2.2.2.2.2) F2 F3 (upS M 8 0 (bI (M 8 6 = 0))) ∧ S = u3136.1.2.2.2.2.1 := by
    rcases hw with ⟨e1, r1, hp, eu, ev⟩ | ⟨e1, hc, eu⟩
    · obtain ⟨rfl, hok⟩ := hp
      refine ⟨0, upS_s.trans (by (try unfold itZ); (try unfold bI); (repeat' split) <;> omega), e1, by decide, fun _ => ev.trans (congrArg (fun v9 : Int => (zI v9).toInt64) (by (try unfold itZ); (try unfold bI); (repeat' split) <;> omega)), ?_, (by rw [eu] <;> rfl)⟩
      rw [eu]
      exact (hLI.m (mK_0 M _)).mono (by omega) (by omega)
    · refine ⟨1, upS_s.trans (by (try unfold itZ); (try unfold bI); (repeat' split) <;> omega), e1, by decide, fun q => absurd q (by decide), ?_, (by rw [eu] <;> rfl)⟩
      rw [eu]
      exact (hLI.m (mK_0 M _)).mono (by omega) (by omega)
  obtain ⟨t9, ht9, hr9, ht9b, hval, hLI2, hS2⟩ := hcase
  have ht9r : zI ((upS M 8 0 (bI (M 8 6 = 0))) 8 0) = r3136 := by rw [ht9, hr9]
  refine lv_istore (lv' := [(7, .int (zI (itZ (M 8 6 ≠ 0) (M 8 7)))), (6, .int r3136), (0, .ref b), (1, .ref (ad 7 0)), (2, .ref (mo 0)), (3, .ref oa), (4, .ref od), (5, .int (zI i))]) hx hb dL_law_3145 hl (by decide) rfl (fun ls hl => ?_)
  refine lv_aload_n hx hb dL_law_3147 rfl (lv_at hl 4 rfl) ?_
  refine vp_callSi (W.runV (As := []) (rest := []) ⟨hx, hb, hml, hown, htg⟩ (m_thrown l dg ck mo S F1 F2 F3 F4 (upS M 8 0 (bI (M 8 6 = 0)))) (cwV 0 htg (gwV wq_1627 wq_1628 wq_1629 wq_15 wq_1630) rfl rfl rfl (by decide +kernel) ⟨Nat.le_of_ble_eq_true rfl, Nat.le_of_ble_eq_true rfl⟩) (rd_preV hK (va_P_l (va_P_r hP)) 0 11 rfl rfl) rfl rfl hl.1 rfl (lv_room (Nat.le_of_ble_eq_true rfl)) dL_law_3148 ⟨by show _ ≤ 603072; omega, by show _ ≤ 7207018; omega⟩) (fun r3148 hr3148 => ?_)
  subst hr3148
  refine lv_iload hx hb dL_law_3151 (lv_at hl 1 rfl) ?_
  refine lv_icmp_eq (tgt := 3158) hx hb dL_law_3153 (by decide) (fun _ => ?_) (fun c9 => absurd ht9r c9)
  refine lv_iload hx hb dL_law_3158 (lv_at hl 1 rfl) ?_
  refine W.eq (g2 := F0 m 3160 ls [.int (zI t9)]) (by rw [hr9]) ?_
  refine x_if_ne (tgt := 3175) hx hb dL_law_3160 (by decide) (by omega) (fun c9 => ?_) (fun c9 => ?_)
  · refine lv_goto (tgt := 3323) hx hb dL_law_3175 (by decide) ?_
    refine W.widen (k := cells + 3) (n := slots + 18) (by omega) (by omega) ?_
    have hP : va_P dg vwCl (lawW ck ka ad ra mo oa od u3136.1 F1 F2 F3 F4 (upS M 8 0 (bI (M 8 6 = 0))) u3136.2 E) H := va_P_eq (by rw [hS2] <;> rfl) hP
    have hD : va_D A (lawW ck ka ad ra mo oa od u3136.1 F1 F2 F3 F4 (upS M 8 0 (bI (M 8 6 = 0))) u3136.2 E) := va_D_eq (by rw [hS2] <;> rfl) hD
    exact kk u3136.1 F1 F2 F3 F4 (upS M 8 0 (bI (M 8 6 = 0))) u3136.2 E H locs ls hLI2 hP hD hS (lv_sub hl [2, 3, 4, 5, 6, 7] rfl)
  · have hv9 := hval (by omega)
    refine lv_aload_n hx hb dL_law_3163 rfl (lv_at hl 5 rfl) ?_
    refine x_iconst hx hb dL_law_3164 ?_
    refine va_lald hx hb hK hP 175 5 rfl rfl (zI_in (z := 0) (by decide) (by decide)) dL_law_3165 ?_
    refine lv_iload hx hb dL_law_3166 (lv_at hl 0 rfl) ?_
    refine lv_i2l hx hb dL_law_3168 rfl ?_
    refine W.lcmp hx hb dL_law_3169 ?_
    refine W.eq (g2 := F0 m 3170 ls [.int (zI 0)]) (congrArg (fun v9 => F0 m 3170 ls [.int v9]) ((congrArg (fun v9 => lg_cmp v9 _) hv9).trans (lg_self _))) ?_
    refine x_if_eq (tgt := 3175) hx hb dL_law_3170 (by decide) (by omega) (fun _ => ?_) (fun c => absurd rfl c)
    refine lv_goto (tgt := 3323) hx hb dL_law_3175 (by decide) ?_
    refine W.widen (k := cells + 3) (n := slots + 18) (by omega) (by omega) ?_
    have hP : va_P dg vwCl (lawW ck ka ad ra mo oa od u3136.1 F1 F2 F3 F4 (upS M 8 0 (bI (M 8 6 = 0))) u3136.2 E) H := va_P_eq (by rw [hS2] <;> rfl) hP
    have hD : va_D A (lawW ck ka ad ra mo oa od u3136.1 F1 F2 F3 F4 (upS M 8 0 (bI (M 8 6 = 0))) u3136.2 E) := va_D_eq (by rw [hS2] <;> rfl) hD
    exact kk u3136.1 F1 F2 F3 F4 (upS M 8 0 (bI (M 8 6 = 0))) u3136.2 E H locs ls hLI2 hP hD hS (lv_sub hl [2, 3, 4, 5, 6, 7] rfl)

set_option maxHeartbeats 4000000 in
set_option maxRecDepth 100000 in
/-- the law: a call of causeReason -/
theorem lc_59 {p : Program} {l : Launch} {e : Env} {s : State} {m : MethodId} {below : List Frame} {meth : Method} {c : Code} {dg : va_G} {ck : Nat → ClassId} {ka : Nat → Nat} {b L : Nat} {xs : Nat → Int32} {A : Nat → Prop} {ad ra : Nat → Nat → Nat} {mo : Nat → Nat} {oa od : Nat} {Qf : State → Prop} {i : Int} {cells slots : Nat} (C0 : LX p l s m c dg ck ka b L xs A) (hi : 0 ≤ i ∧ i + 4 ≤ L) (hcell : cells + 3 ≤ 603072) (hslot : slots + 18 ≤ 7207018) (kk : LKK p l e s m below meth c dg ck ka ad ra mo oa od b A Qf i cells slots) {Z O U X : Nat → Int} {S T P I : St} {V N Y : Int → Int} {Q : Nat → St} {F1 F2 F3 F4 : Int → Int} {M : St} {D : Nat → Int64} {E : Nat → UInt64} {H : Heap} {locs : List Loc} {ls : Array Slot} (hLI : LI (775 * i) Z U X S P I Y Q F2 F3 M) (hP : va_P dg vwCl (brkW ck ka ad ra Z O U X S T P I V N Y Q ++ (modelC ck mo (encZ S) F1 F2 F3 F4 M ++ (lngC ck oa D ++ (dblC ck od E)))) H) (hD : va_D A (brkW ck ka ad ra Z O U X S T P I V N Y Q ++ (modelC ck mo (encZ S) F1 F2 F3 F4 M ++ (lngC ck oa D ++ (dblC ck od E))))) (hS : va_S A s.heap H locs) (hl : lv_has ls 9 [(0, .ref b), (1, .ref (ad 7 0)), (2, .ref (mo 0)), (3, .ref oa), (4, .ref od), (5, .int (zI i))]) : W p l e room_1 s m #[Value.ref b] below meth c H locs cells slots Qf (F0 m 3178 ls []) := by
  obtain ⟨hx, hb, hml, hown, htg, hX, hbl, hbA, hK, hC, hA, hst, hL⟩ := id C0
  obtain ⟨hV, hlh, hls, hlt, hlo, hlf⟩ := id hLI
  obtain ⟨hn, hz, hk1, hq10, hhist⟩ := id hlh
  obtain ⟨hk2, hz0, hp10, hsn⟩ := id hls
  obtain ⟨hk3, hln, hk5, htx, hkv⟩ := id hlt
  obtain ⟨hk4, hu0, hy7, hY⟩ := id hlo
  obtain ⟨⟨hk5a, hz4⟩, ⟨hk6, hz1⟩, hk7, hk8⟩ := id hlf
  have hI := hV.bd
  have hs10 : ∀ i, 0 ≤ S 10 i ∧ S 10 i ≤ 1 := hI.2.2.2.2.2.2.2.2.2.2.2.2.2.1
  obtain ⟨x, hv_x⟩ : ∃ v9 : Int, (xs (i + 1).toNat).toInt = v9 := ⟨_, rfl⟩
  have rgx_x := xi_r (xs (i + 1).toNat)
  rw [hv_x] at rgx_x
  obtain ⟨y, hv_y⟩ : ∃ v9 : Int, (xs (i + 2).toNat).toInt = v9 := ⟨_, rfl⟩
  have rgx_y := xi_r (xs (i + 2).toNat)
  rw [hv_y] at rgx_y
  obtain ⟨z, hv_z⟩ : ∃ v9 : Int, (xs (i + 3).toNat).toInt = v9 := ⟨_, rfl⟩
  have rgx_z := xi_r (xs (i + 3).toNat)
  rw [hv_z] at rgx_z
  refine lv_aload_n hx hb dL_law_3178 rfl (lv_at hl 1 rfl) ?_
  refine lv_aload_n hx hb dL_law_3179 rfl (lv_at hl 3 rfl) ?_
  refine x_calliUB (wf := fun u3180 : BU × (Nat → Int64) => brkU ck ka ad ra u3180.1 ++ (modelC ck mo (encZ S) F1 F2 F3 F4 M ++ (lngC ck oa u3180.2 ++ (dblC ck od E)))) (M := brkW ck ka ad ra Z O U X S T P I V N Y Q ++ (lngC ck oa D)) (Mf := fun u3180 => brkU ck ka ad ra u3180.1 ++ (lngC ck oa u3180.2)) (N := modelC ck mo (encZ S) F1 F2 F3 F4 M ++ (dblC ck od E)) (cat_perm [brkW ck ka ad ra Z O U X S T P I V N Y Q, modelC ck mo (encZ S) F1 F2 F3 F4 M, lngC ck oa D, dblC ck od E] [0, 2] [1, 3] 4 rfl (by decide)) (fun u3180 => cat_perm [brkU ck ka ad ra u3180.1, modelC ck mo (encZ S) F1 F2 F3 F4 M, lngC ck oa u3180.2, dblC ck od E] [0, 2] [1, 3] 4 rfl (by decide)) hP hD hS hA (fun hPm hDm => vx_runSW (As := [.ref (ad 7 0), .ref oa]) (rest := []) ⟨hx, hb, hml, hown, htg⟩ (w_causeReason l dg ck ka ad ra Z O U X S T P I V N Y Q oa D  _ (by omega) hst) (vx_cwSW 2 htg (gwSW wq_1526 wq_1527 wq_0 wqL_causeReason) rfl rfl rfl (by decide +kernel) ⟨Nat.le_of_ble_eq_true rfl, Nat.le_of_ble_eq_true rfl⟩) (wrK_preS hK hPm hDm hC hS hA) rfl rfl hl.1 rfl (lv_room (Nat.le_of_ble_eq_true rfl)) dL_law_3180 ⟨by show cells + 1 ≤ 603072; omega, by show slots + 6 ≤ 7207018; omega⟩) (fun r3180 u3180 H locs hw hP hD hS => ?_)
  have hP : va_P dg vwCl (brkU ck ka ad ra u3180.1 ++ (modelC ck mo (encZ S) F1 F2 F3 F4 M ++ (lngC ck oa u3180.2 ++ (dblC ck od E)))) H := hP
  have hD : va_D A (brkU ck ka ad ra u3180.1 ++ (modelC ck mo (encZ S) F1 F2 F3 F4 M ++ (lngC ck oa u3180.2 ++ (dblC ck od E)))) := hD
  refine lv_istore (lv' := [(6, .int r3180), (0, .ref b), (1, .ref (ad 7 0)), (2, .ref (mo 0)), (3, .ref oa), (4, .ref od), (5, .int (zI i))]) hx hb dL_law_3183 hl (by decide) rfl (fun ls hl => ?_)
  refine lv_aload_n hx hb dL_law_3185 rfl (lv_at hl 3 rfl) ?_
  refine x_calliB (ws' := brkU ck ka ad ra u3180.1 ++ (modelC ck mo (encZ S) F1 F2 F3 F4 (upS M 8 0 (1 - bI (M 8 6 = 12))) ++ (lngC ck oa u3180.2 ++ (dblC ck od E)))) (M := modelC ck mo (encZ S) F1 F2 F3 F4 M) (M' := modelC ck mo (encZ S) F1 F2 F3 F4 (upS M 8 0 (1 - bI (M 8 6 = 12)))) (N := brkU ck ka ad ra u3180.1 ++ (lngC ck oa u3180.2 ++ (dblC ck od E))) (cat_perm [brkU ck ka ad ra u3180.1, modelC ck mo (encZ S) F1 F2 F3 F4 M, lngC ck oa u3180.2, dblC ck od E] [1] [0, 2, 3] 4 rfl (by decide)) (cat_perm [brkU ck ka ad ra u3180.1, modelC ck mo (encZ S) F1 F2 F3 F4 (upS M 8 0 (1 - bI (M 8 6 = 12))), lngC ck oa u3180.2, dblC ck od E] [1] [0, 2, 3] 4 rfl (by decide)) hP hD hS hA (fun hPm hDm => va_runV (As := []) (rest := []) ⟨hx, hb, hml, hown, htg⟩ (m_causeReason l dg ck mo S F1 F2 F3 F4 M  _ (by omega)) (cwV 0 htg (gwV wq_2083 wq_2084 wq_2085 wq_15 wq_2086) rfl rfl rfl (by decide +kernel) ⟨Nat.le_of_ble_eq_true rfl, Nat.le_of_ble_eq_true rfl⟩) (wr_preV hK hPm hDm 0 11 rfl rfl) rfl rfl hl.1 rfl (lv_room (Nat.le_of_ble_eq_true rfl)) dL_law_3186 ⟨by show _ ≤ 603072; omega, by show _ ≤ 7207018; omega⟩) (fun r3186 H locs hr3186 hP hD hS => ?_)
  subst hr3186
  have hP : va_P dg vwCl (brkU ck ka ad ra u3180.1 ++ (modelC ck mo (encZ S) F1 F2 F3 F4 (upS M 8 0 (1 - bI (M 8 6 = 12))) ++ (lngC ck oa u3180.2 ++ (dblC ck od E)))) H := hP
  have hD : va_D A (brkU ck ka ad ra u3180.1 ++ (modelC ck mo (encZ S) F1 F2 F3 F4 (upS M 8 0 (1 - bI (M 8 6 = 12))) ++ (lngC ck oa u3180.2 ++ (dblC ck od E)))) := hD
  have hcase : ∃ t9 : Int, (upS M 8 0 (1 - bI (M 8 6 = 12))) 8 0 = t9 ∧ r3180 = zI t9 ∧ (0 ≤ t9 ∧ t9 ≤ 3) ∧ (t9 = 0 → u3180.2 0 = (zI (itZ (M 8 6 = 12) (M 8 8))).toInt64) ∧ LI (775 * i + 3100) (u3180.1.1) (u3180.1.2.2.1) (u3180.1.2.2.2.1) (u3180.1.2.2.2.2.1) (u3180.1.2.2.2.2.2.2.1) (u3180.1.2.2.2.2.2.2.2.1) (u3180.1.2.2.2.2.2.2.2.2.2.2.1) (u3180.1.2.2.2.2.2.2.2.2.2.2.2) F2 F3 (upS M 8 0 (1 - bI (M 8 6 = 12))) ∧ S = u3180.1.2.2.2.2.1 := by
    rcases hw with ⟨e1, r1, hp, eu, ev⟩ | ⟨e1, hc, eu⟩
    · obtain ⟨rfl, hok⟩ := hp
      refine ⟨0, upS_s.trans (by (try unfold itZ); (try unfold bI); (repeat' split) <;> omega), e1, by decide, fun _ => ev.trans (congrArg (fun v9 : Int => (zI v9).toInt64) (by (try unfold itZ); (try unfold bI); (repeat' split) <;> omega)), ?_, (by rw [eu] <;> rfl)⟩
      rw [eu]
      exact (hLI.m (mK_0 M _)).mono (by omega) (by omega)
    · refine ⟨1, upS_s.trans (by (try unfold itZ); (try unfold bI); (repeat' split) <;> omega), e1, by decide, fun q => absurd q (by decide), ?_, (by rw [eu] <;> rfl)⟩
      rw [eu]
      exact (hLI.m (mK_0 M _)).mono (by omega) (by omega)
  obtain ⟨t9, ht9, hr9, ht9b, hval, hLI2, hS2⟩ := hcase
  have ht9r : zI ((upS M 8 0 (1 - bI (M 8 6 = 12))) 8 0) = r3180 := by rw [ht9, hr9]
  refine lv_istore (lv' := [(7, .int (zI (itZ (M 8 6 = 12) (M 8 8)))), (6, .int r3180), (0, .ref b), (1, .ref (ad 7 0)), (2, .ref (mo 0)), (3, .ref oa), (4, .ref od), (5, .int (zI i))]) hx hb dL_law_3189 hl (by decide) rfl (fun ls hl => ?_)
  refine lv_aload_n hx hb dL_law_3191 rfl (lv_at hl 4 rfl) ?_
  refine vp_callSi (W.runV (As := []) (rest := []) ⟨hx, hb, hml, hown, htg⟩ (m_thrown l dg ck mo S F1 F2 F3 F4 (upS M 8 0 (1 - bI (M 8 6 = 12)))) (cwV 0 htg (gwV wq_1627 wq_1628 wq_1629 wq_15 wq_1630) rfl rfl rfl (by decide +kernel) ⟨Nat.le_of_ble_eq_true rfl, Nat.le_of_ble_eq_true rfl⟩) (rd_preV hK (va_P_l (va_P_r hP)) 0 11 rfl rfl) rfl rfl hl.1 rfl (lv_room (Nat.le_of_ble_eq_true rfl)) dL_law_3192 ⟨by show _ ≤ 603072; omega, by show _ ≤ 7207018; omega⟩) (fun r3192 hr3192 => ?_)
  subst hr3192
  refine lv_iload hx hb dL_law_3195 (lv_at hl 1 rfl) ?_
  refine lv_icmp_eq (tgt := 3202) hx hb dL_law_3197 (by decide) (fun _ => ?_) (fun c9 => absurd ht9r c9)
  refine lv_iload hx hb dL_law_3202 (lv_at hl 1 rfl) ?_
  refine W.eq (g2 := F0 m 3204 ls [.int (zI t9)]) (by rw [hr9]) ?_
  refine x_if_ne (tgt := 3219) hx hb dL_law_3204 (by decide) (by omega) (fun c9 => ?_) (fun c9 => ?_)
  · refine lv_goto (tgt := 3323) hx hb dL_law_3219 (by decide) ?_
    refine W.widen (k := cells + 3) (n := slots + 18) (by omega) (by omega) ?_
    have hP : va_P dg vwCl (lawW ck ka ad ra mo oa od u3180.1 F1 F2 F3 F4 (upS M 8 0 (1 - bI (M 8 6 = 12))) u3180.2 E) H := va_P_eq (by rw [hS2] <;> rfl) hP
    have hD : va_D A (lawW ck ka ad ra mo oa od u3180.1 F1 F2 F3 F4 (upS M 8 0 (1 - bI (M 8 6 = 12))) u3180.2 E) := va_D_eq (by rw [hS2] <;> rfl) hD
    exact kk u3180.1 F1 F2 F3 F4 (upS M 8 0 (1 - bI (M 8 6 = 12))) u3180.2 E H locs ls hLI2 hP hD hS (lv_sub hl [2, 3, 4, 5, 6, 7] rfl)
  · have hv9 := hval (by omega)
    refine lv_aload_n hx hb dL_law_3207 rfl (lv_at hl 5 rfl) ?_
    refine x_iconst hx hb dL_law_3208 ?_
    refine va_lald hx hb hK hP 175 5 rfl rfl (zI_in (z := 0) (by decide) (by decide)) dL_law_3209 ?_
    refine lv_iload hx hb dL_law_3210 (lv_at hl 0 rfl) ?_
    refine lv_i2l hx hb dL_law_3212 rfl ?_
    refine W.lcmp hx hb dL_law_3213 ?_
    refine W.eq (g2 := F0 m 3214 ls [.int (zI 0)]) (congrArg (fun v9 => F0 m 3214 ls [.int v9]) ((congrArg (fun v9 => lg_cmp v9 _) hv9).trans (lg_self _))) ?_
    refine x_if_eq (tgt := 3219) hx hb dL_law_3214 (by decide) (by omega) (fun _ => ?_) (fun c => absurd rfl c)
    refine lv_goto (tgt := 3323) hx hb dL_law_3219 (by decide) ?_
    refine W.widen (k := cells + 3) (n := slots + 18) (by omega) (by omega) ?_
    have hP : va_P dg vwCl (lawW ck ka ad ra mo oa od u3180.1 F1 F2 F3 F4 (upS M 8 0 (1 - bI (M 8 6 = 12))) u3180.2 E) H := va_P_eq (by rw [hS2] <;> rfl) hP
    have hD : va_D A (lawW ck ka ad ra mo oa od u3180.1 F1 F2 F3 F4 (upS M 8 0 (1 - bI (M 8 6 = 12))) u3180.2 E) := va_D_eq (by rw [hS2] <;> rfl) hD
    exact kk u3180.1 F1 F2 F3 F4 (upS M 8 0 (1 - bI (M 8 6 = 12))) u3180.2 E H locs ls hLI2 hP hD hS (lv_sub hl [2, 3, 4, 5, 6, 7] rfl)
