/-! the law: calls that ask one number -/

set_option maxHeartbeats 4000000 in
set_option maxRecDepth 100000 in
/-- the law: a call of benchCount -/
theorem lc_6 {p : Program} {l : Launch} {e : Env} {s : State} {m : MethodId} {below : List Frame} {meth : Method} {c : Code} {dg : va_G} {ck : Nat → ClassId} {ka : Nat → Nat} {b L : Nat} {xs : Nat → Int32} {A : Nat → Prop} {ad ra : Nat → Nat → Nat} {mo : Nat → Nat} {oa od : Nat} {Qf : State → Prop} {i : Int} {cells slots : Nat} (C0 : LX p l s m c dg ck ka b L xs A) (hi : 0 ≤ i ∧ i + 4 ≤ L) (hcell : cells + 3 ≤ 603072) (hslot : slots + 18 ≤ 7207018) (kk : LKK p l e s m below meth c dg ck ka ad ra mo oa od b A Qf i cells slots) {Z O U X : Nat → Int} {S T P I : St} {V N Y : Int → Int} {Q : Nat → St} {F1 F2 F3 F4 : Int → Int} {M : St} {D : Nat → Int64} {E : Nat → UInt64} {H : Heap} {locs : List Loc} {ls : Array Slot} (hLI : LI (775 * i) Z U X S P I Y Q F2 F3 M) (hP : va_P dg vwCl (brkW ck ka ad ra Z O U X S T P I V N Y Q ++ (modelC ck mo (encZ S) F1 F2 F3 F4 M ++ (lngC ck oa D ++ (dblC ck od E)))) H) (hD : va_D A (brkW ck ka ad ra Z O U X S T P I V N Y Q ++ (modelC ck mo (encZ S) F1 F2 F3 F4 M ++ (lngC ck oa D ++ (dblC ck od E))))) (hS : va_S A s.heap H locs) (hl : lv_has ls 9 [(0, .ref b), (1, .ref (ad 7 0)), (2, .ref (mo 0)), (3, .ref oa), (4, .ref od), (5, .int (zI i))]) : W p l e room_1 s m #[Value.ref b] below meth c H locs cells slots Qf (F0 m 727 ls []) := by
  obtain ⟨hx, hb, hml, hown, htg, hX, hbl, hbA, hK, hC, hA, hst, hL⟩ := id C0
  obtain ⟨hV, hlh, hls, hlt, hlo, hlf⟩ := id hLI
  obtain ⟨hn, hz, hk1, hq10, hhist⟩ := id hlh
  obtain ⟨hk2, hz0, hp10, hsn⟩ := id hls
  obtain ⟨hk3, hln, hk5, htx, hkv⟩ := id hlt
  obtain ⟨hk4, hu0, hy7, hY⟩ := id hlo
  obtain ⟨⟨hk5a, hz4⟩, ⟨hk6, hz1⟩, hk7, hk8⟩ := id hlf
  have hI := hV.bd
  have hs10 : ∀ i, 0 ≤ S 10 i ∧ S 10 i ≤ 1 := hI.2.2.2.2.2.2.2.2.2.2.2.2.2.1
  obtain ⟨x, hv_x⟩ : ∃ v9 : Int, (xs (i + 1).toNat).toInt = v9 := ⟨_, rfl⟩
  have rgx_x := xi_r (xs (i + 1).toNat)
  rw [hv_x] at rgx_x
  obtain ⟨y, hv_y⟩ : ∃ v9 : Int, (xs (i + 2).toNat).toInt = v9 := ⟨_, rfl⟩
  have rgx_y := xi_r (xs (i + 2).toNat)
  rw [hv_y] at rgx_y
  obtain ⟨z, hv_z⟩ : ∃ v9 : Int, (xs (i + 3).toNat).toInt = v9 := ⟨_, rfl⟩
  have rgx_z := xi_r (xs (i + 3).toNat)
  rw [hv_z] at rgx_z
  refine lv_aload_n hx hb dL_law_727 rfl (lv_at hl 1 rfl) ?_
  refine x_calliB (ws' := brkW ck ka ad ra Z O U X S T P I V N Y Q ++ (modelC ck mo (encZ S) F1 F2 F3 F4 M ++ (lngC ck oa D ++ (dblC ck od E)))) (M := brkW ck ka ad ra Z O U X S T P I V N Y Q) (M' := brkW ck ka ad ra Z O U X S T P I V N Y Q) (N := modelC ck mo (encZ S) F1 F2 F3 F4 M ++ (lngC ck oa D ++ (dblC ck od E))) (cat_perm [brkW ck ka ad ra Z O U X S T P I V N Y Q, modelC ck mo (encZ S) F1 F2 F3 F4 M, lngC ck oa D, dblC ck od E] [0] [1, 2, 3] 4 rfl (by decide)) (cat_perm [brkW ck ka ad ra Z O U X S T P I V N Y Q, modelC ck mo (encZ S) F1 F2 F3 F4 M, lngC ck oa D, dblC ck od E] [0] [1, 2, 3] 4 rfl (by decide)) hP hD hS hA (fun hPm hDm => va_runV (As := []) (rest := []) ⟨hx, hb, hml, hown, htg⟩ (x_benchCount l dg ck ka ad ra Z O U X S T P I V N Y Q  _ ) (cwV 0 htg (gwV wq_320 wq_321 wq_322 wq_1 wq_323) rfl rfl rfl (by decide +kernel) ⟨Nat.le_of_ble_eq_true rfl, Nat.le_of_ble_eq_true rfl⟩) (wrK_preV hK hPm hDm hC hS hA 0 10 rfl rfl) rfl rfl hl.1 rfl (lv_room (Nat.le_of_ble_eq_true rfl)) dL_law_728 ⟨by show _ ≤ 603072; omega, by show _ ≤ 7207018; omega⟩) (fun r728 H locs hr728 hP hD hS => ?_)
  subst hr728
  have hP : va_P dg vwCl (brkW ck ka ad ra Z O U X S T P I V N Y Q ++ (modelC ck mo (encZ S) F1 F2 F3 F4 M ++ (lngC ck oa D ++ (dblC ck od E)))) H := hP
  have hD : va_D A (brkW ck ka ad ra Z O U X S T P I V N Y Q ++ (modelC ck mo (encZ S) F1 F2 F3 F4 M ++ (lngC ck oa D ++ (dblC ck od E)))) := hD
  refine lv_aload_n hx hb dL_law_731 rfl (lv_at hl 2 rfl) ?_
  refine x_calliB (ws' := brkW ck ka ad ra Z O U X S T P I V N Y Q ++ (modelC ck mo (encZ S) F1 F2 F3 F4 (upS M 8 0 0) ++ (lngC ck oa D ++ (dblC ck od E)))) (M := modelC ck mo (encZ S) F1 F2 F3 F4 M) (M' := modelC ck mo (encZ S) F1 F2 F3 F4 (upS M 8 0 0)) (N := brkW ck ka ad ra Z O U X S T P I V N Y Q ++ (lngC ck oa D ++ (dblC ck od E))) (cat_perm [brkW ck ka ad ra Z O U X S T P I V N Y Q, modelC ck mo (encZ S) F1 F2 F3 F4 M, lngC ck oa D, dblC ck od E] [1] [0, 2, 3] 4 rfl (by decide)) (cat_perm [brkW ck ka ad ra Z O U X S T P I V N Y Q, modelC ck mo (encZ S) F1 F2 F3 F4 (upS M 8 0 0), lngC ck oa D, dblC ck od E] [1] [0, 2, 3] 4 rfl (by decide)) hP hD hS hA (fun hPm hDm => va_runV (As := []) (rest := [.int (zI (S 0 0))]) ⟨hx, hb, hml, hown, htg⟩ (m_benchCount l dg ck mo S F1 F2 F3 F4 M  _ hI) (cwV 0 htg (gwV wq_1729 wq_1730 wq_1731 wq_15 wq_1732) rfl rfl rfl (by decide +kernel) ⟨Nat.le_of_ble_eq_true rfl, Nat.le_of_ble_eq_true rfl⟩) (wr_preV hK hPm hDm 0 11 rfl rfl) rfl rfl hl.1 rfl (lv_room (Nat.le_of_ble_eq_true rfl)) dL_law_732 ⟨by show _ ≤ 603072; omega, by show _ ≤ 7207018; omega⟩) (fun r732 H locs hr732 hP hD hS => ?_)
  subst hr732
  have hP : va_P dg vwCl (brkW ck ka ad ra Z O U X S T P I V N Y Q ++ (modelC ck mo (encZ S) F1 F2 F3 F4 (upS M 8 0 0) ++ (lngC ck oa D ++ (dblC ck od E)))) H := hP
  have hD : va_D A (brkW ck ka ad ra Z O U X S T P I V N Y Q ++ (modelC ck mo (encZ S) F1 F2 F3 F4 (upS M 8 0 0) ++ (lngC ck oa D ++ (dblC ck od E)))) := hD
  refine lv_icmp_eq (tgt := 3323) hx hb dL_law_735 (by decide) (fun _ => ?_) (fun c9 => absurd (rfl) c9)
  have hLI2 : LI (775 * i + 3100) ((Z, O, U, X, S, T, P, I, V, N, Y, Q).1) ((Z, O, U, X, S, T, P, I, V, N, Y, Q).2.2.1) ((Z, O, U, X, S, T, P, I, V, N, Y, Q).2.2.2.1) ((Z, O, U, X, S, T, P, I, V, N, Y, Q).2.2.2.2.1) ((Z, O, U, X, S, T, P, I, V, N, Y, Q).2.2.2.2.2.2.1) ((Z, O, U, X, S, T, P, I, V, N, Y, Q).2.2.2.2.2.2.2.1) ((Z, O, U, X, S, T, P, I, V, N, Y, Q).2.2.2.2.2.2.2.2.2.2.1) ((Z, O, U, X, S, T, P, I, V, N, Y, Q).2.2.2.2.2.2.2.2.2.2.2) F2 F3 (upS M 8 0 0) := (hLI.m (mK_0 M 0)).mono (by omega) (by omega)
  have hS2 : S = ((Z, O, U, X, S, T, P, I, V, N, Y, Q) : BU).2.2.2.2.1 := rfl
  refine W.widen (k := cells + 3) (n := slots + 18) (by omega) (by omega) ?_
  have hP : va_P dg vwCl (lawW ck ka ad ra mo oa od (Z, O, U, X, S, T, P, I, V, N, Y, Q) F1 F2 F3 F4 (upS M 8 0 0) D E) H := hP
  have hD : va_D A (lawW ck ka ad ra mo oa od (Z, O, U, X, S, T, P, I, V, N, Y, Q) F1 F2 F3 F4 (upS M 8 0 0) D E) := hD
  exact kk (Z, O, U, X, S, T, P, I, V, N, Y, Q) F1 F2 F3 F4 (upS M 8 0 0) D E H locs ls hLI2 hP hD hS (lv_sub hl [0, 1, 2, 3, 4, 5] rfl)

set_option maxHeartbeats 4000000 in
set_option maxRecDepth 100000 in
/-- the law: a call of fountainCount -/
theorem lc_11 {p : Program} {l : Launch} {e : Env} {s : State} {m : MethodId} {below : List Frame} {meth : Method} {c : Code} {dg : va_G} {ck : Nat → ClassId} {ka : Nat → Nat} {b L : Nat} {xs : Nat → Int32} {A : Nat → Prop} {ad ra : Nat → Nat → Nat} {mo : Nat → Nat} {oa od : Nat} {Qf : State → Prop} {i : Int} {cells slots : Nat} (C0 : LX p l s m c dg ck ka b L xs A) (hi : 0 ≤ i ∧ i + 4 ≤ L) (hcell : cells + 3 ≤ 603072) (hslot : slots + 18 ≤ 7207018) (kk : LKK p l e s m below meth c dg ck ka ad ra mo oa od b A Qf i cells slots) {Z O U X : Nat → Int} {S T P I : St} {V N Y : Int → Int} {Q : Nat → St} {F1 F2 F3 F4 : Int → Int} {M : St} {D : Nat → Int64} {E : Nat → UInt64} {H : Heap} {locs : List Loc} {ls : Array Slot} (hLI : LI (775 * i) Z U X S P I Y Q F2 F3 M) (hP : va_P dg vwCl (brkW ck ka ad ra Z O U X S T P I V N Y Q ++ (modelC ck mo (encZ S) F1 F2 F3 F4 M ++ (lngC ck oa D ++ (dblC ck od E)))) H) (hD : va_D A (brkW ck ka ad ra Z O U X S T P I V N Y Q ++ (modelC ck mo (encZ S) F1 F2 F3 F4 M ++ (lngC ck oa D ++ (dblC ck od E))))) (hS : va_S A s.heap H locs) (hl : lv_has ls 9 [(0, .ref b), (1, .ref (ad 7 0)), (2, .ref (mo 0)), (3, .ref oa), (4, .ref od), (5, .int (zI i))]) : W p l e room_1 s m #[Value.ref b] below meth c H locs cells slots Qf (F0 m 964 ls []) := by
  obtain ⟨hx, hb, hml, hown, htg, hX, hbl, hbA, hK, hC, hA, hst, hL⟩ := id C0
  obtain ⟨hV, hlh, hls, hlt, hlo, hlf⟩ := id hLI
  obtain ⟨hn, hz, hk1, hq10, hhist⟩ := id hlh
  obtain ⟨hk2, hz0, hp10, hsn⟩ := id hls
  obtain ⟨hk3, hln, hk5, htx, hkv⟩ := id hlt
  obtain ⟨hk4, hu0, hy7, hY⟩ := id hlo
  obtain ⟨⟨hk5a, hz4⟩, ⟨hk6, hz1⟩, hk7, hk8⟩ := id hlf
  have hI := hV.bd
  have hs10 : ∀ i, 0 ≤ S 10 i ∧ S 10 i ≤ 1 := hI.2.2.2.2.2.2.2.2.2.2.2.2.2.1
  obtain ⟨x, hv_x⟩ : ∃ v9 : Int, (xs (i + 1).toNat).toInt = v9 := ⟨_, rfl⟩
  have rgx_x := xi_r (xs (i + 1).toNat)
  rw [hv_x] at rgx_x
  obtain ⟨y, hv_y⟩ : ∃ v9 : Int, (xs (i + 2).toNat).toInt = v9 := ⟨_, rfl⟩
  have rgx_y := xi_r (xs (i + 2).toNat)
  rw [hv_y] at rgx_y
  obtain ⟨z, hv_z⟩ : ∃ v9 : Int, (xs (i + 3).toNat).toInt = v9 := ⟨_, rfl⟩
  have rgx_z := xi_r (xs (i + 3).toNat)
  rw [hv_z] at rgx_z
  refine lv_aload_n hx hb dL_law_964 rfl (lv_at hl 1 rfl) ?_
  refine x_calliB (ws' := brkW ck ka ad ra Z O U X S T P I V N Y Q ++ (modelC ck mo (encZ S) F1 F2 F3 F4 M ++ (lngC ck oa D ++ (dblC ck od E)))) (M := brkW ck ka ad ra Z O U X S T P I V N Y Q) (M' := brkW ck ka ad ra Z O U X S T P I V N Y Q) (N := modelC ck mo (encZ S) F1 F2 F3 F4 M ++ (lngC ck oa D ++ (dblC ck od E))) (cat_perm [brkW ck ka ad ra Z O U X S T P I V N Y Q, modelC ck mo (encZ S) F1 F2 F3 F4 M, lngC ck oa D, dblC ck od E] [0] [1, 2, 3] 4 rfl (by decide)) (cat_perm [brkW ck ka ad ra Z O U X S T P I V N Y Q, modelC ck mo (encZ S) F1 F2 F3 F4 M, lngC ck oa D, dblC ck od E] [0] [1, 2, 3] 4 rfl (by decide)) hP hD hS hA (fun hPm hDm => va_runV (As := []) (rest := []) ⟨hx, hb, hml, hown, htg⟩ (x_fountainCount l dg ck ka ad ra Z O U X S T P I V N Y Q  _ ) (cwV 0 htg (gwV wq_324 wq_325 wq_326 wq_1 wq_327) rfl rfl rfl (by decide +kernel) ⟨Nat.le_of_ble_eq_true rfl, Nat.le_of_ble_eq_true rfl⟩) (wrK_preV hK hPm hDm hC hS hA 0 10 rfl rfl) rfl rfl hl.1 rfl (lv_room (Nat.le_of_ble_eq_true rfl)) dL_law_965 ⟨by show _ ≤ 603072; omega, by show _ ≤ 7207018; omega⟩) (fun r965 H locs hr965 hP hD hS => ?_)
  subst hr965
  have hP : va_P dg vwCl (brkW ck ka ad ra Z O U X S T P I V N Y Q ++ (modelC ck mo (encZ S) F1 F2 F3 F4 M ++ (lngC ck oa D ++ (dblC ck od E)))) H := hP
  have hD : va_D A (brkW ck ka ad ra Z O U X S T P I V N Y Q ++ (modelC ck mo (encZ S) F1 F2 F3 F4 M ++ (lngC ck oa D ++ (dblC ck od E)))) := hD
  refine lv_aload_n hx hb dL_law_968 rfl (lv_at hl 2 rfl) ?_
  refine x_calliB (ws' := brkW ck ka ad ra Z O U X S T P I V N Y Q ++ (modelC ck mo (encZ S) F1 F2 F3 F4 (upS M 8 0 0) ++ (lngC ck oa D ++ (dblC ck od E)))) (M := modelC ck mo (encZ S) F1 F2 F3 F4 M) (M' := modelC ck mo (encZ S) F1 F2 F3 F4 (upS M 8 0 0)) (N := brkW ck ka ad ra Z O U X S T P I V N Y Q ++ (lngC ck oa D ++ (dblC ck od E))) (cat_perm [brkW ck ka ad ra Z O U X S T P I V N Y Q, modelC ck mo (encZ S) F1 F2 F3 F4 M, lngC ck oa D, dblC ck od E] [1] [0, 2, 3] 4 rfl (by decide)) (cat_perm [brkW ck ka ad ra Z O U X S T P I V N Y Q, modelC ck mo (encZ S) F1 F2 F3 F4 (upS M 8 0 0), lngC ck oa D, dblC ck od E] [1] [0, 2, 3] 4 rfl (by decide)) hP hD hS hA (fun hPm hDm => va_runV (As := []) (rest := [.int (zI (S 0 1))]) ⟨hx, hb, hml, hown, htg⟩ (m_fountainCount l dg ck mo S F1 F2 F3 F4 M  _ hI) (cwV 0 htg (gwV wq_1768 wq_1769 wq_1770 wq_15 wq_1771) rfl rfl rfl (by decide +kernel) ⟨Nat.le_of_ble_eq_true rfl, Nat.le_of_ble_eq_true rfl⟩) (wr_preV hK hPm hDm 0 11 rfl rfl) rfl rfl hl.1 rfl (lv_room (Nat.le_of_ble_eq_true rfl)) dL_law_969 ⟨by show _ ≤ 603072; omega, by show _ ≤ 7207018; omega⟩) (fun r969 H locs hr969 hP hD hS => ?_)
  subst hr969
  have hP : va_P dg vwCl (brkW ck ka ad ra Z O U X S T P I V N Y Q ++ (modelC ck mo (encZ S) F1 F2 F3 F4 (upS M 8 0 0) ++ (lngC ck oa D ++ (dblC ck od E)))) H := hP
  have hD : va_D A (brkW ck ka ad ra Z O U X S T P I V N Y Q ++ (modelC ck mo (encZ S) F1 F2 F3 F4 (upS M 8 0 0) ++ (lngC ck oa D ++ (dblC ck od E)))) := hD
  refine lv_icmp_eq (tgt := 3323) hx hb dL_law_972 (by decide) (fun _ => ?_) (fun c9 => absurd (rfl) c9)
  have hLI2 : LI (775 * i + 3100) ((Z, O, U, X, S, T, P, I, V, N, Y, Q).1) ((Z, O, U, X, S, T, P, I, V, N, Y, Q).2.2.1) ((Z, O, U, X, S, T, P, I, V, N, Y, Q).2.2.2.1) ((Z, O, U, X, S, T, P, I, V, N, Y, Q).2.2.2.2.1) ((Z, O, U, X, S, T, P, I, V, N, Y, Q).2.2.2.2.2.2.1) ((Z, O, U, X, S, T, P, I, V, N, Y, Q).2.2.2.2.2.2.2.1) ((Z, O, U, X, S, T, P, I, V, N, Y, Q).2.2.2.2.2.2.2.2.2.2.1) ((Z, O, U, X, S, T, P, I, V, N, Y, Q).2.2.2.2.2.2.2.2.2.2.2) F2 F3 (upS M 8 0 0) := (hLI.m (mK_0 M 0)).mono (by omega) (by omega)
  have hS2 : S = ((Z, O, U, X, S, T, P, I, V, N, Y, Q) : BU).2.2.2.2.1 := rfl
  refine W.widen (k := cells + 3) (n := slots + 18) (by omega) (by omega) ?_
  have hP : va_P dg vwCl (lawW ck ka ad ra mo oa od (Z, O, U, X, S, T, P, I, V, N, Y, Q) F1 F2 F3 F4 (upS M 8 0 0) D E) H := hP
  have hD : va_D A (lawW ck ka ad ra mo oa od (Z, O, U, X, S, T, P, I, V, N, Y, Q) F1 F2 F3 F4 (upS M 8 0 0) D E) := hD
  exact kk (Z, O, U, X, S, T, P, I, V, N, Y, Q) F1 F2 F3 F4 (upS M 8 0 0) D E H locs ls hLI2 hP hD hS (lv_sub hl [0, 1, 2, 3, 4, 5] rfl)

set_option maxHeartbeats 4000000 in
set_option maxRecDepth 100000 in
/-- the law: a call of noiseLimit -/
theorem lc_14 {p : Program} {l : Launch} {e : Env} {s : State} {m : MethodId} {below : List Frame} {meth : Method} {c : Code} {dg : va_G} {ck : Nat → ClassId} {ka : Nat → Nat} {b L : Nat} {xs : Nat → Int32} {A : Nat → Prop} {ad ra : Nat → Nat → Nat} {mo : Nat → Nat} {oa od : Nat} {Qf : State → Prop} {i : Int} {cells slots : Nat} (C0 : LX p l s m c dg ck ka b L xs A) (hi : 0 ≤ i ∧ i + 4 ≤ L) (hcell : cells + 3 ≤ 603072) (hslot : slots + 18 ≤ 7207018) (kk : LKK p l e s m below meth c dg ck ka ad ra mo oa od b A Qf i cells slots) {Z O U X : Nat → Int} {S T P I : St} {V N Y : Int → Int} {Q : Nat → St} {F1 F2 F3 F4 : Int → Int} {M : St} {D : Nat → Int64} {E : Nat → UInt64} {H : Heap} {locs : List Loc} {ls : Array Slot} (hLI : LI (775 * i) Z U X S P I Y Q F2 F3 M) (hP : va_P dg vwCl (brkW ck ka ad ra Z O U X S T P I V N Y Q ++ (modelC ck mo (encZ S) F1 F2 F3 F4 M ++ (lngC ck oa D ++ (dblC ck od E)))) H) (hD : va_D A (brkW ck ka ad ra Z O U X S T P I V N Y Q ++ (modelC ck mo (encZ S) F1 F2 F3 F4 M ++ (lngC ck oa D ++ (dblC ck od E))))) (hS : va_S A s.heap H locs) (hl : lv_has ls 9 [(0, .ref b), (1, .ref (ad 7 0)), (2, .ref (mo 0)), (3, .ref oa), (4, .ref od), (5, .int (zI i))]) : W p l e room_1 s m #[Value.ref b] below meth c H locs cells slots Qf (F0 m 1096 ls []) := by
  obtain ⟨hx, hb, hml, hown, htg, hX, hbl, hbA, hK, hC, hA, hst, hL⟩ := id C0
  obtain ⟨hV, hlh, hls, hlt, hlo, hlf⟩ := id hLI
  obtain ⟨hn, hz, hk1, hq10, hhist⟩ := id hlh
  obtain ⟨hk2, hz0, hp10, hsn⟩ := id hls
  obtain ⟨hk3, hln, hk5, htx, hkv⟩ := id hlt
  obtain ⟨hk4, hu0, hy7, hY⟩ := id hlo
  obtain ⟨⟨hk5a, hz4⟩, ⟨hk6, hz1⟩, hk7, hk8⟩ := id hlf
  have hI := hV.bd
  have hs10 : ∀ i, 0 ≤ S 10 i ∧ S 10 i ≤ 1 := hI.2.2.2.2.2.2.2.2.2.2.2.2.2.1
  obtain ⟨x, hv_x⟩ : ∃ v9 : Int, (xs (i + 1).toNat).toInt = v9 := ⟨_, rfl⟩
  have rgx_x := xi_r (xs (i + 1).toNat)
  rw [hv_x] at rgx_x
  obtain ⟨y, hv_y⟩ : ∃ v9 : Int, (xs (i + 2).toNat).toInt = v9 := ⟨_, rfl⟩
  have rgx_y := xi_r (xs (i + 2).toNat)
  rw [hv_y] at rgx_y
  obtain ⟨z, hv_z⟩ : ∃ v9 : Int, (xs (i + 3).toNat).toInt = v9 := ⟨_, rfl⟩
  have rgx_z := xi_r (xs (i + 3).toNat)
  rw [hv_z] at rgx_z
  refine lv_aload_n hx hb dL_law_1096 rfl (lv_at hl 1 rfl) ?_
  refine x_calliB (ws' := brkW ck ka ad ra Z O U X S T P I V N Y Q ++ (modelC ck mo (encZ S) F1 F2 F3 F4 M ++ (lngC ck oa D ++ (dblC ck od E)))) (M := brkW ck ka ad ra Z O U X S T P I V N Y Q) (M' := brkW ck ka ad ra Z O U X S T P I V N Y Q) (N := modelC ck mo (encZ S) F1 F2 F3 F4 M ++ (lngC ck oa D ++ (dblC ck od E))) (cat_perm [brkW ck ka ad ra Z O U X S T P I V N Y Q, modelC ck mo (encZ S) F1 F2 F3 F4 M, lngC ck oa D, dblC ck od E] [0] [1, 2, 3] 4 rfl (by decide)) (cat_perm [brkW ck ka ad ra Z O U X S T P I V N Y Q, modelC ck mo (encZ S) F1 F2 F3 F4 M, lngC ck oa D, dblC ck od E] [0] [1, 2, 3] 4 rfl (by decide)) hP hD hS hA (fun hPm hDm => va_runV (As := []) (rest := []) ⟨hx, hb, hml, hown, htg⟩ (x_noiseLimit l dg ck ka ad ra Z O U X S T P I V N Y Q  _ ) (cwV 0 htg (gwV wq_328 wq_329 wq_330 wq_1 wq_331) rfl rfl rfl (by decide +kernel) ⟨Nat.le_of_ble_eq_true rfl, Nat.le_of_ble_eq_true rfl⟩) (wrK_preV hK hPm hDm hC hS hA 0 10 rfl rfl) rfl rfl hl.1 rfl (lv_room (Nat.le_of_ble_eq_true rfl)) dL_law_1097 ⟨by show _ ≤ 603072; omega, by show _ ≤ 7207018; omega⟩) (fun r1097 H locs hr1097 hP hD hS => ?_)
  subst hr1097
  have hP : va_P dg vwCl (brkW ck ka ad ra Z O U X S T P I V N Y Q ++ (modelC ck mo (encZ S) F1 F2 F3 F4 M ++ (lngC ck oa D ++ (dblC ck od E)))) H := hP
  have hD : va_D A (brkW ck ka ad ra Z O U X S T P I V N Y Q ++ (modelC ck mo (encZ S) F1 F2 F3 F4 M ++ (lngC ck oa D ++ (dblC ck od E)))) := hD
  refine lv_aload_n hx hb dL_law_1100 rfl (lv_at hl 2 rfl) ?_
  refine x_calliB (ws' := brkW ck ka ad ra Z O U X S T P I V N Y Q ++ (modelC ck mo (encZ S) F1 F2 F3 F4 (upS M 8 0 0) ++ (lngC ck oa D ++ (dblC ck od E)))) (M := modelC ck mo (encZ S) F1 F2 F3 F4 M) (M' := modelC ck mo (encZ S) F1 F2 F3 F4 (upS M 8 0 0)) (N := brkW ck ka ad ra Z O U X S T P I V N Y Q ++ (lngC ck oa D ++ (dblC ck od E))) (cat_perm [brkW ck ka ad ra Z O U X S T P I V N Y Q, modelC ck mo (encZ S) F1 F2 F3 F4 M, lngC ck oa D, dblC ck od E] [1] [0, 2, 3] 4 rfl (by decide)) (cat_perm [brkW ck ka ad ra Z O U X S T P I V N Y Q, modelC ck mo (encZ S) F1 F2 F3 F4 (upS M 8 0 0), lngC ck oa D, dblC ck od E] [1] [0, 2, 3] 4 rfl (by decide)) hP hD hS hA (fun hPm hDm => va_runV (As := []) (rest := [.int (zI (S 0 3))]) ⟨hx, hb, hml, hown, htg⟩ (m_noiseLimit l dg ck mo S F1 F2 F3 F4 M  _ hI) (cwV 0 htg (gwV wq_1780 wq_1781 wq_1782 wq_15 wq_1783) rfl rfl rfl (by decide +kernel) ⟨Nat.le_of_ble_eq_true rfl, Nat.le_of_ble_eq_true rfl⟩) (wr_preV hK hPm hDm 0 11 rfl rfl) rfl rfl hl.1 rfl (lv_room (Nat.le_of_ble_eq_true rfl)) dL_law_1101 ⟨by show _ ≤ 603072; omega, by show _ ≤ 7207018; omega⟩) (fun r1101 H locs hr1101 hP hD hS => ?_)
  subst hr1101
  have hP : va_P dg vwCl (brkW ck ka ad ra Z O U X S T P I V N Y Q ++ (modelC ck mo (encZ S) F1 F2 F3 F4 (upS M 8 0 0) ++ (lngC ck oa D ++ (dblC ck od E)))) H := hP
  have hD : va_D A (brkW ck ka ad ra Z O U X S T P I V N Y Q ++ (modelC ck mo (encZ S) F1 F2 F3 F4 (upS M 8 0 0) ++ (lngC ck oa D ++ (dblC ck od E)))) := hD
  refine lv_icmp_eq (tgt := 3323) hx hb dL_law_1104 (by decide) (fun _ => ?_) (fun c9 => absurd (rfl) c9)
  have hLI2 : LI (775 * i + 3100) ((Z, O, U, X, S, T, P, I, V, N, Y, Q).1) ((Z, O, U, X, S, T, P, I, V, N, Y, Q).2.2.1) ((Z, O, U, X, S, T, P, I, V, N, Y, Q).2.2.2.1) ((Z, O, U, X, S, T, P, I, V, N, Y, Q).2.2.2.2.1) ((Z, O, U, X, S, T, P, I, V, N, Y, Q).2.2.2.2.2.2.1) ((Z, O, U, X, S, T, P, I, V, N, Y, Q).2.2.2.2.2.2.2.1) ((Z, O, U, X, S, T, P, I, V, N, Y, Q).2.2.2.2.2.2.2.2.2.2.1) ((Z, O, U, X, S, T, P, I, V, N, Y, Q).2.2.2.2.2.2.2.2.2.2.2) F2 F3 (upS M 8 0 0) := (hLI.m (mK_0 M 0)).mono (by omega) (by omega)
  have hS2 : S = ((Z, O, U, X, S, T, P, I, V, N, Y, Q) : BU).2.2.2.2.1 := rfl
  refine W.widen (k := cells + 3) (n := slots + 18) (by omega) (by omega) ?_
  have hP : va_P dg vwCl (lawW ck ka ad ra mo oa od (Z, O, U, X, S, T, P, I, V, N, Y, Q) F1 F2 F3 F4 (upS M 8 0 0) D E) H := hP
  have hD : va_D A (lawW ck ka ad ra mo oa od (Z, O, U, X, S, T, P, I, V, N, Y, Q) F1 F2 F3 F4 (upS M 8 0 0) D E) := hD
  exact kk (Z, O, U, X, S, T, P, I, V, N, Y, Q) F1 F2 F3 F4 (upS M 8 0 0) D E H locs ls hLI2 hP hD hS (lv_sub hl [0, 1, 2, 3, 4, 5] rfl)

set_option maxHeartbeats 4000000 in
set_option maxRecDepth 100000 in
/-- the law: a call of quietCount -/
theorem lc_18 {p : Program} {l : Launch} {e : Env} {s : State} {m : MethodId} {below : List Frame} {meth : Method} {c : Code} {dg : va_G} {ck : Nat → ClassId} {ka : Nat → Nat} {b L : Nat} {xs : Nat → Int32} {A : Nat → Prop} {ad ra : Nat → Nat → Nat} {mo : Nat → Nat} {oa od : Nat} {Qf : State → Prop} {i : Int} {cells slots : Nat} (C0 : LX p l s m c dg ck ka b L xs A) (hi : 0 ≤ i ∧ i + 4 ≤ L) (hcell : cells + 3 ≤ 603072) (hslot : slots + 18 ≤ 7207018) (kk : LKK p l e s m below meth c dg ck ka ad ra mo oa od b A Qf i cells slots) {Z O U X : Nat → Int} {S T P I : St} {V N Y : Int → Int} {Q : Nat → St} {F1 F2 F3 F4 : Int → Int} {M : St} {D : Nat → Int64} {E : Nat → UInt64} {H : Heap} {locs : List Loc} {ls : Array Slot} (hLI : LI (775 * i) Z U X S P I Y Q F2 F3 M) (hP : va_P dg vwCl (brkW ck ka ad ra Z O U X S T P I V N Y Q ++ (modelC ck mo (encZ S) F1 F2 F3 F4 M ++ (lngC ck oa D ++ (dblC ck od E)))) H) (hD : va_D A (brkW ck ka ad ra Z O U X S T P I V N Y Q ++ (modelC ck mo (encZ S) F1 F2 F3 F4 M ++ (lngC ck oa D ++ (dblC ck od E))))) (hS : va_S A s.heap H locs) (hl : lv_has ls 9 [(0, .ref b), (1, .ref (ad 7 0)), (2, .ref (mo 0)), (3, .ref oa), (4, .ref od), (5, .int (zI i))]) : W p l e room_1 s m #[Value.ref b] below meth c H locs cells slots Qf (F0 m 1308 ls []) := by
  obtain ⟨hx, hb, hml, hown, htg, hX, hbl, hbA, hK, hC, hA, hst, hL⟩ := id C0
  obtain ⟨hV, hlh, hls, hlt, hlo, hlf⟩ := id hLI
  obtain ⟨hn, hz, hk1, hq10, hhist⟩ := id hlh
  obtain ⟨hk2, hz0, hp10, hsn⟩ := id hls
  obtain ⟨hk3, hln, hk5, htx, hkv⟩ := id hlt
  obtain ⟨hk4, hu0, hy7, hY⟩ := id hlo
  obtain ⟨⟨hk5a, hz4⟩, ⟨hk6, hz1⟩, hk7, hk8⟩ := id hlf
  have hI := hV.bd
  have hs10 : ∀ i, 0 ≤ S 10 i ∧ S 10 i ≤ 1 := hI.2.2.2.2.2.2.2.2.2.2.2.2.2.1
  obtain ⟨x, hv_x⟩ : ∃ v9 : Int, (xs (i + 1).toNat).toInt = v9 := ⟨_, rfl⟩
  have rgx_x := xi_r (xs (i + 1).toNat)
  rw [hv_x] at rgx_x
  obtain ⟨y, hv_y⟩ : ∃ v9 : Int, (xs (i + 2).toNat).toInt = v9 := ⟨_, rfl⟩
  have rgx_y := xi_r (xs (i + 2).toNat)
  rw [hv_y] at rgx_y
  obtain ⟨z, hv_z⟩ : ∃ v9 : Int, (xs (i + 3).toNat).toInt = v9 := ⟨_, rfl⟩
  have rgx_z := xi_r (xs (i + 3).toNat)
  rw [hv_z] at rgx_z
  refine lv_aload_n hx hb dL_law_1308 rfl (lv_at hl 1 rfl) ?_
  refine x_calliB (ws' := brkW ck ka ad ra Z O U X S T P I V N Y Q ++ (modelC ck mo (encZ S) F1 F2 F3 F4 M ++ (lngC ck oa D ++ (dblC ck od E)))) (M := brkW ck ka ad ra Z O U X S T P I V N Y Q) (M' := brkW ck ka ad ra Z O U X S T P I V N Y Q) (N := modelC ck mo (encZ S) F1 F2 F3 F4 M ++ (lngC ck oa D ++ (dblC ck od E))) (cat_perm [brkW ck ka ad ra Z O U X S T P I V N Y Q, modelC ck mo (encZ S) F1 F2 F3 F4 M, lngC ck oa D, dblC ck od E] [0] [1, 2, 3] 4 rfl (by decide)) (cat_perm [brkW ck ka ad ra Z O U X S T P I V N Y Q, modelC ck mo (encZ S) F1 F2 F3 F4 M, lngC ck oa D, dblC ck od E] [0] [1, 2, 3] 4 rfl (by decide)) hP hD hS hA (fun hPm hDm => va_runV (As := []) (rest := []) ⟨hx, hb, hml, hown, htg⟩ (x_quietCount l dg ck ka ad ra Z O U X S T P I V N Y Q  _ hI) (cwV 0 htg (gwV wq_332 wq_333 wq_334 wq_1 wq_335) rfl rfl rfl (by decide +kernel) ⟨Nat.le_of_ble_eq_true rfl, Nat.le_of_ble_eq_true rfl⟩) (wrK_preV hK hPm hDm hC hS hA 0 10 rfl rfl) rfl rfl hl.1 rfl (lv_room (Nat.le_of_ble_eq_true rfl)) dL_law_1309 ⟨by show _ ≤ 603072; omega, by show _ ≤ 7207018; omega⟩) (fun r1309 H locs hr1309 hP hD hS => ?_)
  subst hr1309
  have hP : va_P dg vwCl (brkW ck ka ad ra Z O U X S T P I V N Y Q ++ (modelC ck mo (encZ S) F1 F2 F3 F4 M ++ (lngC ck oa D ++ (dblC ck od E)))) H := hP
  have hD : va_D A (brkW ck ka ad ra Z O U X S T P I V N Y Q ++ (modelC ck mo (encZ S) F1 F2 F3 F4 M ++ (lngC ck oa D ++ (dblC ck od E)))) := hD
  refine lv_aload_n hx hb dL_law_1312 rfl (lv_at hl 2 rfl) ?_
  refine x_calliB (ws' := brkW ck ka ad ra Z O U X S T P I V N Y Q ++ (modelC ck mo (encZ S) F1 F2 F3 F4 (upS M 8 0 0) ++ (lngC ck oa D ++ (dblC ck od E)))) (M := modelC ck mo (encZ S) F1 F2 F3 F4 M) (M' := modelC ck mo (encZ S) F1 F2 F3 F4 (upS M 8 0 0)) (N := brkW ck ka ad ra Z O U X S T P I V N Y Q ++ (lngC ck oa D ++ (dblC ck od E))) (cat_perm [brkW ck ka ad ra Z O U X S T P I V N Y Q, modelC ck mo (encZ S) F1 F2 F3 F4 M, lngC ck oa D, dblC ck od E] [1] [0, 2, 3] 4 rfl (by decide)) (cat_perm [brkW ck ka ad ra Z O U X S T P I V N Y Q, modelC ck mo (encZ S) F1 F2 F3 F4 (upS M 8 0 0), lngC ck oa D, dblC ck od E] [1] [0, 2, 3] 4 rfl (by decide)) hP hD hS hA (fun hPm hDm => va_runV (As := []) (rest := [.int (zI (sumZ (fun o => bI (quietB S o)) (S 0 0).toNat))]) ⟨hx, hb, hml, hown, htg⟩ (m_quietCount l dg ck mo S F1 F2 F3 F4 M  _ hI) (cwV 0 htg (gwV wq_1801 wq_1802 wq_1803 wq_15 wq_1804) rfl rfl rfl (by decide +kernel) ⟨Nat.le_of_ble_eq_true rfl, Nat.le_of_ble_eq_true rfl⟩) (wr_preV hK hPm hDm 0 11 rfl rfl) rfl rfl hl.1 rfl (lv_room (Nat.le_of_ble_eq_true rfl)) dL_law_1313 ⟨by show _ ≤ 603072; omega, by show _ ≤ 7207018; omega⟩) (fun r1313 H locs hr1313 hP hD hS => ?_)
  subst hr1313
  have hP : va_P dg vwCl (brkW ck ka ad ra Z O U X S T P I V N Y Q ++ (modelC ck mo (encZ S) F1 F2 F3 F4 (upS M 8 0 0) ++ (lngC ck oa D ++ (dblC ck od E)))) H := hP
  have hD : va_D A (brkW ck ka ad ra Z O U X S T P I V N Y Q ++ (modelC ck mo (encZ S) F1 F2 F3 F4 (upS M 8 0 0) ++ (lngC ck oa D ++ (dblC ck od E)))) := hD
  refine lv_icmp_eq (tgt := 3323) hx hb dL_law_1316 (by decide) (fun _ => ?_) (fun c9 => absurd (rfl) c9)
  have hLI2 : LI (775 * i + 3100) ((Z, O, U, X, S, T, P, I, V, N, Y, Q).1) ((Z, O, U, X, S, T, P, I, V, N, Y, Q).2.2.1) ((Z, O, U, X, S, T, P, I, V, N, Y, Q).2.2.2.1) ((Z, O, U, X, S, T, P, I, V, N, Y, Q).2.2.2.2.1) ((Z, O, U, X, S, T, P, I, V, N, Y, Q).2.2.2.2.2.2.1) ((Z, O, U, X, S, T, P, I, V, N, Y, Q).2.2.2.2.2.2.2.1) ((Z, O, U, X, S, T, P, I, V, N, Y, Q).2.2.2.2.2.2.2.2.2.2.1) ((Z, O, U, X, S, T, P, I, V, N, Y, Q).2.2.2.2.2.2.2.2.2.2.2) F2 F3 (upS M 8 0 0) := (hLI.m (mK_0 M 0)).mono (by omega) (by omega)
  have hS2 : S = ((Z, O, U, X, S, T, P, I, V, N, Y, Q) : BU).2.2.2.2.1 := rfl
  refine W.widen (k := cells + 3) (n := slots + 18) (by omega) (by omega) ?_
  have hP : va_P dg vwCl (lawW ck ka ad ra mo oa od (Z, O, U, X, S, T, P, I, V, N, Y, Q) F1 F2 F3 F4 (upS M 8 0 0) D E) H := hP
  have hD : va_D A (lawW ck ka ad ra mo oa od (Z, O, U, X, S, T, P, I, V, N, Y, Q) F1 F2 F3 F4 (upS M 8 0 0) D E) := hD
  exact kk (Z, O, U, X, S, T, P, I, V, N, Y, Q) F1 F2 F3 F4 (upS M 8 0 0) D E H locs ls hLI2 hP hD hS (lv_sub hl [0, 1, 2, 3, 4, 5] rfl)

set_option maxHeartbeats 4000000 in
set_option maxRecDepth 100000 in
/-- the law: a call of tenantCount -/
theorem lc_21 {p : Program} {l : Launch} {e : Env} {s : State} {m : MethodId} {below : List Frame} {meth : Method} {c : Code} {dg : va_G} {ck : Nat → ClassId} {ka : Nat → Nat} {b L : Nat} {xs : Nat → Int32} {A : Nat → Prop} {ad ra : Nat → Nat → Nat} {mo : Nat → Nat} {oa od : Nat} {Qf : State → Prop} {i : Int} {cells slots : Nat} (C0 : LX p l s m c dg ck ka b L xs A) (hi : 0 ≤ i ∧ i + 4 ≤ L) (hcell : cells + 3 ≤ 603072) (hslot : slots + 18 ≤ 7207018) (kk : LKK p l e s m below meth c dg ck ka ad ra mo oa od b A Qf i cells slots) {Z O U X : Nat → Int} {S T P I : St} {V N Y : Int → Int} {Q : Nat → St} {F1 F2 F3 F4 : Int → Int} {M : St} {D : Nat → Int64} {E : Nat → UInt64} {H : Heap} {locs : List Loc} {ls : Array Slot} (hLI : LI (775 * i) Z U X S P I Y Q F2 F3 M) (hP : va_P dg vwCl (brkW ck ka ad ra Z O U X S T P I V N Y Q ++ (modelC ck mo (encZ S) F1 F2 F3 F4 M ++ (lngC ck oa D ++ (dblC ck od E)))) H) (hD : va_D A (brkW ck ka ad ra Z O U X S T P I V N Y Q ++ (modelC ck mo (encZ S) F1 F2 F3 F4 M ++ (lngC ck oa D ++ (dblC ck od E))))) (hS : va_S A s.heap H locs) (hl : lv_has ls 9 [(0, .ref b), (1, .ref (ad 7 0)), (2, .ref (mo 0)), (3, .ref oa), (4, .ref od), (5, .int (zI i))]) : W p l e room_1 s m #[Value.ref b] below meth c H locs cells slots Qf (F0 m 1445 ls []) := by
  obtain ⟨hx, hb, hml, hown, htg, hX, hbl, hbA, hK, hC, hA, hst, hL⟩ := id C0
  obtain ⟨hV, hlh, hls, hlt, hlo, hlf⟩ := id hLI
  obtain ⟨hn, hz, hk1, hq10, hhist⟩ := id hlh
  obtain ⟨hk2, hz0, hp10, hsn⟩ := id hls
  obtain ⟨hk3, hln, hk5, htx, hkv⟩ := id hlt
  obtain ⟨hk4, hu0, hy7, hY⟩ := id hlo
  obtain ⟨⟨hk5a, hz4⟩, ⟨hk6, hz1⟩, hk7, hk8⟩ := id hlf
  have hI := hV.bd
  have hs10 : ∀ i, 0 ≤ S 10 i ∧ S 10 i ≤ 1 := hI.2.2.2.2.2.2.2.2.2.2.2.2.2.1
  obtain ⟨x, hv_x⟩ : ∃ v9 : Int, (xs (i + 1).toNat).toInt = v9 := ⟨_, rfl⟩
  have rgx_x := xi_r (xs (i + 1).toNat)
  rw [hv_x] at rgx_x
  obtain ⟨y, hv_y⟩ : ∃ v9 : Int, (xs (i + 2).toNat).toInt = v9 := ⟨_, rfl⟩
  have rgx_y := xi_r (xs (i + 2).toNat)
  rw [hv_y] at rgx_y
  obtain ⟨z, hv_z⟩ : ∃ v9 : Int, (xs (i + 3).toNat).toInt = v9 := ⟨_, rfl⟩
  have rgx_z := xi_r (xs (i + 3).toNat)
  rw [hv_z] at rgx_z
  refine lv_aload_n hx hb dL_law_1445 rfl (lv_at hl 1 rfl) ?_
  refine x_calliB (ws' := brkW ck ka ad ra Z O U X S T P I V N Y Q ++ (modelC ck mo (encZ S) F1 F2 F3 F4 M ++ (lngC ck oa D ++ (dblC ck od E)))) (M := brkW ck ka ad ra Z O U X S T P I V N Y Q) (M' := brkW ck ka ad ra Z O U X S T P I V N Y Q) (N := modelC ck mo (encZ S) F1 F2 F3 F4 M ++ (lngC ck oa D ++ (dblC ck od E))) (cat_perm [brkW ck ka ad ra Z O U X S T P I V N Y Q, modelC ck mo (encZ S) F1 F2 F3 F4 M, lngC ck oa D, dblC ck od E] [0] [1, 2, 3] 4 rfl (by decide)) (cat_perm [brkW ck ka ad ra Z O U X S T P I V N Y Q, modelC ck mo (encZ S) F1 F2 F3 F4 M, lngC ck oa D, dblC ck od E] [0] [1, 2, 3] 4 rfl (by decide)) hP hD hS hA (fun hPm hDm => va_runV (As := []) (rest := []) ⟨hx, hb, hml, hown, htg⟩ (x_tenantCount l dg ck ka ad ra Z O U X S T P I V N Y Q  _ ) (cwV 0 htg (gwV wq_347 wq_348 wq_349 wq_1 wq_350) rfl rfl rfl (by decide +kernel) ⟨Nat.le_of_ble_eq_true rfl, Nat.le_of_ble_eq_true rfl⟩) (wrK_preV hK hPm hDm hC hS hA 0 10 rfl rfl) rfl rfl hl.1 rfl (lv_room (Nat.le_of_ble_eq_true rfl)) dL_law_1446 ⟨by show _ ≤ 603072; omega, by show _ ≤ 7207018; omega⟩) (fun r1446 H locs hr1446 hP hD hS => ?_)
  subst hr1446
  have hP : va_P dg vwCl (brkW ck ka ad ra Z O U X S T P I V N Y Q ++ (modelC ck mo (encZ S) F1 F2 F3 F4 M ++ (lngC ck oa D ++ (dblC ck od E)))) H := hP
  have hD : va_D A (brkW ck ka ad ra Z O U X S T P I V N Y Q ++ (modelC ck mo (encZ S) F1 F2 F3 F4 M ++ (lngC ck oa D ++ (dblC ck od E)))) := hD
  refine lv_aload_n hx hb dL_law_1449 rfl (lv_at hl 2 rfl) ?_
  refine x_calliB (ws' := brkW ck ka ad ra Z O U X S T P I V N Y Q ++ (modelC ck mo (encZ S) F1 F2 F3 F4 (upS M 8 0 0) ++ (lngC ck oa D ++ (dblC ck od E)))) (M := modelC ck mo (encZ S) F1 F2 F3 F4 M) (M' := modelC ck mo (encZ S) F1 F2 F3 F4 (upS M 8 0 0)) (N := brkW ck ka ad ra Z O U X S T P I V N Y Q ++ (lngC ck oa D ++ (dblC ck od E))) (cat_perm [brkW ck ka ad ra Z O U X S T P I V N Y Q, modelC ck mo (encZ S) F1 F2 F3 F4 M, lngC ck oa D, dblC ck od E] [1] [0, 2, 3] 4 rfl (by decide)) (cat_perm [brkW ck ka ad ra Z O U X S T P I V N Y Q, modelC ck mo (encZ S) F1 F2 F3 F4 (upS M 8 0 0), lngC ck oa D, dblC ck od E] [1] [0, 2, 3] 4 rfl (by decide)) hP hD hS hA (fun hPm hDm => va_runV (As := []) (rest := [.int (zI (S 0 2))]) ⟨hx, hb, hml, hown, htg⟩ (m_tenantCount l dg ck mo S F1 F2 F3 F4 M  _ hI) (cwV 0 htg (gwV wq_1829 wq_1830 wq_1831 wq_15 wq_1832) rfl rfl rfl (by decide +kernel) ⟨Nat.le_of_ble_eq_true rfl, Nat.le_of_ble_eq_true rfl⟩) (wr_preV hK hPm hDm 0 11 rfl rfl) rfl rfl hl.1 rfl (lv_room (Nat.le_of_ble_eq_true rfl)) dL_law_1450 ⟨by show _ ≤ 603072; omega, by show _ ≤ 7207018; omega⟩) (fun r1450 H locs hr1450 hP hD hS => ?_)
  subst hr1450
  have hP : va_P dg vwCl (brkW ck ka ad ra Z O U X S T P I V N Y Q ++ (modelC ck mo (encZ S) F1 F2 F3 F4 (upS M 8 0 0) ++ (lngC ck oa D ++ (dblC ck od E)))) H := hP
  have hD : va_D A (brkW ck ka ad ra Z O U X S T P I V N Y Q ++ (modelC ck mo (encZ S) F1 F2 F3 F4 (upS M 8 0 0) ++ (lngC ck oa D ++ (dblC ck od E)))) := hD
  refine lv_icmp_eq (tgt := 3323) hx hb dL_law_1453 (by decide) (fun _ => ?_) (fun c9 => absurd (rfl) c9)
  have hLI2 : LI (775 * i + 3100) ((Z, O, U, X, S, T, P, I, V, N, Y, Q).1) ((Z, O, U, X, S, T, P, I, V, N, Y, Q).2.2.1) ((Z, O, U, X, S, T, P, I, V, N, Y, Q).2.2.2.1) ((Z, O, U, X, S, T, P, I, V, N, Y, Q).2.2.2.2.1) ((Z, O, U, X, S, T, P, I, V, N, Y, Q).2.2.2.2.2.2.1) ((Z, O, U, X, S, T, P, I, V, N, Y, Q).2.2.2.2.2.2.2.1) ((Z, O, U, X, S, T, P, I, V, N, Y, Q).2.2.2.2.2.2.2.2.2.2.1) ((Z, O, U, X, S, T, P, I, V, N, Y, Q).2.2.2.2.2.2.2.2.2.2.2) F2 F3 (upS M 8 0 0) := (hLI.m (mK_0 M 0)).mono (by omega) (by omega)
  have hS2 : S = ((Z, O, U, X, S, T, P, I, V, N, Y, Q) : BU).2.2.2.2.1 := rfl
  refine W.widen (k := cells + 3) (n := slots + 18) (by omega) (by omega) ?_
  have hP : va_P dg vwCl (lawW ck ka ad ra mo oa od (Z, O, U, X, S, T, P, I, V, N, Y, Q) F1 F2 F3 F4 (upS M 8 0 0) D E) H := hP
  have hD : va_D A (lawW ck ka ad ra mo oa od (Z, O, U, X, S, T, P, I, V, N, Y, Q) F1 F2 F3 F4 (upS M 8 0 0) D E) := hD
  exact kk (Z, O, U, X, S, T, P, I, V, N, Y, Q) F1 F2 F3 F4 (upS M 8 0 0) D E H locs ls hLI2 hP hD hS (lv_sub hl [0, 1, 2, 3, 4, 5] rfl)

set_option maxHeartbeats 4000000 in
set_option maxRecDepth 100000 in
/-- the law: a call of month -/
theorem lc_36 {p : Program} {l : Launch} {e : Env} {s : State} {m : MethodId} {below : List Frame} {meth : Method} {c : Code} {dg : va_G} {ck : Nat → ClassId} {ka : Nat → Nat} {b L : Nat} {xs : Nat → Int32} {A : Nat → Prop} {ad ra : Nat → Nat → Nat} {mo : Nat → Nat} {oa od : Nat} {Qf : State → Prop} {i : Int} {cells slots : Nat} (C0 : LX p l s m c dg ck ka b L xs A) (hi : 0 ≤ i ∧ i + 4 ≤ L) (hcell : cells + 3 ≤ 603072) (hslot : slots + 18 ≤ 7207018) (kk : LKK p l e s m below meth c dg ck ka ad ra mo oa od b A Qf i cells slots) {Z O U X : Nat → Int} {S T P I : St} {V N Y : Int → Int} {Q : Nat → St} {F1 F2 F3 F4 : Int → Int} {M : St} {D : Nat → Int64} {E : Nat → UInt64} {H : Heap} {locs : List Loc} {ls : Array Slot} (hLI : LI (775 * i) Z U X S P I Y Q F2 F3 M) (hP : va_P dg vwCl (brkW ck ka ad ra Z O U X S T P I V N Y Q ++ (modelC ck mo (encZ S) F1 F2 F3 F4 M ++ (lngC ck oa D ++ (dblC ck od E)))) H) (hD : va_D A (brkW ck ka ad ra Z O U X S T P I V N Y Q ++ (modelC ck mo (encZ S) F1 F2 F3 F4 M ++ (lngC ck oa D ++ (dblC ck od E))))) (hS : va_S A s.heap H locs) (hl : lv_has ls 9 [(0, .ref b), (1, .ref (ad 7 0)), (2, .ref (mo 0)), (3, .ref oa), (4, .ref od), (5, .int (zI i))]) : W p l e room_1 s m #[Value.ref b] below meth c H locs cells slots Qf (F0 m 2304 ls []) := by
  obtain ⟨hx, hb, hml, hown, htg, hX, hbl, hbA, hK, hC, hA, hst, hL⟩ := id C0
  obtain ⟨hV, hlh, hls, hlt, hlo, hlf⟩ := id hLI
  obtain ⟨hn, hz, hk1, hq10, hhist⟩ := id hlh
  obtain ⟨hk2, hz0, hp10, hsn⟩ := id hls
  obtain ⟨hk3, hln, hk5, htx, hkv⟩ := id hlt
  obtain ⟨hk4, hu0, hy7, hY⟩ := id hlo
  obtain ⟨⟨hk5a, hz4⟩, ⟨hk6, hz1⟩, hk7, hk8⟩ := id hlf
  have hI := hV.bd
  have hs10 : ∀ i, 0 ≤ S 10 i ∧ S 10 i ≤ 1 := hI.2.2.2.2.2.2.2.2.2.2.2.2.2.1
  obtain ⟨x, hv_x⟩ : ∃ v9 : Int, (xs (i + 1).toNat).toInt = v9 := ⟨_, rfl⟩
  have rgx_x := xi_r (xs (i + 1).toNat)
  rw [hv_x] at rgx_x
  obtain ⟨y, hv_y⟩ : ∃ v9 : Int, (xs (i + 2).toNat).toInt = v9 := ⟨_, rfl⟩
  have rgx_y := xi_r (xs (i + 2).toNat)
  rw [hv_y] at rgx_y
  obtain ⟨z, hv_z⟩ : ∃ v9 : Int, (xs (i + 3).toNat).toInt = v9 := ⟨_, rfl⟩
  have rgx_z := xi_r (xs (i + 3).toNat)
  rw [hv_z] at rgx_z
  refine lv_aload_n hx hb dL_law_2304 rfl (lv_at hl 1 rfl) ?_
  refine x_calliB (ws' := brkW ck ka ad ra Z O U X S T P I V N Y Q ++ (modelC ck mo (encZ S) F1 F2 F3 F4 M ++ (lngC ck oa D ++ (dblC ck od E)))) (M := brkW ck ka ad ra Z O U X S T P I V N Y Q) (M' := brkW ck ka ad ra Z O U X S T P I V N Y Q) (N := modelC ck mo (encZ S) F1 F2 F3 F4 M ++ (lngC ck oa D ++ (dblC ck od E))) (cat_perm [brkW ck ka ad ra Z O U X S T P I V N Y Q, modelC ck mo (encZ S) F1 F2 F3 F4 M, lngC ck oa D, dblC ck od E] [0] [1, 2, 3] 4 rfl (by decide)) (cat_perm [brkW ck ka ad ra Z O U X S T P I V N Y Q, modelC ck mo (encZ S) F1 F2 F3 F4 M, lngC ck oa D, dblC ck od E] [0] [1, 2, 3] 4 rfl (by decide)) hP hD hS hA (fun hPm hDm => va_runV (As := []) (rest := []) ⟨hx, hb, hml, hown, htg⟩ (x_month l dg ck ka ad ra Z O U X S T P I V N Y Q  _ ) (cwV 0 htg (gwV wq_351 wq_352 wq_353 wq_1 wq_354) rfl rfl rfl (by decide +kernel) ⟨Nat.le_of_ble_eq_true rfl, Nat.le_of_ble_eq_true rfl⟩) (wrK_preV hK hPm hDm hC hS hA 0 10 rfl rfl) rfl rfl hl.1 rfl (lv_room (Nat.le_of_ble_eq_true rfl)) dL_law_2305 ⟨by show _ ≤ 603072; omega, by show _ ≤ 7207018; omega⟩) (fun r2305 H locs hr2305 hP hD hS => ?_)
  subst hr2305
  have hP : va_P dg vwCl (brkW ck ka ad ra Z O U X S T P I V N Y Q ++ (modelC ck mo (encZ S) F1 F2 F3 F4 M ++ (lngC ck oa D ++ (dblC ck od E)))) H := hP
  have hD : va_D A (brkW ck ka ad ra Z O U X S T P I V N Y Q ++ (modelC ck mo (encZ S) F1 F2 F3 F4 M ++ (lngC ck oa D ++ (dblC ck od E)))) := hD
  refine lv_aload_n hx hb dL_law_2308 rfl (lv_at hl 2 rfl) ?_
  refine x_calliB (ws' := brkW ck ka ad ra Z O U X S T P I V N Y Q ++ (modelC ck mo (encZ S) F1 F2 F3 F4 (upS M 8 0 0) ++ (lngC ck oa D ++ (dblC ck od E)))) (M := modelC ck mo (encZ S) F1 F2 F3 F4 M) (M' := modelC ck mo (encZ S) F1 F2 F3 F4 (upS M 8 0 0)) (N := brkW ck ka ad ra Z O U X S T P I V N Y Q ++ (lngC ck oa D ++ (dblC ck od E))) (cat_perm [brkW ck ka ad ra Z O U X S T P I V N Y Q, modelC ck mo (encZ S) F1 F2 F3 F4 M, lngC ck oa D, dblC ck od E] [1] [0, 2, 3] 4 rfl (by decide)) (cat_perm [brkW ck ka ad ra Z O U X S T P I V N Y Q, modelC ck mo (encZ S) F1 F2 F3 F4 (upS M 8 0 0), lngC ck oa D, dblC ck od E] [1] [0, 2, 3] 4 rfl (by decide)) hP hD hS hA (fun hPm hDm => va_runV (As := []) (rest := [.int (zI (S 0 4))]) ⟨hx, hb, hml, hown, htg⟩ (m_month l dg ck mo S F1 F2 F3 F4 M  _ hI) (cwV 0 htg (gwV wq_1933 wq_1934 wq_1935 wq_15 wq_1936) rfl rfl rfl (by decide +kernel) ⟨Nat.le_of_ble_eq_true rfl, Nat.le_of_ble_eq_true rfl⟩) (wr_preV hK hPm hDm 0 11 rfl rfl) rfl rfl hl.1 rfl (lv_room (Nat.le_of_ble_eq_true rfl)) dL_law_2309 ⟨by show _ ≤ 603072; omega, by show _ ≤ 7207018; omega⟩) (fun r2309 H locs hr2309 hP hD hS => ?_)
  subst hr2309
  have hP : va_P dg vwCl (brkW ck ka ad ra Z O U X S T P I V N Y Q ++ (modelC ck mo (encZ S) F1 F2 F3 F4 (upS M 8 0 0) ++ (lngC ck oa D ++ (dblC ck od E)))) H := hP
  have hD : va_D A (brkW ck ka ad ra Z O U X S T P I V N Y Q ++ (modelC ck mo (encZ S) F1 F2 F3 F4 (upS M 8 0 0) ++ (lngC ck oa D ++ (dblC ck od E)))) := hD
  refine lv_icmp_eq (tgt := 3323) hx hb dL_law_2312 (by decide) (fun _ => ?_) (fun c9 => absurd (rfl) c9)
  have hLI2 : LI (775 * i + 3100) ((Z, O, U, X, S, T, P, I, V, N, Y, Q).1) ((Z, O, U, X, S, T, P, I, V, N, Y, Q).2.2.1) ((Z, O, U, X, S, T, P, I, V, N, Y, Q).2.2.2.1) ((Z, O, U, X, S, T, P, I, V, N, Y, Q).2.2.2.2.1) ((Z, O, U, X, S, T, P, I, V, N, Y, Q).2.2.2.2.2.2.1) ((Z, O, U, X, S, T, P, I, V, N, Y, Q).2.2.2.2.2.2.2.1) ((Z, O, U, X, S, T, P, I, V, N, Y, Q).2.2.2.2.2.2.2.2.2.2.1) ((Z, O, U, X, S, T, P, I, V, N, Y, Q).2.2.2.2.2.2.2.2.2.2.2) F2 F3 (upS M 8 0 0) := (hLI.m (mK_0 M 0)).mono (by omega) (by omega)
  have hS2 : S = ((Z, O, U, X, S, T, P, I, V, N, Y, Q) : BU).2.2.2.2.1 := rfl
  refine W.widen (k := cells + 3) (n := slots + 18) (by omega) (by omega) ?_
  have hP : va_P dg vwCl (lawW ck ka ad ra mo oa od (Z, O, U, X, S, T, P, I, V, N, Y, Q) F1 F2 F3 F4 (upS M 8 0 0) D E) H := hP
  have hD : va_D A (lawW ck ka ad ra mo oa od (Z, O, U, X, S, T, P, I, V, N, Y, Q) F1 F2 F3 F4 (upS M 8 0 0) D E) := hD
  exact kk (Z, O, U, X, S, T, P, I, V, N, Y, Q) F1 F2 F3 F4 (upS M 8 0 0) D E H locs ls hLI2 hP hD hS (lv_sub hl [0, 1, 2, 3, 4, 5] rfl)

set_option maxHeartbeats 4000000 in
set_option maxRecDepth 100000 in
/-- the law: a call of brokerCoins -/
theorem lc_39 {p : Program} {l : Launch} {e : Env} {s : State} {m : MethodId} {below : List Frame} {meth : Method} {c : Code} {dg : va_G} {ck : Nat → ClassId} {ka : Nat → Nat} {b L : Nat} {xs : Nat → Int32} {A : Nat → Prop} {ad ra : Nat → Nat → Nat} {mo : Nat → Nat} {oa od : Nat} {Qf : State → Prop} {i : Int} {cells slots : Nat} (C0 : LX p l s m c dg ck ka b L xs A) (hi : 0 ≤ i ∧ i + 4 ≤ L) (hcell : cells + 3 ≤ 603072) (hslot : slots + 18 ≤ 7207018) (kk : LKK p l e s m below meth c dg ck ka ad ra mo oa od b A Qf i cells slots) {Z O U X : Nat → Int} {S T P I : St} {V N Y : Int → Int} {Q : Nat → St} {F1 F2 F3 F4 : Int → Int} {M : St} {D : Nat → Int64} {E : Nat → UInt64} {H : Heap} {locs : List Loc} {ls : Array Slot} (hLI : LI (775 * i) Z U X S P I Y Q F2 F3 M) (hP : va_P dg vwCl (brkW ck ka ad ra Z O U X S T P I V N Y Q ++ (modelC ck mo (encZ S) F1 F2 F3 F4 M ++ (lngC ck oa D ++ (dblC ck od E)))) H) (hD : va_D A (brkW ck ka ad ra Z O U X S T P I V N Y Q ++ (modelC ck mo (encZ S) F1 F2 F3 F4 M ++ (lngC ck oa D ++ (dblC ck od E))))) (hS : va_S A s.heap H locs) (hl : lv_has ls 9 [(0, .ref b), (1, .ref (ad 7 0)), (2, .ref (mo 0)), (3, .ref oa), (4, .ref od), (5, .int (zI i))]) : W p l e room_1 s m #[Value.ref b] below meth c H locs cells slots Qf (F0 m 2429 ls []) := by
  obtain ⟨hx, hb, hml, hown, htg, hX, hbl, hbA, hK, hC, hA, hst, hL⟩ := id C0
  obtain ⟨hV, hlh, hls, hlt, hlo, hlf⟩ := id hLI
  obtain ⟨hn, hz, hk1, hq10, hhist⟩ := id hlh
  obtain ⟨hk2, hz0, hp10, hsn⟩ := id hls
  obtain ⟨hk3, hln, hk5, htx, hkv⟩ := id hlt
  obtain ⟨hk4, hu0, hy7, hY⟩ := id hlo
  obtain ⟨⟨hk5a, hz4⟩, ⟨hk6, hz1⟩, hk7, hk8⟩ := id hlf
  have hI := hV.bd
  have hs10 : ∀ i, 0 ≤ S 10 i ∧ S 10 i ≤ 1 := hI.2.2.2.2.2.2.2.2.2.2.2.2.2.1
  obtain ⟨x, hv_x⟩ : ∃ v9 : Int, (xs (i + 1).toNat).toInt = v9 := ⟨_, rfl⟩
  have rgx_x := xi_r (xs (i + 1).toNat)
  rw [hv_x] at rgx_x
  obtain ⟨y, hv_y⟩ : ∃ v9 : Int, (xs (i + 2).toNat).toInt = v9 := ⟨_, rfl⟩
  have rgx_y := xi_r (xs (i + 2).toNat)
  rw [hv_y] at rgx_y
  obtain ⟨z, hv_z⟩ : ∃ v9 : Int, (xs (i + 3).toNat).toInt = v9 := ⟨_, rfl⟩
  have rgx_z := xi_r (xs (i + 3).toNat)
  rw [hv_z] at rgx_z
  refine lv_aload_n hx hb dL_law_2429 rfl (lv_at hl 1 rfl) ?_
  refine x_calliB (ws' := brkW ck ka ad ra Z O U X S T P I V N Y Q ++ (modelC ck mo (encZ S) F1 F2 F3 F4 M ++ (lngC ck oa D ++ (dblC ck od E)))) (M := brkW ck ka ad ra Z O U X S T P I V N Y Q) (M' := brkW ck ka ad ra Z O U X S T P I V N Y Q) (N := modelC ck mo (encZ S) F1 F2 F3 F4 M ++ (lngC ck oa D ++ (dblC ck od E))) (cat_perm [brkW ck ka ad ra Z O U X S T P I V N Y Q, modelC ck mo (encZ S) F1 F2 F3 F4 M, lngC ck oa D, dblC ck od E] [0] [1, 2, 3] 4 rfl (by decide)) (cat_perm [brkW ck ka ad ra Z O U X S T P I V N Y Q, modelC ck mo (encZ S) F1 F2 F3 F4 M, lngC ck oa D, dblC ck od E] [0] [1, 2, 3] 4 rfl (by decide)) hP hD hS hA (fun hPm hDm => va_runV (As := []) (rest := []) ⟨hx, hb, hml, hown, htg⟩ (x_brokerCoins l dg ck ka ad ra Z O U X S T P I V N Y Q  _ ) (cwV 0 htg (gwV wq_355 wq_356 wq_357 wq_1 wq_358) rfl rfl rfl (by decide +kernel) ⟨Nat.le_of_ble_eq_true rfl, Nat.le_of_ble_eq_true rfl⟩) (wrK_preV hK hPm hDm hC hS hA 0 10 rfl rfl) rfl rfl hl.1 rfl (lv_room (Nat.le_of_ble_eq_true rfl)) dL_law_2430 ⟨by show _ ≤ 603072; omega, by show _ ≤ 7207018; omega⟩) (fun r2430 H locs hr2430 hP hD hS => ?_)
  subst hr2430
  have hP : va_P dg vwCl (brkW ck ka ad ra Z O U X S T P I V N Y Q ++ (modelC ck mo (encZ S) F1 F2 F3 F4 M ++ (lngC ck oa D ++ (dblC ck od E)))) H := hP
  have hD : va_D A (brkW ck ka ad ra Z O U X S T P I V N Y Q ++ (modelC ck mo (encZ S) F1 F2 F3 F4 M ++ (lngC ck oa D ++ (dblC ck od E)))) := hD
  refine lv_aload_n hx hb dL_law_2433 rfl (lv_at hl 2 rfl) ?_
  refine x_calliB (ws' := brkW ck ka ad ra Z O U X S T P I V N Y Q ++ (modelC ck mo (encZ S) F1 F2 F3 F4 (upS M 8 0 0) ++ (lngC ck oa D ++ (dblC ck od E)))) (M := modelC ck mo (encZ S) F1 F2 F3 F4 M) (M' := modelC ck mo (encZ S) F1 F2 F3 F4 (upS M 8 0 0)) (N := brkW ck ka ad ra Z O U X S T P I V N Y Q ++ (lngC ck oa D ++ (dblC ck od E))) (cat_perm [brkW ck ka ad ra Z O U X S T P I V N Y Q, modelC ck mo (encZ S) F1 F2 F3 F4 M, lngC ck oa D, dblC ck od E] [1] [0, 2, 3] 4 rfl (by decide)) (cat_perm [brkW ck ka ad ra Z O U X S T P I V N Y Q, modelC ck mo (encZ S) F1 F2 F3 F4 (upS M 8 0 0), lngC ck oa D, dblC ck od E] [1] [0, 2, 3] 4 rfl (by decide)) hP hD hS hA (fun hPm hDm => va_runV (As := []) (rest := [.int (zI (S 0 5))]) ⟨hx, hb, hml, hown, htg⟩ (m_brokerCoins l dg ck mo S F1 F2 F3 F4 M  _ hI) (cwV 0 htg (gwV wq_1946 wq_1947 wq_1948 wq_15 wq_1949) rfl rfl rfl (by decide +kernel) ⟨Nat.le_of_ble_eq_true rfl, Nat.le_of_ble_eq_true rfl⟩) (wr_preV hK hPm hDm 0 11 rfl rfl) rfl rfl hl.1 rfl (lv_room (Nat.le_of_ble_eq_true rfl)) dL_law_2434 ⟨by show _ ≤ 603072; omega, by show _ ≤ 7207018; omega⟩) (fun r2434 H locs hr2434 hP hD hS => ?_)
  subst hr2434
  have hP : va_P dg vwCl (brkW ck ka ad ra Z O U X S T P I V N Y Q ++ (modelC ck mo (encZ S) F1 F2 F3 F4 (upS M 8 0 0) ++ (lngC ck oa D ++ (dblC ck od E)))) H := hP
  have hD : va_D A (brkW ck ka ad ra Z O U X S T P I V N Y Q ++ (modelC ck mo (encZ S) F1 F2 F3 F4 (upS M 8 0 0) ++ (lngC ck oa D ++ (dblC ck od E)))) := hD
  refine lv_icmp_eq (tgt := 3323) hx hb dL_law_2437 (by decide) (fun _ => ?_) (fun c9 => absurd (rfl) c9)
  have hLI2 : LI (775 * i + 3100) ((Z, O, U, X, S, T, P, I, V, N, Y, Q).1) ((Z, O, U, X, S, T, P, I, V, N, Y, Q).2.2.1) ((Z, O, U, X, S, T, P, I, V, N, Y, Q).2.2.2.1) ((Z, O, U, X, S, T, P, I, V, N, Y, Q).2.2.2.2.1) ((Z, O, U, X, S, T, P, I, V, N, Y, Q).2.2.2.2.2.2.1) ((Z, O, U, X, S, T, P, I, V, N, Y, Q).2.2.2.2.2.2.2.1) ((Z, O, U, X, S, T, P, I, V, N, Y, Q).2.2.2.2.2.2.2.2.2.2.1) ((Z, O, U, X, S, T, P, I, V, N, Y, Q).2.2.2.2.2.2.2.2.2.2.2) F2 F3 (upS M 8 0 0) := (hLI.m (mK_0 M 0)).mono (by omega) (by omega)
  have hS2 : S = ((Z, O, U, X, S, T, P, I, V, N, Y, Q) : BU).2.2.2.2.1 := rfl
  refine W.widen (k := cells + 3) (n := slots + 18) (by omega) (by omega) ?_
  have hP : va_P dg vwCl (lawW ck ka ad ra mo oa od (Z, O, U, X, S, T, P, I, V, N, Y, Q) F1 F2 F3 F4 (upS M 8 0 0) D E) H := hP
  have hD : va_D A (lawW ck ka ad ra mo oa od (Z, O, U, X, S, T, P, I, V, N, Y, Q) F1 F2 F3 F4 (upS M 8 0 0) D E) := hD
  exact kk (Z, O, U, X, S, T, P, I, V, N, Y, Q) F1 F2 F3 F4 (upS M 8 0 0) D E H locs ls hLI2 hP hD hS (lv_sub hl [0, 1, 2, 3, 4, 5] rfl)

set_option maxHeartbeats 4000000 in
set_option maxRecDepth 100000 in
/-- the law: a call of depositTotal -/
theorem lc_40 {p : Program} {l : Launch} {e : Env} {s : State} {m : MethodId} {below : List Frame} {meth : Method} {c : Code} {dg : va_G} {ck : Nat → ClassId} {ka : Nat → Nat} {b L : Nat} {xs : Nat → Int32} {A : Nat → Prop} {ad ra : Nat → Nat → Nat} {mo : Nat → Nat} {oa od : Nat} {Qf : State → Prop} {i : Int} {cells slots : Nat} (C0 : LX p l s m c dg ck ka b L xs A) (hi : 0 ≤ i ∧ i + 4 ≤ L) (hcell : cells + 3 ≤ 603072) (hslot : slots + 18 ≤ 7207018) (kk : LKK p l e s m below meth c dg ck ka ad ra mo oa od b A Qf i cells slots) {Z O U X : Nat → Int} {S T P I : St} {V N Y : Int → Int} {Q : Nat → St} {F1 F2 F3 F4 : Int → Int} {M : St} {D : Nat → Int64} {E : Nat → UInt64} {H : Heap} {locs : List Loc} {ls : Array Slot} (hLI : LI (775 * i) Z U X S P I Y Q F2 F3 M) (hP : va_P dg vwCl (brkW ck ka ad ra Z O U X S T P I V N Y Q ++ (modelC ck mo (encZ S) F1 F2 F3 F4 M ++ (lngC ck oa D ++ (dblC ck od E)))) H) (hD : va_D A (brkW ck ka ad ra Z O U X S T P I V N Y Q ++ (modelC ck mo (encZ S) F1 F2 F3 F4 M ++ (lngC ck oa D ++ (dblC ck od E))))) (hS : va_S A s.heap H locs) (hl : lv_has ls 9 [(0, .ref b), (1, .ref (ad 7 0)), (2, .ref (mo 0)), (3, .ref oa), (4, .ref od), (5, .int (zI i))]) : W p l e room_1 s m #[Value.ref b] below meth c H locs cells slots Qf (F0 m 2442 ls []) := by
  obtain ⟨hx, hb, hml, hown, htg, hX, hbl, hbA, hK, hC, hA, hst, hL⟩ := id C0
  obtain ⟨hV, hlh, hls, hlt, hlo, hlf⟩ := id hLI
  obtain ⟨hn, hz, hk1, hq10, hhist⟩ := id hlh
  obtain ⟨hk2, hz0, hp10, hsn⟩ := id hls
  obtain ⟨hk3, hln, hk5, htx, hkv⟩ := id hlt
  obtain ⟨hk4, hu0, hy7, hY⟩ := id hlo
  obtain ⟨⟨hk5a, hz4⟩, ⟨hk6, hz1⟩, hk7, hk8⟩ := id hlf
  have hI := hV.bd
  have hs10 : ∀ i, 0 ≤ S 10 i ∧ S 10 i ≤ 1 := hI.2.2.2.2.2.2.2.2.2.2.2.2.2.1
  obtain ⟨x, hv_x⟩ : ∃ v9 : Int, (xs (i + 1).toNat).toInt = v9 := ⟨_, rfl⟩
  have rgx_x := xi_r (xs (i + 1).toNat)
  rw [hv_x] at rgx_x
  obtain ⟨y, hv_y⟩ : ∃ v9 : Int, (xs (i + 2).toNat).toInt = v9 := ⟨_, rfl⟩
  have rgx_y := xi_r (xs (i + 2).toNat)
  rw [hv_y] at rgx_y
  obtain ⟨z, hv_z⟩ : ∃ v9 : Int, (xs (i + 3).toNat).toInt = v9 := ⟨_, rfl⟩
  have rgx_z := xi_r (xs (i + 3).toNat)
  rw [hv_z] at rgx_z
  refine lv_aload_n hx hb dL_law_2442 rfl (lv_at hl 1 rfl) ?_
  refine x_calliB (ws' := brkW ck ka ad ra Z O U X S T P I V N Y Q ++ (modelC ck mo (encZ S) F1 F2 F3 F4 M ++ (lngC ck oa D ++ (dblC ck od E)))) (M := brkW ck ka ad ra Z O U X S T P I V N Y Q) (M' := brkW ck ka ad ra Z O U X S T P I V N Y Q) (N := modelC ck mo (encZ S) F1 F2 F3 F4 M ++ (lngC ck oa D ++ (dblC ck od E))) (cat_perm [brkW ck ka ad ra Z O U X S T P I V N Y Q, modelC ck mo (encZ S) F1 F2 F3 F4 M, lngC ck oa D, dblC ck od E] [0] [1, 2, 3] 4 rfl (by decide)) (cat_perm [brkW ck ka ad ra Z O U X S T P I V N Y Q, modelC ck mo (encZ S) F1 F2 F3 F4 M, lngC ck oa D, dblC ck od E] [0] [1, 2, 3] 4 rfl (by decide)) hP hD hS hA (fun hPm hDm => va_runV (As := []) (rest := []) ⟨hx, hb, hml, hown, htg⟩ (x_depositTotal l dg ck ka ad ra Z O U X S T P I V N Y Q  _ hI) (cwV 0 htg (gwV wq_359 wq_360 wq_361 wq_1 wq_362) rfl rfl rfl (by decide +kernel) ⟨Nat.le_of_ble_eq_true rfl, Nat.le_of_ble_eq_true rfl⟩) (wrK_preV hK hPm hDm hC hS hA 0 10 rfl rfl) rfl rfl hl.1 rfl (lv_room (Nat.le_of_ble_eq_true rfl)) dL_law_2443 ⟨by show _ ≤ 603072; omega, by show _ ≤ 7207018; omega⟩) (fun r2443 H locs hr2443 hP hD hS => ?_)
  subst hr2443
  have hP : va_P dg vwCl (brkW ck ka ad ra Z O U X S T P I V N Y Q ++ (modelC ck mo (encZ S) F1 F2 F3 F4 M ++ (lngC ck oa D ++ (dblC ck od E)))) H := hP
  have hD : va_D A (brkW ck ka ad ra Z O U X S T P I V N Y Q ++ (modelC ck mo (encZ S) F1 F2 F3 F4 M ++ (lngC ck oa D ++ (dblC ck od E)))) := hD
  refine lv_aload_n hx hb dL_law_2446 rfl (lv_at hl 2 rfl) ?_
  refine x_calliB (ws' := brkW ck ka ad ra Z O U X S T P I V N Y Q ++ (modelC ck mo (encZ S) F1 F2 F3 F4 (upS M 8 0 0) ++ (lngC ck oa D ++ (dblC ck od E)))) (M := modelC ck mo (encZ S) F1 F2 F3 F4 M) (M' := modelC ck mo (encZ S) F1 F2 F3 F4 (upS M 8 0 0)) (N := brkW ck ka ad ra Z O U X S T P I V N Y Q ++ (lngC ck oa D ++ (dblC ck od E))) (cat_perm [brkW ck ka ad ra Z O U X S T P I V N Y Q, modelC ck mo (encZ S) F1 F2 F3 F4 M, lngC ck oa D, dblC ck od E] [1] [0, 2, 3] 4 rfl (by decide)) (cat_perm [brkW ck ka ad ra Z O U X S T P I V N Y Q, modelC ck mo (encZ S) F1 F2 F3 F4 (upS M 8 0 0), lngC ck oa D, dblC ck od E] [1] [0, 2, 3] 4 rfl (by decide)) hP hD hS hA (fun hPm hDm => va_runV (As := []) (rest := [.int (zI (deps S))]) ⟨hx, hb, hml, hown, htg⟩ (m_depositTotal l dg ck mo S F1 F2 F3 F4 M  _ hI) (cwV 0 htg (gwV wq_1950 wq_1951 wq_1952 wq_15 wq_1953) rfl rfl rfl (by decide +kernel) ⟨Nat.le_of_ble_eq_true rfl, Nat.le_of_ble_eq_true rfl⟩) (wr_preV hK hPm hDm 0 11 rfl rfl) rfl rfl hl.1 rfl (lv_room (Nat.le_of_ble_eq_true rfl)) dL_law_2447 ⟨by show _ ≤ 603072; omega, by show _ ≤ 7207018; omega⟩) (fun r2447 H locs hr2447 hP hD hS => ?_)
  subst hr2447
  have hP : va_P dg vwCl (brkW ck ka ad ra Z O U X S T P I V N Y Q ++ (modelC ck mo (encZ S) F1 F2 F3 F4 (upS M 8 0 0) ++ (lngC ck oa D ++ (dblC ck od E)))) H := hP
  have hD : va_D A (brkW ck ka ad ra Z O U X S T P I V N Y Q ++ (modelC ck mo (encZ S) F1 F2 F3 F4 (upS M 8 0 0) ++ (lngC ck oa D ++ (dblC ck od E)))) := hD
  refine lv_icmp_eq (tgt := 3323) hx hb dL_law_2450 (by decide) (fun _ => ?_) (fun c9 => absurd (rfl) c9)
  have hLI2 : LI (775 * i + 3100) ((Z, O, U, X, S, T, P, I, V, N, Y, Q).1) ((Z, O, U, X, S, T, P, I, V, N, Y, Q).2.2.1) ((Z, O, U, X, S, T, P, I, V, N, Y, Q).2.2.2.1) ((Z, O, U, X, S, T, P, I, V, N, Y, Q).2.2.2.2.1) ((Z, O, U, X, S, T, P, I, V, N, Y, Q).2.2.2.2.2.2.1) ((Z, O, U, X, S, T, P, I, V, N, Y, Q).2.2.2.2.2.2.2.1) ((Z, O, U, X, S, T, P, I, V, N, Y, Q).2.2.2.2.2.2.2.2.2.2.1) ((Z, O, U, X, S, T, P, I, V, N, Y, Q).2.2.2.2.2.2.2.2.2.2.2) F2 F3 (upS M 8 0 0) := (hLI.m (mK_0 M 0)).mono (by omega) (by omega)
  have hS2 : S = ((Z, O, U, X, S, T, P, I, V, N, Y, Q) : BU).2.2.2.2.1 := rfl
  refine W.widen (k := cells + 3) (n := slots + 18) (by omega) (by omega) ?_
  have hP : va_P dg vwCl (lawW ck ka ad ra mo oa od (Z, O, U, X, S, T, P, I, V, N, Y, Q) F1 F2 F3 F4 (upS M 8 0 0) D E) H := hP
  have hD : va_D A (lawW ck ka ad ra mo oa od (Z, O, U, X, S, T, P, I, V, N, Y, Q) F1 F2 F3 F4 (upS M 8 0 0) D E) := hD
  exact kk (Z, O, U, X, S, T, P, I, V, N, Y, Q) F1 F2 F3 F4 (upS M 8 0 0) D E H locs ls hLI2 hP hD hS (lv_sub hl [0, 1, 2, 3, 4, 5] rfl)

set_option maxHeartbeats 4000000 in
set_option maxRecDepth 100000 in
/-- the law: a call of allCoins -/
theorem lc_41 {p : Program} {l : Launch} {e : Env} {s : State} {m : MethodId} {below : List Frame} {meth : Method} {c : Code} {dg : va_G} {ck : Nat → ClassId} {ka : Nat → Nat} {b L : Nat} {xs : Nat → Int32} {A : Nat → Prop} {ad ra : Nat → Nat → Nat} {mo : Nat → Nat} {oa od : Nat} {Qf : State → Prop} {i : Int} {cells slots : Nat} (C0 : LX p l s m c dg ck ka b L xs A) (hi : 0 ≤ i ∧ i + 4 ≤ L) (hcell : cells + 3 ≤ 603072) (hslot : slots + 18 ≤ 7207018) (kk : LKK p l e s m below meth c dg ck ka ad ra mo oa od b A Qf i cells slots) {Z O U X : Nat → Int} {S T P I : St} {V N Y : Int → Int} {Q : Nat → St} {F1 F2 F3 F4 : Int → Int} {M : St} {D : Nat → Int64} {E : Nat → UInt64} {H : Heap} {locs : List Loc} {ls : Array Slot} (hLI : LI (775 * i) Z U X S P I Y Q F2 F3 M) (hP : va_P dg vwCl (brkW ck ka ad ra Z O U X S T P I V N Y Q ++ (modelC ck mo (encZ S) F1 F2 F3 F4 M ++ (lngC ck oa D ++ (dblC ck od E)))) H) (hD : va_D A (brkW ck ka ad ra Z O U X S T P I V N Y Q ++ (modelC ck mo (encZ S) F1 F2 F3 F4 M ++ (lngC ck oa D ++ (dblC ck od E))))) (hS : va_S A s.heap H locs) (hl : lv_has ls 9 [(0, .ref b), (1, .ref (ad 7 0)), (2, .ref (mo 0)), (3, .ref oa), (4, .ref od), (5, .int (zI i))]) : W p l e room_1 s m #[Value.ref b] below meth c H locs cells slots Qf (F0 m 2455 ls []) := by
  obtain ⟨hx, hb, hml, hown, htg, hX, hbl, hbA, hK, hC, hA, hst, hL⟩ := id C0
  obtain ⟨hV, hlh, hls, hlt, hlo, hlf⟩ := id hLI
  obtain ⟨hn, hz, hk1, hq10, hhist⟩ := id hlh
  obtain ⟨hk2, hz0, hp10, hsn⟩ := id hls
  obtain ⟨hk3, hln, hk5, htx, hkv⟩ := id hlt
  obtain ⟨hk4, hu0, hy7, hY⟩ := id hlo
  obtain ⟨⟨hk5a, hz4⟩, ⟨hk6, hz1⟩, hk7, hk8⟩ := id hlf
  have hI := hV.bd
  have hs10 : ∀ i, 0 ≤ S 10 i ∧ S 10 i ≤ 1 := hI.2.2.2.2.2.2.2.2.2.2.2.2.2.1
  obtain ⟨x, hv_x⟩ : ∃ v9 : Int, (xs (i + 1).toNat).toInt = v9 := ⟨_, rfl⟩
  have rgx_x := xi_r (xs (i + 1).toNat)
  rw [hv_x] at rgx_x
  obtain ⟨y, hv_y⟩ : ∃ v9 : Int, (xs (i + 2).toNat).toInt = v9 := ⟨_, rfl⟩
  have rgx_y := xi_r (xs (i + 2).toNat)
  rw [hv_y] at rgx_y
  obtain ⟨z, hv_z⟩ : ∃ v9 : Int, (xs (i + 3).toNat).toInt = v9 := ⟨_, rfl⟩
  have rgx_z := xi_r (xs (i + 3).toNat)
  rw [hv_z] at rgx_z
  refine lv_aload_n hx hb dL_law_2455 rfl (lv_at hl 1 rfl) ?_
  refine x_calliB (ws' := brkW ck ka ad ra Z O U X S T P I V N Y Q ++ (modelC ck mo (encZ S) F1 F2 F3 F4 M ++ (lngC ck oa D ++ (dblC ck od E)))) (M := brkW ck ka ad ra Z O U X S T P I V N Y Q) (M' := brkW ck ka ad ra Z O U X S T P I V N Y Q) (N := modelC ck mo (encZ S) F1 F2 F3 F4 M ++ (lngC ck oa D ++ (dblC ck od E))) (cat_perm [brkW ck ka ad ra Z O U X S T P I V N Y Q, modelC ck mo (encZ S) F1 F2 F3 F4 M, lngC ck oa D, dblC ck od E] [0] [1, 2, 3] 4 rfl (by decide)) (cat_perm [brkW ck ka ad ra Z O U X S T P I V N Y Q, modelC ck mo (encZ S) F1 F2 F3 F4 M, lngC ck oa D, dblC ck od E] [0] [1, 2, 3] 4 rfl (by decide)) hP hD hS hA (fun hPm hDm => va_runV (As := []) (rest := []) ⟨hx, hb, hml, hown, htg⟩ (x_allCoins l dg ck ka ad ra Z O U X S T P I V N Y Q  _ hI) (cwV 0 htg (gwV wq_367 wq_368 wq_369 wq_1 wq_370) rfl rfl rfl (by decide +kernel) ⟨Nat.le_of_ble_eq_true rfl, Nat.le_of_ble_eq_true rfl⟩) (wrK_preV hK hPm hDm hC hS hA 0 10 rfl rfl) rfl rfl hl.1 rfl (lv_room (Nat.le_of_ble_eq_true rfl)) dL_law_2456 ⟨by show _ ≤ 603072; omega, by show _ ≤ 7207018; omega⟩) (fun r2456 H locs hr2456 hP hD hS => ?_)
  subst hr2456
  have hP : va_P dg vwCl (brkW ck ka ad ra Z O U X S T P I V N Y Q ++ (modelC ck mo (encZ S) F1 F2 F3 F4 M ++ (lngC ck oa D ++ (dblC ck od E)))) H := hP
  have hD : va_D A (brkW ck ka ad ra Z O U X S T P I V N Y Q ++ (modelC ck mo (encZ S) F1 F2 F3 F4 M ++ (lngC ck oa D ++ (dblC ck od E)))) := hD
  refine lv_aload_n hx hb dL_law_2459 rfl (lv_at hl 2 rfl) ?_
  refine x_calliB (ws' := brkW ck ka ad ra Z O U X S T P I V N Y Q ++ (modelC ck mo (encZ S) F1 F2 F3 F4 (upS M 8 0 0) ++ (lngC ck oa D ++ (dblC ck od E)))) (M := modelC ck mo (encZ S) F1 F2 F3 F4 M) (M' := modelC ck mo (encZ S) F1 F2 F3 F4 (upS M 8 0 0)) (N := brkW ck ka ad ra Z O U X S T P I V N Y Q ++ (lngC ck oa D ++ (dblC ck od E))) (cat_perm [brkW ck ka ad ra Z O U X S T P I V N Y Q, modelC ck mo (encZ S) F1 F2 F3 F4 M, lngC ck oa D, dblC ck od E] [1] [0, 2, 3] 4 rfl (by decide)) (cat_perm [brkW ck ka ad ra Z O U X S T P I V N Y Q, modelC ck mo (encZ S) F1 F2 F3 F4 (upS M 8 0 0), lngC ck oa D, dblC ck od E] [1] [0, 2, 3] 4 rfl (by decide)) hP hD hS hA (fun hPm hDm => va_runV (As := []) (rest := [.int (zI (coinsA S))]) ⟨hx, hb, hml, hown, htg⟩ (m_allCoins l dg ck mo S F1 F2 F3 F4 M  _ hI) (cwV 0 htg (gwV wq_1958 wq_1959 wq_1960 wq_15 wq_1961) rfl rfl rfl (by decide +kernel) ⟨Nat.le_of_ble_eq_true rfl, Nat.le_of_ble_eq_true rfl⟩) (wr_preV hK hPm hDm 0 11 rfl rfl) rfl rfl hl.1 rfl (lv_room (Nat.le_of_ble_eq_true rfl)) dL_law_2460 ⟨by show _ ≤ 603072; omega, by show _ ≤ 7207018; omega⟩) (fun r2460 H locs hr2460 hP hD hS => ?_)
  subst hr2460
  have hP : va_P dg vwCl (brkW ck ka ad ra Z O U X S T P I V N Y Q ++ (modelC ck mo (encZ S) F1 F2 F3 F4 (upS M 8 0 0) ++ (lngC ck oa D ++ (dblC ck od E)))) H := hP
  have hD : va_D A (brkW ck ka ad ra Z O U X S T P I V N Y Q ++ (modelC ck mo (encZ S) F1 F2 F3 F4 (upS M 8 0 0) ++ (lngC ck oa D ++ (dblC ck od E)))) := hD
  refine lv_icmp_eq (tgt := 3323) hx hb dL_law_2463 (by decide) (fun _ => ?_) (fun c9 => absurd (rfl) c9)
  have hLI2 : LI (775 * i + 3100) ((Z, O, U, X, S, T, P, I, V, N, Y, Q).1) ((Z, O, U, X, S, T, P, I, V, N, Y, Q).2.2.1) ((Z, O, U, X, S, T, P, I, V, N, Y, Q).2.2.2.1) ((Z, O, U, X, S, T, P, I, V, N, Y, Q).2.2.2.2.1) ((Z, O, U, X, S, T, P, I, V, N, Y, Q).2.2.2.2.2.2.1) ((Z, O, U, X, S, T, P, I, V, N, Y, Q).2.2.2.2.2.2.2.1) ((Z, O, U, X, S, T, P, I, V, N, Y, Q).2.2.2.2.2.2.2.2.2.2.1) ((Z, O, U, X, S, T, P, I, V, N, Y, Q).2.2.2.2.2.2.2.2.2.2.2) F2 F3 (upS M 8 0 0) := (hLI.m (mK_0 M 0)).mono (by omega) (by omega)
  have hS2 : S = ((Z, O, U, X, S, T, P, I, V, N, Y, Q) : BU).2.2.2.2.1 := rfl
  refine W.widen (k := cells + 3) (n := slots + 18) (by omega) (by omega) ?_
  have hP : va_P dg vwCl (lawW ck ka ad ra mo oa od (Z, O, U, X, S, T, P, I, V, N, Y, Q) F1 F2 F3 F4 (upS M 8 0 0) D E) H := hP
  have hD : va_D A (lawW ck ka ad ra mo oa od (Z, O, U, X, S, T, P, I, V, N, Y, Q) F1 F2 F3 F4 (upS M 8 0 0) D E) := hD
  exact kk (Z, O, U, X, S, T, P, I, V, N, Y, Q) F1 F2 F3 F4 (upS M 8 0 0) D E H locs ls hLI2 hP hD hS (lv_sub hl [0, 1, 2, 3, 4, 5] rfl)

set_option maxHeartbeats 4000000 in
set_option maxRecDepth 100000 in
/-- the law: a call of allCoinsGiven -/
theorem lc_42 {p : Program} {l : Launch} {e : Env} {s : State} {m : MethodId} {below : List Frame} {meth : Method} {c : Code} {dg : va_G} {ck : Nat → ClassId} {ka : Nat → Nat} {b L : Nat} {xs : Nat → Int32} {A : Nat → Prop} {ad ra : Nat → Nat → Nat} {mo : Nat → Nat} {oa od : Nat} {Qf : State → Prop} {i : Int} {cells slots : Nat} (C0 : LX p l s m c dg ck ka b L xs A) (hi : 0 ≤ i ∧ i + 4 ≤ L) (hcell : cells + 3 ≤ 603072) (hslot : slots + 18 ≤ 7207018) (kk : LKK p l e s m below meth c dg ck ka ad ra mo oa od b A Qf i cells slots) {Z O U X : Nat → Int} {S T P I : St} {V N Y : Int → Int} {Q : Nat → St} {F1 F2 F3 F4 : Int → Int} {M : St} {D : Nat → Int64} {E : Nat → UInt64} {H : Heap} {locs : List Loc} {ls : Array Slot} (hLI : LI (775 * i) Z U X S P I Y Q F2 F3 M) (hP : va_P dg vwCl (brkW ck ka ad ra Z O U X S T P I V N Y Q ++ (modelC ck mo (encZ S) F1 F2 F3 F4 M ++ (lngC ck oa D ++ (dblC ck od E)))) H) (hD : va_D A (brkW ck ka ad ra Z O U X S T P I V N Y Q ++ (modelC ck mo (encZ S) F1 F2 F3 F4 M ++ (lngC ck oa D ++ (dblC ck od E))))) (hS : va_S A s.heap H locs) (hl : lv_has ls 9 [(0, .ref b), (1, .ref (ad 7 0)), (2, .ref (mo 0)), (3, .ref oa), (4, .ref od), (5, .int (zI i))]) : W p l e room_1 s m #[Value.ref b] below meth c H locs cells slots Qf (F0 m 2468 ls []) := by
  obtain ⟨hx, hb, hml, hown, htg, hX, hbl, hbA, hK, hC, hA, hst, hL⟩ := id C0
  obtain ⟨hV, hlh, hls, hlt, hlo, hlf⟩ := id hLI
  obtain ⟨hn, hz, hk1, hq10, hhist⟩ := id hlh
  obtain ⟨hk2, hz0, hp10, hsn⟩ := id hls
  obtain ⟨hk3, hln, hk5, htx, hkv⟩ := id hlt
  obtain ⟨hk4, hu0, hy7, hY⟩ := id hlo
  obtain ⟨⟨hk5a, hz4⟩, ⟨hk6, hz1⟩, hk7, hk8⟩ := id hlf
  have hI := hV.bd
  have hs10 : ∀ i, 0 ≤ S 10 i ∧ S 10 i ≤ 1 := hI.2.2.2.2.2.2.2.2.2.2.2.2.2.1
  obtain ⟨x, hv_x⟩ : ∃ v9 : Int, (xs (i + 1).toNat).toInt = v9 := ⟨_, rfl⟩
  have rgx_x := xi_r (xs (i + 1).toNat)
  rw [hv_x] at rgx_x
  obtain ⟨y, hv_y⟩ : ∃ v9 : Int, (xs (i + 2).toNat).toInt = v9 := ⟨_, rfl⟩
  have rgx_y := xi_r (xs (i + 2).toNat)
  rw [hv_y] at rgx_y
  obtain ⟨z, hv_z⟩ : ∃ v9 : Int, (xs (i + 3).toNat).toInt = v9 := ⟨_, rfl⟩
  have rgx_z := xi_r (xs (i + 3).toNat)
  rw [hv_z] at rgx_z
  refine lv_aload_n hx hb dL_law_2468 rfl (lv_at hl 1 rfl) ?_
  refine x_calliB (ws' := brkW ck ka ad ra Z O U X S T P I V N Y Q ++ (modelC ck mo (encZ S) F1 F2 F3 F4 M ++ (lngC ck oa D ++ (dblC ck od E)))) (M := brkW ck ka ad ra Z O U X S T P I V N Y Q) (M' := brkW ck ka ad ra Z O U X S T P I V N Y Q) (N := modelC ck mo (encZ S) F1 F2 F3 F4 M ++ (lngC ck oa D ++ (dblC ck od E))) (cat_perm [brkW ck ka ad ra Z O U X S T P I V N Y Q, modelC ck mo (encZ S) F1 F2 F3 F4 M, lngC ck oa D, dblC ck od E] [0] [1, 2, 3] 4 rfl (by decide)) (cat_perm [brkW ck ka ad ra Z O U X S T P I V N Y Q, modelC ck mo (encZ S) F1 F2 F3 F4 M, lngC ck oa D, dblC ck od E] [0] [1, 2, 3] 4 rfl (by decide)) hP hD hS hA (fun hPm hDm => va_runV (As := []) (rest := []) ⟨hx, hb, hml, hown, htg⟩ (x_allCoinsGiven l dg ck ka ad ra Z O U X S T P I V N Y Q  _ ) (cwV 0 htg (gwV wq_376 wq_377 wq_378 wq_1 wq_379) rfl rfl rfl (by decide +kernel) ⟨Nat.le_of_ble_eq_true rfl, Nat.le_of_ble_eq_true rfl⟩) (wrK_preV hK hPm hDm hC hS hA 0 10 rfl rfl) rfl rfl hl.1 rfl (lv_room (Nat.le_of_ble_eq_true rfl)) dL_law_2469 ⟨by show _ ≤ 603072; omega, by show _ ≤ 7207018; omega⟩) (fun r2469 H locs hr2469 hP hD hS => ?_)
  subst hr2469
  have hP : va_P dg vwCl (brkW ck ka ad ra Z O U X S T P I V N Y Q ++ (modelC ck mo (encZ S) F1 F2 F3 F4 M ++ (lngC ck oa D ++ (dblC ck od E)))) H := hP
  have hD : va_D A (brkW ck ka ad ra Z O U X S T P I V N Y Q ++ (modelC ck mo (encZ S) F1 F2 F3 F4 M ++ (lngC ck oa D ++ (dblC ck od E)))) := hD
  refine lv_aload_n hx hb dL_law_2472 rfl (lv_at hl 2 rfl) ?_
  refine x_calliB (ws' := brkW ck ka ad ra Z O U X S T P I V N Y Q ++ (modelC ck mo (encZ S) F1 F2 F3 F4 (upS M 8 0 0) ++ (lngC ck oa D ++ (dblC ck od E)))) (M := modelC ck mo (encZ S) F1 F2 F3 F4 M) (M' := modelC ck mo (encZ S) F1 F2 F3 F4 (upS M 8 0 0)) (N := brkW ck ka ad ra Z O U X S T P I V N Y Q ++ (lngC ck oa D ++ (dblC ck od E))) (cat_perm [brkW ck ka ad ra Z O U X S T P I V N Y Q, modelC ck mo (encZ S) F1 F2 F3 F4 M, lngC ck oa D, dblC ck od E] [1] [0, 2, 3] 4 rfl (by decide)) (cat_perm [brkW ck ka ad ra Z O U X S T P I V N Y Q, modelC ck mo (encZ S) F1 F2 F3 F4 (upS M 8 0 0), lngC ck oa D, dblC ck od E] [1] [0, 2, 3] 4 rfl (by decide)) hP hD hS hA (fun hPm hDm => va_runV (As := []) (rest := [.int (zI (S 0 6))]) ⟨hx, hb, hml, hown, htg⟩ (m_allCoinsGiven l dg ck mo S F1 F2 F3 F4 M  _ hI) (cwV 0 htg (gwV wq_1962 wq_1963 wq_1964 wq_15 wq_1965) rfl rfl rfl (by decide +kernel) ⟨Nat.le_of_ble_eq_true rfl, Nat.le_of_ble_eq_true rfl⟩) (wr_preV hK hPm hDm 0 11 rfl rfl) rfl rfl hl.1 rfl (lv_room (Nat.le_of_ble_eq_true rfl)) dL_law_2473 ⟨by show _ ≤ 603072; omega, by show _ ≤ 7207018; omega⟩) (fun r2473 H locs hr2473 hP hD hS => ?_)
  subst hr2473
  have hP : va_P dg vwCl (brkW ck ka ad ra Z O U X S T P I V N Y Q ++ (modelC ck mo (encZ S) F1 F2 F3 F4 (upS M 8 0 0) ++ (lngC ck oa D ++ (dblC ck od E)))) H := hP
  have hD : va_D A (brkW ck ka ad ra Z O U X S T P I V N Y Q ++ (modelC ck mo (encZ S) F1 F2 F3 F4 (upS M 8 0 0) ++ (lngC ck oa D ++ (dblC ck od E)))) := hD
  refine lv_icmp_eq (tgt := 3323) hx hb dL_law_2476 (by decide) (fun _ => ?_) (fun c9 => absurd (rfl) c9)
  have hLI2 : LI (775 * i + 3100) ((Z, O, U, X, S, T, P, I, V, N, Y, Q).1) ((Z, O, U, X, S, T, P, I, V, N, Y, Q).2.2.1) ((Z, O, U, X, S, T, P, I, V, N, Y, Q).2.2.2.1) ((Z, O, U, X, S, T, P, I, V, N, Y, Q).2.2.2.2.1) ((Z, O, U, X, S, T, P, I, V, N, Y, Q).2.2.2.2.2.2.1) ((Z, O, U, X, S, T, P, I, V, N, Y, Q).2.2.2.2.2.2.2.1) ((Z, O, U, X, S, T, P, I, V, N, Y, Q).2.2.2.2.2.2.2.2.2.2.1) ((Z, O, U, X, S, T, P, I, V, N, Y, Q).2.2.2.2.2.2.2.2.2.2.2) F2 F3 (upS M 8 0 0) := (hLI.m (mK_0 M 0)).mono (by omega) (by omega)
  have hS2 : S = ((Z, O, U, X, S, T, P, I, V, N, Y, Q) : BU).2.2.2.2.1 := rfl
  refine W.widen (k := cells + 3) (n := slots + 18) (by omega) (by omega) ?_
  have hP : va_P dg vwCl (lawW ck ka ad ra mo oa od (Z, O, U, X, S, T, P, I, V, N, Y, Q) F1 F2 F3 F4 (upS M 8 0 0) D E) H := hP
  have hD : va_D A (lawW ck ka ad ra mo oa od (Z, O, U, X, S, T, P, I, V, N, Y, Q) F1 F2 F3 F4 (upS M 8 0 0) D E) := hD
  exact kk (Z, O, U, X, S, T, P, I, V, N, Y, Q) F1 F2 F3 F4 (upS M 8 0 0) D E H locs ls hLI2 hP hD hS (lv_sub hl [0, 1, 2, 3, 4, 5] rfl)

set_option maxHeartbeats 4000000 in
set_option maxRecDepth 100000 in
/-- the law: a call of defaultedLeases -/
theorem lc_43 {p : Program} {l : Launch} {e : Env} {s : State} {m : MethodId} {below : List Frame} {meth : Method} {c : Code} {dg : va_G} {ck : Nat → ClassId} {ka : Nat → Nat} {b L : Nat} {xs : Nat → Int32} {A : Nat → Prop} {ad ra : Nat → Nat → Nat} {mo : Nat → Nat} {oa od : Nat} {Qf : State → Prop} {i : Int} {cells slots : Nat} (C0 : LX p l s m c dg ck ka b L xs A) (hi : 0 ≤ i ∧ i + 4 ≤ L) (hcell : cells + 3 ≤ 603072) (hslot : slots + 18 ≤ 7207018) (kk : LKK p l e s m below meth c dg ck ka ad ra mo oa od b A Qf i cells slots) {Z O U X : Nat → Int} {S T P I : St} {V N Y : Int → Int} {Q : Nat → St} {F1 F2 F3 F4 : Int → Int} {M : St} {D : Nat → Int64} {E : Nat → UInt64} {H : Heap} {locs : List Loc} {ls : Array Slot} (hLI : LI (775 * i) Z U X S P I Y Q F2 F3 M) (hP : va_P dg vwCl (brkW ck ka ad ra Z O U X S T P I V N Y Q ++ (modelC ck mo (encZ S) F1 F2 F3 F4 M ++ (lngC ck oa D ++ (dblC ck od E)))) H) (hD : va_D A (brkW ck ka ad ra Z O U X S T P I V N Y Q ++ (modelC ck mo (encZ S) F1 F2 F3 F4 M ++ (lngC ck oa D ++ (dblC ck od E))))) (hS : va_S A s.heap H locs) (hl : lv_has ls 9 [(0, .ref b), (1, .ref (ad 7 0)), (2, .ref (mo 0)), (3, .ref oa), (4, .ref od), (5, .int (zI i))]) : W p l e room_1 s m #[Value.ref b] below meth c H locs cells slots Qf (F0 m 2481 ls []) := by
  obtain ⟨hx, hb, hml, hown, htg, hX, hbl, hbA, hK, hC, hA, hst, hL⟩ := id C0
  obtain ⟨hV, hlh, hls, hlt, hlo, hlf⟩ := id hLI
  obtain ⟨hn, hz, hk1, hq10, hhist⟩ := id hlh
  obtain ⟨hk2, hz0, hp10, hsn⟩ := id hls
  obtain ⟨hk3, hln, hk5, htx, hkv⟩ := id hlt
  obtain ⟨hk4, hu0, hy7, hY⟩ := id hlo
  obtain ⟨⟨hk5a, hz4⟩, ⟨hk6, hz1⟩, hk7, hk8⟩ := id hlf
  have hI := hV.bd
  have hs10 : ∀ i, 0 ≤ S 10 i ∧ S 10 i ≤ 1 := hI.2.2.2.2.2.2.2.2.2.2.2.2.2.1
  obtain ⟨x, hv_x⟩ : ∃ v9 : Int, (xs (i + 1).toNat).toInt = v9 := ⟨_, rfl⟩
  have rgx_x := xi_r (xs (i + 1).toNat)
  rw [hv_x] at rgx_x
  obtain ⟨y, hv_y⟩ : ∃ v9 : Int, (xs (i + 2).toNat).toInt = v9 := ⟨_, rfl⟩
  have rgx_y := xi_r (xs (i + 2).toNat)
  rw [hv_y] at rgx_y
  obtain ⟨z, hv_z⟩ : ∃ v9 : Int, (xs (i + 3).toNat).toInt = v9 := ⟨_, rfl⟩
  have rgx_z := xi_r (xs (i + 3).toNat)
  rw [hv_z] at rgx_z
  refine lv_aload_n hx hb dL_law_2481 rfl (lv_at hl 1 rfl) ?_
  refine x_calliB (ws' := brkW ck ka ad ra Z O U X S T P I V N Y Q ++ (modelC ck mo (encZ S) F1 F2 F3 F4 M ++ (lngC ck oa D ++ (dblC ck od E)))) (M := brkW ck ka ad ra Z O U X S T P I V N Y Q) (M' := brkW ck ka ad ra Z O U X S T P I V N Y Q) (N := modelC ck mo (encZ S) F1 F2 F3 F4 M ++ (lngC ck oa D ++ (dblC ck od E))) (cat_perm [brkW ck ka ad ra Z O U X S T P I V N Y Q, modelC ck mo (encZ S) F1 F2 F3 F4 M, lngC ck oa D, dblC ck od E] [0] [1, 2, 3] 4 rfl (by decide)) (cat_perm [brkW ck ka ad ra Z O U X S T P I V N Y Q, modelC ck mo (encZ S) F1 F2 F3 F4 M, lngC ck oa D, dblC ck od E] [0] [1, 2, 3] 4 rfl (by decide)) hP hD hS hA (fun hPm hDm => va_runV (As := []) (rest := []) ⟨hx, hb, hml, hown, htg⟩ (x_defaultedLeases l dg ck ka ad ra Z O U X S T P I V N Y Q  _ ) (cwV 0 htg (gwV wq_380 wq_381 wq_382 wq_1 wq_383) rfl rfl rfl (by decide +kernel) ⟨Nat.le_of_ble_eq_true rfl, Nat.le_of_ble_eq_true rfl⟩) (wrK_preV hK hPm hDm hC hS hA 0 10 rfl rfl) rfl rfl hl.1 rfl (lv_room (Nat.le_of_ble_eq_true rfl)) dL_law_2482 ⟨by show _ ≤ 603072; omega, by show _ ≤ 7207018; omega⟩) (fun r2482 H locs hr2482 hP hD hS => ?_)
  subst hr2482
  have hP : va_P dg vwCl (brkW ck ka ad ra Z O U X S T P I V N Y Q ++ (modelC ck mo (encZ S) F1 F2 F3 F4 M ++ (lngC ck oa D ++ (dblC ck od E)))) H := hP
  have hD : va_D A (brkW ck ka ad ra Z O U X S T P I V N Y Q ++ (modelC ck mo (encZ S) F1 F2 F3 F4 M ++ (lngC ck oa D ++ (dblC ck od E)))) := hD
  refine lv_aload_n hx hb dL_law_2485 rfl (lv_at hl 2 rfl) ?_
  refine x_calliB (ws' := brkW ck ka ad ra Z O U X S T P I V N Y Q ++ (modelC ck mo (encZ S) F1 F2 F3 F4 (upS M 8 0 0) ++ (lngC ck oa D ++ (dblC ck od E)))) (M := modelC ck mo (encZ S) F1 F2 F3 F4 M) (M' := modelC ck mo (encZ S) F1 F2 F3 F4 (upS M 8 0 0)) (N := brkW ck ka ad ra Z O U X S T P I V N Y Q ++ (lngC ck oa D ++ (dblC ck od E))) (cat_perm [brkW ck ka ad ra Z O U X S T P I V N Y Q, modelC ck mo (encZ S) F1 F2 F3 F4 M, lngC ck oa D, dblC ck od E] [1] [0, 2, 3] 4 rfl (by decide)) (cat_perm [brkW ck ka ad ra Z O U X S T P I V N Y Q, modelC ck mo (encZ S) F1 F2 F3 F4 (upS M 8 0 0), lngC ck oa D, dblC ck od E] [1] [0, 2, 3] 4 rfl (by decide)) hP hD hS hA (fun hPm hDm => va_runV (As := []) (rest := [.int (zI (S 0 7))]) ⟨hx, hb, hml, hown, htg⟩ (m_defaultedLeases l dg ck mo S F1 F2 F3 F4 M  _ hI) (cwV 0 htg (gwV wq_1966 wq_1967 wq_1968 wq_15 wq_1969) rfl rfl rfl (by decide +kernel) ⟨Nat.le_of_ble_eq_true rfl, Nat.le_of_ble_eq_true rfl⟩) (wr_preV hK hPm hDm 0 11 rfl rfl) rfl rfl hl.1 rfl (lv_room (Nat.le_of_ble_eq_true rfl)) dL_law_2486 ⟨by show _ ≤ 603072; omega, by show _ ≤ 7207018; omega⟩) (fun r2486 H locs hr2486 hP hD hS => ?_)
  subst hr2486
  have hP : va_P dg vwCl (brkW ck ka ad ra Z O U X S T P I V N Y Q ++ (modelC ck mo (encZ S) F1 F2 F3 F4 (upS M 8 0 0) ++ (lngC ck oa D ++ (dblC ck od E)))) H := hP
  have hD : va_D A (brkW ck ka ad ra Z O U X S T P I V N Y Q ++ (modelC ck mo (encZ S) F1 F2 F3 F4 (upS M 8 0 0) ++ (lngC ck oa D ++ (dblC ck od E)))) := hD
  refine lv_icmp_eq (tgt := 3323) hx hb dL_law_2489 (by decide) (fun _ => ?_) (fun c9 => absurd (rfl) c9)
  have hLI2 : LI (775 * i + 3100) ((Z, O, U, X, S, T, P, I, V, N, Y, Q).1) ((Z, O, U, X, S, T, P, I, V, N, Y, Q).2.2.1) ((Z, O, U, X, S, T, P, I, V, N, Y, Q).2.2.2.1) ((Z, O, U, X, S, T, P, I, V, N, Y, Q).2.2.2.2.1) ((Z, O, U, X, S, T, P, I, V, N, Y, Q).2.2.2.2.2.2.1) ((Z, O, U, X, S, T, P, I, V, N, Y, Q).2.2.2.2.2.2.2.1) ((Z, O, U, X, S, T, P, I, V, N, Y, Q).2.2.2.2.2.2.2.2.2.2.1) ((Z, O, U, X, S, T, P, I, V, N, Y, Q).2.2.2.2.2.2.2.2.2.2.2) F2 F3 (upS M 8 0 0) := (hLI.m (mK_0 M 0)).mono (by omega) (by omega)
  have hS2 : S = ((Z, O, U, X, S, T, P, I, V, N, Y, Q) : BU).2.2.2.2.1 := rfl
  refine W.widen (k := cells + 3) (n := slots + 18) (by omega) (by omega) ?_
  have hP : va_P dg vwCl (lawW ck ka ad ra mo oa od (Z, O, U, X, S, T, P, I, V, N, Y, Q) F1 F2 F3 F4 (upS M 8 0 0) D E) H := hP
  have hD : va_D A (lawW ck ka ad ra mo oa od (Z, O, U, X, S, T, P, I, V, N, Y, Q) F1 F2 F3 F4 (upS M 8 0 0) D E) := hD
  exact kk (Z, O, U, X, S, T, P, I, V, N, Y, Q) F1 F2 F3 F4 (upS M 8 0 0) D E H locs ls hLI2 hP hD hS (lv_sub hl [0, 1, 2, 3, 4, 5] rfl)

set_option maxHeartbeats 4000000 in
set_option maxRecDepth 100000 in
/-- the law: a call of terminatedLeases -/
theorem lc_44 {p : Program} {l : Launch} {e : Env} {s : State} {m : MethodId} {below : List Frame} {meth : Method} {c : Code} {dg : va_G} {ck : Nat → ClassId} {ka : Nat → Nat} {b L : Nat} {xs : Nat → Int32} {A : Nat → Prop} {ad ra : Nat → Nat → Nat} {mo : Nat → Nat} {oa od : Nat} {Qf : State → Prop} {i : Int} {cells slots : Nat} (C0 : LX p l s m c dg ck ka b L xs A) (hi : 0 ≤ i ∧ i + 4 ≤ L) (hcell : cells + 3 ≤ 603072) (hslot : slots + 18 ≤ 7207018) (kk : LKK p l e s m below meth c dg ck ka ad ra mo oa od b A Qf i cells slots) {Z O U X : Nat → Int} {S T P I : St} {V N Y : Int → Int} {Q : Nat → St} {F1 F2 F3 F4 : Int → Int} {M : St} {D : Nat → Int64} {E : Nat → UInt64} {H : Heap} {locs : List Loc} {ls : Array Slot} (hLI : LI (775 * i) Z U X S P I Y Q F2 F3 M) (hP : va_P dg vwCl (brkW ck ka ad ra Z O U X S T P I V N Y Q ++ (modelC ck mo (encZ S) F1 F2 F3 F4 M ++ (lngC ck oa D ++ (dblC ck od E)))) H) (hD : va_D A (brkW ck ka ad ra Z O U X S T P I V N Y Q ++ (modelC ck mo (encZ S) F1 F2 F3 F4 M ++ (lngC ck oa D ++ (dblC ck od E))))) (hS : va_S A s.heap H locs) (hl : lv_has ls 9 [(0, .ref b), (1, .ref (ad 7 0)), (2, .ref (mo 0)), (3, .ref oa), (4, .ref od), (5, .int (zI i))]) : W p l e room_1 s m #[Value.ref b] below meth c H locs cells slots Qf (F0 m 2494 ls []) := by
  obtain ⟨hx, hb, hml, hown, htg, hX, hbl, hbA, hK, hC, hA, hst, hL⟩ := id C0
  obtain ⟨hV, hlh, hls, hlt, hlo, hlf⟩ := id hLI
  obtain ⟨hn, hz, hk1, hq10, hhist⟩ := id hlh
  obtain ⟨hk2, hz0, hp10, hsn⟩ := id hls
  obtain ⟨hk3, hln, hk5, htx, hkv⟩ := id hlt
  obtain ⟨hk4, hu0, hy7, hY⟩ := id hlo
  obtain ⟨⟨hk5a, hz4⟩, ⟨hk6, hz1⟩, hk7, hk8⟩ := id hlf
  have hI := hV.bd
  have hs10 : ∀ i, 0 ≤ S 10 i ∧ S 10 i ≤ 1 := hI.2.2.2.2.2.2.2.2.2.2.2.2.2.1
  obtain ⟨x, hv_x⟩ : ∃ v9 : Int, (xs (i + 1).toNat).toInt = v9 := ⟨_, rfl⟩
  have rgx_x := xi_r (xs (i + 1).toNat)
  rw [hv_x] at rgx_x
  obtain ⟨y, hv_y⟩ : ∃ v9 : Int, (xs (i + 2).toNat).toInt = v9 := ⟨_, rfl⟩
  have rgx_y := xi_r (xs (i + 2).toNat)
  rw [hv_y] at rgx_y
  obtain ⟨z, hv_z⟩ : ∃ v9 : Int, (xs (i + 3).toNat).toInt = v9 := ⟨_, rfl⟩
  have rgx_z := xi_r (xs (i + 3).toNat)
  rw [hv_z] at rgx_z
  refine lv_aload_n hx hb dL_law_2494 rfl (lv_at hl 1 rfl) ?_
  refine x_calliB (ws' := brkW ck ka ad ra Z O U X S T P I V N Y Q ++ (modelC ck mo (encZ S) F1 F2 F3 F4 M ++ (lngC ck oa D ++ (dblC ck od E)))) (M := brkW ck ka ad ra Z O U X S T P I V N Y Q) (M' := brkW ck ka ad ra Z O U X S T P I V N Y Q) (N := modelC ck mo (encZ S) F1 F2 F3 F4 M ++ (lngC ck oa D ++ (dblC ck od E))) (cat_perm [brkW ck ka ad ra Z O U X S T P I V N Y Q, modelC ck mo (encZ S) F1 F2 F3 F4 M, lngC ck oa D, dblC ck od E] [0] [1, 2, 3] 4 rfl (by decide)) (cat_perm [brkW ck ka ad ra Z O U X S T P I V N Y Q, modelC ck mo (encZ S) F1 F2 F3 F4 M, lngC ck oa D, dblC ck od E] [0] [1, 2, 3] 4 rfl (by decide)) hP hD hS hA (fun hPm hDm => va_runV (As := []) (rest := []) ⟨hx, hb, hml, hown, htg⟩ (x_terminatedLeases l dg ck ka ad ra Z O U X S T P I V N Y Q  _ ) (cwV 0 htg (gwV wq_384 wq_385 wq_386 wq_1 wq_387) rfl rfl rfl (by decide +kernel) ⟨Nat.le_of_ble_eq_true rfl, Nat.le_of_ble_eq_true rfl⟩) (wrK_preV hK hPm hDm hC hS hA 0 10 rfl rfl) rfl rfl hl.1 rfl (lv_room (Nat.le_of_ble_eq_true rfl)) dL_law_2495 ⟨by show _ ≤ 603072; omega, by show _ ≤ 7207018; omega⟩) (fun r2495 H locs hr2495 hP hD hS => ?_)
  subst hr2495
  have hP : va_P dg vwCl (brkW ck ka ad ra Z O U X S T P I V N Y Q ++ (modelC ck mo (encZ S) F1 F2 F3 F4 M ++ (lngC ck oa D ++ (dblC ck od E)))) H := hP
  have hD : va_D A (brkW ck ka ad ra Z O U X S T P I V N Y Q ++ (modelC ck mo (encZ S) F1 F2 F3 F4 M ++ (lngC ck oa D ++ (dblC ck od E)))) := hD
  refine lv_aload_n hx hb dL_law_2498 rfl (lv_at hl 2 rfl) ?_
  refine x_calliB (ws' := brkW ck ka ad ra Z O U X S T P I V N Y Q ++ (modelC ck mo (encZ S) F1 F2 F3 F4 (upS M 8 0 0) ++ (lngC ck oa D ++ (dblC ck od E)))) (M := modelC ck mo (encZ S) F1 F2 F3 F4 M) (M' := modelC ck mo (encZ S) F1 F2 F3 F4 (upS M 8 0 0)) (N := brkW ck ka ad ra Z O U X S T P I V N Y Q ++ (lngC ck oa D ++ (dblC ck od E))) (cat_perm [brkW ck ka ad ra Z O U X S T P I V N Y Q, modelC ck mo (encZ S) F1 F2 F3 F4 M, lngC ck oa D, dblC ck od E] [1] [0, 2, 3] 4 rfl (by decide)) (cat_perm [brkW ck ka ad ra Z O U X S T P I V N Y Q, modelC ck mo (encZ S) F1 F2 F3 F4 (upS M 8 0 0), lngC ck oa D, dblC ck od E] [1] [0, 2, 3] 4 rfl (by decide)) hP hD hS hA (fun hPm hDm => va_runV (As := []) (rest := [.int (zI (S 0 8))]) ⟨hx, hb, hml, hown, htg⟩ (m_terminatedLeases l dg ck mo S F1 F2 F3 F4 M  _ hI) (cwV 0 htg (gwV wq_1970 wq_1971 wq_1972 wq_15 wq_1973) rfl rfl rfl (by decide +kernel) ⟨Nat.le_of_ble_eq_true rfl, Nat.le_of_ble_eq_true rfl⟩) (wr_preV hK hPm hDm 0 11 rfl rfl) rfl rfl hl.1 rfl (lv_room (Nat.le_of_ble_eq_true rfl)) dL_law_2499 ⟨by show _ ≤ 603072; omega, by show _ ≤ 7207018; omega⟩) (fun r2499 H locs hr2499 hP hD hS => ?_)
  subst hr2499
  have hP : va_P dg vwCl (brkW ck ka ad ra Z O U X S T P I V N Y Q ++ (modelC ck mo (encZ S) F1 F2 F3 F4 (upS M 8 0 0) ++ (lngC ck oa D ++ (dblC ck od E)))) H := hP
  have hD : va_D A (brkW ck ka ad ra Z O U X S T P I V N Y Q ++ (modelC ck mo (encZ S) F1 F2 F3 F4 (upS M 8 0 0) ++ (lngC ck oa D ++ (dblC ck od E)))) := hD
  refine lv_icmp_eq (tgt := 3323) hx hb dL_law_2502 (by decide) (fun _ => ?_) (fun c9 => absurd (rfl) c9)
  have hLI2 : LI (775 * i + 3100) ((Z, O, U, X, S, T, P, I, V, N, Y, Q).1) ((Z, O, U, X, S, T, P, I, V, N, Y, Q).2.2.1) ((Z, O, U, X, S, T, P, I, V, N, Y, Q).2.2.2.1) ((Z, O, U, X, S, T, P, I, V, N, Y, Q).2.2.2.2.1) ((Z, O, U, X, S, T, P, I, V, N, Y, Q).2.2.2.2.2.2.1) ((Z, O, U, X, S, T, P, I, V, N, Y, Q).2.2.2.2.2.2.2.1) ((Z, O, U, X, S, T, P, I, V, N, Y, Q).2.2.2.2.2.2.2.2.2.2.1) ((Z, O, U, X, S, T, P, I, V, N, Y, Q).2.2.2.2.2.2.2.2.2.2.2) F2 F3 (upS M 8 0 0) := (hLI.m (mK_0 M 0)).mono (by omega) (by omega)
  have hS2 : S = ((Z, O, U, X, S, T, P, I, V, N, Y, Q) : BU).2.2.2.2.1 := rfl
  refine W.widen (k := cells + 3) (n := slots + 18) (by omega) (by omega) ?_
  have hP : va_P dg vwCl (lawW ck ka ad ra mo oa od (Z, O, U, X, S, T, P, I, V, N, Y, Q) F1 F2 F3 F4 (upS M 8 0 0) D E) H := hP
  have hD : va_D A (lawW ck ka ad ra mo oa od (Z, O, U, X, S, T, P, I, V, N, Y, Q) F1 F2 F3 F4 (upS M 8 0 0) D E) := hD
  exact kk (Z, O, U, X, S, T, P, I, V, N, Y, Q) F1 F2 F3 F4 (upS M 8 0 0) D E H locs ls hLI2 hP hD hS (lv_sub hl [0, 1, 2, 3, 4, 5] rfl)

set_option maxHeartbeats 4000000 in
set_option maxRecDepth 100000 in
/-- the law: a call of completedLeases -/
theorem lc_45 {p : Program} {l : Launch} {e : Env} {s : State} {m : MethodId} {below : List Frame} {meth : Method} {c : Code} {dg : va_G} {ck : Nat → ClassId} {ka : Nat → Nat} {b L : Nat} {xs : Nat → Int32} {A : Nat → Prop} {ad ra : Nat → Nat → Nat} {mo : Nat → Nat} {oa od : Nat} {Qf : State → Prop} {i : Int} {cells slots : Nat} (C0 : LX p l s m c dg ck ka b L xs A) (hi : 0 ≤ i ∧ i + 4 ≤ L) (hcell : cells + 3 ≤ 603072) (hslot : slots + 18 ≤ 7207018) (kk : LKK p l e s m below meth c dg ck ka ad ra mo oa od b A Qf i cells slots) {Z O U X : Nat → Int} {S T P I : St} {V N Y : Int → Int} {Q : Nat → St} {F1 F2 F3 F4 : Int → Int} {M : St} {D : Nat → Int64} {E : Nat → UInt64} {H : Heap} {locs : List Loc} {ls : Array Slot} (hLI : LI (775 * i) Z U X S P I Y Q F2 F3 M) (hP : va_P dg vwCl (brkW ck ka ad ra Z O U X S T P I V N Y Q ++ (modelC ck mo (encZ S) F1 F2 F3 F4 M ++ (lngC ck oa D ++ (dblC ck od E)))) H) (hD : va_D A (brkW ck ka ad ra Z O U X S T P I V N Y Q ++ (modelC ck mo (encZ S) F1 F2 F3 F4 M ++ (lngC ck oa D ++ (dblC ck od E))))) (hS : va_S A s.heap H locs) (hl : lv_has ls 9 [(0, .ref b), (1, .ref (ad 7 0)), (2, .ref (mo 0)), (3, .ref oa), (4, .ref od), (5, .int (zI i))]) : W p l e room_1 s m #[Value.ref b] below meth c H locs cells slots Qf (F0 m 2507 ls []) := by
  obtain ⟨hx, hb, hml, hown, htg, hX, hbl, hbA, hK, hC, hA, hst, hL⟩ := id C0
  obtain ⟨hV, hlh, hls, hlt, hlo, hlf⟩ := id hLI
  obtain ⟨hn, hz, hk1, hq10, hhist⟩ := id hlh
  obtain ⟨hk2, hz0, hp10, hsn⟩ := id hls
  obtain ⟨hk3, hln, hk5, htx, hkv⟩ := id hlt
  obtain ⟨hk4, hu0, hy7, hY⟩ := id hlo
  obtain ⟨⟨hk5a, hz4⟩, ⟨hk6, hz1⟩, hk7, hk8⟩ := id hlf
  have hI := hV.bd
  have hs10 : ∀ i, 0 ≤ S 10 i ∧ S 10 i ≤ 1 := hI.2.2.2.2.2.2.2.2.2.2.2.2.2.1
  obtain ⟨x, hv_x⟩ : ∃ v9 : Int, (xs (i + 1).toNat).toInt = v9 := ⟨_, rfl⟩
  have rgx_x := xi_r (xs (i + 1).toNat)
  rw [hv_x] at rgx_x
  obtain ⟨y, hv_y⟩ : ∃ v9 : Int, (xs (i + 2).toNat).toInt = v9 := ⟨_, rfl⟩
  have rgx_y := xi_r (xs (i + 2).toNat)
  rw [hv_y] at rgx_y
  obtain ⟨z, hv_z⟩ : ∃ v9 : Int, (xs (i + 3).toNat).toInt = v9 := ⟨_, rfl⟩
  have rgx_z := xi_r (xs (i + 3).toNat)
  rw [hv_z] at rgx_z
  refine lv_aload_n hx hb dL_law_2507 rfl (lv_at hl 1 rfl) ?_
  refine x_calliB (ws' := brkW ck ka ad ra Z O U X S T P I V N Y Q ++ (modelC ck mo (encZ S) F1 F2 F3 F4 M ++ (lngC ck oa D ++ (dblC ck od E)))) (M := brkW ck ka ad ra Z O U X S T P I V N Y Q) (M' := brkW ck ka ad ra Z O U X S T P I V N Y Q) (N := modelC ck mo (encZ S) F1 F2 F3 F4 M ++ (lngC ck oa D ++ (dblC ck od E))) (cat_perm [brkW ck ka ad ra Z O U X S T P I V N Y Q, modelC ck mo (encZ S) F1 F2 F3 F4 M, lngC ck oa D, dblC ck od E] [0] [1, 2, 3] 4 rfl (by decide)) (cat_perm [brkW ck ka ad ra Z O U X S T P I V N Y Q, modelC ck mo (encZ S) F1 F2 F3 F4 M, lngC ck oa D, dblC ck od E] [0] [1, 2, 3] 4 rfl (by decide)) hP hD hS hA (fun hPm hDm => va_runV (As := []) (rest := []) ⟨hx, hb, hml, hown, htg⟩ (x_completedLeases l dg ck ka ad ra Z O U X S T P I V N Y Q  _ ) (cwV 0 htg (gwV wq_388 wq_389 wq_390 wq_1 wq_391) rfl rfl rfl (by decide +kernel) ⟨Nat.le_of_ble_eq_true rfl, Nat.le_of_ble_eq_true rfl⟩) (wrK_preV hK hPm hDm hC hS hA 0 10 rfl rfl) rfl rfl hl.1 rfl (lv_room (Nat.le_of_ble_eq_true rfl)) dL_law_2508 ⟨by show _ ≤ 603072; omega, by show _ ≤ 7207018; omega⟩) (fun r2508 H locs hr2508 hP hD hS => ?_)
  subst hr2508
  have hP : va_P dg vwCl (brkW ck ka ad ra Z O U X S T P I V N Y Q ++ (modelC ck mo (encZ S) F1 F2 F3 F4 M ++ (lngC ck oa D ++ (dblC ck od E)))) H := hP
  have hD : va_D A (brkW ck ka ad ra Z O U X S T P I V N Y Q ++ (modelC ck mo (encZ S) F1 F2 F3 F4 M ++ (lngC ck oa D ++ (dblC ck od E)))) := hD
  refine lv_aload_n hx hb dL_law_2511 rfl (lv_at hl 2 rfl) ?_
  refine x_calliB (ws' := brkW ck ka ad ra Z O U X S T P I V N Y Q ++ (modelC ck mo (encZ S) F1 F2 F3 F4 (upS M 8 0 0) ++ (lngC ck oa D ++ (dblC ck od E)))) (M := modelC ck mo (encZ S) F1 F2 F3 F4 M) (M' := modelC ck mo (encZ S) F1 F2 F3 F4 (upS M 8 0 0)) (N := brkW ck ka ad ra Z O U X S T P I V N Y Q ++ (lngC ck oa D ++ (dblC ck od E))) (cat_perm [brkW ck ka ad ra Z O U X S T P I V N Y Q, modelC ck mo (encZ S) F1 F2 F3 F4 M, lngC ck oa D, dblC ck od E] [1] [0, 2, 3] 4 rfl (by decide)) (cat_perm [brkW ck ka ad ra Z O U X S T P I V N Y Q, modelC ck mo (encZ S) F1 F2 F3 F4 (upS M 8 0 0), lngC ck oa D, dblC ck od E] [1] [0, 2, 3] 4 rfl (by decide)) hP hD hS hA (fun hPm hDm => va_runV (As := []) (rest := [.int (zI (S 0 9))]) ⟨hx, hb, hml, hown, htg⟩ (m_completedLeases l dg ck mo S F1 F2 F3 F4 M  _ hI) (cwV 0 htg (gwV wq_1974 wq_1975 wq_1976 wq_15 wq_1977) rfl rfl rfl (by decide +kernel) ⟨Nat.le_of_ble_eq_true rfl, Nat.le_of_ble_eq_true rfl⟩) (wr_preV hK hPm hDm 0 11 rfl rfl) rfl rfl hl.1 rfl (lv_room (Nat.le_of_ble_eq_true rfl)) dL_law_2512 ⟨by show _ ≤ 603072; omega, by show _ ≤ 7207018; omega⟩) (fun r2512 H locs hr2512 hP hD hS => ?_)
  subst hr2512
  have hP : va_P dg vwCl (brkW ck ka ad ra Z O U X S T P I V N Y Q ++ (modelC ck mo (encZ S) F1 F2 F3 F4 (upS M 8 0 0) ++ (lngC ck oa D ++ (dblC ck od E)))) H := hP
  have hD : va_D A (brkW ck ka ad ra Z O U X S T P I V N Y Q ++ (modelC ck mo (encZ S) F1 F2 F3 F4 (upS M 8 0 0) ++ (lngC ck oa D ++ (dblC ck od E)))) := hD
  refine lv_icmp_eq (tgt := 3323) hx hb dL_law_2515 (by decide) (fun _ => ?_) (fun c9 => absurd (rfl) c9)
  have hLI2 : LI (775 * i + 3100) ((Z, O, U, X, S, T, P, I, V, N, Y, Q).1) ((Z, O, U, X, S, T, P, I, V, N, Y, Q).2.2.1) ((Z, O, U, X, S, T, P, I, V, N, Y, Q).2.2.2.1) ((Z, O, U, X, S, T, P, I, V, N, Y, Q).2.2.2.2.1) ((Z, O, U, X, S, T, P, I, V, N, Y, Q).2.2.2.2.2.2.1) ((Z, O, U, X, S, T, P, I, V, N, Y, Q).2.2.2.2.2.2.2.1) ((Z, O, U, X, S, T, P, I, V, N, Y, Q).2.2.2.2.2.2.2.2.2.2.1) ((Z, O, U, X, S, T, P, I, V, N, Y, Q).2.2.2.2.2.2.2.2.2.2.2) F2 F3 (upS M 8 0 0) := (hLI.m (mK_0 M 0)).mono (by omega) (by omega)
  have hS2 : S = ((Z, O, U, X, S, T, P, I, V, N, Y, Q) : BU).2.2.2.2.1 := rfl
  refine W.widen (k := cells + 3) (n := slots + 18) (by omega) (by omega) ?_
  have hP : va_P dg vwCl (lawW ck ka ad ra mo oa od (Z, O, U, X, S, T, P, I, V, N, Y, Q) F1 F2 F3 F4 (upS M 8 0 0) D E) H := hP
  have hD : va_D A (lawW ck ka ad ra mo oa od (Z, O, U, X, S, T, P, I, V, N, Y, Q) F1 F2 F3 F4 (upS M 8 0 0) D E) := hD
  exact kk (Z, O, U, X, S, T, P, I, V, N, Y, Q) F1 F2 F3 F4 (upS M 8 0 0) D E H locs ls hLI2 hP hD hS (lv_sub hl [0, 1, 2, 3, 4, 5] rfl)

set_option maxHeartbeats 4000000 in
set_option maxRecDepth 100000 in
/-- the law: a call of isConsistent -/
theorem lc_50 {p : Program} {l : Launch} {e : Env} {s : State} {m : MethodId} {below : List Frame} {meth : Method} {c : Code} {dg : va_G} {ck : Nat → ClassId} {ka : Nat → Nat} {b L : Nat} {xs : Nat → Int32} {A : Nat → Prop} {ad ra : Nat → Nat → Nat} {mo : Nat → Nat} {oa od : Nat} {Qf : State → Prop} {i : Int} {cells slots : Nat} (C0 : LX p l s m c dg ck ka b L xs A) (hi : 0 ≤ i ∧ i + 4 ≤ L) (hcell : cells + 3 ≤ 603072) (hslot : slots + 18 ≤ 7207018) (kk : LKK p l e s m below meth c dg ck ka ad ra mo oa od b A Qf i cells slots) {Z O U X : Nat → Int} {S T P I : St} {V N Y : Int → Int} {Q : Nat → St} {F1 F2 F3 F4 : Int → Int} {M : St} {D : Nat → Int64} {E : Nat → UInt64} {H : Heap} {locs : List Loc} {ls : Array Slot} (hLI : LI (775 * i) Z U X S P I Y Q F2 F3 M) (hP : va_P dg vwCl (brkW ck ka ad ra Z O U X S T P I V N Y Q ++ (modelC ck mo (encZ S) F1 F2 F3 F4 M ++ (lngC ck oa D ++ (dblC ck od E)))) H) (hD : va_D A (brkW ck ka ad ra Z O U X S T P I V N Y Q ++ (modelC ck mo (encZ S) F1 F2 F3 F4 M ++ (lngC ck oa D ++ (dblC ck od E))))) (hS : va_S A s.heap H locs) (hl : lv_has ls 9 [(0, .ref b), (1, .ref (ad 7 0)), (2, .ref (mo 0)), (3, .ref oa), (4, .ref od), (5, .int (zI i))]) : W p l e room_1 s m #[Value.ref b] below meth c H locs cells slots Qf (F0 m 2763 ls []) := by
  obtain ⟨hx, hb, hml, hown, htg, hX, hbl, hbA, hK, hC, hA, hst, hL⟩ := id C0
  obtain ⟨hV, hlh, hls, hlt, hlo, hlf⟩ := id hLI
  obtain ⟨hn, hz, hk1, hq10, hhist⟩ := id hlh
  obtain ⟨hk2, hz0, hp10, hsn⟩ := id hls
  obtain ⟨hk3, hln, hk5, htx, hkv⟩ := id hlt
  obtain ⟨hk4, hu0, hy7, hY⟩ := id hlo
  obtain ⟨⟨hk5a, hz4⟩, ⟨hk6, hz1⟩, hk7, hk8⟩ := id hlf
  have hI := hV.bd
  have hs10 : ∀ i, 0 ≤ S 10 i ∧ S 10 i ≤ 1 := hI.2.2.2.2.2.2.2.2.2.2.2.2.2.1
  obtain ⟨x, hv_x⟩ : ∃ v9 : Int, (xs (i + 1).toNat).toInt = v9 := ⟨_, rfl⟩
  have rgx_x := xi_r (xs (i + 1).toNat)
  rw [hv_x] at rgx_x
  obtain ⟨y, hv_y⟩ : ∃ v9 : Int, (xs (i + 2).toNat).toInt = v9 := ⟨_, rfl⟩
  have rgx_y := xi_r (xs (i + 2).toNat)
  rw [hv_y] at rgx_y
  obtain ⟨z, hv_z⟩ : ∃ v9 : Int, (xs (i + 3).toNat).toInt = v9 := ⟨_, rfl⟩
  have rgx_z := xi_r (xs (i + 3).toNat)
  rw [hv_z] at rgx_z
  refine lv_aload_n hx hb dL_law_2763 rfl (lv_at hl 1 rfl) ?_
  refine x_calliB (ws' := brkW ck ka ad ra Z (outc (outc (outc O (elZ S 1).1 (elZ S 1).2.1) (elZ S 6).1 (elZ S 6).2.1) (elZ S 12).1 (elZ S 12).2.1) U X S (elZ S 12).2.2 P I (nsF S) (slZ S N (S 0 1).toNat) Y Q ++ (modelC ck mo (encZ S) F1 F2 F3 F4 M ++ (lngC ck oa D ++ (dblC ck od E)))) (M := brkW ck ka ad ra Z O U X S T P I V N Y Q) (M' := brkW ck ka ad ra Z (outc (outc (outc O (elZ S 1).1 (elZ S 1).2.1) (elZ S 6).1 (elZ S 6).2.1) (elZ S 12).1 (elZ S 12).2.1) U X S (elZ S 12).2.2 P I (nsF S) (slZ S N (S 0 1).toNat) Y Q) (N := modelC ck mo (encZ S) F1 F2 F3 F4 M ++ (lngC ck oa D ++ (dblC ck od E))) (cat_perm [brkW ck ka ad ra Z O U X S T P I V N Y Q, modelC ck mo (encZ S) F1 F2 F3 F4 M, lngC ck oa D, dblC ck od E] [0] [1, 2, 3] 4 rfl (by decide)) (cat_perm [brkW ck ka ad ra Z (outc (outc (outc O (elZ S 1).1 (elZ S 1).2.1) (elZ S 6).1 (elZ S 6).2.1) (elZ S 12).1 (elZ S 12).2.1) U X S (elZ S 12).2.2 P I (nsF S) (slZ S N (S 0 1).toNat) Y Q, modelC ck mo (encZ S) F1 F2 F3 F4 M, lngC ck oa D, dblC ck od E] [0] [1, 2, 3] 4 rfl (by decide)) hP hD hS hA (fun hPm hDm => va_runV (As := []) (rest := []) ⟨hx, hb, hml, hown, htg⟩ (x_isConsistent l dg ck ka ad ra Z O U X S T P I V N Y Q  _ hV) (cwV 0 htg (gwV wq_392 wq_393 wq_394 wq_1 wq_395) rfl rfl rfl (by decide +kernel) ⟨Nat.le_of_ble_eq_true rfl, Nat.le_of_ble_eq_true rfl⟩) (wrK_preV hK hPm hDm hC hS hA 0 10 rfl rfl) rfl rfl hl.1 rfl (lv_room (Nat.le_of_ble_eq_true rfl)) dL_law_2764 ⟨by show _ ≤ 603072; omega, by show _ ≤ 7207018; omega⟩) (fun r2764 H locs hr2764 hP hD hS => ?_)
  subst hr2764
  have hP : va_P dg vwCl (brkW ck ka ad ra Z (outc (outc (outc O (elZ S 1).1 (elZ S 1).2.1) (elZ S 6).1 (elZ S 6).2.1) (elZ S 12).1 (elZ S 12).2.1) U X S (elZ S 12).2.2 P I (nsF S) (slZ S N (S 0 1).toNat) Y Q ++ (modelC ck mo (encZ S) F1 F2 F3 F4 M ++ (lngC ck oa D ++ (dblC ck od E)))) H := hP
  have hD : va_D A (brkW ck ka ad ra Z (outc (outc (outc O (elZ S 1).1 (elZ S 1).2.1) (elZ S 6).1 (elZ S 6).2.1) (elZ S 12).1 (elZ S 12).2.1) U X S (elZ S 12).2.2 P I (nsF S) (slZ S N (S 0 1).toNat) Y Q ++ (modelC ck mo (encZ S) F1 F2 F3 F4 M ++ (lngC ck oa D ++ (dblC ck od E)))) := hD
  refine lv_aload_n hx hb dL_law_2767 rfl (lv_at hl 2 rfl) ?_
  refine x_calliB (ws' := brkW ck ka ad ra Z (outc (outc (outc O (elZ S 1).1 (elZ S 1).2.1) (elZ S 6).1 (elZ S 6).2.1) (elZ S 12).1 (elZ S 12).2.1) U X S (elZ S 12).2.2 P I (nsF S) (slZ S N (S 0 1).toNat) Y Q ++ (modelC ck mo (encZ S) F1 F2 F3 F4 (upS M 8 0 0) ++ (lngC ck oa D ++ (dblC ck od E)))) (M := modelC ck mo (encZ S) F1 F2 F3 F4 M) (M' := modelC ck mo (encZ S) F1 F2 F3 F4 (upS M 8 0 0)) (N := brkW ck ka ad ra Z (outc (outc (outc O (elZ S 1).1 (elZ S 1).2.1) (elZ S 6).1 (elZ S 6).2.1) (elZ S 12).1 (elZ S 12).2.1) U X S (elZ S 12).2.2 P I (nsF S) (slZ S N (S 0 1).toNat) Y Q ++ (lngC ck oa D ++ (dblC ck od E))) (cat_perm [brkW ck ka ad ra Z (outc (outc (outc O (elZ S 1).1 (elZ S 1).2.1) (elZ S 6).1 (elZ S 6).2.1) (elZ S 12).1 (elZ S 12).2.1) U X S (elZ S 12).2.2 P I (nsF S) (slZ S N (S 0 1).toNat) Y Q, modelC ck mo (encZ S) F1 F2 F3 F4 M, lngC ck oa D, dblC ck od E] [1] [0, 2, 3] 4 rfl (by decide)) (cat_perm [brkW ck ka ad ra Z (outc (outc (outc O (elZ S 1).1 (elZ S 1).2.1) (elZ S 6).1 (elZ S 6).2.1) (elZ S 12).1 (elZ S 12).2.1) U X S (elZ S 12).2.2 P I (nsF S) (slZ S N (S 0 1).toNat) Y Q, modelC ck mo (encZ S) F1 F2 F3 F4 (upS M 8 0 0), lngC ck oa D, dblC ck od E] [1] [0, 2, 3] 4 rfl (by decide)) hP hD hS hA (fun hPm hDm => va_runV (As := []) (rest := [.int (zI (bI True))]) ⟨hx, hb, hml, hown, htg⟩ (m_isConsistent l dg ck mo S F1 F2 F3 F4 M  _ hI) (cwV 0 htg (gwV wq_2002 wq_2003 wq_2004 wq_15 wq_2005) rfl rfl rfl (by decide +kernel) ⟨Nat.le_of_ble_eq_true rfl, Nat.le_of_ble_eq_true rfl⟩) (wr_preV hK hPm hDm 0 11 rfl rfl) rfl rfl hl.1 rfl (lv_room (Nat.le_of_ble_eq_true rfl)) dL_law_2768 ⟨by show _ ≤ 603072; omega, by show _ ≤ 7207018; omega⟩) (fun r2768 H locs hr2768 hP hD hS => ?_)
  subst hr2768
  have hP : va_P dg vwCl (brkW ck ka ad ra Z (outc (outc (outc O (elZ S 1).1 (elZ S 1).2.1) (elZ S 6).1 (elZ S 6).2.1) (elZ S 12).1 (elZ S 12).2.1) U X S (elZ S 12).2.2 P I (nsF S) (slZ S N (S 0 1).toNat) Y Q ++ (modelC ck mo (encZ S) F1 F2 F3 F4 (upS M 8 0 0) ++ (lngC ck oa D ++ (dblC ck od E)))) H := hP
  have hD : va_D A (brkW ck ka ad ra Z (outc (outc (outc O (elZ S 1).1 (elZ S 1).2.1) (elZ S 6).1 (elZ S 6).2.1) (elZ S 12).1 (elZ S 12).2.1) U X S (elZ S 12).2.2 P I (nsF S) (slZ S N (S 0 1).toNat) Y Q ++ (modelC ck mo (encZ S) F1 F2 F3 F4 (upS M 8 0 0) ++ (lngC ck oa D ++ (dblC ck od E)))) := hD
  refine lv_icmp_eq (tgt := 3323) hx hb dL_law_2771 (by decide) (fun _ => ?_) (fun c9 => absurd (rfl) c9)
  have hLI2 : LI (775 * i + 3100) ((Z, (outc (outc (outc O (elZ S 1).1 (elZ S 1).2.1) (elZ S 6).1 (elZ S 6).2.1) (elZ S 12).1 (elZ S 12).2.1), U, X, S, (elZ S 12).2.2, P, I, (nsF S), (slZ S N (S 0 1).toNat), Y, Q).1) ((Z, (outc (outc (outc O (elZ S 1).1 (elZ S 1).2.1) (elZ S 6).1 (elZ S 6).2.1) (elZ S 12).1 (elZ S 12).2.1), U, X, S, (elZ S 12).2.2, P, I, (nsF S), (slZ S N (S 0 1).toNat), Y, Q).2.2.1) ((Z, (outc (outc (outc O (elZ S 1).1 (elZ S 1).2.1) (elZ S 6).1 (elZ S 6).2.1) (elZ S 12).1 (elZ S 12).2.1), U, X, S, (elZ S 12).2.2, P, I, (nsF S), (slZ S N (S 0 1).toNat), Y, Q).2.2.2.1) ((Z, (outc (outc (outc O (elZ S 1).1 (elZ S 1).2.1) (elZ S 6).1 (elZ S 6).2.1) (elZ S 12).1 (elZ S 12).2.1), U, X, S, (elZ S 12).2.2, P, I, (nsF S), (slZ S N (S 0 1).toNat), Y, Q).2.2.2.2.1) ((Z, (outc (outc (outc O (elZ S 1).1 (elZ S 1).2.1) (elZ S 6).1 (elZ S 6).2.1) (elZ S 12).1 (elZ S 12).2.1), U, X, S, (elZ S 12).2.2, P, I, (nsF S), (slZ S N (S 0 1).toNat), Y, Q).2.2.2.2.2.2.1) ((Z, (outc (outc (outc O (elZ S 1).1 (elZ S 1).2.1) (elZ S 6).1 (elZ S 6).2.1) (elZ S 12).1 (elZ S 12).2.1), U, X, S, (elZ S 12).2.2, P, I, (nsF S), (slZ S N (S 0 1).toNat), Y, Q).2.2.2.2.2.2.2.1) ((Z, (outc (outc (outc O (elZ S 1).1 (elZ S 1).2.1) (elZ S 6).1 (elZ S 6).2.1) (elZ S 12).1 (elZ S 12).2.1), U, X, S, (elZ S 12).2.2, P, I, (nsF S), (slZ S N (S 0 1).toNat), Y, Q).2.2.2.2.2.2.2.2.2.2.1) ((Z, (outc (outc (outc O (elZ S 1).1 (elZ S 1).2.1) (elZ S 6).1 (elZ S 6).2.1) (elZ S 12).1 (elZ S 12).2.1), U, X, S, (elZ S 12).2.2, P, I, (nsF S), (slZ S N (S 0 1).toNat), Y, Q).2.2.2.2.2.2.2.2.2.2.2) F2 F3 (upS M 8 0 0) := (hLI.m (mK_0 M 0)).mono (by omega) (by omega)
  have hS2 : S = ((Z, (outc (outc (outc O (elZ S 1).1 (elZ S 1).2.1) (elZ S 6).1 (elZ S 6).2.1) (elZ S 12).1 (elZ S 12).2.1), U, X, S, (elZ S 12).2.2, P, I, (nsF S), (slZ S N (S 0 1).toNat), Y, Q) : BU).2.2.2.2.1 := rfl
  refine W.widen (k := cells + 3) (n := slots + 18) (by omega) (by omega) ?_
  have hP : va_P dg vwCl (lawW ck ka ad ra mo oa od (Z, (outc (outc (outc O (elZ S 1).1 (elZ S 1).2.1) (elZ S 6).1 (elZ S 6).2.1) (elZ S 12).1 (elZ S 12).2.1), U, X, S, (elZ S 12).2.2, P, I, (nsF S), (slZ S N (S 0 1).toNat), Y, Q) F1 F2 F3 F4 (upS M 8 0 0) D E) H := hP
  have hD : va_D A (lawW ck ka ad ra mo oa od (Z, (outc (outc (outc O (elZ S 1).1 (elZ S 1).2.1) (elZ S 6).1 (elZ S 6).2.1) (elZ S 12).1 (elZ S 12).2.1), U, X, S, (elZ S 12).2.2, P, I, (nsF S), (slZ S N (S 0 1).toNat), Y, Q) F1 F2 F3 F4 (upS M 8 0 0) D E) := hD
  exact kk (Z, (outc (outc (outc O (elZ S 1).1 (elZ S 1).2.1) (elZ S 6).1 (elZ S 6).2.1) (elZ S 12).1 (elZ S 12).2.1), U, X, S, (elZ S 12).2.2, P, I, (nsF S), (slZ S N (S 0 1).toNat), Y, Q) F1 F2 F3 F4 (upS M 8 0 0) D E H locs ls hLI2 hP hD hS (lv_sub hl [0, 1, 2, 3, 4, 5] rfl)

set_option maxHeartbeats 4000000 in
set_option maxRecDepth 100000 in
/-- the law: a call of saveSnapshot -/
theorem lc_61 {p : Program} {l : Launch} {e : Env} {s : State} {m : MethodId} {below : List Frame} {meth : Method} {c : Code} {dg : va_G} {ck : Nat → ClassId} {ka : Nat → Nat} {b L : Nat} {xs : Nat → Int32} {A : Nat → Prop} {ad ra : Nat → Nat → Nat} {mo : Nat → Nat} {oa od : Nat} {Qf : State → Prop} {i : Int} {cells slots : Nat} (C0 : LX p l s m c dg ck ka b L xs A) (hi : 0 ≤ i ∧ i + 4 ≤ L) (hcell : cells + 3 ≤ 603072) (hslot : slots + 18 ≤ 7207018) (kk : LKK p l e s m below meth c dg ck ka ad ra mo oa od b A Qf i cells slots) {Z O U X : Nat → Int} {S T P I : St} {V N Y : Int → Int} {Q : Nat → St} {F1 F2 F3 F4 : Int → Int} {M : St} {D : Nat → Int64} {E : Nat → UInt64} {H : Heap} {locs : List Loc} {ls : Array Slot} (hLI : LI (775 * i) Z U X S P I Y Q F2 F3 M) (hP : va_P dg vwCl (brkW ck ka ad ra Z O U X S T P I V N Y Q ++ (modelC ck mo (encZ S) F1 F2 F3 F4 M ++ (lngC ck oa D ++ (dblC ck od E)))) H) (hD : va_D A (brkW ck ka ad ra Z O U X S T P I V N Y Q ++ (modelC ck mo (encZ S) F1 F2 F3 F4 M ++ (lngC ck oa D ++ (dblC ck od E))))) (hS : va_S A s.heap H locs) (hl : lv_has ls 9 [(0, .ref b), (1, .ref (ad 7 0)), (2, .ref (mo 0)), (3, .ref oa), (4, .ref od), (5, .int (zI i))]) : W p l e room_1 s m #[Value.ref b] below meth c H locs cells slots Qf (F0 m 3266 ls []) := by
  obtain ⟨hx, hb, hml, hown, htg, hX, hbl, hbA, hK, hC, hA, hst, hL⟩ := id C0
  obtain ⟨hV, hlh, hls, hlt, hlo, hlf⟩ := id hLI
  obtain ⟨hn, hz, hk1, hq10, hhist⟩ := id hlh
  obtain ⟨hk2, hz0, hp10, hsn⟩ := id hls
  obtain ⟨hk3, hln, hk5, htx, hkv⟩ := id hlt
  obtain ⟨hk4, hu0, hy7, hY⟩ := id hlo
  obtain ⟨⟨hk5a, hz4⟩, ⟨hk6, hz1⟩, hk7, hk8⟩ := id hlf
  have hI := hV.bd
  have hs10 : ∀ i, 0 ≤ S 10 i ∧ S 10 i ≤ 1 := hI.2.2.2.2.2.2.2.2.2.2.2.2.2.1
  obtain ⟨x, hv_x⟩ : ∃ v9 : Int, (xs (i + 1).toNat).toInt = v9 := ⟨_, rfl⟩
  have rgx_x := xi_r (xs (i + 1).toNat)
  rw [hv_x] at rgx_x
  obtain ⟨y, hv_y⟩ : ∃ v9 : Int, (xs (i + 2).toNat).toInt = v9 := ⟨_, rfl⟩
  have rgx_y := xi_r (xs (i + 2).toNat)
  rw [hv_y] at rgx_y
  obtain ⟨z, hv_z⟩ : ∃ v9 : Int, (xs (i + 3).toNat).toInt = v9 := ⟨_, rfl⟩
  have rgx_z := xi_r (xs (i + 3).toNat)
  rw [hv_z] at rgx_z
  refine lv_aload_n hx hb dL_law_3266 rfl (lv_at hl 1 rfl) ?_
  refine x_calliB (ws' := brkW ck ka ad ra (upO Z 0 1) O U X S T S I V N Y Q ++ (modelC ck mo (encZ S) F1 F2 F3 F4 M ++ (lngC ck oa D ++ (dblC ck od E)))) (M := brkW ck ka ad ra Z O U X S T P I V N Y Q) (M' := brkW ck ka ad ra (upO Z 0 1) O U X S T S I V N Y Q) (N := modelC ck mo (encZ S) F1 F2 F3 F4 M ++ (lngC ck oa D ++ (dblC ck od E))) (cat_perm [brkW ck ka ad ra Z O U X S T P I V N Y Q, modelC ck mo (encZ S) F1 F2 F3 F4 M, lngC ck oa D, dblC ck od E] [0] [1, 2, 3] 4 rfl (by decide)) (cat_perm [brkW ck ka ad ra (upO Z 0 1) O U X S T S I V N Y Q, modelC ck mo (encZ S) F1 F2 F3 F4 M, lngC ck oa D, dblC ck od E] [0] [1, 2, 3] 4 rfl (by decide)) hP hD hS hA (fun hPm hDm => va_runV (As := []) (rest := []) ⟨hx, hb, hml, hown, htg⟩ (x_saveSnapshot l dg ck ka ad ra Z O U X S T P I V N Y Q  _ hs10) (cwV 0 htg (gwV wq_507 wq_508 wq_509 wq_1 wq_510) rfl rfl rfl (by decide +kernel) ⟨Nat.le_of_ble_eq_true rfl, Nat.le_of_ble_eq_true rfl⟩) (wrK_preV hK hPm hDm hC hS hA 0 10 rfl rfl) rfl rfl hl.1 rfl (lv_room (Nat.le_of_ble_eq_true rfl)) dL_law_3267 ⟨by show _ ≤ 603072; omega, by show _ ≤ 7207018; omega⟩) (fun r3267 H locs hr3267 hP hD hS => ?_)
  subst hr3267
  have hP : va_P dg vwCl (brkW ck ka ad ra (upO Z 0 1) O U X S T S I V N Y Q ++ (modelC ck mo (encZ S) F1 F2 F3 F4 M ++ (lngC ck oa D ++ (dblC ck od E)))) H := hP
  have hD : va_D A (brkW ck ka ad ra (upO Z 0 1) O U X S T S I V N Y Q ++ (modelC ck mo (encZ S) F1 F2 F3 F4 M ++ (lngC ck oa D ++ (dblC ck od E)))) := hD
  refine lv_aload_n hx hb dL_law_3270 rfl (lv_at hl 2 rfl) ?_
  refine x_calliB (ws' := brkW ck ka ad ra (upO Z 0 1) O U X S T S I V N Y Q ++ (modelC ck mo (encZ S) F1 (encZ S) F3 F4 (upS (upS M 8 0 0) 8 2 1) ++ (lngC ck oa D ++ (dblC ck od E)))) (M := modelC ck mo (encZ S) F1 F2 F3 F4 M) (M' := modelC ck mo (encZ S) F1 (encZ S) F3 F4 (upS (upS M 8 0 0) 8 2 1)) (N := brkW ck ka ad ra (upO Z 0 1) O U X S T S I V N Y Q ++ (lngC ck oa D ++ (dblC ck od E))) (cat_perm [brkW ck ka ad ra (upO Z 0 1) O U X S T S I V N Y Q, modelC ck mo (encZ S) F1 F2 F3 F4 M, lngC ck oa D, dblC ck od E] [1] [0, 2, 3] 4 rfl (by decide)) (cat_perm [brkW ck ka ad ra (upO Z 0 1) O U X S T S I V N Y Q, modelC ck mo (encZ S) F1 (encZ S) F3 F4 (upS (upS M 8 0 0) 8 2 1), lngC ck oa D, dblC ck od E] [1] [0, 2, 3] 4 rfl (by decide)) hP hD hS hA (fun hPm hDm => va_runV (As := []) (rest := [.int (zI (S 0 0))]) ⟨hx, hb, hml, hown, htg⟩ (m_saveSnapshot l dg ck mo S F1 F2 F3 F4 M  _ ) (cwV 0 htg (gwV wq_2091 wq_2092 wq_2093 wq_15 wq_2094) rfl rfl rfl (by decide +kernel) ⟨Nat.le_of_ble_eq_true rfl, Nat.le_of_ble_eq_true rfl⟩) (wr_preV hK hPm hDm 0 11 rfl rfl) rfl rfl hl.1 rfl (lv_room (Nat.le_of_ble_eq_true rfl)) dL_law_3271 ⟨by show _ ≤ 603072; omega, by show _ ≤ 7207018; omega⟩) (fun r3271 H locs hr3271 hP hD hS => ?_)
  subst hr3271
  have hP : va_P dg vwCl (brkW ck ka ad ra (upO Z 0 1) O U X S T S I V N Y Q ++ (modelC ck mo (encZ S) F1 (encZ S) F3 F4 (upS (upS M 8 0 0) 8 2 1) ++ (lngC ck oa D ++ (dblC ck od E)))) H := hP
  have hD : va_D A (brkW ck ka ad ra (upO Z 0 1) O U X S T S I V N Y Q ++ (modelC ck mo (encZ S) F1 (encZ S) F3 F4 (upS (upS M 8 0 0) 8 2 1) ++ (lngC ck oa D ++ (dblC ck od E)))) := hD
  refine lv_icmp_eq (tgt := 3323) hx hb dL_law_3274 (by decide) (fun _ => ?_) (fun c9 => absurd (rfl) c9)
  have hLI2 : LI (775 * i + 3100) (((upO Z 0 1), O, U, X, S, T, S, I, V, N, Y, Q).1) (((upO Z 0 1), O, U, X, S, T, S, I, V, N, Y, Q).2.2.1) (((upO Z 0 1), O, U, X, S, T, S, I, V, N, Y, Q).2.2.2.1) (((upO Z 0 1), O, U, X, S, T, S, I, V, N, Y, Q).2.2.2.2.1) (((upO Z 0 1), O, U, X, S, T, S, I, V, N, Y, Q).2.2.2.2.2.2.1) (((upO Z 0 1), O, U, X, S, T, S, I, V, N, Y, Q).2.2.2.2.2.2.2.1) (((upO Z 0 1), O, U, X, S, T, S, I, V, N, Y, Q).2.2.2.2.2.2.2.2.2.2.1) (((upO Z 0 1), O, U, X, S, T, S, I, V, N, Y, Q).2.2.2.2.2.2.2.2.2.2.2) (encZ S) F3 (upS (upS M 8 0 0) 8 2 1) := (hLI.save (M' := upS (upS M 8 0 0) 8 2 1) upS_s rfl rfl (fun i9 h9 => (upS_n (by omega)).trans (upS_n (by omega)))).mono (by omega) (by omega)
  have hS2 : S = (((upO Z 0 1), O, U, X, S, T, S, I, V, N, Y, Q) : BU).2.2.2.2.1 := rfl
  refine W.widen (k := cells + 3) (n := slots + 18) (by omega) (by omega) ?_
  have hP : va_P dg vwCl (lawW ck ka ad ra mo oa od ((upO Z 0 1), O, U, X, S, T, S, I, V, N, Y, Q) F1 (encZ S) F3 F4 (upS (upS M 8 0 0) 8 2 1) D E) H := hP
  have hD : va_D A (lawW ck ka ad ra mo oa od ((upO Z 0 1), O, U, X, S, T, S, I, V, N, Y, Q) F1 (encZ S) F3 F4 (upS (upS M 8 0 0) 8 2 1) D E) := hD
  exact kk ((upO Z 0 1), O, U, X, S, T, S, I, V, N, Y, Q) F1 (encZ S) F3 F4 (upS (upS M 8 0 0) 8 2 1) D E H locs ls hLI2 hP hD hS (lv_sub hl [0, 1, 2, 3, 4, 5] rfl)
