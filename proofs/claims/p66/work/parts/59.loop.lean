/-! the law: one round after another -/
theorem vCan_r (S : St) (t b : Int) : -77 ≤ vCan S t b ∧ vCan S t b ≤ 1 := by
  have h := bI_r (obst S t b = 0)
  unfold vCan
  split <;> omega
theorem vLet_r (S : St) (b : Int) : -77 ≤ vLet S b ∧ vLet S b ≤ 1 := by
  have h := bI_r (S 4 b ≠ 0)
  unfold vLet
  split <;> omega
theorem vLeft_r {S : St} (hI : Bd S) (b : Int) : -77 ≤ vLeft S b ∧ vLeft S b ≤ 12 := by
  have h := hI.2.2.2.2.2.2.2.2.2.1 b
  unfold vLeft
  (repeat' split) <;> omega
theorem vDefM_r {S : St} (hI : Bd S) (b : Int) : -77 ≤ vDefM S b ∧ vDefM S b ≤ 4000001 := by
  have h := pay_b hI b
  have hr := rent_r hI b
  have h11 := hI.2.2.2.2.2.2.2.2.2.2.2.2.2.2.1 (S 4 b - 1)
  have h1 := Int.mul_le_mul_of_nonneg_left hr.1 h.1
  rw [Int.mul_one] at h1
  unfold vDefM
  (repeat' split) <;> omega
theorem ansK_el {S : St} {m : Int} (h : -70 < ansK (elZ S m)) : isTerm m := by
  by_cases c : isTerm m
  · exact c
  · have e : elZ S m = (-2, 0, S) := if_pos c
    have e2 : ansK (elZ S m) = -78 := ansK_2 (by rw [e])
    omega

set_option maxHeartbeats 16000000 in
set_option maxRecDepth 100000 in
/-- the law: its loop -/
theorem law_loop {p : Program} {l : Launch} {e : Env} {s : State} {m : MethodId} {below : List Frame} {meth : Method} {c : Code} {dg : va_G} {ck : Nat → ClassId} {ka : Nat → Nat} {A : Nat → Prop} {ad ra : Nat → Nat → Nat} {oa : Nat} {Qf : State → Prop} (hx : p.tables.exec = Jvm.exec) (hb : c.code = code) (hml : c.maxLocals = 23) (hown : s.vm.findClass RL = some m.cls) (htg : ∀ w ∈ GW, w.before #[Value.ref (ka 4)] s = true) (hK : va_K dg vwCl (TY ck) s) (hC : KC ka A s s.heap) (hA : ∀ q, s.heap.size ≤ q → A q) (hst : l.stackTraces = false)
    (hend : ∀ (H : Heap) (locs : List Loc) (ls : Array Slot), va_S A s.heap H locs → W p l e room_1 s m #[Value.ref (ka 4)] below meth c H locs 747773 6848010 Qf (F0 m 594 ls [.int (zI 1)]))
    (b : BU) (S : St) (X : Nat → Int) (Q : Nat → St) (D : Nat → Int64) (made k i : Int) (H : Heap) (locs : List Loc) (ls : Array Slot) (hv : KI (3200 * i) S X Q S0 0 ∧ RO S X Q S0 0 b ∧ (0 ≤ i ∧ i ≤ 54) ∧ k = 5 * i ∧ (0 ≤ made ∧ made ≤ i) ∧ X 1 ≤ made ∧ (X 1 = 8 ∨ X 1 = made) ∧ HS X Q made D ∧ D made.toNat = sumF S) (hP : va_P dg vwCl (brkU ck ka ad ra b ++ lngC ck oa D) H) (hD : va_D A (brkU ck ka ad ra b ++ lngC ck oa D)) (hS : va_S A s.heap H locs) (hl : lv_has ls 23 [(0, .ref (ka 4)), (1, .ref ((ad 7) 0)), (2, .ref oa), (3, .int (zI made)), (4, .int (zI k)), (5, .int (zI i))]) (h0 : i = 0) : W p l e room_1 s m #[Value.ref (ka 4)] below meth c H locs 330 5000 Qf (F0 m 28 ls []) := by
  refine x_loopN (ι := BU × St × (Nat → Int) × (Nat → St) × (Nat → Int64) × Int × Int × Int) (fun v => KI (3200 * v.2.2.2.2.2.2.2) v.2.1 v.2.2.1 v.2.2.2.1 S0 0 ∧ RO v.2.1 v.2.2.1 v.2.2.2.1 S0 0 v.1 ∧ (0 ≤ v.2.2.2.2.2.2.2 ∧ v.2.2.2.2.2.2.2 ≤ 54) ∧ v.2.2.2.2.2.2.1 = 5 * v.2.2.2.2.2.2.2 ∧ (0 ≤ v.2.2.2.2.2.1 ∧ v.2.2.2.2.2.1 ≤ v.2.2.2.2.2.2.2) ∧ v.2.2.1 1 ≤ v.2.2.2.2.2.1 ∧ (v.2.2.1 1 = 8 ∨ v.2.2.1 1 = v.2.2.2.2.2.1) ∧ HS v.2.2.1 v.2.2.2.1 v.2.2.2.2.2.1 v.2.2.2.2.1 ∧ v.2.2.2.2.1 v.2.2.2.2.2.1.toNat = sumF v.2.1) (fun v => (54 - v.2.2.2.2.2.2.2).toNat) (fun v => [(0, .ref (ka 4)), (1, .ref ((ad 7) 0)), (2, .ref oa), (3, .int (zI v.2.2.2.2.2.1)), (4, .int (zI v.2.2.2.2.2.2.1)), (5, .int (zI v.2.2.2.2.2.2.2))]) (fun v => brkU ck ka ad ra v.1 ++ lngC ck oa v.2.2.2.2.1) (fun v => 330 + 2100 * (v.2.2.2.2.2.2.2).toNat) (fun v => 5000 + 12600 * (v.2.2.2.2.2.2.2).toNat) (b, S, X, Q, D, made, k, i) (show KI (3200 * i) S X Q S0 0 ∧ RO S X Q S0 0 b ∧ (0 ≤ i ∧ i ≤ 54) ∧ k = 5 * i ∧ (0 ≤ made ∧ made ≤ i) ∧ X 1 ≤ made ∧ (X 1 = 8 ∨ X 1 = made) ∧ HS X Q made D ∧ D made.toNat = sumF S from hv) (lv_sub hl [0, 1, 2, 3, 4, 5] rfl) hP hD hS (by show _ ≤ 330 + 2100 * (i).toNat; omega) (by show _ ≤ 5000 + 12600 * (i).toNat; omega) ?_
  intro v hv ih_28 ls H locs hl hP hD hS
  obtain ⟨b, S, X, Q, D, made, k, i⟩ := v
  have hl : lv_has ls 23 [(0, .ref (ka 4)), (1, .ref ((ad 7) 0)), (2, .ref oa), (3, .int (zI made)), (4, .int (zI k)), (5, .int (zI i))] := hl
  have hv : KI (3200 * i) S X Q S0 0 ∧ RO S X Q S0 0 b ∧ (0 ≤ i ∧ i ≤ 54) ∧ k = 5 * i ∧ (0 ≤ made ∧ made ≤ i) ∧ X 1 ≤ made ∧ (X 1 = 8 ∨ X 1 = made) ∧ HS X Q made D ∧ D made.toNat = sumF S := hv
  have hP : va_P dg vwCl (brkU ck ka ad ra b ++ lngC ck oa D) H := hP
  have hD : va_D A (brkU ck ka ad ra b ++ lngC ck oa D) := hD
  obtain ⟨hκ, hR, hi, hk5, hmd, hX1, hX8, hsm, hcu⟩ := hv
  refine W.as (k' := 330 + 2100 * (i).toNat) (n' := 5000 + 12600 * (i).toNat) rfl rfl ?_
  refine lv_iload hx hb dL_law_28 (lv_at hl 5 rfl) ?_
  refine x_bipush hx hb dL_law_30 (by decide) ?_
  refine x_icmp_ge (tgt := 588) hx hb dL_law_32 (by decide) (by omega) (by omega) (fun c32 => ?_) (fun c32 => ?_)
  · refine lv_aload_n hx hb dL_law_588 rfl (lv_at hl 1 rfl) ?_
    refine lv_aload_n hx hb dL_law_589 rfl (lv_at hl 2 rfl) ?_
    refine lv_iload_n hx hb dL_law_590 rfl (lv_at hl 3 rfl) ?_
    refine x_calliU hP hD hS hA (va_runS (As := [.ref ((ad 7) 0), .ref oa, .int (zI made)]) (rest := []) ⟨hx, hb, hml, hown, htg⟩ (lf_isKept l dg ck ka ad ra S X Q S0 0 b oa D made _ hκ hR (by omega) hX1 hX8 hsm hcu hst) (cwS 3 htg (gwS wq_1541 wq_1542 wq_0 wq_1543) rfl rfl rfl (by decide +kernel) ⟨Nat.le_of_ble_eq_true rfl, Nat.le_of_ble_eq_true rfl⟩) (wrK_preS hK hP hD hC hS hA) rfl rfl hl.1 rfl (lv_room (Nat.le_of_ble_eq_true rfl)) dL_law_591 ⟨by show _ ≤ 747773; omega, by show _ ≤ 6848010; omega⟩) (fun r591 b591 H locs hw591 hP hD hS => ?_)
    have hP : va_P dg vwCl (brkU ck ka ad ra b591 ++ lngC ck oa D) H := hP
    have hD : va_D A (brkU ck ka ad ra b591 ++ lngC ck oa D) := hD
    subst hw591
    exact W.widen (k := 747773) (n := 6848010) (by omega) (by omega) (hend _ _ _ hS)
  · obtain ⟨⟨hV, hV2⟩, -⟩ := id hκ
    have hI := hV.bd
    obtain ⟨b00, -, b02, -⟩ := id hI
    refine lv_aload_n hx hb dL_law_35 rfl (lv_at hl 1 rfl) ?_
    refine x_calllUB (wf := fun b36 : BU => brkU ck ka ad ra b36 ++ lngC ck oa D) (M := brkU ck ka ad ra b) (Mf := fun b36 => brkU ck ka ad ra b36) (N := lngC ck oa D) (List.Perm.refl _) (fun b36 => List.Perm.refl _) hP hD hS hA (fun hPm hDm => va_runS (As := [.ref ((ad 7) 0)]) (rest := []) ⟨hx, hb, hml, hown, htg⟩ (lf_sum l dg ck ka ad ra S X Q S0 0 b  _ hκ hR  hst) (cwS 1 htg (gwS wq_1178 wq_1179 wq_0 wq_1180) rfl rfl rfl (by decide +kernel) ⟨Nat.le_of_ble_eq_true rfl, Nat.le_of_ble_eq_true rfl⟩) (wrK_preS hK hPm hDm hC hS hA) rfl rfl hl.1 rfl (lv_room (Nat.le_of_ble_eq_true rfl)) dL_law_36 ⟨by show _ ≤ 747773; omega, by show _ ≤ 6848010; omega⟩) (fun r36 b36 H locs hw36 hP hD hS => ?_)
    have hP : va_P dg vwCl (brkU ck ka ad ra b36 ++ lngC ck oa D) H := hP
    have hD : va_D A (brkU ck ka ad ra b36 ++ lngC ck oa D) := hD
    obtain ⟨rfl, hR⟩ := hw36
    refine lv_lstore (lv' := [(6, .long (sumF S)), (0, .ref (ka 4)), (1, .ref ((ad 7) 0)), (2, .ref oa), (3, .int (zI made)), (4, .int (zI k)), (5, .int (zI i))]) hx hb dL_law_39 hl (by decide) rfl (fun ls hl => ?_)
    refine x_midN (ι := BU × Int) (nL := 23) (D := dg) (cl := vwCl) (A := A) (H0 := s.heap) (fun v => (0 ≤ v.2 ∧ v.2 < 40) ∧ RO S X Q S0 0 v.1) (fun v => [(0, .ref (ka 4)), (1, .ref ((ad 7) 0)), (2, .ref oa), (3, .int (zI made)), (4, .int (zI k)), (5, .int (zI i)), (6, .long (sumF S))]) (fun v => [.int (zI v.2)]) (fun v => brkU ck ka ad ra v.1 ++ lngC ck oa D) 70 (486 + 2100 * (i).toNat) (5936 + 12600 * (i).toNat) ?_ (fun mid_70 => ?_)
    · intro v hv ls H locs hl hP hD hS
      obtain ⟨b, kd⟩ := v
      have hl : lv_has ls 23 [(0, .ref (ka 4)), (1, .ref ((ad 7) 0)), (2, .ref oa), (3, .int (zI made)), (4, .int (zI k)), (5, .int (zI i)), (6, .long (sumF S))] := hl
      have hv : (0 ≤ kd ∧ kd < 40) ∧ RO S X Q S0 0 b := hv
      have hP : va_P dg vwCl (brkU ck ka ad ra b ++ lngC ck oa D) H := hP
      have hD : va_D A (brkU ck ka ad ra b ++ lngC ck oa D) := hD
      obtain ⟨hkd, hR⟩ := hv
      refine W.as (k' := 486 + 2100 * (i).toNat) (n' := 5936 + 12600 * (i).toNat) rfl rfl ?_
      refine lv_istore (lv' := [(8, .int (zI kd)), (0, .ref (ka 4)), (1, .ref ((ad 7) 0)), (2, .ref oa), (3, .int (zI made)), (4, .int (zI k)), (5, .int (zI i)), (6, .long (sumF S))]) hx hb dL_law_70 hl (by decide) rfl (fun ls hl => ?_)
      refine lv_aload_n hx hb dL_law_72 rfl (lv_at hl 1 rfl) ?_
      refine lv_iload hx hb dL_law_73 (lv_at hl 5 rfl) ?_
      refine x_iconst hx hb dL_law_75 ?_
      refine x_iadd hx hb dL_law_76 ?_
      refine lv_aload_n hx hb dL_law_77 rfl (lv_at hl 2 rfl) ?_
      refine x_calliUB (wf := fun b78 : BU => brkU ck ka ad ra b78 ++ lngC ck oa D) (M := brkU ck ka ad ra b) (Mf := fun b78 => brkU ck ka ad ra b78) (N := lngC ck oa D) (List.Perm.refl _) (fun b78 => List.Perm.refl _) hP hD hS hA (fun hPm hDm => va_runV (As := []) (rest := [.int (zI (k + 2)), .ref (ka 4)]) ⟨hx, hb, hml, hown, htg⟩ (g_tenantCount l dg ck ka ad ra S X Q S0 0 b _ hκ hR) (cwV 0 htg (gwV wq_323 wq_324 wq_325 wq_1 wq_326) rfl rfl rfl (by decide +kernel) ⟨Nat.le_of_ble_eq_true rfl, Nat.le_of_ble_eq_true rfl⟩) (wrK_preV hK hPm hDm hC hS hA 0 10 rfl rfl) rfl rfl hl.1 rfl (lv_room (Nat.le_of_ble_eq_true rfl)) dL_law_78 ⟨by show _ ≤ 747773; omega, by show _ ≤ 6848010; omega⟩) (fun r78 b78 H locs hw78 hP hD hS => ?_)
      have hP : va_P dg vwCl (brkU ck ka ad ra b78 ++ lngC ck oa D) H := hP
      have hD : va_D A (brkU ck ka ad ra b78 ++ lngC ck oa D) := hD
      obtain ⟨rfl, hR⟩ := hw78
      refine x_midN (ι := BU × Int) (nL := 23) (D := dg) (cl := vwCl) (A := A) (H0 := s.heap) (fun v => ((0 ≤ v.2 ∧ v.2 ≤ 1) ∧ 1 ≤ S 0 2 + v.2) ∧ RO S X Q S0 0 v.1) (fun v => [(0, .ref (ka 4)), (1, .ref ((ad 7) 0)), (2, .ref oa), (3, .int (zI made)), (4, .int (zI k)), (5, .int (zI i)), (6, .long (sumF S)), (8, .int (zI kd))]) (fun v => [.int (zI v.2), .int (zI (S 0 2)), .int (zI (k + 2)), .ref (ka 4)]) (fun v => brkU ck ka ad ra v.1 ++ lngC ck oa D) 103 (486 + 2100 * (i).toNat) (5936 + 12600 * (i).toNat) ?_ (fun mid_103 => ?_)
      · intro v hv ls H locs hl hP hD hS
        obtain ⟨b, f1⟩ := v
        have hl : lv_has ls 23 [(0, .ref (ka 4)), (1, .ref ((ad 7) 0)), (2, .ref oa), (3, .int (zI made)), (4, .int (zI k)), (5, .int (zI i)), (6, .long (sumF S)), (8, .int (zI kd))] := hl
        have hv : ((0 ≤ f1 ∧ f1 ≤ 1) ∧ 1 ≤ S 0 2 + f1) ∧ RO S X Q S0 0 b := hv
        have hP : va_P dg vwCl (brkU ck ka ad ra b ++ lngC ck oa D) H := hP
        have hD : va_D A (brkU ck ka ad ra b ++ lngC ck oa D) := hD
        obtain ⟨hf1, hR⟩ := hv
        refine W.as (k' := 486 + 2100 * (i).toNat) (n' := 5936 + 12600 * (i).toNat) rfl rfl ?_
        refine x_iadd hx hb dL_law_103 ?_
        refine vp_callSi (W.runS (As := [.ref (ka 4), .int (zI (k + 2)), .int (zI ((S 0 2) + f1))]) (rest := []) ⟨hx, hb, hml, hown, htg⟩ (lf_pick l dg ck ka (k + 2) ((S 0 2) + f1) (by omega) (by omega)) (cwS 3 htg (gwS wq_331 wq_332 wq_0 wq_333) rfl rfl rfl (by decide +kernel) ⟨Nat.le_of_ble_eq_true rfl, Nat.le_of_ble_eq_true rfl⟩) (rdK_preS hK va_P_nil hC hS) rfl rfl hl.1 rfl (lv_room (Nat.le_of_ble_eq_true rfl)) dL_law_104 ⟨by show _ ≤ 747773; omega, by show _ ≤ 6848010; omega⟩) (fun r104 hr104 => ?_)
        obtain ⟨k104, rfl, hk104⟩ := hr104
        refine lv_istore (lv' := [(9, .int (zI k104)), (0, .ref (ka 4)), (1, .ref ((ad 7) 0)), (2, .ref oa), (3, .int (zI made)), (4, .int (zI k)), (5, .int (zI i)), (6, .long (sumF S)), (8, .int (zI kd))]) hx hb dL_law_107 hl (by decide) rfl (fun ls hl => ?_)
        refine lv_aload_n hx hb dL_law_109 rfl (lv_at hl 1 rfl) ?_
        refine lv_iload hx hb dL_law_110 (lv_at hl 5 rfl) ?_
        refine x_iconst hx hb dL_law_112 ?_
        refine x_iadd hx hb dL_law_113 ?_
        refine lv_aload_n hx hb dL_law_114 rfl (lv_at hl 2 rfl) ?_
        refine x_calliUB (wf := fun b115 : BU => brkU ck ka ad ra b115 ++ lngC ck oa D) (M := brkU ck ka ad ra b) (Mf := fun b115 => brkU ck ka ad ra b115) (N := lngC ck oa D) (List.Perm.refl _) (fun b115 => List.Perm.refl _) hP hD hS hA (fun hPm hDm => va_runV (As := []) (rest := [.int (zI (k + 3)), .ref (ka 4)]) ⟨hx, hb, hml, hown, htg⟩ (g_benchCount l dg ck ka ad ra S X Q S0 0 b _ hκ hR) (cwV 0 htg (gwV wq_319 wq_320 wq_321 wq_1 wq_322) rfl rfl rfl (by decide +kernel) ⟨Nat.le_of_ble_eq_true rfl, Nat.le_of_ble_eq_true rfl⟩) (wrK_preV hK hPm hDm hC hS hA 0 10 rfl rfl) rfl rfl hl.1 rfl (lv_room (Nat.le_of_ble_eq_true rfl)) dL_law_115 ⟨by show _ ≤ 747773; omega, by show _ ≤ 6848010; omega⟩) (fun r115 b115 H locs hw115 hP hD hS => ?_)
        have hP : va_P dg vwCl (brkU ck ka ad ra b115 ++ lngC ck oa D) H := hP
        have hD : va_D A (brkU ck ka ad ra b115 ++ lngC ck oa D) := hD
        obtain ⟨rfl, hR⟩ := hw115
        refine x_midN (ι := BU × Int) (nL := 23) (D := dg) (cl := vwCl) (A := A) (H0 := s.heap) (fun v => ((0 ≤ v.2 ∧ v.2 ≤ 1) ∧ 1 ≤ S 0 0 + v.2) ∧ RO S X Q S0 0 v.1) (fun v => [(0, .ref (ka 4)), (1, .ref ((ad 7) 0)), (2, .ref oa), (3, .int (zI made)), (4, .int (zI k)), (5, .int (zI i)), (6, .long (sumF S)), (8, .int (zI kd)), (9, .int (zI k104))]) (fun v => [.int (zI v.2), .int (zI (S 0 0)), .int (zI (k + 3)), .ref (ka 4)]) (fun v => brkU ck ka ad ra v.1 ++ lngC ck oa D) 140 (486 + 2100 * (i).toNat) (5936 + 12600 * (i).toNat) ?_ (fun mid_140 => ?_)
        · intro v hv ls H locs hl hP hD hS
          obtain ⟨b, f2⟩ := v
          have hl : lv_has ls 23 [(0, .ref (ka 4)), (1, .ref ((ad 7) 0)), (2, .ref oa), (3, .int (zI made)), (4, .int (zI k)), (5, .int (zI i)), (6, .long (sumF S)), (8, .int (zI kd)), (9, .int (zI k104))] := hl
          have hv : ((0 ≤ f2 ∧ f2 ≤ 1) ∧ 1 ≤ S 0 0 + f2) ∧ RO S X Q S0 0 b := hv
          have hP : va_P dg vwCl (brkU ck ka ad ra b ++ lngC ck oa D) H := hP
          have hD : va_D A (brkU ck ka ad ra b ++ lngC ck oa D) := hD
          obtain ⟨hf2, hR⟩ := hv
          refine W.as (k' := 486 + 2100 * (i).toNat) (n' := 5936 + 12600 * (i).toNat) rfl rfl ?_
          refine x_iadd hx hb dL_law_140 ?_
          refine vp_callSi (W.runS (As := [.ref (ka 4), .int (zI (k + 3)), .int (zI ((S 0 0) + f2))]) (rest := []) ⟨hx, hb, hml, hown, htg⟩ (lf_pick l dg ck ka (k + 3) ((S 0 0) + f2) (by omega) (by omega)) (cwS 3 htg (gwS wq_331 wq_332 wq_0 wq_333) rfl rfl rfl (by decide +kernel) ⟨Nat.le_of_ble_eq_true rfl, Nat.le_of_ble_eq_true rfl⟩) (rdK_preS hK va_P_nil hC hS) rfl rfl hl.1 rfl (lv_room (Nat.le_of_ble_eq_true rfl)) dL_law_141 ⟨by show _ ≤ 747773; omega, by show _ ≤ 6848010; omega⟩) (fun r141 hr141 => ?_)
          obtain ⟨k141, rfl, hk141⟩ := hr141
          refine lv_istore (lv' := [(10, .int (zI k141)), (0, .ref (ka 4)), (1, .ref ((ad 7) 0)), (2, .ref oa), (3, .int (zI made)), (4, .int (zI k)), (5, .int (zI i)), (6, .long (sumF S)), (8, .int (zI kd)), (9, .int (zI k104))]) hx hb dL_law_144 hl (by decide) rfl (fun ls hl => ?_)
          refine lv_aload_n hx hb dL_law_146 rfl (lv_at hl 1 rfl) ?_
          refine lv_iload hx hb dL_law_147 (lv_at hl 5 rfl) ?_
          refine x_iconst hx hb dL_law_149 ?_
          refine x_iadd hx hb dL_law_150 ?_
          refine x_bipush hx hb dL_law_151 (by decide) ?_
          refine vp_callSi (W.runS (As := [.ref (ka 4), .int (zI (k + 1)), .int (zI 13)]) (rest := []) ⟨hx, hb, hml, hown, htg⟩ (lf_pick l dg ck ka (k + 1) 13 (by omega) (by omega)) (cwS 3 htg (gwS wq_331 wq_332 wq_0 wq_333) rfl rfl rfl (by decide +kernel) ⟨Nat.le_of_ble_eq_true rfl, Nat.le_of_ble_eq_true rfl⟩) (rdK_preS hK va_P_nil hC hS) rfl rfl hl.1 rfl (lv_room (Nat.le_of_ble_eq_true rfl)) dL_law_153 ⟨by show _ ≤ 747773; omega, by show _ ≤ 6848010; omega⟩) (fun r153 hr153 => ?_)
          obtain ⟨k153, rfl, hk153⟩ := hr153
          refine lv_istore (lv' := [(11, .int (zI k153)), (10, .int (zI k141)), (0, .ref (ka 4)), (1, .ref ((ad 7) 0)), (2, .ref oa), (3, .int (zI made)), (4, .int (zI k)), (5, .int (zI i)), (6, .long (sumF S)), (8, .int (zI kd)), (9, .int (zI k104))]) hx hb dL_law_156 hl (by decide) rfl (fun ls hl => ?_)
          refine lv_aload_n hx hb dL_law_158 rfl (lv_at hl 3 rfl) ?_
          refine lv_iload hx hb dL_law_159 (lv_at hl 10 rfl) ?_
          refine lv_iload hx hb dL_law_161 (lv_at hl 1 rfl) ?_
          refine x_calliUB (wf := fun b163 : BU => brkU ck ka ad ra b163 ++ lngC ck oa D) (M := brkU ck ka ad ra b) (Mf := fun b163 => brkU ck ka ad ra b163) (N := lngC ck oa D) (List.Perm.refl _) (fun b163 => List.Perm.refl _) hP hD hS hA (fun hPm hDm => vx_runSW (As := [.ref ((ad 7) 0), .int (zI k104), .int (zI k141)]) (rest := []) ⟨hx, hb, hml, hown, htg⟩ (w_canLease l dg ck ka ad ra S X Q S0 0 b k104 k141 _ hκ hR  (by omega) (by omega) hst) (vx_cwSW 3 htg (gwSW wq_503 wq_504 wq_0 wqL_canLease) rfl rfl rfl (by decide +kernel) ⟨Nat.le_of_ble_eq_true rfl, Nat.le_of_ble_eq_true rfl⟩) (wrK_preS hK hPm hDm hC hS hA) rfl rfl hl.1 rfl (lv_room (Nat.le_of_ble_eq_true rfl)) dL_law_163 ⟨by show _ ≤ 747773; omega, by show _ ≤ 6848010; omega⟩) (fun r163 b163 H locs hw163 hP hD hS => ?_)
          have hP : va_P dg vwCl (brkU ck ka ad ra b163 ++ lngC ck oa D) H := hP
          have hD : va_D A (brkU ck ka ad ra b163 ++ lngC ck oa D) := hD
          obtain ⟨rfl, hR⟩ := hw163
          refine x_top _ (fun v166 e_v166 => ?_)
          refine lv_istore (lv' := [(12, .int (zI v166)), (11, .int (zI k153)), (10, .int (zI k141)), (0, .ref (ka 4)), (1, .ref ((ad 7) 0)), (2, .ref oa), (3, .int (zI made)), (4, .int (zI k)), (5, .int (zI i)), (6, .long (sumF S)), (8, .int (zI kd)), (9, .int (zI k104))]) hx hb dL_law_166 hl (by decide) rfl (fun ls hl => ?_)
          refine lv_aload_n hx hb dL_law_168 rfl (lv_at hl 4 rfl) ?_
          refine lv_iload hx hb dL_law_169 (lv_at hl 1 rfl) ?_
          refine x_calliUB (wf := fun b171 : BU => brkU ck ka ad ra b171 ++ lngC ck oa D) (M := brkU ck ka ad ra b163) (Mf := fun b171 => brkU ck ka ad ra b171) (N := lngC ck oa D) (List.Perm.refl _) (fun b171 => List.Perm.refl _) hP hD hS hA (fun hPm hDm => vx_runSW (As := [.ref ((ad 7) 0), .int (zI k153)]) (rest := []) ⟨hx, hb, hml, hown, htg⟩ (w_incomeWithin l dg ck ka ad ra S X Q S0 0 b163 k153 _ hκ hR  (by omega) hst) (vx_cwSW 2 htg (gwSW wq_563 wq_564 wq_0 wqL_incomeWithin) rfl rfl rfl (by decide +kernel) ⟨Nat.le_of_ble_eq_true rfl, Nat.le_of_ble_eq_true rfl⟩) (wrK_preS hK hPm hDm hC hS hA) rfl rfl hl.1 rfl (lv_room (Nat.le_of_ble_eq_true rfl)) dL_law_171 ⟨by show _ ≤ 747773; omega, by show _ ≤ 6848010; omega⟩) (fun r171 b171 H locs hw171 hP hD hS => ?_)
          have hP : va_P dg vwCl (brkU ck ka ad ra b171 ++ lngC ck oa D) H := hP
          have hD : va_D A (brkU ck ka ad ra b171 ++ lngC ck oa D) := hD
          obtain ⟨rfl, hR⟩ := hw171
          refine x_top _ (fun v174 e_v174 => ?_)
          refine lv_istore (lv' := [(13, .int (zI v174)), (12, .int (zI v166)), (11, .int (zI k153)), (10, .int (zI k141)), (0, .ref (ka 4)), (1, .ref ((ad 7) 0)), (2, .ref oa), (3, .int (zI made)), (4, .int (zI k)), (5, .int (zI i)), (6, .long (sumF S)), (8, .int (zI kd)), (9, .int (zI k104))]) hx hb dL_law_174 hl (by decide) rfl (fun ls hl => ?_)
          refine lv_aload_n hx hb dL_law_176 rfl (lv_at hl 5 rfl) ?_
          refine x_calliUB (wf := fun b177 : BU => brkU ck ka ad ra b177 ++ lngC ck oa D) (M := brkU ck ka ad ra b171) (Mf := fun b177 => brkU ck ka ad ra b177) (N := lngC ck oa D) (List.Perm.refl _) (fun b177 => List.Perm.refl _) hP hD hS hA (fun hPm hDm => va_runV (As := []) (rest := []) ⟨hx, hb, hml, hown, htg⟩ (g_brokerCoins l dg ck ka ad ra S X Q S0 0 b171 _ hκ hR) (cwV 0 htg (gwV wq_327 wq_328 wq_329 wq_1 wq_330) rfl rfl rfl (by decide +kernel) ⟨Nat.le_of_ble_eq_true rfl, Nat.le_of_ble_eq_true rfl⟩) (wrK_preV hK hPm hDm hC hS hA 0 10 rfl rfl) rfl rfl hl.1 rfl (lv_room (Nat.le_of_ble_eq_true rfl)) dL_law_177 ⟨by show _ ≤ 747773; omega, by show _ ≤ 6848010; omega⟩) (fun r177 b177 H locs hw177 hP hD hS => ?_)
          have hP : va_P dg vwCl (brkU ck ka ad ra b177 ++ lngC ck oa D) H := hP
          have hD : va_D A (brkU ck ka ad ra b177 ++ lngC ck oa D) := hD
          obtain ⟨rfl, hR⟩ := hw177
          refine x_top _ (fun v180 e_v180 => ?_)
          refine lv_istore (lv' := [(14, .int (zI v180)), (13, .int (zI v174)), (12, .int (zI v166)), (11, .int (zI k153)), (10, .int (zI k141)), (0, .ref (ka 4)), (1, .ref ((ad 7) 0)), (2, .ref oa), (3, .int (zI made)), (4, .int (zI k)), (5, .int (zI i)), (6, .long (sumF S)), (8, .int (zI kd)), (9, .int (zI k104))]) hx hb dL_law_180 hl (by decide) rfl (fun ls hl => ?_)
          refine lv_aload_n hx hb dL_law_182 rfl (lv_at hl 6 rfl) ?_
          refine x_calliUB (wf := fun b183 : BU => brkU ck ka ad ra b183 ++ lngC ck oa D) (M := brkU ck ka ad ra b177) (Mf := fun b183 => brkU ck ka ad ra b183) (N := lngC ck oa D) (List.Perm.refl _) (fun b183 => List.Perm.refl _) hP hD hS hA (fun hPm hDm => va_runS (As := [.ref ((ad 7) 0)]) (rest := []) ⟨hx, hb, hml, hown, htg⟩ (lf_endings l dg ck ka ad ra S X Q S0 0 b177  _ hκ hR  hst) (cwS 1 htg (gwS wq_630 wq_631 wq_0 wq_632) rfl rfl rfl (by decide +kernel) ⟨Nat.le_of_ble_eq_true rfl, Nat.le_of_ble_eq_true rfl⟩) (wrK_preS hK hPm hDm hC hS hA) rfl rfl hl.1 rfl (lv_room (Nat.le_of_ble_eq_true rfl)) dL_law_183 ⟨by show _ ≤ 747773; omega, by show _ ≤ 6848010; omega⟩) (fun r183 b183 H locs hw183 hP hD hS => ?_)
          have hP : va_P dg vwCl (brkU ck ka ad ra b183 ++ lngC ck oa D) H := hP
          have hD : va_D A (brkU ck ka ad ra b183 ++ lngC ck oa D) := hD
          obtain ⟨rfl, hR⟩ := hw183
          refine x_top _ (fun v186 e_v186 => ?_)
          refine lv_istore (lv' := [(15, .int (zI v186)), (14, .int (zI v180)), (13, .int (zI v174)), (12, .int (zI v166)), (11, .int (zI k153)), (10, .int (zI k141)), (0, .ref (ka 4)), (1, .ref ((ad 7) 0)), (2, .ref oa), (3, .int (zI made)), (4, .int (zI k)), (5, .int (zI i)), (6, .long (sumF S)), (8, .int (zI kd)), (9, .int (zI k104))]) hx hb dL_law_186 hl (by decide) rfl (fun ls hl => ?_)
          refine lv_aload_n hx hb dL_law_188 rfl (lv_at hl 7 rfl) ?_
          refine lv_iload hx hb dL_law_189 (lv_at hl 5 rfl) ?_
          refine x_calliUB (wf := fun b191 : BU => brkU ck ka ad ra b191 ++ lngC ck oa D) (M := brkU ck ka ad ra b183) (Mf := fun b191 => brkU ck ka ad ra b191) (N := lngC ck oa D) (List.Perm.refl _) (fun b191 => List.Perm.refl _) hP hD hS hA (fun hPm hDm => vx_runSW (As := [.ref ((ad 7) 0), .int (zI k141)]) (rest := []) ⟨hx, hb, hml, hown, htg⟩ (w_defaultMonth l dg ck ka ad ra S X Q S0 0 b183 k141 _ hκ hR  (by omega) hst) (vx_cwSW 2 htg (gwSW wq_551 wq_552 wq_0 wqL_defaultMonth) rfl rfl rfl (by decide +kernel) ⟨Nat.le_of_ble_eq_true rfl, Nat.le_of_ble_eq_true rfl⟩) (wrK_preS hK hPm hDm hC hS hA) rfl rfl hl.1 rfl (lv_room (Nat.le_of_ble_eq_true rfl)) dL_law_191 ⟨by show _ ≤ 747773; omega, by show _ ≤ 6848010; omega⟩) (fun r191 b191 H locs hw191 hP hD hS => ?_)
          have hP : va_P dg vwCl (brkU ck ka ad ra b191 ++ lngC ck oa D) H := hP
          have hD : va_D A (brkU ck ka ad ra b191 ++ lngC ck oa D) := hD
          obtain ⟨rfl, hR⟩ := hw191
          refine x_top _ (fun v194 e_v194 => ?_)
          refine lv_istore (lv' := [(16, .int (zI v194)), (15, .int (zI v186)), (14, .int (zI v180)), (13, .int (zI v174)), (12, .int (zI v166)), (11, .int (zI k153)), (10, .int (zI k141)), (0, .ref (ka 4)), (1, .ref ((ad 7) 0)), (2, .ref oa), (3, .int (zI made)), (4, .int (zI k)), (5, .int (zI i)), (6, .long (sumF S)), (8, .int (zI kd)), (9, .int (zI k104))]) hx hb dL_law_194 hl (by decide) rfl (fun ls hl => ?_)
          refine lv_aload_n hx hb dL_law_196 rfl (lv_at hl 8 rfl) ?_
          refine lv_iload hx hb dL_law_197 (lv_at hl 6 rfl) ?_
          refine x_calliUB (wf := fun b199 : BU => brkU ck ka ad ra b199 ++ lngC ck oa D) (M := brkU ck ka ad ra b191) (Mf := fun b199 => brkU ck ka ad ra b199) (N := lngC ck oa D) (List.Perm.refl _) (fun b199 => List.Perm.refl _) hP hD hS hA (fun hPm hDm => vx_runSW (As := [.ref ((ad 7) 0), .int (zI k141)]) (rest := []) ⟨hx, hb, hml, hown, htg⟩ (w_monthsLeft l dg ck ka ad ra S X Q S0 0 b191 k141 _ hκ hR  (by omega) hst) (vx_cwSW 2 htg (gwSW wq_544 wq_545 wq_0 wqL_monthsLeft) rfl rfl rfl (by decide +kernel) ⟨Nat.le_of_ble_eq_true rfl, Nat.le_of_ble_eq_true rfl⟩) (wrK_preS hK hPm hDm hC hS hA) rfl rfl hl.1 rfl (lv_room (Nat.le_of_ble_eq_true rfl)) dL_law_199 ⟨by show _ ≤ 747773; omega, by show _ ≤ 6848010; omega⟩) (fun r199 b199 H locs hw199 hP hD hS => ?_)
          have hP : va_P dg vwCl (brkU ck ka ad ra b199 ++ lngC ck oa D) H := hP
          have hD : va_D A (brkU ck ka ad ra b199 ++ lngC ck oa D) := hD
          obtain ⟨rfl, hR⟩ := hw199
          refine x_top _ (fun v202 e_v202 => ?_)
          refine lv_istore (lv' := [(17, .int (zI v202)), (16, .int (zI v194)), (15, .int (zI v186)), (14, .int (zI v180)), (13, .int (zI v174)), (12, .int (zI v166)), (11, .int (zI k153)), (10, .int (zI k141)), (0, .ref (ka 4)), (1, .ref ((ad 7) 0)), (2, .ref oa), (3, .int (zI made)), (4, .int (zI k)), (5, .int (zI i)), (6, .long (sumF S)), (8, .int (zI kd)), (9, .int (zI k104))]) hx hb dL_law_202 hl (by decide) rfl (fun ls hl => ?_)
          refine lv_aload_n hx hb dL_law_204 rfl (lv_at hl 9 rfl) ?_
          refine lv_iload hx hb dL_law_205 (lv_at hl 7 rfl) ?_
          refine x_calliUB (wf := fun b207 : BU => brkU ck ka ad ra b207 ++ lngC ck oa D) (M := brkU ck ka ad ra b199) (Mf := fun b207 => brkU ck ka ad ra b207) (N := lngC ck oa D) (List.Perm.refl _) (fun b207 => List.Perm.refl _) hP hD hS hA (fun hPm hDm => vx_runSW (As := [.ref ((ad 7) 0), .int (zI k141)]) (rest := []) ⟨hx, hb, hml, hown, htg⟩ (w_rentOf l dg ck ka ad ra S X Q S0 0 b199 k141 _ hκ hR  (by omega) hst) (vx_cwSW 2 htg (gwSW wq_338 wq_339 wq_0 wqL_rentOf) rfl rfl rfl (by decide +kernel) ⟨Nat.le_of_ble_eq_true rfl, Nat.le_of_ble_eq_true rfl⟩) (wrK_preS hK hPm hDm hC hS hA) rfl rfl hl.1 rfl (lv_room (Nat.le_of_ble_eq_true rfl)) dL_law_207 ⟨by show _ ≤ 747773; omega, by show _ ≤ 6848010; omega⟩) (fun r207 b207 H locs hw207 hP hD hS => ?_)
          have hP : va_P dg vwCl (brkU ck ka ad ra b207 ++ lngC ck oa D) H := hP
          have hD : va_D A (brkU ck ka ad ra b207 ++ lngC ck oa D) := hD
          obtain ⟨rfl, hR⟩ := hw207
          refine x_top _ (fun v210 e_v210 => ?_)
          refine lv_istore (lv' := [(18, .int (zI v210)), (17, .int (zI v202)), (16, .int (zI v194)), (15, .int (zI v186)), (14, .int (zI v180)), (13, .int (zI v174)), (12, .int (zI v166)), (11, .int (zI k153)), (10, .int (zI k141)), (0, .ref (ka 4)), (1, .ref ((ad 7) 0)), (2, .ref oa), (3, .int (zI made)), (4, .int (zI k)), (5, .int (zI i)), (6, .long (sumF S)), (8, .int (zI kd)), (9, .int (zI k104))]) hx hb dL_law_210 hl (by decide) rfl (fun ls hl => ?_)
          refine lv_aload_n hx hb dL_law_212 rfl (lv_at hl 9 rfl) ?_
          refine lv_iload hx hb dL_law_213 (lv_at hl 13 rfl) ?_
          refine lv_iload hx hb dL_law_215 (lv_at hl 16 rfl) ?_
          refine lv_aload_n hx hb dL_law_217 rfl (lv_at hl 10 rfl) ?_
          refine lv_iload hx hb dL_law_218 (lv_at hl 17 rfl) ?_
          refine lv_iload hx hb dL_law_220 (lv_at hl 8 rfl) ?_
          refine lv_iload hx hb dL_law_222 (lv_at hl 7 rfl) ?_
          refine x_calliUB (wf := fun b224 : BU => brkU ck ka ad ra b224 ++ lngC ck oa D) (M := brkU ck ka ad ra b207) (Mf := fun b224 => brkU ck ka ad ra b224) (N := lngC ck oa D) (List.Perm.refl _) (fun b224 => List.Perm.refl _) hP hD hS hA (fun hPm hDm => va_runS (As := [.ref (ka 4), .int (zI k), .int (zI kd), .ref ((ad 7) 0), .int (zI k104), .int (zI k141), .int (zI k153)]) (rest := []) ⟨hx, hb, hml, hown, htg⟩ (lf_does l dg ck ka ad ra S X Q S0 0 b207 k kd k104 k141 k153 _ hκ hR (by omega) (by omega) (by omega) (by omega) (by omega) (by omega) hst) (cwS 7 htg (gwS wq_645 wq_646 wq_0 wq_647) rfl rfl rfl (by decide +kernel) ⟨Nat.le_of_ble_eq_true rfl, Nat.le_of_ble_eq_true rfl⟩) (wrK_preS hK hPm hDm hC hS hA) rfl rfl hl.1 rfl (lv_room (Nat.le_of_ble_eq_true rfl)) dL_law_224 ⟨by show _ ≤ 747773; omega, by show _ ≤ 6848010; omega⟩) (fun r224 b224 H locs hw224 hP hD hS => ?_)
          have hP : va_P dg vwCl (brkU ck ka ad ra b224 ++ lngC ck oa D) H := hP
          have hD : va_D A (brkU ck ka ad ra b224 ++ lngC ck oa D) := hD
          obtain ⟨v9, S9, c9, rfl, hv9, hal, hR, hel, hle⟩ := hw224
          have hκ0 := hκ
          have hκ : KI (3200 * i + 3100) S9 (phX X c9) (phQ Q X S c9) S0 0 := by
            rcases hal with ⟨a1, a2, a3⟩ | ⟨a1, a2, a3, a4⟩
            · rw [show phX X c9 = X from if_neg a1, show phQ Q X S c9 = Q from if_neg a1, a3]
              exact hκ0.mono (by omega) (by omega)
            · rw [a1]
              exact hκ0.push a3 a4 (by omega) (by omega)
          refine lv_istore (lv' := [(19, .int (zI v9)), (18, .int (zI v210)), (17, .int (zI v202)), (16, .int (zI v194)), (15, .int (zI v186)), (14, .int (zI v180)), (13, .int (zI v174)), (12, .int (zI v166)), (11, .int (zI k153)), (10, .int (zI k141)), (0, .ref (ka 4)), (1, .ref ((ad 7) 0)), (2, .ref oa), (3, .int (zI made)), (4, .int (zI k)), (5, .int (zI i)), (6, .long (sumF S)), (8, .int (zI kd)), (9, .int (zI k104))]) hx hb dL_law_227 hl (by decide) rfl (fun ls hl => ?_)
          have hvc := vCan_r S k104 k141
          have hvl := vLeft_r hI k141
          have hvd := vDefM_r hI k141
          refine x_midN (ι := BU × Int) (nL := 23) (D := dg) (cl := vwCl) (A := A) (H0 := s.heap) (fun v => (v.2 = 0 ∨ (v.2 = 1 ∧ 21 ≤ kd ∧ kd ≤ 29)) ∧ RO S9 (phX X c9) (phQ Q X S c9) S0 0 v.1) (fun v => [(0, .ref (ka 4)), (1, .ref ((ad 7) 0)), (2, .ref oa), (3, .int (zI made)), (4, .int (zI k)), (5, .int (zI i)), (6, .long (sumF S)), (8, .int (zI kd)), (9, .int (zI k104)), (10, .int (zI k141)), (11, .int (zI k153)), (12, .int (zI v166)), (13, .int (zI v174)), (14, .int (zI v180)), (15, .int (zI v186)), (16, .int (zI v194)), (17, .int (zI v202)), (18, .int (zI v210)), (19, .int (zI v9))]) (fun v => [.int (zI v.2)]) (fun v => brkU ck ka ad ra v.1 ++ lngC ck oa D) 248 (600 + 2100 * (i).toNat) (6800 + 12600 * (i).toNat) ?_ (fun mid_248 => ?_)
          · intro v hv ls H locs hl hP hD hS
            obtain ⟨b, fl⟩ := v
            have hl : lv_has ls 23 [(0, .ref (ka 4)), (1, .ref ((ad 7) 0)), (2, .ref oa), (3, .int (zI made)), (4, .int (zI k)), (5, .int (zI i)), (6, .long (sumF S)), (8, .int (zI kd)), (9, .int (zI k104)), (10, .int (zI k141)), (11, .int (zI k153)), (12, .int (zI v166)), (13, .int (zI v174)), (14, .int (zI v180)), (15, .int (zI v186)), (16, .int (zI v194)), (17, .int (zI v202)), (18, .int (zI v210)), (19, .int (zI v9))] := hl
            have hv : (fl = 0 ∨ (fl = 1 ∧ 21 ≤ kd ∧ kd ≤ 29)) ∧ RO S9 (phX X c9) (phQ Q X S c9) S0 0 b := hv
            have hP : va_P dg vwCl (brkU ck ka ad ra b ++ lngC ck oa D) H := hP
            have hD : va_D A (brkU ck ka ad ra b ++ lngC ck oa D) := hD
            obtain ⟨hfl, hR⟩ := hv
            refine W.as (k' := 600 + 2100 * (i).toNat) (n' := 6800 + 12600 * (i).toNat) rfl rfl ?_
            refine lv_istore (lv' := [(20, .int (zI fl)), (0, .ref (ka 4)), (1, .ref ((ad 7) 0)), (2, .ref oa), (3, .int (zI made)), (4, .int (zI k)), (5, .int (zI i)), (6, .long (sumF S)), (8, .int (zI kd)), (9, .int (zI k104)), (10, .int (zI k141)), (11, .int (zI k153)), (12, .int (zI v166)), (13, .int (zI v174)), (14, .int (zI v180)), (15, .int (zI v186)), (16, .int (zI v194)), (17, .int (zI v202)), (18, .int (zI v210)), (19, .int (zI v9))]) hx hb dL_law_248 hl (by decide) rfl (fun ls hl => ?_)
            refine x_midN (ι := BU × Int) (nL := 23) (D := dg) (cl := vwCl) (A := A) (H0 := s.heap) (fun v => (v.2 = 0 ∨ (v.2 = 1 ∧ 14 ≤ kd ∧ kd ≤ 17 ∧ -70 < v9)) ∧ RO S9 (phX X c9) (phQ Q X S c9) S0 0 v.1) (fun v => [(0, .ref (ka 4)), (1, .ref ((ad 7) 0)), (2, .ref oa), (3, .int (zI made)), (4, .int (zI k)), (5, .int (zI i)), (6, .long (sumF S)), (8, .int (zI kd)), (9, .int (zI k104)), (10, .int (zI k141)), (11, .int (zI k153)), (12, .int (zI v166)), (13, .int (zI v174)), (14, .int (zI v180)), (15, .int (zI v186)), (16, .int (zI v194)), (17, .int (zI v202)), (18, .int (zI v210)), (19, .int (zI v9)), (20, .int (zI fl))]) (fun v => [.int (zI v.2)]) (fun v => brkU ck ka ad ra v.1 ++ lngC ck oa D) 276 (600 + 2100 * (i).toNat) (6800 + 12600 * (i).toNat) ?_ (fun mid_276 => ?_)
            · intro v hv ls H locs hl hP hD hS
              obtain ⟨b, fp⟩ := v
              have hl : lv_has ls 23 [(0, .ref (ka 4)), (1, .ref ((ad 7) 0)), (2, .ref oa), (3, .int (zI made)), (4, .int (zI k)), (5, .int (zI i)), (6, .long (sumF S)), (8, .int (zI kd)), (9, .int (zI k104)), (10, .int (zI k141)), (11, .int (zI k153)), (12, .int (zI v166)), (13, .int (zI v174)), (14, .int (zI v180)), (15, .int (zI v186)), (16, .int (zI v194)), (17, .int (zI v202)), (18, .int (zI v210)), (19, .int (zI v9)), (20, .int (zI fl))] := hl
              have hv : (fp = 0 ∨ (fp = 1 ∧ 14 ≤ kd ∧ kd ≤ 17 ∧ -70 < v9)) ∧ RO S9 (phX X c9) (phQ Q X S c9) S0 0 b := hv
              have hP : va_P dg vwCl (brkU ck ka ad ra b ++ lngC ck oa D) H := hP
              have hD : va_D A (brkU ck ka ad ra b ++ lngC ck oa D) := hD
              obtain ⟨hfp, hR⟩ := hv
              refine W.as (k' := 600 + 2100 * (i).toNat) (n' := 6800 + 12600 * (i).toNat) rfl rfl ?_
              refine lv_istore (lv' := [(21, .int (zI fp)), (0, .ref (ka 4)), (1, .ref ((ad 7) 0)), (2, .ref oa), (3, .int (zI made)), (4, .int (zI k)), (5, .int (zI i)), (6, .long (sumF S)), (8, .int (zI kd)), (9, .int (zI k104)), (10, .int (zI k141)), (11, .int (zI k153)), (12, .int (zI v166)), (13, .int (zI v174)), (14, .int (zI v180)), (15, .int (zI v186)), (16, .int (zI v194)), (17, .int (zI v202)), (18, .int (zI v210)), (19, .int (zI v9)), (20, .int (zI fl))]) hx hb dL_law_276 hl (by decide) rfl (fun ls hl => ?_)
              refine x_midN (ι := BU) (nL := 23) (D := dg) (cl := vwCl) (A := A) (H0 := s.heap) (fun v => RO S9 (phX X c9) (phQ Q X S c9) S0 0 v) (fun v => [(0, .ref (ka 4)), (1, .ref ((ad 7) 0)), (2, .ref oa), (3, .int (zI made)), (4, .int (zI k)), (5, .int (zI i)), (6, .long (sumF S)), (8, .int (zI kd)), (9, .int (zI k104)), (10, .int (zI k141)), (11, .int (zI k153)), (12, .int (zI v166)), (13, .int (zI v174)), (14, .int (zI v180)), (15, .int (zI v186)), (16, .int (zI v194)), (17, .int (zI v202)), (18, .int (zI v210)), (19, .int (zI v9)), (20, .int (zI fl)), (21, .int (zI fp)), (22, .int (zI 1))]) (fun v => []) (fun v => brkU ck ka ad ra v ++ lngC ck oa D) 520 (650 + 2100 * (i).toNat) (7300 + 12600 * (i).toNat) ?_ (fun mid_520 => ?_)
              · intro v hv ls H locs hl hP hD hS
                obtain ⟨b, rfl⟩ : ∃ z9 : BU, z9 = v := ⟨_, rfl⟩
                have hl : lv_has ls 23 [(0, .ref (ka 4)), (1, .ref ((ad 7) 0)), (2, .ref oa), (3, .int (zI made)), (4, .int (zI k)), (5, .int (zI i)), (6, .long (sumF S)), (8, .int (zI kd)), (9, .int (zI k104)), (10, .int (zI k141)), (11, .int (zI k153)), (12, .int (zI v166)), (13, .int (zI v174)), (14, .int (zI v180)), (15, .int (zI v186)), (16, .int (zI v194)), (17, .int (zI v202)), (18, .int (zI v210)), (19, .int (zI v9)), (20, .int (zI fl)), (21, .int (zI fp)), (22, .int (zI 1))] := hl
                have hv : RO S9 (phX X c9) (phQ Q X S c9) S0 0 b := hv
                have hP : va_P dg vwCl (brkU ck ka ad ra b ++ lngC ck oa D) H := hP
                have hD : va_D A (brkU ck ka ad ra b ++ lngC ck oa D) := hD
                have hR := hv
                refine W.as (k' := 650 + 2100 * (i).toNat) (n' := 7300 + 12600 * (i).toNat) rfl rfl ?_
                obtain ⟨v520, e_v520⟩ : ∃ y9 : Int, y9 = k + 5 := ⟨_, rfl⟩
                refine lv_iinc (v := zI v520) (lv' := [(4, .int (zI v520)), (0, .ref (ka 4)), (1, .ref ((ad 7) 0)), (2, .ref oa), (3, .int (zI made)), (5, .int (zI i)), (6, .long (sumF S)), (8, .int (zI kd)), (9, .int (zI k104)), (10, .int (zI k141)), (11, .int (zI k153)), (12, .int (zI v166)), (13, .int (zI v174)), (14, .int (zI v180)), (15, .int (zI v186)), (16, .int (zI v194)), (17, .int (zI v202)), (18, .int (zI v210)), (19, .int (zI v9)), (20, .int (zI fl)), (21, .int (zI fp)), (22, .int (zI 1))]) hx hb dL_law_520 hl (k := 4) rfl (by rw [e_v520]; exact zI_add _ _) (by decide) rfl (fun ls hl => ?_)
                refine lv_iload hx hb dL_law_523 (lv_at hl 21 rfl) ?_
                refine x_if_eq (tgt := 551) hx hb dL_law_525 (by decide) (by omega) (fun c525 => absurd c525 (by decide)) (fun c525 => ?_)
                refine lv_aload_n hx hb dL_law_528 rfl (lv_at hl 2 rfl) ?_
                refine lv_aload_n hx hb dL_law_529 rfl (lv_at hl 1 rfl) ?_
                refine x_midN (ι := BU × Int) (nL := 23) (D := dg) (cl := vwCl) (A := A) (H0 := s.heap) (fun v => (v.2 = 0 ∨ v.2 = 1) ∧ RO S9 (phX X c9) (phQ Q X S c9) S0 0 v.1) (fun v => [(0, .ref (ka 4)), (1, .ref ((ad 7) 0)), (2, .ref oa), (3, .int (zI made)), (4, .int (zI v520)), (5, .int (zI i)), (6, .long (sumF S)), (19, .int (zI v9))]) (fun v => [.int (zI v.2), .int (zI v520), .ref (ka 4), .ref ((ad 7) 0)]) (fun v => brkU ck ka ad ra v.1 ++ lngC ck oa D) 545 (650 + 2100 * (i).toNat) (7300 + 12600 * (i).toNat) ?_ (fun mid_545 => ?_)
                · intro v hv ls H locs hl hP hD hS
                  obtain ⟨b, w⟩ := v
                  have hl : lv_has ls 23 [(0, .ref (ka 4)), (1, .ref ((ad 7) 0)), (2, .ref oa), (3, .int (zI made)), (4, .int (zI v520)), (5, .int (zI i)), (6, .long (sumF S)), (19, .int (zI v9))] := hl
                  have hv : (w = 0 ∨ w = 1) ∧ RO S9 (phX X c9) (phQ Q X S c9) S0 0 b := hv
                  have hP : va_P dg vwCl (brkU ck ka ad ra b ++ lngC ck oa D) H := hP
                  have hD : va_D A (brkU ck ka ad ra b ++ lngC ck oa D) := hD
                  obtain ⟨hw01, hR⟩ := hv
                  refine W.as (k' := 650 + 2100 * (i).toNat) (n' := 7300 + 12600 * (i).toNat) rfl rfl ?_
                  refine x_calliUB (wf := fun b545 : BU => brkU ck ka ad ra b545 ++ lngC ck oa D) (M := brkU ck ka ad ra b) (Mf := fun b545 => brkU ck ka ad ra b545) (N := lngC ck oa D) (List.Perm.refl _) (fun b545 => List.Perm.refl _) hP hD hS hA (fun hPm hDm => va_runS (As := [.ref ((ad 7) 0), .ref (ka 4), .int (zI v520), .int (zI w)]) (rest := []) ⟨hx, hb, hml, hown, htg⟩ (lf_isWhole l dg ck ka ad ra S9 (phX X c9) (phQ Q X S c9) S0 0 b v520 w _ hκ hR (by omega) (by omega) hst) (cwS 4 htg (gwS wq_1357 wq_1358 wq_0 wq_1359) rfl rfl rfl (by decide +kernel) ⟨Nat.le_of_ble_eq_true rfl, Nat.le_of_ble_eq_true rfl⟩) (wrK_preS hK hPm hDm hC hS hA) rfl rfl hl.1 rfl (lv_room (Nat.le_of_ble_eq_true rfl)) dL_law_545 ⟨by show _ ≤ 747773; omega, by show _ ≤ 6848010; omega⟩) (fun r545 b545 H locs hw545 hP hD hS => ?_)
                  have hP : va_P dg vwCl (brkU ck ka ad ra b545 ++ lngC ck oa D) H := hP
                  have hD : va_D A (brkU ck ka ad ra b545 ++ lngC ck oa D) := hD
                  obtain ⟨rfl, hR⟩ := hw545
                  refine x_if_ne (tgt := 553) hx hb dL_law_548 (by decide) (by omega) (fun c548 => ?_) (fun c548 => absurd c548 (by decide))
                  refine lv_iload hx hb dL_law_553 (lv_at hl 7 rfl) ?_
                  refine x_bipush hx hb dL_law_555 (by decide) ?_
                  refine x_icmp_gt (tgt := 572) hx hb dL_law_557 (by decide) (by omega) (by omega) (fun c557 => ?_) (fun c557 => ?_)
                  · have hc9 : c9 = 0 := by rcases hal with ⟨a1, a2, a3⟩ | ⟨a1, a2, a3, a4⟩; omega; exact a1
                    rw [hc9] at hκ hR
                    have hX01 := hκ0.2.1
                    have hk1 : phX X 0 1 = k1Z (X 1) := rfl
                    have hk2 : (k1Z (X 1) = X 1 + 1 ∧ X 1 < 8) ∨ (k1Z (X 1) = 8 ∧ X 1 = 8) := by unfold k1Z; split <;> omega
                    obtain ⟨v572, e_v572⟩ : ∃ y9 : Int, y9 = made + 1 := ⟨_, rfl⟩
                    refine lv_iinc (v := zI v572) (lv' := [(3, .int (zI v572)), (0, .ref (ka 4)), (1, .ref ((ad 7) 0)), (2, .ref oa), (4, .int (zI v520)), (5, .int (zI i)), (6, .long (sumF S)), (19, .int (zI v9))]) hx hb dL_law_572 hl (k := 3) rfl (by rw [e_v572]; exact zI_add _ _) (by decide) rfl (fun ls hl => ?_)
                    refine lv_aload_n hx hb dL_law_575 rfl (lv_at hl 3 rfl) ?_
                    refine lv_iload_n hx hb dL_law_576 rfl (lv_at hl 0 rfl) ?_
                    refine lv_aload_n hx hb dL_law_577 rfl (lv_at hl 2 rfl) ?_
                    refine x_calllUB (wf := fun b578 : BU => brkU ck ka ad ra b578 ++ lngC ck oa D) (M := brkU ck ka ad ra b545) (Mf := fun b578 => brkU ck ka ad ra b578) (N := lngC ck oa D) (List.Perm.refl _) (fun b578 => List.Perm.refl _) hP hD hS hA (fun hPm hDm => va_runS (As := [.ref ((ad 7) 0)]) (rest := [.int (zI v572), .ref oa]) ⟨hx, hb, hml, hown, htg⟩ (lf_sum l dg ck ka ad ra S9 (phX X 0) (phQ Q X S 0) S0 0 b545  _ hκ hR  hst) (cwS 1 htg (gwS wq_1178 wq_1179 wq_0 wq_1180) rfl rfl rfl (by decide +kernel) ⟨Nat.le_of_ble_eq_true rfl, Nat.le_of_ble_eq_true rfl⟩) (wrK_preS hK hPm hDm hC hS hA) rfl rfl hl.1 rfl (lv_room (Nat.le_of_ble_eq_true rfl)) dL_law_578 ⟨by show _ ≤ 747773; omega, by show _ ≤ 6848010; omega⟩) (fun r578 b578 H locs hw578 hP hD hS => ?_)
                    have hP : va_P dg vwCl (brkU ck ka ad ra b578 ++ lngC ck oa D) H := hP
                    have hD : va_D A (brkU ck ka ad ra b578 ++ lngC ck oa D) := hD
                    obtain ⟨rfl, hR⟩ := hw578
                    refine va_last hx hb hK hP hD hS 166 5 rfl rfl (zI_in (z := v572) (by omega) (by decide)) dL_law_581 (fun H locs hP hD hS => ?_)
                    rw [zI_clamp (by omega)] at hP hD
                    have hP : va_P dg vwCl (brkU ck ka ad ra b578 ++ lngC ck oa (vp_updL D (v572).toNat (sumF S9))) H := hP
                    have hD : va_D A (brkU ck ka ad ra b578 ++ lngC ck oa (vp_updL D (v572).toNat (sumF S9))) := hD
                    obtain ⟨v582, e_v582⟩ : ∃ y9 : Int, y9 = i + 1 := ⟨_, rfl⟩
                    refine lv_iinc (v := zI v582) (lv' := [(5, .int (zI v582)), (3, .int (zI v572)), (0, .ref (ka 4)), (1, .ref ((ad 7) 0)), (2, .ref oa), (4, .int (zI v520)), (6, .long (sumF S)), (19, .int (zI v9))]) hx hb dL_law_582 hl (k := 5) rfl (by rw [e_v582]; exact zI_add _ _) (by decide) rfl (fun ls hl => ?_)
                    refine lv_goto (tgt := 28) hx hb dL_law_585 (by decide) ?_
                    have hcB : (vp_updL D (v572).toNat (sumF S9)) v572.toNat = sumF S9 := by unfold vp_updL; rw [if_pos rfl]
                    have hsB : HS (phX X 0) (phQ Q X S 0) v572 (vp_updL D (v572).toNat (sumF S9)) := by rw [e_v572]; exact hsm.push hX01 (by omega) hcu (fun k9 hk9 => by unfold vp_updL; rw [if_neg (by omega)])
                    exact W.widen (k := 330 + 2100 * (v582).toNat) (n := 5000 + 12600 * (v582).toNat) (by omega) (by omega) (ih_28 (b578, S9, (phX X 0), (phQ Q X S 0), (vp_updL D (v572).toNat (sumF S9)), v572, v520, v582) (show KI (3200 * v582) S9 (phX X 0) (phQ Q X S 0) S0 0 ∧ RO S9 (phX X 0) (phQ Q X S 0) S0 0 b578 ∧ (0 ≤ v582 ∧ v582 ≤ 54) ∧ v520 = 5 * v582 ∧ (0 ≤ v572 ∧ v572 ≤ v582) ∧ (phX X 0) 1 ≤ v572 ∧ ((phX X 0) 1 = 8 ∨ (phX X 0) 1 = v572) ∧ HS (phX X 0) (phQ Q X S 0) v572 (vp_updL D (v572).toNat (sumF S9)) ∧ (vp_updL D (v572).toNat (sumF S9)) v572.toNat = sumF S9 from ⟨hκ.mono (by omega) (by omega), hR, by omega, by omega, by omega, by omega, by omega, hsB, hcB⟩) (show (54 - v582).toNat < (54 - i).toNat from by omega) ls H locs (lv_sub hl [2, 3, 4, 1, 5, 0] rfl) hP hD hS)
                  · have hcA : c9 ≠ 0 ∧ S9 = S := by rcases hal with ⟨a1, a2, a3⟩ | ⟨a1, a2, a3, a4⟩; exact ⟨a1, a3⟩; omega
                    obtain ⟨hc9, hS9⟩ := hcA
                    have hpx : phX X c9 = X := if_neg hc9
                    have hpq : phQ Q X S c9 = Q := if_neg hc9
                    rw [hpx, hpq, hS9] at hκ hR
                    refine lv_aload_n hx hb dL_law_560 rfl (lv_at hl 1 rfl) ?_
                    refine x_calllUB (wf := fun b561 : BU => brkU ck ka ad ra b561 ++ lngC ck oa D) (M := brkU ck ka ad ra b545) (Mf := fun b561 => brkU ck ka ad ra b561) (N := lngC ck oa D) (List.Perm.refl _) (fun b561 => List.Perm.refl _) hP hD hS hA (fun hPm hDm => va_runS (As := [.ref ((ad 7) 0)]) (rest := []) ⟨hx, hb, hml, hown, htg⟩ (lf_sum l dg ck ka ad ra S X Q S0 0 b545  _ hκ hR  hst) (cwS 1 htg (gwS wq_1178 wq_1179 wq_0 wq_1180) rfl rfl rfl (by decide +kernel) ⟨Nat.le_of_ble_eq_true rfl, Nat.le_of_ble_eq_true rfl⟩) (wrK_preS hK hPm hDm hC hS hA) rfl rfl hl.1 rfl (lv_room (Nat.le_of_ble_eq_true rfl)) dL_law_561 ⟨by show _ ≤ 747773; omega, by show _ ≤ 6848010; omega⟩) (fun r561 b561 H locs hw561 hP hD hS => ?_)
                    have hP : va_P dg vwCl (brkU ck ka ad ra b561 ++ lngC ck oa D) H := hP
                    have hD : va_D A (brkU ck ka ad ra b561 ++ lngC ck oa D) := hD
                    obtain ⟨rfl, hR⟩ := hw561
                    refine lv_lload hx hb dL_law_564 (lv_at hl 6 rfl) ?_
                    refine W.lcmp hx hb dL_law_566 ?_
                    refine W.eq (g2 := F0 m 567 ls [.int (zI 0)]) (congrArg (fun v9 => F0 m 567 ls [.int v9]) (lg_self _)) ?_
                    refine x_if_eq (tgt := 582) hx hb dL_law_567 (by decide) (by omega) (fun c567 => ?_) (fun c567 => absurd c567 (by decide))
                    obtain ⟨v582, e_v582⟩ : ∃ y9 : Int, y9 = i + 1 := ⟨_, rfl⟩
                    refine lv_iinc (v := zI v582) (lv' := [(5, .int (zI v582)), (0, .ref (ka 4)), (1, .ref ((ad 7) 0)), (2, .ref oa), (3, .int (zI made)), (4, .int (zI v520)), (6, .long (sumF S)), (19, .int (zI v9))]) hx hb dL_law_582 hl (k := 5) rfl (by rw [e_v582]; exact zI_add _ _) (by decide) rfl (fun ls hl => ?_)
                    refine lv_goto (tgt := 28) hx hb dL_law_585 (by decide) ?_
                    exact W.widen (k := 330 + 2100 * (v582).toNat) (n := 5000 + 12600 * (v582).toNat) (by omega) (by omega) (ih_28 (b561, S, X, Q, D, made, v520, v582) (show KI (3200 * v582) S X Q S0 0 ∧ RO S X Q S0 0 b561 ∧ (0 ≤ v582 ∧ v582 ≤ 54) ∧ v520 = 5 * v582 ∧ (0 ≤ made ∧ made ≤ v582) ∧ X 1 ≤ made ∧ (X 1 = 8 ∨ X 1 = made) ∧ HS X Q made D ∧ D made.toNat = sumF S from ⟨hκ.mono (by omega) (by omega), hR, by omega, by omega, by omega, hX1, hX8, hsm, hcu⟩) (show (54 - v582).toNat < (54 - i).toNat from by omega) ls H locs (lv_sub hl [1, 2, 3, 4, 5, 0] rfl) hP hD hS)
                · refine lv_iload hx hb dL_law_530 (lv_at hl 0 rfl) ?_
                  refine lv_iload hx hb dL_law_532 (lv_at hl 5 rfl) ?_
                  refine x_iconst hx hb dL_law_534 ?_
                  refine x_irem hx hb dL_law_535 (by omega) (by omega) ?_
                  refine x_iconst hx hb dL_law_536 ?_
                  refine x_icmp_ne (tgt := 544) hx hb dL_law_537 (by decide) (by omega) (by omega) (fun c537 => ?_) (fun c537 => ?_)
                  · refine x_iconst hx hb dL_law_544 ?_
                    exact W.widen (k := 650 + 2100 * (i).toNat) (n := 7300 + 12600 * (i).toNat) (by omega) (by omega) (mid_545 (b, 0) (show ((0 : Int) = 0 ∨ (0 : Int) = 1) ∧ RO S9 (phX X c9) (phQ Q X S c9) S0 0 b from ⟨by omega, hR⟩) ls H locs (lv_sub hl [1, 2, 3, 4, 0, 5, 6, 18] rfl) hP hD hS)
                  · refine x_iconst hx hb dL_law_540 ?_
                    refine lv_goto (tgt := 545) hx hb dL_law_541 (by decide) ?_
                    exact W.widen (k := 650 + 2100 * (i).toNat) (n := 7300 + 12600 * (i).toNat) (by omega) (by omega) (mid_545 (b, 1) (show ((1 : Int) = 0 ∨ (1 : Int) = 1) ∧ RO S9 (phX X c9) (phQ Q X S c9) S0 0 b from ⟨by omega, hR⟩) ls H locs (lv_sub hl [1, 2, 3, 4, 0, 5, 6, 18] rfl) hP hD hS)
              · rcases hfp with hfp | ⟨hfp, hk1, hk2, hg9⟩
                · refine lv_iload hx hb dL_law_278 (lv_at hl 20 rfl) ?_
                  refine x_midN (ι := BU) (nL := 23) (D := dg) (cl := vwCl) (A := A) (H0 := s.heap) (fun v => RO S9 (phX X c9) (phQ Q X S c9) S0 0 v) (fun v => [(0, .ref (ka 4)), (1, .ref ((ad 7) 0)), (2, .ref oa), (3, .int (zI made)), (4, .int (zI k)), (5, .int (zI i)), (6, .long (sumF S)), (8, .int (zI kd)), (9, .int (zI k104)), (10, .int (zI k141)), (11, .int (zI k153)), (12, .int (zI v166)), (13, .int (zI v174)), (14, .int (zI v180)), (15, .int (zI v186)), (16, .int (zI v194)), (17, .int (zI v202)), (18, .int (zI v210)), (19, .int (zI v9)), (20, .int (zI fl)), (21, .int (zI fp))]) (fun v => []) (fun v => brkU ck ka ad ra v ++ lngC ck oa D) 359 (610 + 2100 * (i).toNat) (6900 + 12600 * (i).toNat) ?_ (fun mid_359 => ?_)
                  · intro v hv ls H locs hl hP hD hS
                    obtain ⟨b, rfl⟩ : ∃ z9 : BU, z9 = v := ⟨_, rfl⟩
                    have hl : lv_has ls 23 [(0, .ref (ka 4)), (1, .ref ((ad 7) 0)), (2, .ref oa), (3, .int (zI made)), (4, .int (zI k)), (5, .int (zI i)), (6, .long (sumF S)), (8, .int (zI kd)), (9, .int (zI k104)), (10, .int (zI k141)), (11, .int (zI k153)), (12, .int (zI v166)), (13, .int (zI v174)), (14, .int (zI v180)), (15, .int (zI v186)), (16, .int (zI v194)), (17, .int (zI v202)), (18, .int (zI v210)), (19, .int (zI v9)), (20, .int (zI fl)), (21, .int (zI fp))] := hl
                    have hv : RO S9 (phX X c9) (phQ Q X S c9) S0 0 b := hv
                    have hP : va_P dg vwCl (brkU ck ka ad ra b ++ lngC ck oa D) H := hP
                    have hD : va_D A (brkU ck ka ad ra b ++ lngC ck oa D) := hD
                    have hR := hv
                    refine W.as (k' := 610 + 2100 * (i).toNat) (n' := 6900 + 12600 * (i).toNat) rfl rfl ?_
                    refine x_iconst hx hb dL_law_359 ?_
                    refine lv_goto (tgt := 364) hx hb dL_law_360 (by decide) ?_
                    refine lv_istore (lv' := [(22, .int (zI 1)), (0, .ref (ka 4)), (1, .ref ((ad 7) 0)), (2, .ref oa), (3, .int (zI made)), (4, .int (zI k)), (5, .int (zI i)), (6, .long (sumF S)), (8, .int (zI kd)), (9, .int (zI k104)), (10, .int (zI k141)), (11, .int (zI k153)), (12, .int (zI v166)), (13, .int (zI v174)), (14, .int (zI v180)), (15, .int (zI v186)), (16, .int (zI v194)), (17, .int (zI v202)), (18, .int (zI v210)), (19, .int (zI v9)), (20, .int (zI fl)), (21, .int (zI fp))]) hx hb dL_law_364 hl (by decide) rfl (fun ls hl => ?_)
                    refine x_midN (ι := BU) (nL := 23) (D := dg) (cl := vwCl) (A := A) (H0 := s.heap) (fun v => RO S9 (phX X c9) (phQ Q X S c9) S0 0 v) (fun v => [(0, .ref (ka 4)), (1, .ref ((ad 7) 0)), (2, .ref oa), (3, .int (zI made)), (4, .int (zI k)), (5, .int (zI i)), (6, .long (sumF S)), (8, .int (zI kd)), (9, .int (zI k104)), (10, .int (zI k141)), (11, .int (zI k153)), (12, .int (zI v166)), (13, .int (zI v174)), (14, .int (zI v180)), (15, .int (zI v186)), (16, .int (zI v194)), (17, .int (zI v202)), (18, .int (zI v210)), (19, .int (zI v9)), (20, .int (zI fl)), (21, .int (zI fp))]) (fun v => [.int (zI 1)]) (fun v => brkU ck ka ad ra v ++ lngC ck oa D) 397 (620 + 2100 * (i).toNat) (7000 + 12600 * (i).toNat) ?_ (fun mid_397 => ?_)
                    · intro v hv ls H locs hl hP hD hS
                      obtain ⟨b, rfl⟩ : ∃ z9 : BU, z9 = v := ⟨_, rfl⟩
                      have hl : lv_has ls 23 [(0, .ref (ka 4)), (1, .ref ((ad 7) 0)), (2, .ref oa), (3, .int (zI made)), (4, .int (zI k)), (5, .int (zI i)), (6, .long (sumF S)), (8, .int (zI kd)), (9, .int (zI k104)), (10, .int (zI k141)), (11, .int (zI k153)), (12, .int (zI v166)), (13, .int (zI v174)), (14, .int (zI v180)), (15, .int (zI v186)), (16, .int (zI v194)), (17, .int (zI v202)), (18, .int (zI v210)), (19, .int (zI v9)), (20, .int (zI fl)), (21, .int (zI fp))] := hl
                      have hv : RO S9 (phX X c9) (phQ Q X S c9) S0 0 b := hv
                      have hP : va_P dg vwCl (brkU ck ka ad ra b ++ lngC ck oa D) H := hP
                      have hD : va_D A (brkU ck ka ad ra b ++ lngC ck oa D) := hD
                      have hR := hv
                      refine W.as (k' := 620 + 2100 * (i).toNat) (n' := 7000 + 12600 * (i).toNat) rfl rfl ?_
                      refine x_iconst hx hb dL_law_397 ?_
                      refine lv_goto (tgt := 402) hx hb dL_law_398 (by decide) ?_
                      refine lv_iand hx hb dL_law_402 ?_
                      refine W.eq (g2 := F0 m 403 ls [.int (zI 1)]) rfl ?_
                      refine lv_istore (lv' := [(22, .int (zI 1)), (0, .ref (ka 4)), (1, .ref ((ad 7) 0)), (2, .ref oa), (3, .int (zI made)), (4, .int (zI k)), (5, .int (zI i)), (6, .long (sumF S)), (8, .int (zI kd)), (9, .int (zI k104)), (10, .int (zI k141)), (11, .int (zI k153)), (12, .int (zI v166)), (13, .int (zI v174)), (14, .int (zI v180)), (15, .int (zI v186)), (16, .int (zI v194)), (17, .int (zI v202)), (18, .int (zI v210)), (19, .int (zI v9)), (20, .int (zI fl)), (21, .int (zI fp))]) hx hb dL_law_403 hl (by decide) rfl (fun ls hl => ?_)
                      refine x_midN (ι := BU) (nL := 23) (D := dg) (cl := vwCl) (A := A) (H0 := s.heap) (fun v => RO S9 (phX X c9) (phQ Q X S c9) S0 0 v) (fun v => [(0, .ref (ka 4)), (1, .ref ((ad 7) 0)), (2, .ref oa), (3, .int (zI made)), (4, .int (zI k)), (5, .int (zI i)), (6, .long (sumF S)), (8, .int (zI kd)), (9, .int (zI k104)), (10, .int (zI k141)), (11, .int (zI k153)), (12, .int (zI v166)), (13, .int (zI v174)), (14, .int (zI v180)), (15, .int (zI v186)), (16, .int (zI v194)), (17, .int (zI v202)), (18, .int (zI v210)), (19, .int (zI v9)), (20, .int (zI fl)), (21, .int (zI fp))]) (fun v => [.int (zI 1)]) (fun v => brkU ck ka ad ra v ++ lngC ck oa D) 440 (630 + 2100 * (i).toNat) (7100 + 12600 * (i).toNat) ?_ (fun mid_440 => ?_)
                      · intro v hv ls H locs hl hP hD hS
                        obtain ⟨b, rfl⟩ : ∃ z9 : BU, z9 = v := ⟨_, rfl⟩
                        have hl : lv_has ls 23 [(0, .ref (ka 4)), (1, .ref ((ad 7) 0)), (2, .ref oa), (3, .int (zI made)), (4, .int (zI k)), (5, .int (zI i)), (6, .long (sumF S)), (8, .int (zI kd)), (9, .int (zI k104)), (10, .int (zI k141)), (11, .int (zI k153)), (12, .int (zI v166)), (13, .int (zI v174)), (14, .int (zI v180)), (15, .int (zI v186)), (16, .int (zI v194)), (17, .int (zI v202)), (18, .int (zI v210)), (19, .int (zI v9)), (20, .int (zI fl)), (21, .int (zI fp))] := hl
                        have hv : RO S9 (phX X c9) (phQ Q X S c9) S0 0 b := hv
                        have hP : va_P dg vwCl (brkU ck ka ad ra b ++ lngC ck oa D) H := hP
                        have hD : va_D A (brkU ck ka ad ra b ++ lngC ck oa D) := hD
                        have hR := hv
                        refine W.as (k' := 630 + 2100 * (i).toNat) (n' := 7100 + 12600 * (i).toNat) rfl rfl ?_
                        refine x_iconst hx hb dL_law_440 ?_
                        refine lv_goto (tgt := 445) hx hb dL_law_441 (by decide) ?_
                        refine lv_iand hx hb dL_law_445 ?_
                        refine W.eq (g2 := F0 m 446 ls [.int (zI 1)]) rfl ?_
                        refine lv_istore (lv' := [(22, .int (zI 1)), (0, .ref (ka 4)), (1, .ref ((ad 7) 0)), (2, .ref oa), (3, .int (zI made)), (4, .int (zI k)), (5, .int (zI i)), (6, .long (sumF S)), (8, .int (zI kd)), (9, .int (zI k104)), (10, .int (zI k141)), (11, .int (zI k153)), (12, .int (zI v166)), (13, .int (zI v174)), (14, .int (zI v180)), (15, .int (zI v186)), (16, .int (zI v194)), (17, .int (zI v202)), (18, .int (zI v210)), (19, .int (zI v9)), (20, .int (zI fl)), (21, .int (zI fp))]) hx hb dL_law_446 hl (by decide) rfl (fun ls hl => ?_)
                        refine x_midN (ι := BU) (nL := 23) (D := dg) (cl := vwCl) (A := A) (H0 := s.heap) (fun v => RO S9 (phX X c9) (phQ Q X S c9) S0 0 v) (fun v => [(0, .ref (ka 4)), (1, .ref ((ad 7) 0)), (2, .ref oa), (3, .int (zI made)), (4, .int (zI k)), (5, .int (zI i)), (6, .long (sumF S)), (8, .int (zI kd)), (9, .int (zI k104)), (10, .int (zI k141)), (11, .int (zI k153)), (12, .int (zI v166)), (13, .int (zI v174)), (14, .int (zI v180)), (15, .int (zI v186)), (16, .int (zI v194)), (17, .int (zI v202)), (18, .int (zI v210)), (19, .int (zI v9)), (20, .int (zI fl)), (21, .int (zI fp))]) (fun v => [.int (zI 1)]) (fun v => brkU ck ka ad ra v ++ lngC ck oa D) 512 (640 + 2100 * (i).toNat) (7200 + 12600 * (i).toNat) ?_ (fun mid_512 => ?_)
                        · intro v hv ls H locs hl hP hD hS
                          obtain ⟨b, rfl⟩ : ∃ z9 : BU, z9 = v := ⟨_, rfl⟩
                          have hl : lv_has ls 23 [(0, .ref (ka 4)), (1, .ref ((ad 7) 0)), (2, .ref oa), (3, .int (zI made)), (4, .int (zI k)), (5, .int (zI i)), (6, .long (sumF S)), (8, .int (zI kd)), (9, .int (zI k104)), (10, .int (zI k141)), (11, .int (zI k153)), (12, .int (zI v166)), (13, .int (zI v174)), (14, .int (zI v180)), (15, .int (zI v186)), (16, .int (zI v194)), (17, .int (zI v202)), (18, .int (zI v210)), (19, .int (zI v9)), (20, .int (zI fl)), (21, .int (zI fp))] := hl
                          have hv : RO S9 (phX X c9) (phQ Q X S c9) S0 0 b := hv
                          have hP : va_P dg vwCl (brkU ck ka ad ra b ++ lngC ck oa D) H := hP
                          have hD : va_D A (brkU ck ka ad ra b ++ lngC ck oa D) := hD
                          have hR := hv
                          refine W.as (k' := 640 + 2100 * (i).toNat) (n' := 7200 + 12600 * (i).toNat) rfl rfl ?_
                          refine x_iconst hx hb dL_law_512 ?_
                          refine lv_goto (tgt := 517) hx hb dL_law_513 (by decide) ?_
                          refine lv_iand hx hb dL_law_517 ?_
                          refine W.eq (g2 := F0 m 518 ls [.int (zI 1)]) rfl ?_
                          refine lv_istore (lv' := [(22, .int (zI 1)), (0, .ref (ka 4)), (1, .ref ((ad 7) 0)), (2, .ref oa), (3, .int (zI made)), (4, .int (zI k)), (5, .int (zI i)), (6, .long (sumF S)), (8, .int (zI kd)), (9, .int (zI k104)), (10, .int (zI k141)), (11, .int (zI k153)), (12, .int (zI v166)), (13, .int (zI v174)), (14, .int (zI v180)), (15, .int (zI v186)), (16, .int (zI v194)), (17, .int (zI v202)), (18, .int (zI v210)), (19, .int (zI v9)), (20, .int (zI fl)), (21, .int (zI fp))]) hx hb dL_law_518 hl (by decide) rfl (fun ls hl => ?_)
                          exact W.widen (k := 650 + 2100 * (i).toNat) (n := 7300 + 12600 * (i).toNat) (by omega) (by omega) (mid_520 (b) (show RO S9 (phX X c9) (phQ Q X S c9) S0 0 b from hR) ls H locs (lv_sub hl [1, 2, 3, 4, 5, 6, 7, 8, 9, 10, 11, 12, 13, 14, 15, 16, 17, 18, 19, 20, 21, 0] rfl) hP hD hS)
                        · refine lv_iload hx hb dL_law_448 (lv_at hl 0 rfl) ?_
                          refine lv_iload hx hb dL_law_450 (lv_at hl 21 rfl) ?_
                          refine x_if_eq (tgt := 512) hx hb dL_law_452 (by decide) (by omega) (fun c452 => ?_) (fun c452 => False.elim (by omega))
                          exact W.widen (k := 640 + 2100 * (i).toNat) (n := 7200 + 12600 * (i).toNat) (by omega) (by omega) (mid_512 (b) (show RO S9 (phX X c9) (phQ Q X S c9) S0 0 b from hR) ls H locs (lv_sub hl [1, 2, 3, 4, 5, 6, 7, 8, 9, 10, 11, 12, 13, 14, 15, 16, 17, 18, 19, 20, 21] rfl) hP hD hS)
                      · refine lv_iload hx hb dL_law_405 (lv_at hl 0 rfl) ?_
                        refine lv_iload hx hb dL_law_407 (lv_at hl 21 rfl) ?_
                        refine x_if_eq (tgt := 440) hx hb dL_law_409 (by decide) (by omega) (fun c409 => ?_) (fun c409 => False.elim (by omega))
                        exact W.widen (k := 630 + 2100 * (i).toNat) (n := 7100 + 12600 * (i).toNat) (by omega) (by omega) (mid_440 (b) (show RO S9 (phX X c9) (phQ Q X S c9) S0 0 b from hR) ls H locs (lv_sub hl [1, 2, 3, 4, 5, 6, 7, 8, 9, 10, 11, 12, 13, 14, 15, 16, 17, 18, 19, 20, 21] rfl) hP hD hS)
                    · refine lv_iload hx hb dL_law_366 (lv_at hl 0 rfl) ?_
                      refine lv_iload hx hb dL_law_368 (lv_at hl 21 rfl) ?_
                      refine x_if_eq (tgt := 397) hx hb dL_law_370 (by decide) (by omega) (fun c370 => ?_) (fun c370 => False.elim (by omega))
                      exact W.widen (k := 620 + 2100 * (i).toNat) (n := 7000 + 12600 * (i).toNat) (by omega) (by omega) (mid_397 (b) (show RO S9 (phX X c9) (phQ Q X S c9) S0 0 b from hR) ls H locs (lv_sub hl [1, 2, 3, 4, 5, 6, 7, 8, 9, 10, 11, 12, 13, 14, 15, 16, 17, 18, 19, 20, 21] rfl) hP hD hS)
                  · refine x_if_eq (tgt := 359) hx hb dL_law_280 (by decide) (by omega) (fun c280 => ?_) (fun c280 => ?_)
                    · exact W.widen (k := 610 + 2100 * (i).toNat) (n := 6900 + 12600 * (i).toNat) (by omega) (by omega) (mid_359 (b) (show RO S9 (phX X c9) (phQ Q X S c9) S0 0 b from hR) ls H locs (lv_sub hl [1, 2, 3, 4, 5, 6, 7, 8, 9, 10, 11, 12, 13, 14, 15, 16, 17, 18, 19, 20, 0] rfl) hP hD hS)
                    · refine lv_iload hx hb dL_law_283 (lv_at hl 11 rfl) ?_
                      refine x_if_eq (tgt := 359) hx hb dL_law_285 (by decide) (by omega) (fun c285 => ?_) (fun c285 => ?_)
                      · exact W.widen (k := 610 + 2100 * (i).toNat) (n := 6900 + 12600 * (i).toNat) (by omega) (by omega) (mid_359 (b) (show RO S9 (phX X c9) (phQ Q X S c9) S0 0 b from hR) ls H locs (lv_sub hl [1, 2, 3, 4, 5, 6, 7, 8, 9, 10, 11, 12, 13, 14, 15, 16, 17, 18, 19, 20, 0] rfl) hP hD hS)
                      · have hLs := lease_l hV (t := k104) (b := k141) (m := k153) ⟨by omega, by omega⟩
                        have he3 := hle (by omega)
                        rw [← he3.1, ← he3.2.2, ← e_v166, ← e_v210] at hLs
                        have hL2 := hLs.1
                        have hL3 := hLs.2
                        rcases Classical.em (-70 < v9) with hg | hg
                        · have hnn : 0 ≤ v9 := by rcases hal with ⟨a1, a2, a3⟩ | ⟨a1, a2, a3, a4⟩ <;> omega
                          have hL4 := hL3 hnn
                          have hLs := lease_l hV (t := k104) (b := k141) (m := k153) ⟨by omega, by omega⟩
                          have he3 := hle (by omega)
                          rw [← he3.1, ← he3.2.2, ← e_v166, ← e_v210] at hLs
                          have hL2 := hLs.1
                          have hL3 := hLs.2
                          refine lv_iload hx hb dL_law_288 (lv_at hl 19 rfl) ?_
                          refine x_bipush hx hb dL_law_290 (by decide) ?_
                          refine x_icmp_le (tgt := 299) hx hb dL_law_292 (by decide) (by omega) (by omega) (fun c292 => False.elim (by omega)) (fun c292 => ?_)
                          refine x_iconst hx hb dL_law_295 ?_
                          refine lv_goto (tgt := 300) hx hb dL_law_296 (by decide) ?_
                          refine lv_iload hx hb dL_law_300 (lv_at hl 12 rfl) ?_
                          refine x_iconst hx hb dL_law_302 ?_
                          refine x_icmp_ne (tgt := 310) hx hb dL_law_303 (by decide) (by omega) (by omega) (fun c303 => False.elim (by omega)) (fun c303 => ?_)
                          refine x_iconst hx hb dL_law_306 ?_
                          refine lv_goto (tgt := 311) hx hb dL_law_307 (by decide) ?_
                          refine x_icmp_ne (tgt := 363) hx hb dL_law_311 (by decide) (by omega) (by omega) (fun c311 => absurd c311 (by decide)) (fun c311 => ?_)
                          refine lv_iload hx hb dL_law_314 (lv_at hl 19 rfl) ?_
                          refine x_if_lt (tgt := 359) hx hb dL_law_316 (by decide) (by omega) (fun c316 => False.elim (by omega)) (fun c316 => ?_)
                          refine lv_iload hx hb dL_law_319 (lv_at hl 19 rfl) ?_
                          refine lv_iload hx hb dL_law_321 (lv_at hl 18 rfl) ?_
                          refine x_is (show v210 = v9 by omega) ?_
                          refine lv_icmp_ne (tgt := 363) hx hb dL_law_323 (by decide) (fun c323 => absurd rfl c323) (fun c323 => ?_)
                          refine lv_aload_n hx hb dL_law_326 rfl (lv_at hl 2 rfl) ?_
                          refine lv_iload hx hb dL_law_327 (lv_at hl 10 rfl) ?_
                          refine x_calliUB (wf := fun b329 : BU => brkU ck ka ad ra b329 ++ lngC ck oa D) (M := brkU ck ka ad ra b) (Mf := fun b329 => brkU ck ka ad ra b329) (N := lngC ck oa D) (List.Perm.refl _) (fun b329 => List.Perm.refl _) hP hD hS hA (fun hPm hDm => vx_runSW (As := [.ref ((ad 7) 0), .int (zI k141)]) (rest := []) ⟨hx, hb, hml, hown, htg⟩ (w_tenantOf l dg ck ka ad ra S9 (phX X c9) (phQ Q X S c9) S0 0 b k141 _ hκ hR  (by omega) hst) (vx_cwSW 2 htg (gwSW wq_533 wq_534 wq_0 wqL_tenantOf) rfl rfl rfl (by decide +kernel) ⟨Nat.le_of_ble_eq_true rfl, Nat.le_of_ble_eq_true rfl⟩) (wrK_preS hK hPm hDm hC hS hA) rfl rfl hl.1 rfl (lv_room (Nat.le_of_ble_eq_true rfl)) dL_law_329 ⟨by show _ ≤ 747773; omega, by show _ ≤ 6848010; omega⟩) (fun r329 b329 H locs hw329 hP hD hS => ?_)
                          have hP : va_P dg vwCl (brkU ck ka ad ra b329 ++ lngC ck oa D) H := hP
                          have hD : va_D A (brkU ck ka ad ra b329 ++ lngC ck oa D) := hD
                          obtain ⟨rfl, hR⟩ := hw329
                          refine x_is (show (vTen S9 k141) = k104 by omega) ?_
                          refine lv_iload hx hb dL_law_332 (lv_at hl 9 rfl) ?_
                          refine lv_icmp_ne (tgt := 363) hx hb dL_law_334 (by decide) (fun c334 => absurd rfl c334) (fun c334 => ?_)
                          refine lv_aload_n hx hb dL_law_337 rfl (lv_at hl 2 rfl) ?_
                          refine lv_iload hx hb dL_law_338 (lv_at hl 9 rfl) ?_
                          refine x_calliUB (wf := fun b340 : BU => brkU ck ka ad ra b340 ++ lngC ck oa D) (M := brkU ck ka ad ra b329) (Mf := fun b340 => brkU ck ka ad ra b340) (N := lngC ck oa D) (List.Perm.refl _) (fun b340 => List.Perm.refl _) hP hD hS hA (fun hPm hDm => vx_runSW (As := [.ref ((ad 7) 0), .int (zI k104)]) (rest := []) ⟨hx, hb, hml, hown, htg⟩ (w_benchOf l dg ck ka ad ra S9 (phX X c9) (phQ Q X S c9) S0 0 b329 k104 _ hκ hR  (by omega) hst) (vx_cwSW 2 htg (gwSW wq_468 wq_469 wq_0 wqL_benchOf) rfl rfl rfl (by decide +kernel) ⟨Nat.le_of_ble_eq_true rfl, Nat.le_of_ble_eq_true rfl⟩) (wrK_preS hK hPm hDm hC hS hA) rfl rfl hl.1 rfl (lv_room (Nat.le_of_ble_eq_true rfl)) dL_law_340 ⟨by show _ ≤ 747773; omega, by show _ ≤ 6848010; omega⟩) (fun r340 b340 H locs hw340 hP hD hS => ?_)
                          have hP : va_P dg vwCl (brkU ck ka ad ra b340 ++ lngC ck oa D) H := hP
                          have hD : va_D A (brkU ck ka ad ra b340 ++ lngC ck oa D) := hD
                          obtain ⟨rfl, hR⟩ := hw340
                          refine x_is (show (vBof S9 k104) = k141 by omega) ?_
                          refine lv_iload hx hb dL_law_343 (lv_at hl 10 rfl) ?_
                          refine lv_icmp_ne (tgt := 363) hx hb dL_law_345 (by decide) (fun c345 => absurd rfl c345) (fun c345 => ?_)
                          refine lv_aload_n hx hb dL_law_348 rfl (lv_at hl 2 rfl) ?_
                          refine lv_iload hx hb dL_law_349 (lv_at hl 10 rfl) ?_
                          refine x_calliUB (wf := fun b351 : BU => brkU ck ka ad ra b351 ++ lngC ck oa D) (M := brkU ck ka ad ra b340) (Mf := fun b351 => brkU ck ka ad ra b351) (N := lngC ck oa D) (List.Perm.refl _) (fun b351 => List.Perm.refl _) hP hD hS hA (fun hPm hDm => vx_runSW (As := [.ref ((ad 7) 0), .int (zI k141)]) (rest := []) ⟨hx, hb, hml, hown, htg⟩ (w_monthsLeft l dg ck ka ad ra S9 (phX X c9) (phQ Q X S c9) S0 0 b340 k141 _ hκ hR  (by omega) hst) (vx_cwSW 2 htg (gwSW wq_544 wq_545 wq_0 wqL_monthsLeft) rfl rfl rfl (by decide +kernel) ⟨Nat.le_of_ble_eq_true rfl, Nat.le_of_ble_eq_true rfl⟩) (wrK_preS hK hPm hDm hC hS hA) rfl rfl hl.1 rfl (lv_room (Nat.le_of_ble_eq_true rfl)) dL_law_351 ⟨by show _ ≤ 747773; omega, by show _ ≤ 6848010; omega⟩) (fun r351 b351 H locs hw351 hP hD hS => ?_)
                          have hP : va_P dg vwCl (brkU ck ka ad ra b351 ++ lngC ck oa D) H := hP
                          have hD : va_D A (brkU ck ka ad ra b351 ++ lngC ck oa D) := hD
                          obtain ⟨rfl, hR⟩ := hw351
                          refine x_is (show (vLeft S9 k141) = k153 by omega) ?_
                          refine lv_iload hx hb dL_law_354 (lv_at hl 11 rfl) ?_
                          refine lv_icmp_ne (tgt := 363) hx hb dL_law_356 (by decide) (fun c356 => absurd rfl c356) (fun c356 => ?_)
                          exact W.widen (k := 610 + 2100 * (i).toNat) (n := 6900 + 12600 * (i).toNat) (by omega) (by omega) (mid_359 (b351) (show RO S9 (phX X c9) (phQ Q X S c9) S0 0 b351 from hR) ls H locs (lv_sub hl [1, 2, 3, 4, 5, 6, 7, 8, 9, 10, 11, 12, 13, 14, 15, 16, 17, 18, 19, 20, 0] rfl) hP hD hS)
                        · have hLs := lease_l hV (t := k104) (b := k141) (m := k153) ⟨by omega, by omega⟩
                          have he3 := hle (by omega)
                          rw [← he3.1, ← he3.2.2, ← e_v166, ← e_v210] at hLs
                          have hL2 := hLs.1
                          have hL3 := hLs.2
                          refine lv_iload hx hb dL_law_288 (lv_at hl 19 rfl) ?_
                          refine x_bipush hx hb dL_law_290 (by decide) ?_
                          refine x_icmp_le (tgt := 299) hx hb dL_law_292 (by decide) (by omega) (by omega) (fun c292 => ?_) (fun c292 => False.elim (by omega))
                          refine x_iconst hx hb dL_law_299 ?_
                          refine lv_iload hx hb dL_law_300 (lv_at hl 12 rfl) ?_
                          refine x_iconst hx hb dL_law_302 ?_
                          refine x_icmp_ne (tgt := 310) hx hb dL_law_303 (by decide) (by omega) (by omega) (fun c303 => ?_) (fun c303 => False.elim (by omega))
                          refine x_iconst hx hb dL_law_310 ?_
                          refine x_icmp_ne (tgt := 363) hx hb dL_law_311 (by decide) (by omega) (by omega) (fun c311 => absurd c311 (by decide)) (fun c311 => ?_)
                          refine lv_iload hx hb dL_law_314 (lv_at hl 19 rfl) ?_
                          refine x_if_lt (tgt := 359) hx hb dL_law_316 (by decide) (by omega) (fun c316 => ?_) (fun c316 => False.elim (by omega))
                          exact W.widen (k := 610 + 2100 * (i).toNat) (n := 6900 + 12600 * (i).toNat) (by omega) (by omega) (mid_359 (b) (show RO S9 (phX X c9) (phQ Q X S c9) S0 0 b from hR) ls H locs (lv_sub hl [1, 2, 3, 4, 5, 6, 7, 8, 9, 10, 11, 12, 13, 14, 15, 16, 17, 18, 19, 20, 0] rfl) hP hD hS)
                · obtain ⟨he1, he2, he3⟩ := hel (by omega)
                  have hT : isTerm k153 := ansK_el (by rw [← he1]; exact hg9)
                  have hpl := pass_l hV hT
                  rw [← he1, ← he3] at hpl
                  have hpl2 := @pass_left _ _ hV k153 k141 hT
                  have hpd2 := @pass_def _ _ hV k153 k141 hT
                  rw [← he3] at hpl2 hpd2
                  have hlt := vLet_r S9 k141
                  refine lv_iload hx hb dL_law_278 (lv_at hl 20 rfl) ?_
                  refine x_midN (ι := BU) (nL := 23) (D := dg) (cl := vwCl) (A := A) (H0 := s.heap) (fun v => RO S9 (phX X c9) (phQ Q X S c9) S0 0 v) (fun v => [(0, .ref (ka 4)), (1, .ref ((ad 7) 0)), (2, .ref oa), (3, .int (zI made)), (4, .int (zI k)), (5, .int (zI i)), (6, .long (sumF S)), (8, .int (zI kd)), (9, .int (zI k104)), (10, .int (zI k141)), (11, .int (zI k153)), (12, .int (zI v166)), (13, .int (zI v174)), (14, .int (zI v180)), (15, .int (zI v186)), (16, .int (zI v194)), (17, .int (zI v202)), (18, .int (zI v210)), (19, .int (zI v9)), (20, .int (zI fl)), (21, .int (zI fp))]) (fun v => []) (fun v => brkU ck ka ad ra v ++ lngC ck oa D) 359 (610 + 2100 * (i).toNat) (6900 + 12600 * (i).toNat) ?_ (fun mid_359 => ?_)
                  · intro v hv ls H locs hl hP hD hS
                    obtain ⟨b, rfl⟩ : ∃ z9 : BU, z9 = v := ⟨_, rfl⟩
                    have hl : lv_has ls 23 [(0, .ref (ka 4)), (1, .ref ((ad 7) 0)), (2, .ref oa), (3, .int (zI made)), (4, .int (zI k)), (5, .int (zI i)), (6, .long (sumF S)), (8, .int (zI kd)), (9, .int (zI k104)), (10, .int (zI k141)), (11, .int (zI k153)), (12, .int (zI v166)), (13, .int (zI v174)), (14, .int (zI v180)), (15, .int (zI v186)), (16, .int (zI v194)), (17, .int (zI v202)), (18, .int (zI v210)), (19, .int (zI v9)), (20, .int (zI fl)), (21, .int (zI fp))] := hl
                    have hv : RO S9 (phX X c9) (phQ Q X S c9) S0 0 b := hv
                    have hP : va_P dg vwCl (brkU ck ka ad ra b ++ lngC ck oa D) H := hP
                    have hD : va_D A (brkU ck ka ad ra b ++ lngC ck oa D) := hD
                    have hR := hv
                    refine W.as (k' := 610 + 2100 * (i).toNat) (n' := 6900 + 12600 * (i).toNat) rfl rfl ?_
                    refine x_iconst hx hb dL_law_359 ?_
                    refine lv_goto (tgt := 364) hx hb dL_law_360 (by decide) ?_
                    refine lv_istore (lv' := [(22, .int (zI 1)), (0, .ref (ka 4)), (1, .ref ((ad 7) 0)), (2, .ref oa), (3, .int (zI made)), (4, .int (zI k)), (5, .int (zI i)), (6, .long (sumF S)), (8, .int (zI kd)), (9, .int (zI k104)), (10, .int (zI k141)), (11, .int (zI k153)), (12, .int (zI v166)), (13, .int (zI v174)), (14, .int (zI v180)), (15, .int (zI v186)), (16, .int (zI v194)), (17, .int (zI v202)), (18, .int (zI v210)), (19, .int (zI v9)), (20, .int (zI fl)), (21, .int (zI fp))]) hx hb dL_law_364 hl (by decide) rfl (fun ls hl => ?_)
                    refine x_midN (ι := BU) (nL := 23) (D := dg) (cl := vwCl) (A := A) (H0 := s.heap) (fun v => RO S9 (phX X c9) (phQ Q X S c9) S0 0 v) (fun v => [(0, .ref (ka 4)), (1, .ref ((ad 7) 0)), (2, .ref oa), (3, .int (zI made)), (4, .int (zI k)), (5, .int (zI i)), (6, .long (sumF S)), (8, .int (zI kd)), (9, .int (zI k104)), (10, .int (zI k141)), (11, .int (zI k153)), (12, .int (zI v166)), (13, .int (zI v174)), (14, .int (zI v180)), (15, .int (zI v186)), (16, .int (zI v194)), (17, .int (zI v202)), (18, .int (zI v210)), (19, .int (zI v9)), (20, .int (zI fl)), (21, .int (zI fp))]) (fun v => [.int (zI 1)]) (fun v => brkU ck ka ad ra v ++ lngC ck oa D) 397 (620 + 2100 * (i).toNat) (7000 + 12600 * (i).toNat) ?_ (fun mid_397 => ?_)
                    · intro v hv ls H locs hl hP hD hS
                      obtain ⟨b, rfl⟩ : ∃ z9 : BU, z9 = v := ⟨_, rfl⟩
                      have hl : lv_has ls 23 [(0, .ref (ka 4)), (1, .ref ((ad 7) 0)), (2, .ref oa), (3, .int (zI made)), (4, .int (zI k)), (5, .int (zI i)), (6, .long (sumF S)), (8, .int (zI kd)), (9, .int (zI k104)), (10, .int (zI k141)), (11, .int (zI k153)), (12, .int (zI v166)), (13, .int (zI v174)), (14, .int (zI v180)), (15, .int (zI v186)), (16, .int (zI v194)), (17, .int (zI v202)), (18, .int (zI v210)), (19, .int (zI v9)), (20, .int (zI fl)), (21, .int (zI fp))] := hl
                      have hv : RO S9 (phX X c9) (phQ Q X S c9) S0 0 b := hv
                      have hP : va_P dg vwCl (brkU ck ka ad ra b ++ lngC ck oa D) H := hP
                      have hD : va_D A (brkU ck ka ad ra b ++ lngC ck oa D) := hD
                      have hR := hv
                      refine W.as (k' := 620 + 2100 * (i).toNat) (n' := 7000 + 12600 * (i).toNat) rfl rfl ?_
                      refine x_iconst hx hb dL_law_397 ?_
                      refine lv_goto (tgt := 402) hx hb dL_law_398 (by decide) ?_
                      refine lv_iand hx hb dL_law_402 ?_
                      refine W.eq (g2 := F0 m 403 ls [.int (zI 1)]) rfl ?_
                      refine lv_istore (lv' := [(22, .int (zI 1)), (0, .ref (ka 4)), (1, .ref ((ad 7) 0)), (2, .ref oa), (3, .int (zI made)), (4, .int (zI k)), (5, .int (zI i)), (6, .long (sumF S)), (8, .int (zI kd)), (9, .int (zI k104)), (10, .int (zI k141)), (11, .int (zI k153)), (12, .int (zI v166)), (13, .int (zI v174)), (14, .int (zI v180)), (15, .int (zI v186)), (16, .int (zI v194)), (17, .int (zI v202)), (18, .int (zI v210)), (19, .int (zI v9)), (20, .int (zI fl)), (21, .int (zI fp))]) hx hb dL_law_403 hl (by decide) rfl (fun ls hl => ?_)
                      refine x_midN (ι := BU) (nL := 23) (D := dg) (cl := vwCl) (A := A) (H0 := s.heap) (fun v => RO S9 (phX X c9) (phQ Q X S c9) S0 0 v) (fun v => [(0, .ref (ka 4)), (1, .ref ((ad 7) 0)), (2, .ref oa), (3, .int (zI made)), (4, .int (zI k)), (5, .int (zI i)), (6, .long (sumF S)), (8, .int (zI kd)), (9, .int (zI k104)), (10, .int (zI k141)), (11, .int (zI k153)), (12, .int (zI v166)), (13, .int (zI v174)), (14, .int (zI v180)), (15, .int (zI v186)), (16, .int (zI v194)), (17, .int (zI v202)), (18, .int (zI v210)), (19, .int (zI v9)), (20, .int (zI fl)), (21, .int (zI fp))]) (fun v => [.int (zI 1)]) (fun v => brkU ck ka ad ra v ++ lngC ck oa D) 440 (630 + 2100 * (i).toNat) (7100 + 12600 * (i).toNat) ?_ (fun mid_440 => ?_)
                      · intro v hv ls H locs hl hP hD hS
                        obtain ⟨b, rfl⟩ : ∃ z9 : BU, z9 = v := ⟨_, rfl⟩
                        have hl : lv_has ls 23 [(0, .ref (ka 4)), (1, .ref ((ad 7) 0)), (2, .ref oa), (3, .int (zI made)), (4, .int (zI k)), (5, .int (zI i)), (6, .long (sumF S)), (8, .int (zI kd)), (9, .int (zI k104)), (10, .int (zI k141)), (11, .int (zI k153)), (12, .int (zI v166)), (13, .int (zI v174)), (14, .int (zI v180)), (15, .int (zI v186)), (16, .int (zI v194)), (17, .int (zI v202)), (18, .int (zI v210)), (19, .int (zI v9)), (20, .int (zI fl)), (21, .int (zI fp))] := hl
                        have hv : RO S9 (phX X c9) (phQ Q X S c9) S0 0 b := hv
                        have hP : va_P dg vwCl (brkU ck ka ad ra b ++ lngC ck oa D) H := hP
                        have hD : va_D A (brkU ck ka ad ra b ++ lngC ck oa D) := hD
                        have hR := hv
                        refine W.as (k' := 630 + 2100 * (i).toNat) (n' := 7100 + 12600 * (i).toNat) rfl rfl ?_
                        refine x_iconst hx hb dL_law_440 ?_
                        refine lv_goto (tgt := 445) hx hb dL_law_441 (by decide) ?_
                        refine lv_iand hx hb dL_law_445 ?_
                        refine W.eq (g2 := F0 m 446 ls [.int (zI 1)]) rfl ?_
                        refine lv_istore (lv' := [(22, .int (zI 1)), (0, .ref (ka 4)), (1, .ref ((ad 7) 0)), (2, .ref oa), (3, .int (zI made)), (4, .int (zI k)), (5, .int (zI i)), (6, .long (sumF S)), (8, .int (zI kd)), (9, .int (zI k104)), (10, .int (zI k141)), (11, .int (zI k153)), (12, .int (zI v166)), (13, .int (zI v174)), (14, .int (zI v180)), (15, .int (zI v186)), (16, .int (zI v194)), (17, .int (zI v202)), (18, .int (zI v210)), (19, .int (zI v9)), (20, .int (zI fl)), (21, .int (zI fp))]) hx hb dL_law_446 hl (by decide) rfl (fun ls hl => ?_)
                        refine x_midN (ι := BU) (nL := 23) (D := dg) (cl := vwCl) (A := A) (H0 := s.heap) (fun v => RO S9 (phX X c9) (phQ Q X S c9) S0 0 v) (fun v => [(0, .ref (ka 4)), (1, .ref ((ad 7) 0)), (2, .ref oa), (3, .int (zI made)), (4, .int (zI k)), (5, .int (zI i)), (6, .long (sumF S)), (8, .int (zI kd)), (9, .int (zI k104)), (10, .int (zI k141)), (11, .int (zI k153)), (12, .int (zI v166)), (13, .int (zI v174)), (14, .int (zI v180)), (15, .int (zI v186)), (16, .int (zI v194)), (17, .int (zI v202)), (18, .int (zI v210)), (19, .int (zI v9)), (20, .int (zI fl)), (21, .int (zI fp))]) (fun v => [.int (zI 1)]) (fun v => brkU ck ka ad ra v ++ lngC ck oa D) 512 (640 + 2100 * (i).toNat) (7200 + 12600 * (i).toNat) ?_ (fun mid_512 => ?_)
                        · intro v hv ls H locs hl hP hD hS
                          obtain ⟨b, rfl⟩ : ∃ z9 : BU, z9 = v := ⟨_, rfl⟩
                          have hl : lv_has ls 23 [(0, .ref (ka 4)), (1, .ref ((ad 7) 0)), (2, .ref oa), (3, .int (zI made)), (4, .int (zI k)), (5, .int (zI i)), (6, .long (sumF S)), (8, .int (zI kd)), (9, .int (zI k104)), (10, .int (zI k141)), (11, .int (zI k153)), (12, .int (zI v166)), (13, .int (zI v174)), (14, .int (zI v180)), (15, .int (zI v186)), (16, .int (zI v194)), (17, .int (zI v202)), (18, .int (zI v210)), (19, .int (zI v9)), (20, .int (zI fl)), (21, .int (zI fp))] := hl
                          have hv : RO S9 (phX X c9) (phQ Q X S c9) S0 0 b := hv
                          have hP : va_P dg vwCl (brkU ck ka ad ra b ++ lngC ck oa D) H := hP
                          have hD : va_D A (brkU ck ka ad ra b ++ lngC ck oa D) := hD
                          have hR := hv
                          refine W.as (k' := 640 + 2100 * (i).toNat) (n' := 7200 + 12600 * (i).toNat) rfl rfl ?_
                          refine x_iconst hx hb dL_law_512 ?_
                          refine lv_goto (tgt := 517) hx hb dL_law_513 (by decide) ?_
                          refine lv_iand hx hb dL_law_517 ?_
                          refine W.eq (g2 := F0 m 518 ls [.int (zI 1)]) rfl ?_
                          refine lv_istore (lv' := [(22, .int (zI 1)), (0, .ref (ka 4)), (1, .ref ((ad 7) 0)), (2, .ref oa), (3, .int (zI made)), (4, .int (zI k)), (5, .int (zI i)), (6, .long (sumF S)), (8, .int (zI kd)), (9, .int (zI k104)), (10, .int (zI k141)), (11, .int (zI k153)), (12, .int (zI v166)), (13, .int (zI v174)), (14, .int (zI v180)), (15, .int (zI v186)), (16, .int (zI v194)), (17, .int (zI v202)), (18, .int (zI v210)), (19, .int (zI v9)), (20, .int (zI fl)), (21, .int (zI fp))]) hx hb dL_law_518 hl (by decide) rfl (fun ls hl => ?_)
                          exact W.widen (k := 650 + 2100 * (i).toNat) (n := 7300 + 12600 * (i).toNat) (by omega) (by omega) (mid_520 (b) (show RO S9 (phX X c9) (phQ Q X S c9) S0 0 b from hR) ls H locs (lv_sub hl [1, 2, 3, 4, 5, 6, 7, 8, 9, 10, 11, 12, 13, 14, 15, 16, 17, 18, 19, 20, 21, 0] rfl) hP hD hS)
                        · refine lv_iload hx hb dL_law_448 (lv_at hl 0 rfl) ?_
                          refine lv_iload hx hb dL_law_450 (lv_at hl 21 rfl) ?_
                          refine x_if_eq (tgt := 512) hx hb dL_law_452 (by decide) (by omega) (fun c452 => False.elim (by omega)) (fun c452 => ?_)
                          refine lv_iload hx hb dL_law_455 (lv_at hl 16 rfl) ?_
                          refine x_iconst hx hb dL_law_457 ?_
                          refine x_icmp_lt (tgt := 512) hx hb dL_law_458 (by decide) (by omega) (by omega) (fun c458 => ?_) (fun c458 => ?_)
                          · exact W.widen (k := 640 + 2100 * (i).toNat) (n := 7200 + 12600 * (i).toNat) (by omega) (by omega) (mid_512 (b) (show RO S9 (phX X c9) (phQ Q X S c9) S0 0 b from hR) ls H locs (lv_sub hl [1, 2, 3, 4, 5, 6, 7, 8, 9, 10, 11, 12, 13, 14, 15, 16, 17, 18, 19, 20, 21] rfl) hP hD hS)
                          · rcases Classical.em (k153 < v194) with hm | hm
                            · refine lv_iload hx hb dL_law_461 (lv_at hl 11 rfl) ?_
                              refine lv_iload hx hb dL_law_463 (lv_at hl 16 rfl) ?_
                              refine x_icmp_ge (tgt := 472) hx hb dL_law_465 (by decide) (by omega) (by omega) (fun c465 => False.elim (by omega)) (fun c465 => ?_)
                              refine x_iconst hx hb dL_law_468 ?_
                              refine lv_goto (tgt := 473) hx hb dL_law_469 (by decide) ?_
                              refine lv_aload_n hx hb dL_law_473 rfl (lv_at hl 2 rfl) ?_
                              refine lv_iload hx hb dL_law_474 (lv_at hl 10 rfl) ?_
                              refine x_calliUB (wf := fun b476 : BU => brkU ck ka ad ra b476 ++ lngC ck oa D) (M := brkU ck ka ad ra b) (Mf := fun b476 => brkU ck ka ad ra b476) (N := lngC ck oa D) (List.Perm.refl _) (fun b476 => List.Perm.refl _) hP hD hS hA (fun hPm hDm => vx_runSW (As := [.ref ((ad 7) 0), .int (zI k141)]) (rest := [.int (zI 1), .int (zI 1)]) ⟨hx, hb, hml, hown, htg⟩ (w_isLet l dg ck ka ad ra S9 (phX X c9) (phQ Q X S c9) S0 0 b k141 _ hκ hR  (by omega) hst) (vx_cwSW 2 htg (gwSW wq_525 wq_526 wq_0 wqL_isLet) rfl rfl rfl (by decide +kernel) ⟨Nat.le_of_ble_eq_true rfl, Nat.le_of_ble_eq_true rfl⟩) (wrK_preS hK hPm hDm hC hS hA) rfl rfl hl.1 rfl (lv_room (Nat.le_of_ble_eq_true rfl)) dL_law_476 ⟨by show _ ≤ 747773; omega, by show _ ≤ 6848010; omega⟩) (fun r476 b476 H locs hw476 hP hD hS => ?_)
                              have hP : va_P dg vwCl (brkU ck ka ad ra b476 ++ lngC ck oa D) H := hP
                              have hD : va_D A (brkU ck ka ad ra b476 ++ lngC ck oa D) := hD
                              obtain ⟨rfl, hR⟩ := hw476
                              refine x_iconst hx hb dL_law_479 ?_
                              refine x_icmp_ne (tgt := 487) hx hb dL_law_480 (by decide) (by omega) (by omega) (fun c480 => False.elim (by have h9 := (hpd2 (by omega)).1; omega)) (fun c480 => ?_)
                              refine x_iconst hx hb dL_law_483 ?_
                              refine lv_goto (tgt := 488) hx hb dL_law_484 (by decide) ?_
                              refine x_icmp_ne (tgt := 516) hx hb dL_law_488 (by decide) (by omega) (by omega) (fun c488 => absurd c488 (by decide)) (fun c488 => ?_)
                              refine lv_iload hx hb dL_law_491 (lv_at hl 11 rfl) ?_
                              refine lv_iload hx hb dL_law_493 (lv_at hl 16 rfl) ?_
                              refine x_icmp_ge (tgt := 512) hx hb dL_law_495 (by decide) (by omega) (by omega) (fun c495 => False.elim (by omega)) (fun c495 => ?_)
                              refine lv_aload_n hx hb dL_law_498 rfl (lv_at hl 2 rfl) ?_
                              refine lv_iload hx hb dL_law_499 (lv_at hl 10 rfl) ?_
                              refine x_calliUB (wf := fun b501 : BU => brkU ck ka ad ra b501 ++ lngC ck oa D) (M := brkU ck ka ad ra b476) (Mf := fun b501 => brkU ck ka ad ra b501) (N := lngC ck oa D) (List.Perm.refl _) (fun b501 => List.Perm.refl _) hP hD hS hA (fun hPm hDm => vx_runSW (As := [.ref ((ad 7) 0), .int (zI k141)]) (rest := [.int (zI 1)]) ⟨hx, hb, hml, hown, htg⟩ (w_defaultMonth l dg ck ka ad ra S9 (phX X c9) (phQ Q X S c9) S0 0 b476 k141 _ hκ hR  (by omega) hst) (vx_cwSW 2 htg (gwSW wq_551 wq_552 wq_0 wqL_defaultMonth) rfl rfl rfl (by decide +kernel) ⟨Nat.le_of_ble_eq_true rfl, Nat.le_of_ble_eq_true rfl⟩) (wrK_preS hK hPm hDm hC hS hA) rfl rfl hl.1 rfl (lv_room (Nat.le_of_ble_eq_true rfl)) dL_law_501 ⟨by show _ ≤ 747773; omega, by show _ ≤ 6848010; omega⟩) (fun r501 b501 H locs hw501 hP hD hS => ?_)
                              have hP : va_P dg vwCl (brkU ck ka ad ra b501 ++ lngC ck oa D) H := hP
                              have hD : va_D A (brkU ck ka ad ra b501 ++ lngC ck oa D) := hD
                              obtain ⟨rfl, hR⟩ := hw501
                              refine x_is (show (vDefM S9 k141) = (v194 - k153) from by rw [e_v194]; exact (hpd2 (by omega)).2 (by omega)) ?_
                              refine lv_iload hx hb dL_law_504 (lv_at hl 16 rfl) ?_
                              refine lv_iload hx hb dL_law_506 (lv_at hl 11 rfl) ?_
                              refine x_isub hx hb dL_law_508 ?_
                              refine lv_icmp_ne (tgt := 516) hx hb dL_law_509 (by decide) (fun c509 => absurd rfl c509) (fun c509 => ?_)
                              exact W.widen (k := 640 + 2100 * (i).toNat) (n := 7200 + 12600 * (i).toNat) (by omega) (by omega) (mid_512 (b501) (show RO S9 (phX X c9) (phQ Q X S c9) S0 0 b501 from hR) ls H locs (lv_sub hl [1, 2, 3, 4, 5, 6, 7, 8, 9, 10, 11, 12, 13, 14, 15, 16, 17, 18, 19, 20, 21] rfl) hP hD hS)
                            · refine lv_iload hx hb dL_law_461 (lv_at hl 11 rfl) ?_
                              refine lv_iload hx hb dL_law_463 (lv_at hl 16 rfl) ?_
                              refine x_icmp_ge (tgt := 472) hx hb dL_law_465 (by decide) (by omega) (by omega) (fun c465 => ?_) (fun c465 => False.elim (by omega))
                              refine x_iconst hx hb dL_law_472 ?_
                              refine lv_aload_n hx hb dL_law_473 rfl (lv_at hl 2 rfl) ?_
                              refine lv_iload hx hb dL_law_474 (lv_at hl 10 rfl) ?_
                              refine x_calliUB (wf := fun b476 : BU => brkU ck ka ad ra b476 ++ lngC ck oa D) (M := brkU ck ka ad ra b) (Mf := fun b476 => brkU ck ka ad ra b476) (N := lngC ck oa D) (List.Perm.refl _) (fun b476 => List.Perm.refl _) hP hD hS hA (fun hPm hDm => vx_runSW (As := [.ref ((ad 7) 0), .int (zI k141)]) (rest := [.int (zI 0), .int (zI 1)]) ⟨hx, hb, hml, hown, htg⟩ (w_isLet l dg ck ka ad ra S9 (phX X c9) (phQ Q X S c9) S0 0 b k141 _ hκ hR  (by omega) hst) (vx_cwSW 2 htg (gwSW wq_525 wq_526 wq_0 wqL_isLet) rfl rfl rfl (by decide +kernel) ⟨Nat.le_of_ble_eq_true rfl, Nat.le_of_ble_eq_true rfl⟩) (wrK_preS hK hPm hDm hC hS hA) rfl rfl hl.1 rfl (lv_room (Nat.le_of_ble_eq_true rfl)) dL_law_476 ⟨by show _ ≤ 747773; omega, by show _ ≤ 6848010; omega⟩) (fun r476 b476 H locs hw476 hP hD hS => ?_)
                              have hP : va_P dg vwCl (brkU ck ka ad ra b476 ++ lngC ck oa D) H := hP
                              have hD : va_D A (brkU ck ka ad ra b476 ++ lngC ck oa D) := hD
                              obtain ⟨rfl, hR⟩ := hw476
                              refine x_iconst hx hb dL_law_479 ?_
                              refine x_icmp_ne (tgt := 487) hx hb dL_law_480 (by decide) (by omega) (by omega) (fun c480 => ?_) (fun c480 => False.elim (by have h9 := (hpd2 (by omega)).1; omega))
                              refine x_iconst hx hb dL_law_487 ?_
                              refine x_icmp_ne (tgt := 516) hx hb dL_law_488 (by decide) (by omega) (by omega) (fun c488 => absurd c488 (by decide)) (fun c488 => ?_)
                              refine lv_iload hx hb dL_law_491 (lv_at hl 11 rfl) ?_
                              refine lv_iload hx hb dL_law_493 (lv_at hl 16 rfl) ?_
                              refine x_icmp_ge (tgt := 512) hx hb dL_law_495 (by decide) (by omega) (by omega) (fun c495 => ?_) (fun c495 => False.elim (by omega))
                              exact W.widen (k := 640 + 2100 * (i).toNat) (n := 7200 + 12600 * (i).toNat) (by omega) (by omega) (mid_512 (b476) (show RO S9 (phX X c9) (phQ Q X S c9) S0 0 b476 from hR) ls H locs (lv_sub hl [1, 2, 3, 4, 5, 6, 7, 8, 9, 10, 11, 12, 13, 14, 15, 16, 17, 18, 19, 20, 21] rfl) hP hD hS)
                      · refine lv_iload hx hb dL_law_405 (lv_at hl 0 rfl) ?_
                        refine lv_iload hx hb dL_law_407 (lv_at hl 21 rfl) ?_
                        refine x_if_eq (tgt := 440) hx hb dL_law_409 (by decide) (by omega) (fun c409 => False.elim (by omega)) (fun c409 => ?_)
                        refine lv_iload hx hb dL_law_412 (lv_at hl 17 rfl) ?_
                        refine x_if_lt (tgt := 440) hx hb dL_law_414 (by decide) (by omega) (fun c414 => ?_) (fun c414 => ?_)
                        · exact W.widen (k := 630 + 2100 * (i).toNat) (n := 7100 + 12600 * (i).toNat) (by omega) (by omega) (mid_440 (b) (show RO S9 (phX X c9) (phQ Q X S c9) S0 0 b from hR) ls H locs (lv_sub hl [1, 2, 3, 4, 5, 6, 7, 8, 9, 10, 11, 12, 13, 14, 15, 16, 17, 18, 19, 20, 21] rfl) hP hD hS)
                        · refine lv_aload_n hx hb dL_law_417 rfl (lv_at hl 2 rfl) ?_
                          refine lv_iload hx hb dL_law_418 (lv_at hl 10 rfl) ?_
                          refine x_calliUB (wf := fun b420 : BU => brkU ck ka ad ra b420 ++ lngC ck oa D) (M := brkU ck ka ad ra b) (Mf := fun b420 => brkU ck ka ad ra b420) (N := lngC ck oa D) (List.Perm.refl _) (fun b420 => List.Perm.refl _) hP hD hS hA (fun hPm hDm => vx_runSW (As := [.ref ((ad 7) 0), .int (zI k141)]) (rest := [.int (zI 1)]) ⟨hx, hb, hml, hown, htg⟩ (w_isLet l dg ck ka ad ra S9 (phX X c9) (phQ Q X S c9) S0 0 b k141 _ hκ hR  (by omega) hst) (vx_cwSW 2 htg (gwSW wq_525 wq_526 wq_0 wqL_isLet) rfl rfl rfl (by decide +kernel) ⟨Nat.le_of_ble_eq_true rfl, Nat.le_of_ble_eq_true rfl⟩) (wrK_preS hK hPm hDm hC hS hA) rfl rfl hl.1 rfl (lv_room (Nat.le_of_ble_eq_true rfl)) dL_law_420 ⟨by show _ ≤ 747773; omega, by show _ ≤ 6848010; omega⟩) (fun r420 b420 H locs hw420 hP hD hS => ?_)
                          have hP : va_P dg vwCl (brkU ck ka ad ra b420 ++ lngC ck oa D) H := hP
                          have hD : va_D A (brkU ck ka ad ra b420 ++ lngC ck oa D) := hD
                          obtain ⟨rfl, hR⟩ := hw420
                          refine x_if_eq (tgt := 440) hx hb dL_law_423 (by decide) (by omega) (fun c423 => ?_) (fun c423 => ?_)
                          · exact W.widen (k := 630 + 2100 * (i).toNat) (n := 7100 + 12600 * (i).toNat) (by omega) (by omega) (mid_440 (b420) (show RO S9 (phX X c9) (phQ Q X S c9) S0 0 b420 from hR) ls H locs (lv_sub hl [1, 2, 3, 4, 5, 6, 7, 8, 9, 10, 11, 12, 13, 14, 15, 16, 17, 18, 19, 20, 21] rfl) hP hD hS)
                          · refine lv_aload_n hx hb dL_law_426 rfl (lv_at hl 2 rfl) ?_
                            refine lv_iload hx hb dL_law_427 (lv_at hl 10 rfl) ?_
                            refine x_calliUB (wf := fun b429 : BU => brkU ck ka ad ra b429 ++ lngC ck oa D) (M := brkU ck ka ad ra b420) (Mf := fun b429 => brkU ck ka ad ra b429) (N := lngC ck oa D) (List.Perm.refl _) (fun b429 => List.Perm.refl _) hP hD hS hA (fun hPm hDm => vx_runSW (As := [.ref ((ad 7) 0), .int (zI k141)]) (rest := [.int (zI 1)]) ⟨hx, hb, hml, hown, htg⟩ (w_monthsLeft l dg ck ka ad ra S9 (phX X c9) (phQ Q X S c9) S0 0 b420 k141 _ hκ hR  (by omega) hst) (vx_cwSW 2 htg (gwSW wq_544 wq_545 wq_0 wqL_monthsLeft) rfl rfl rfl (by decide +kernel) ⟨Nat.le_of_ble_eq_true rfl, Nat.le_of_ble_eq_true rfl⟩) (wrK_preS hK hPm hDm hC hS hA) rfl rfl hl.1 rfl (lv_room (Nat.le_of_ble_eq_true rfl)) dL_law_429 ⟨by show _ ≤ 747773; omega, by show _ ≤ 6848010; omega⟩) (fun r429 b429 H locs hw429 hP hD hS => ?_)
                            have hP : va_P dg vwCl (brkU ck ka ad ra b429 ++ lngC ck oa D) H := hP
                            have hD : va_D A (brkU ck ka ad ra b429 ++ lngC ck oa D) := hD
                            obtain ⟨rfl, hR⟩ := hw429
                            refine x_is (show (vLeft S9 k141) = (v202 - k153) from by rw [e_v202]; exact hpl2 (by omega) (by omega)) ?_
                            refine lv_iload hx hb dL_law_432 (lv_at hl 17 rfl) ?_
                            refine lv_iload hx hb dL_law_434 (lv_at hl 11 rfl) ?_
                            refine x_isub hx hb dL_law_436 ?_
                            refine lv_icmp_ne (tgt := 444) hx hb dL_law_437 (by decide) (fun c437 => absurd rfl c437) (fun c437 => ?_)
                            exact W.widen (k := 630 + 2100 * (i).toNat) (n := 7100 + 12600 * (i).toNat) (by omega) (by omega) (mid_440 (b429) (show RO S9 (phX X c9) (phQ Q X S c9) S0 0 b429 from hR) ls H locs (lv_sub hl [1, 2, 3, 4, 5, 6, 7, 8, 9, 10, 11, 12, 13, 14, 15, 16, 17, 18, 19, 20, 21] rfl) hP hD hS)
                    · refine lv_iload hx hb dL_law_366 (lv_at hl 0 rfl) ?_
                      refine lv_iload hx hb dL_law_368 (lv_at hl 21 rfl) ?_
                      refine x_if_eq (tgt := 397) hx hb dL_law_370 (by decide) (by omega) (fun c370 => False.elim (by omega)) (fun c370 => ?_)
                      refine lv_aload_n hx hb dL_law_373 rfl (lv_at hl 2 rfl) ?_
                      refine x_calliUB (wf := fun b374 : BU => brkU ck ka ad ra b374 ++ lngC ck oa D) (M := brkU ck ka ad ra b) (Mf := fun b374 => brkU ck ka ad ra b374) (N := lngC ck oa D) (List.Perm.refl _) (fun b374 => List.Perm.refl _) hP hD hS hA (fun hPm hDm => va_runV (As := []) (rest := [.int (zI 1)]) ⟨hx, hb, hml, hown, htg⟩ (g_brokerCoins l dg ck ka ad ra S9 (phX X c9) (phQ Q X S c9) S0 0 b _ hκ hR) (cwV 0 htg (gwV wq_327 wq_328 wq_329 wq_1 wq_330) rfl rfl rfl (by decide +kernel) ⟨Nat.le_of_ble_eq_true rfl, Nat.le_of_ble_eq_true rfl⟩) (wrK_preV hK hPm hDm hC hS hA 0 10 rfl rfl) rfl rfl hl.1 rfl (lv_room (Nat.le_of_ble_eq_true rfl)) dL_law_374 ⟨by show _ ≤ 747773; omega, by show _ ≤ 6848010; omega⟩) (fun r374 b374 H locs hw374 hP hD hS => ?_)
                      have hP : va_P dg vwCl (brkU ck ka ad ra b374 ++ lngC ck oa D) H := hP
                      have hD : va_D A (brkU ck ka ad ra b374 ++ lngC ck oa D) := hD
                      obtain ⟨rfl, hR⟩ := hw374
                      refine x_is (show (S9 0 5) = (v180 + v174) from by rw [e_v180, e_v174]; exact hpl.2.2.2.1) ?_
                      refine lv_iload hx hb dL_law_377 (lv_at hl 14 rfl) ?_
                      refine lv_iload hx hb dL_law_379 (lv_at hl 13 rfl) ?_
                      refine x_iadd hx hb dL_law_381 ?_
                      refine lv_icmp_ne (tgt := 401) hx hb dL_law_382 (by decide) (fun c382 => absurd rfl c382) (fun c382 => ?_)
                      refine lv_aload_n hx hb dL_law_385 rfl (lv_at hl 2 rfl) ?_
                      refine x_calliUB (wf := fun b386 : BU => brkU ck ka ad ra b386 ++ lngC ck oa D) (M := brkU ck ka ad ra b374) (Mf := fun b386 => brkU ck ka ad ra b386) (N := lngC ck oa D) (List.Perm.refl _) (fun b386 => List.Perm.refl _) hP hD hS hA (fun hPm hDm => va_runS (As := [.ref ((ad 7) 0)]) (rest := [.int (zI 1)]) ⟨hx, hb, hml, hown, htg⟩ (lf_endings l dg ck ka ad ra S9 (phX X c9) (phQ Q X S c9) S0 0 b374  _ hκ hR  hst) (cwS 1 htg (gwS wq_630 wq_631 wq_0 wq_632) rfl rfl rfl (by decide +kernel) ⟨Nat.le_of_ble_eq_true rfl, Nat.le_of_ble_eq_true rfl⟩) (wrK_preS hK hPm hDm hC hS hA) rfl rfl hl.1 rfl (lv_room (Nat.le_of_ble_eq_true rfl)) dL_law_386 ⟨by show _ ≤ 747773; omega, by show _ ≤ 6848010; omega⟩) (fun r386 b386 H locs hw386 hP hD hS => ?_)
                      have hP : va_P dg vwCl (brkU ck ka ad ra b386 ++ lngC ck oa D) H := hP
                      have hD : va_D A (brkU ck ka ad ra b386 ++ lngC ck oa D) := hD
                      obtain ⟨rfl, hR⟩ := hw386
                      refine x_is (show (endZ S9) = (v186 + v9) from by rw [e_v186]; have h9 := hpl.2.2.2.2.1; rw [← hpl.1] at h9; exact h9) ?_
                      refine lv_iload hx hb dL_law_389 (lv_at hl 15 rfl) ?_
                      refine lv_iload hx hb dL_law_391 (lv_at hl 19 rfl) ?_
                      refine x_iadd hx hb dL_law_393 ?_
                      refine lv_icmp_ne (tgt := 401) hx hb dL_law_394 (by decide) (fun c394 => absurd rfl c394) (fun c394 => ?_)
                      exact W.widen (k := 620 + 2100 * (i).toNat) (n := 7000 + 12600 * (i).toNat) (by omega) (by omega) (mid_397 (b386) (show RO S9 (phX X c9) (phQ Q X S c9) S0 0 b386 from hR) ls H locs (lv_sub hl [1, 2, 3, 4, 5, 6, 7, 8, 9, 10, 11, 12, 13, 14, 15, 16, 17, 18, 19, 20, 21] rfl) hP hD hS)
                  · refine x_if_eq (tgt := 359) hx hb dL_law_280 (by decide) (by omega) (fun c280 => ?_) (fun c280 => False.elim (by omega))
                    exact W.widen (k := 610 + 2100 * (i).toNat) (n := 6900 + 12600 * (i).toNat) (by omega) (by omega) (mid_359 (b) (show RO S9 (phX X c9) (phQ Q X S c9) S0 0 b from hR) ls H locs (lv_sub hl [1, 2, 3, 4, 5, 6, 7, 8, 9, 10, 11, 12, 13, 14, 15, 16, 17, 18, 19, 20, 0] rfl) hP hD hS)
            · refine lv_iload hx hb dL_law_250 (lv_at hl 8 rfl) ?_
              refine x_bipush hx hb dL_law_252 (by decide) ?_
              refine x_icmp_le (tgt := 275) hx hb dL_law_254 (by decide) (by omega) (by omega) (fun c254 => ?_) (fun c254 => ?_)
              · refine x_iconst hx hb dL_law_275 ?_
                exact W.widen (k := 600 + 2100 * (i).toNat) (n := 6800 + 12600 * (i).toNat) (by omega) (by omega) (mid_276 (b, 0) (show ((0 : Int) = 0 ∨ ((0 : Int) = 1 ∧ 14 ≤ kd ∧ kd ≤ 17 ∧ -70 < v9)) ∧ RO S9 (phX X c9) (phQ Q X S c9) S0 0 b from ⟨by omega, hR⟩) ls H locs (lv_sub hl [1, 2, 3, 4, 5, 6, 7, 8, 9, 10, 11, 12, 13, 14, 15, 16, 17, 18, 19, 0] rfl) hP hD hS)
              · refine lv_iload hx hb dL_law_257 (lv_at hl 8 rfl) ?_
                refine x_bipush hx hb dL_law_259 (by decide) ?_
                refine x_icmp_ge (tgt := 275) hx hb dL_law_261 (by decide) (by omega) (by omega) (fun c261 => ?_) (fun c261 => ?_)
                · refine x_iconst hx hb dL_law_275 ?_
                  exact W.widen (k := 600 + 2100 * (i).toNat) (n := 6800 + 12600 * (i).toNat) (by omega) (by omega) (mid_276 (b, 0) (show ((0 : Int) = 0 ∨ ((0 : Int) = 1 ∧ 14 ≤ kd ∧ kd ≤ 17 ∧ -70 < v9)) ∧ RO S9 (phX X c9) (phQ Q X S c9) S0 0 b from ⟨by omega, hR⟩) ls H locs (lv_sub hl [1, 2, 3, 4, 5, 6, 7, 8, 9, 10, 11, 12, 13, 14, 15, 16, 17, 18, 19, 0] rfl) hP hD hS)
                · refine lv_iload hx hb dL_law_264 (lv_at hl 19 rfl) ?_
                  refine x_bipush hx hb dL_law_266 (by decide) ?_
                  refine x_icmp_le (tgt := 275) hx hb dL_law_268 (by decide) (by omega) (by omega) (fun c268 => ?_) (fun c268 => ?_)
                  · refine x_iconst hx hb dL_law_275 ?_
                    exact W.widen (k := 600 + 2100 * (i).toNat) (n := 6800 + 12600 * (i).toNat) (by omega) (by omega) (mid_276 (b, 0) (show ((0 : Int) = 0 ∨ ((0 : Int) = 1 ∧ 14 ≤ kd ∧ kd ≤ 17 ∧ -70 < v9)) ∧ RO S9 (phX X c9) (phQ Q X S c9) S0 0 b from ⟨by omega, hR⟩) ls H locs (lv_sub hl [1, 2, 3, 4, 5, 6, 7, 8, 9, 10, 11, 12, 13, 14, 15, 16, 17, 18, 19, 0] rfl) hP hD hS)
                  · refine x_iconst hx hb dL_law_271 ?_
                    refine lv_goto (tgt := 276) hx hb dL_law_272 (by decide) ?_
                    exact W.widen (k := 600 + 2100 * (i).toNat) (n := 6800 + 12600 * (i).toNat) (by omega) (by omega) (mid_276 (b, 1) (show ((1 : Int) = 0 ∨ ((1 : Int) = 1 ∧ 14 ≤ kd ∧ kd ≤ 17 ∧ -70 < v9)) ∧ RO S9 (phX X c9) (phQ Q X S c9) S0 0 b from ⟨by omega, hR⟩) ls H locs (lv_sub hl [1, 2, 3, 4, 5, 6, 7, 8, 9, 10, 11, 12, 13, 14, 15, 16, 17, 18, 19, 0] rfl) hP hD hS)
          · refine lv_iload hx hb dL_law_229 (lv_at hl 17 rfl) ?_
            refine x_bipush hx hb dL_law_231 (by decide) ?_
            refine x_icmp_le (tgt := 247) hx hb dL_law_233 (by decide) (by omega) (by omega) (fun c233 => ?_) (fun c233 => ?_)
            · refine x_iconst hx hb dL_law_247 ?_
              exact W.widen (k := 600 + 2100 * (i).toNat) (n := 6800 + 12600 * (i).toNat) (by omega) (by omega) (mid_248 (b224, 0) (show ((0 : Int) = 0 ∨ ((0 : Int) = 1 ∧ 21 ≤ kd ∧ kd ≤ 29)) ∧ RO S9 (phX X c9) (phQ Q X S c9) S0 0 b224 from ⟨by omega, hR⟩) ls H locs (lv_sub hl [10, 11, 12, 13, 14, 15, 16, 17, 18, 9, 8, 7, 6, 5, 4, 3, 2, 1, 0] rfl) hP hD hS)
            · refine lv_iload hx hb dL_law_236 (lv_at hl 17 rfl) ?_
              refine x_bipush hx hb dL_law_238 (by decide) ?_
              refine x_icmp_ge (tgt := 247) hx hb dL_law_240 (by decide) (by omega) (by omega) (fun c240 => ?_) (fun c240 => ?_)
              · refine x_iconst hx hb dL_law_247 ?_
                exact W.widen (k := 600 + 2100 * (i).toNat) (n := 6800 + 12600 * (i).toNat) (by omega) (by omega) (mid_248 (b224, 0) (show ((0 : Int) = 0 ∨ ((0 : Int) = 1 ∧ 21 ≤ kd ∧ kd ≤ 29)) ∧ RO S9 (phX X c9) (phQ Q X S c9) S0 0 b224 from ⟨by omega, hR⟩) ls H locs (lv_sub hl [10, 11, 12, 13, 14, 15, 16, 17, 18, 9, 8, 7, 6, 5, 4, 3, 2, 1, 0] rfl) hP hD hS)
              · refine x_iconst hx hb dL_law_243 ?_
                refine lv_goto (tgt := 248) hx hb dL_law_244 (by decide) ?_
                exact W.widen (k := 600 + 2100 * (i).toNat) (n := 6800 + 12600 * (i).toNat) (by omega) (by omega) (mid_248 (b224, 1) (show ((1 : Int) = 0 ∨ ((1 : Int) = 1 ∧ 21 ≤ kd ∧ kd ≤ 29)) ∧ RO S9 (phX X c9) (phQ Q X S c9) S0 0 b224 from ⟨by omega, hR⟩) ls H locs (lv_sub hl [10, 11, 12, 13, 14, 15, 16, 17, 18, 9, 8, 7, 6, 5, 4, 3, 2, 1, 0] rfl) hP hD hS)
        · refine lv_iload hx hb dL_law_118 (lv_at hl 6 rfl) ?_
          refine x_bipush hx hb dL_law_120 (by decide) ?_
          refine x_irem hx hb dL_law_122 (by omega) (by omega) ?_
          refine x_bipush hx hb dL_law_123 (by decide) ?_
          refine x_icmp_eq (tgt := 135) hx hb dL_law_125 (by decide) (by omega) (by omega) (fun c125 => ?_) (fun c125 => ?_)
          · refine x_iconst hx hb dL_law_135 ?_
            refine lv_goto (tgt := 140) hx hb dL_law_136 (by decide) ?_
            exact W.widen (k := 486 + 2100 * (i).toNat) (n := 5936 + 12600 * (i).toNat) (by omega) (by omega) (mid_140 (b115, 1) (show ((0 ≤ (1 : Int) ∧ (1 : Int) ≤ 1) ∧ 1 ≤ S 0 0 + (1 : Int)) ∧ RO S X Q S0 0 b115 from ⟨by omega, hR⟩) ls H locs (lv_sub hl [1, 2, 3, 4, 5, 6, 7, 8, 0] rfl) hP hD hS)
          · refine lv_aload_n hx hb dL_law_128 rfl (lv_at hl 2 rfl) ?_
            refine x_calliUB (wf := fun b129 : BU => brkU ck ka ad ra b129 ++ lngC ck oa D) (M := brkU ck ka ad ra b115) (Mf := fun b129 => brkU ck ka ad ra b129) (N := lngC ck oa D) (List.Perm.refl _) (fun b129 => List.Perm.refl _) hP hD hS hA (fun hPm hDm => va_runV (As := []) (rest := [.int (zI (S 0 0)), .int (zI (k + 3)), .ref (ka 4)]) ⟨hx, hb, hml, hown, htg⟩ (g_benchCount l dg ck ka ad ra S X Q S0 0 b115 _ hκ hR) (cwV 0 htg (gwV wq_319 wq_320 wq_321 wq_1 wq_322) rfl rfl rfl (by decide +kernel) ⟨Nat.le_of_ble_eq_true rfl, Nat.le_of_ble_eq_true rfl⟩) (wrK_preV hK hPm hDm hC hS hA 0 10 rfl rfl) rfl rfl hl.1 rfl (lv_room (Nat.le_of_ble_eq_true rfl)) dL_law_129 ⟨by show _ ≤ 747773; omega, by show _ ≤ 6848010; omega⟩) (fun r129 b129 H locs hw129 hP hD hS => ?_)
            have hP : va_P dg vwCl (brkU ck ka ad ra b129 ++ lngC ck oa D) H := hP
            have hD : va_D A (brkU ck ka ad ra b129 ++ lngC ck oa D) := hD
            obtain ⟨rfl, hR⟩ := hw129
            refine x_if_ne (tgt := 139) hx hb dL_law_132 (by decide) (by omega) (fun c132 => ?_) (fun c132 => ?_)
            · refine x_iconst hx hb dL_law_139 ?_
              exact W.widen (k := 486 + 2100 * (i).toNat) (n := 5936 + 12600 * (i).toNat) (by omega) (by omega) (mid_140 (b129, 0) (show ((0 ≤ (0 : Int) ∧ (0 : Int) ≤ 1) ∧ 1 ≤ S 0 0 + (0 : Int)) ∧ RO S X Q S0 0 b129 from ⟨by omega, hR⟩) ls H locs (lv_sub hl [1, 2, 3, 4, 5, 6, 7, 8, 0] rfl) hP hD hS)
            · refine x_iconst hx hb dL_law_135 ?_
              refine lv_goto (tgt := 140) hx hb dL_law_136 (by decide) ?_
              exact W.widen (k := 486 + 2100 * (i).toNat) (n := 5936 + 12600 * (i).toNat) (by omega) (by omega) (mid_140 (b129, 1) (show ((0 ≤ (1 : Int) ∧ (1 : Int) ≤ 1) ∧ 1 ≤ S 0 0 + (1 : Int)) ∧ RO S X Q S0 0 b129 from ⟨by omega, hR⟩) ls H locs (lv_sub hl [1, 2, 3, 4, 5, 6, 7, 8, 0] rfl) hP hD hS)
      · refine lv_iload hx hb dL_law_81 (lv_at hl 6 rfl) ?_
        refine x_bipush hx hb dL_law_83 (by decide) ?_
        refine x_irem hx hb dL_law_85 (by omega) (by omega) ?_
        refine x_bipush hx hb dL_law_86 (by decide) ?_
        refine x_icmp_eq (tgt := 98) hx hb dL_law_88 (by decide) (by omega) (by omega) (fun c88 => ?_) (fun c88 => ?_)
        · refine x_iconst hx hb dL_law_98 ?_
          refine lv_goto (tgt := 103) hx hb dL_law_99 (by decide) ?_
          exact W.widen (k := 486 + 2100 * (i).toNat) (n := 5936 + 12600 * (i).toNat) (by omega) (by omega) (mid_103 (b78, 1) (show ((0 ≤ (1 : Int) ∧ (1 : Int) ≤ 1) ∧ 1 ≤ S 0 2 + (1 : Int)) ∧ RO S X Q S0 0 b78 from ⟨by omega, hR⟩) ls H locs (lv_sub hl [1, 2, 3, 4, 5, 6, 7, 0] rfl) hP hD hS)
        · refine lv_aload_n hx hb dL_law_91 rfl (lv_at hl 2 rfl) ?_
          refine x_calliUB (wf := fun b92 : BU => brkU ck ka ad ra b92 ++ lngC ck oa D) (M := brkU ck ka ad ra b78) (Mf := fun b92 => brkU ck ka ad ra b92) (N := lngC ck oa D) (List.Perm.refl _) (fun b92 => List.Perm.refl _) hP hD hS hA (fun hPm hDm => va_runV (As := []) (rest := [.int (zI (S 0 2)), .int (zI (k + 2)), .ref (ka 4)]) ⟨hx, hb, hml, hown, htg⟩ (g_tenantCount l dg ck ka ad ra S X Q S0 0 b78 _ hκ hR) (cwV 0 htg (gwV wq_323 wq_324 wq_325 wq_1 wq_326) rfl rfl rfl (by decide +kernel) ⟨Nat.le_of_ble_eq_true rfl, Nat.le_of_ble_eq_true rfl⟩) (wrK_preV hK hPm hDm hC hS hA 0 10 rfl rfl) rfl rfl hl.1 rfl (lv_room (Nat.le_of_ble_eq_true rfl)) dL_law_92 ⟨by show _ ≤ 747773; omega, by show _ ≤ 6848010; omega⟩) (fun r92 b92 H locs hw92 hP hD hS => ?_)
          have hP : va_P dg vwCl (brkU ck ka ad ra b92 ++ lngC ck oa D) H := hP
          have hD : va_D A (brkU ck ka ad ra b92 ++ lngC ck oa D) := hD
          obtain ⟨rfl, hR⟩ := hw92
          refine x_if_ne (tgt := 102) hx hb dL_law_95 (by decide) (by omega) (fun c95 => ?_) (fun c95 => ?_)
          · refine x_iconst hx hb dL_law_102 ?_
            exact W.widen (k := 486 + 2100 * (i).toNat) (n := 5936 + 12600 * (i).toNat) (by omega) (by omega) (mid_103 (b92, 0) (show ((0 ≤ (0 : Int) ∧ (0 : Int) ≤ 1) ∧ 1 ≤ S 0 2 + (0 : Int)) ∧ RO S X Q S0 0 b92 from ⟨by omega, hR⟩) ls H locs (lv_sub hl [1, 2, 3, 4, 5, 6, 7, 0] rfl) hP hD hS)
          · refine x_iconst hx hb dL_law_98 ?_
            refine lv_goto (tgt := 103) hx hb dL_law_99 (by decide) ?_
            exact W.widen (k := 486 + 2100 * (i).toNat) (n := 5936 + 12600 * (i).toNat) (by omega) (by omega) (mid_103 (b92, 1) (show ((0 ≤ (1 : Int) ∧ (1 : Int) ≤ 1) ∧ 1 ≤ S 0 2 + (1 : Int)) ∧ RO S X Q S0 0 b92 from ⟨by omega, hR⟩) ls H locs (lv_sub hl [1, 2, 3, 4, 5, 6, 7, 0] rfl) hP hD hS)
    · refine lv_iload hx hb dL_law_41 (lv_at hl 6 rfl) ?_
      refine x_iconst hx hb dL_law_43 ?_
      refine x_icmp_ge (tgt := 51) hx hb dL_law_44 (by decide) (by omega) (by omega) (fun c44 => ?_) (fun c44 => ?_)
      · refine lv_iload hx hb dL_law_51 (lv_at hl 6 rfl) ?_
        refine x_iconst hx hb dL_law_53 ?_
        refine x_icmp_ge (tgt := 62) hx hb dL_law_54 (by decide) (by omega) (by omega) (fun c54 => ?_) (fun c54 => ?_)
        · refine lv_aload_n hx hb dL_law_62 rfl (lv_at hl 1 rfl) ?_
          refine lv_iload hx hb dL_law_63 (lv_at hl 5 rfl) ?_
          refine x_bipush hx hb dL_law_65 (by decide) ?_
          refine vp_callSi (W.runS (As := [.ref (ka 4), .int (zI k), .int (zI 40)]) (rest := []) ⟨hx, hb, hml, hown, htg⟩ (lf_pick l dg ck ka k 40 (by omega) (by omega)) (cwS 3 htg (gwS wq_331 wq_332 wq_0 wq_333) rfl rfl rfl (by decide +kernel) ⟨Nat.le_of_ble_eq_true rfl, Nat.le_of_ble_eq_true rfl⟩) (rdK_preS hK va_P_nil hC hS) rfl rfl hl.1 rfl (lv_room (Nat.le_of_ble_eq_true rfl)) dL_law_67 ⟨by show _ ≤ 747773; omega, by show _ ≤ 6848010; omega⟩) (fun r67 hr67 => ?_)
          obtain ⟨k67, rfl, hk67⟩ := hr67
          exact W.widen (k := 486 + 2100 * (i).toNat) (n := 5936 + 12600 * (i).toNat) (by omega) (by omega) (mid_70 (b36, k67) (show (0 ≤ k67 ∧ k67 < 40) ∧ RO S X Q S0 0 b36 from ⟨by omega, hR⟩) ls H locs (lv_sub hl [1, 2, 3, 4, 5, 6, 0] rfl) hP hD hS)
        · refine x_bipush hx hb dL_law_57 (by decide) ?_
          refine lv_goto (tgt := 70) hx hb dL_law_59 (by decide) ?_
          exact W.widen (k := 486 + 2100 * (i).toNat) (n := 5936 + 12600 * (i).toNat) (by omega) (by omega) (mid_70 (b36, 8) (show (0 ≤ (8 : Int) ∧ (8 : Int) < 40) ∧ RO S X Q S0 0 b36 from ⟨by omega, hR⟩) ls H locs (lv_sub hl [1, 2, 3, 4, 5, 6, 0] rfl) hP hD hS)
      · refine x_iconst hx hb dL_law_47 ?_
        refine lv_goto (tgt := 70) hx hb dL_law_48 (by decide) ?_
        exact W.widen (k := 486 + 2100 * (i).toNat) (n := 5936 + 12600 * (i).toNat) (by omega) (by omega) (mid_70 (b36, 0) (show (0 ≤ (0 : Int) ∧ (0 : Int) < 40) ∧ RO S X Q S0 0 b36 from ⟨by omega, hR⟩) ls H locs (lv_sub hl [1, 2, 3, 4, 5, 6, 0] rfl) hP hD hS)
