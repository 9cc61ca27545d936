/-! the law: undo and the snapshot at the end -/
/-- what the law has kept of the sums -/
def HS (X : Nat → Int) (Q : Nat → St) (made : Int) (D : Nat → Int64) : Prop := ∀ j : Int, 1 ≤ j → j ≤ X 1 → D (made - j).toNat = sumF (Q (hix X j))
theorem HS.undo {X : Nat → Int} {Q : Nat → St} {made : Int} {D : Nat → Int64} (h : HS X Q made D) (hX : 0 ≤ X 0 ∧ X 0 < 8) : HS (upO (upO X 0 ((X 0 + 8 - 1) % 8)) 1 (X 1 - 1)) Q (made - 1) D := by
  intro j q1 q2
  have e1 : upO (upO X 0 ((X 0 + 8 - 1) % 8)) 1 (X 1 - 1) 1 = X 1 - 1 := rfl
  have e0 : upO (upO X 0 ((X 0 + 8 - 1) % 8)) 1 (X 1 - 1) 0 = (X 0 + 8 - 1) % 8 := rfl
  rw [e1] at q2
  have e : hix (upO (upO X 0 ((X 0 + 8 - 1) % 8)) 1 (X 1 - 1)) j = hix X (j + 1) := by
    unfold hix
    rw [e0]
    omega
  rw [e, ← h (j + 1) (by omega) (by omega), show made - 1 - j = made - (j + 1) by omega]
theorem HS.push {X : Nat → Int} {Q : Nat → St} {S : St} {made : Int} {D D' : Nat → Int64} (h : HS X Q made D) (hX : (0 ≤ X 0 ∧ X 0 < 8) ∧ (0 ≤ X 1 ∧ X 1 ≤ 8)) (hm : X 1 ≤ made) (hS : D made.toNat = sumF S) (hD : ∀ k : Nat, (k : Int) ≤ made → D' k = D k) : HS (phX X 0) (phQ Q X S 0) (made + 1) D' := by
  intro j q1 q2
  have e1 : phX X 0 1 = k1Z (X 1) := rfl
  have hk := k1Z_r hX.2
  have hk2 : k1Z (X 1) ≤ X 1 + 1 := by unfold k1Z; split <;> omega
  rw [e1] at q2
  have eQ : phQ Q X S 0 = upQ Q (X 0) S := rfl
  rw [hD _ (by omega), eQ, hix_push hX.1 q1 (by omega)]
  split
  · rename_i e
    subst e
    rw [upQ_n (by omega), show made + 1 - 1 = made by omega]
    exact hS
  · rw [upQ_o (hix_old hX.1 (by omega) (by omega)), ← h (j - 1) (by omega) (by omega), show made + 1 - j = made - (j - 1) by omega]

set_option maxHeartbeats 4000000 in
set_option maxRecDepth 100000 in
/-- the law: isKept -/
theorem lf_isKept (l : Launch) (dg : va_G) (ck : Nat → ClassId) (ka : Nat → Nat) (ad ra : Nat → Nat → Nat) (S : St) (X : Nat → Int) (Q : Nat → St) (P : St) (z : Int) (b : BU) (oa : Nat) (D : Nat → Int64) (made : Int) (sz : Nat) {n : Int} (hκ : KI n S X Q P z) (hR : RO S X Q P z b) (hmade : 0 ≤ made ∧ made < 70) (hX1 : X 1 ≤ made) (hX8 : X 1 = 8 ∨ X 1 = made) (hsum : HS X Q made D) (hcur : D made.toNat = sumF S) (hst : l.stackTraces = false) : Met l yL_isKept (.code yL_isKept cL_isKept 6 (some .boolean) :: GW) ({ frames := 11, cells := 2000, slots := 12000, locals := 205 }) (va_Pc [.ref ((ad 7) 0), .ref oa, .int (zI made)] (wrK dg ck ka sz (brkU ck ka ad ra b ++ lngC ck oa D))) (va_Qi (fun r (u : BU) => r = zI 1) (fun u t9 => wrQ dg sz (brkU ck ka ad ra b ++ lngC ck oa D) (brkU ck ka ad ra u ++ lngC ck oa D) t9) (va_A (brkU ck ka ad ra b ++ lngC ck oa D) sz)) 2000 12000 (va_A (brkU ck ka ad ra b ++ lngC ck oa D) sz) := by
  obtain ⟨⟨hV, hV2⟩, ⟨hn, hz⟩, hq10, hhist, hz0, hp10, hsn⟩ := id hκ
  have hI := hV.bd
  refine Met.ofW (cc := cL_isKept) (maxL := 6) (ret := (some .boolean)) (by decide) rfl ?_
  intro p e s m args below meth c s₁ B hml hv
  obtain ⟨rfl, ⟨hsz, hP, hK, hD0⟩, hC⟩ := hv
  have hx := B.exec
  have hb := B.bytes
  have hr := B.returns
  have hts := atoms_spec (ws := .code yL_isKept cL_isKept 6 (some .boolean) :: GW) B.pre
  have htg : ∀ w ∈ GW, w.before _ s = true := fun w h => hts w (List.mem_cons_of_mem _ h)
  have hown : s.vm.findClass RL = some m.cls := findClass_of_methodNamed B.named
  have hlocks := B.notSynchronized
  subst hsz
  have hD := hD0.self (sz := s.heap.size)
  generalize hAe : va_A (brkU ck ka ad ra b ++ lngC ck oa D) s.heap.size = A at hD hC ⊢
  have hA : ∀ q : Nat, s.heap.size ≤ q → A q := fun q h => by rw [← hAe]; exact Or.inr h
  have hS : va_S A s.heap s.heap [] := va_S.rf
  have hP : va_P dg vwCl (brkU ck ka ad ra b ++ lngC ck oa D) s.heap := hP
  have hl := lv_entry ([.ref ((ad 7) 0), .ref oa, .int (zI made)]) (n := 6) (Nat.le_of_ble_eq_true rfl)
  rw [lg_entry_eq]
  generalize (lg_sl ([.ref ((ad 7) 0), .ref oa, .int (zI made)]) ++ List.replicate (6 - (lg_sl ([.ref ((ad 7) 0), .ref oa, .int (zI made)])).length) Slot.unset).toArray = ls at hl ⊢
  have hl : lv_has ls 6 [(0, .ref ((ad 7) 0)), (1, .ref oa), (2, .int (zI made))] := hl
  refine lv_aload_n hx hb dL_isKept_0 rfl (lv_at hl 0 rfl) ?_
  refine x_calliUB (wf := fun b1 : BU => brkU ck ka ad ra b1 ++ lngC ck oa D) (M := brkU ck ka ad ra b) (Mf := fun b1 => brkU ck ka ad ra b1) (N := lngC ck oa D) (List.Perm.refl _) (fun b1 => List.Perm.refl _) hP hD hS hA (fun hPm hDm => va_runV (As := []) (rest := []) ⟨hx, hb, hml, hown, htg⟩ (g_saveSnapshot l dg ck ka ad ra S X Q P z b _ hκ hR) (cwV 0 htg (gwV wq_1544 wq_1545 wq_1546 wq_1 wq_1547) rfl rfl rfl (by decide +kernel) ⟨Nat.le_of_ble_eq_true rfl, Nat.le_of_ble_eq_true rfl⟩) (wrK_preV hK hPm hDm hC hS hA 0 10 rfl rfl) rfl rfl hl.1 rfl (lv_room (Nat.le_of_ble_eq_true rfl)) dL_isKept_1 ⟨by show _ ≤ 2000; omega, by show _ ≤ 12000; omega⟩) (fun r1 b1 H locs hw1 hP hD hS => ?_)
  have hP : va_P dg vwCl (brkU ck ka ad ra b1 ++ lngC ck oa D) H := hP
  have hD : va_D A (brkU ck ka ad ra b1 ++ lngC ck oa D) := hD
  obtain ⟨rfl, hR⟩ := hw1
  refine lv_istore_n (lv' := [(3, .int (zI (S 0 0))), (0, .ref ((ad 7) 0)), (1, .ref oa), (2, .int (zI made))]) hx hb dL_isKept_4 rfl hl (by decide) rfl (fun ls hl => ?_)
  have hκs : KI n S X Q S 1 := ⟨hκ.1, hκ.2.1, hκ.2.2.1, hκ.2.2.2.1, by decide, hI.2.2.2.2.2.2.2.2.2.2.2.2.2.1, fun _ => hκ.1⟩
  refine x_bipush hx hb dL_isKept_5 (by decide) ?_
  refine lv_iload_n hx hb dL_isKept_7 rfl (lv_at hl 3 rfl) ?_
  refine x_mmin hx hb (hml.trans hl.1.symm) hown (htg _ wq_1548) (htg _ wq_718) (htg _ wq_23) (htg _ wq_719) (Nat.le_of_ble_eq_true rfl) (Nat.le_of_ble_eq_true rfl) (by show _ ≤ 2000; omega) (by show _ ≤ 12000; omega) (by omega) (by omega) dL_isKept_8 (fun m8 hm8 => ?_)
  refine lv_istore (lv' := [(4, .int (zI m8)), (3, .int (zI (S 0 0))), (0, .ref ((ad 7) 0)), (1, .ref oa), (2, .int (zI made))]) hx hb dL_isKept_11 hl (by decide) rfl (fun ls hl => ?_)
  refine lv_iload_n hx hb dL_isKept_13 rfl (lv_at hl 4 rfl) ?_
  refine x_iconst hx hb dL_isKept_14 ?_
  refine x_isub hx hb dL_isKept_15 ?_
  refine x_top _ (fun v16 e_v16 => ?_)
  refine lv_istore (lv' := [(5, .int (zI v16)), (4, .int (zI m8)), (3, .int (zI (S 0 0))), (0, .ref ((ad 7) 0)), (1, .ref oa), (2, .int (zI made))]) hx hb dL_isKept_16 hl (by decide) rfl (fun ls hl => ?_)
  refine x_loopN (ι := BU × St × (Nat → Int) × Int × Int) (fun v => KI n v.2.1 v.2.2.1 Q S 1 ∧ RO v.2.1 v.2.2.1 Q S 1 v.1 ∧ v.2.2.2.1 = v.2.2.1 1 ∧ (0 ≤ v.2.2.2.1 ∧ v.2.2.2.1 ≤ 8) ∧ (-1 ≤ v.2.2.2.2 ∧ v.2.2.2.2 < 69 ∧ v.2.2.2.1 ≤ v.2.2.2.2 + 1) ∧ HS v.2.2.1 Q (v.2.2.2.2 + 1) D) (fun v => v.2.2.2.1.toNat) (fun v => [(0, .ref ((ad 7) 0)), (1, .ref oa), (2, .int (zI made)), (3, .int (zI (S 0 0))), (4, .int (zI v.2.2.2.1)), (5, .int (zI v.2.2.2.2))]) (fun v => brkU ck ka ad ra v.1 ++ lngC ck oa D) (fun v => 0 + 158 * (8 - v.2.2.2.1).toNat) (fun v => 0 + 948 * (8 - v.2.2.2.1).toNat) (b1, S, X, m8, v16) (show KI n S X Q S 1 ∧ RO S X Q S 1 b1 ∧ m8 = X 1 ∧ (0 ≤ m8 ∧ m8 ≤ 8) ∧ (-1 ≤ v16 ∧ v16 < 69 ∧ m8 ≤ v16 + 1) ∧ HS X Q (v16 + 1) D from ⟨hκs, hR, by omega, by omega, by omega, by rw [show v16 + 1 = made by omega]; exact hsum⟩) (lv_sub hl [3, 4, 5, 2, 1, 0] rfl) hP hD hS (by show _ ≤ 0 + 158 * (8 - m8).toNat; omega) (by show _ ≤ 0 + 948 * (8 - m8).toNat; omega) ?_
  intro v hv ih_18 ls H locs hl hP hD hS
  obtain ⟨b, S9, X9, left, nn⟩ := v
  have hl : lv_has ls 6 [(0, .ref ((ad 7) 0)), (1, .ref oa), (2, .int (zI made)), (3, .int (zI (S 0 0))), (4, .int (zI left)), (5, .int (zI nn))] := hl
  have hv : KI n S9 X9 Q S 1 ∧ RO S9 X9 Q S 1 b ∧ left = X9 1 ∧ (0 ≤ left ∧ left ≤ 8) ∧ (-1 ≤ nn ∧ nn < 69 ∧ left ≤ nn + 1) ∧ HS X9 Q (nn + 1) D := hv
  have hP : va_P dg vwCl (brkU ck ka ad ra b ++ lngC ck oa D) H := hP
  have hD : va_D A (brkU ck ka ad ra b ++ lngC ck oa D) := hD
  obtain ⟨hκ, hR, hlf, hl8, hnn, hsm⟩ := hv
  refine W.as (k' := 0 + 158 * (8 - left).toNat) (n' := 0 + 948 * (8 - left).toNat) rfl rfl ?_
  refine lv_iload hx hb dL_isKept_18 (lv_at hl 4 rfl) ?_
  refine x_if_le (tgt := 55) hx hb dL_isKept_20 (by decide) (by omega) (fun c20 => ?_) (fun c20 => ?_)
  · have hX0 : X9 1 = 0 := by omega
    refine lv_aload_n hx hb dL_isKept_55 rfl (lv_at hl 0 rfl) ?_
    refine x_calliUB (wf := fun b56 : BU => brkU ck ka ad ra b56 ++ lngC ck oa D) (M := brkU ck ka ad ra b) (Mf := fun b56 => brkU ck ka ad ra b56) (N := lngC ck oa D) (List.Perm.refl _) (fun b56 => List.Perm.refl _) hP hD hS hA (fun hPm hDm => vx_runSW (As := [.ref ((ad 7) 0)]) (rest := []) ⟨hx, hb, hml, hown, htg⟩ (w_undo l dg ck ka ad ra S9 X9 Q S 1 b  _ hκ hR   hst) (vx_cwSW 1 htg (gwSW wq_1549 wq_1550 wq_0 wqL_undo) rfl rfl rfl (by decide +kernel) ⟨Nat.le_of_ble_eq_true rfl, Nat.le_of_ble_eq_true rfl⟩) (wrK_preS hK hPm hDm hC hS hA) rfl rfl hl.1 rfl (lv_room (Nat.le_of_ble_eq_true rfl)) dL_isKept_56 ⟨by show _ ≤ 2000; omega, by show _ ≤ 12000; omega⟩) (fun r56 b56 H locs hw56 hP hD hS => ?_)
    have hP : va_P dg vwCl (brkU ck ka ad ra b56 ++ lngC ck oa D) H := hP
    have hD : va_D A (brkU ck ka ad ra b56 ++ lngC ck oa D) := hD
    obtain ⟨rfl, hRa, hRb⟩ := hw56
    have hR := hRa (by omega)
    refine x_is (show (if X9 1 = 0 then -79 else X9 1 - 1) = (-79) from if_pos hX0) ?_
    refine x_bipush hx hb dL_isKept_59 (by decide) ?_
    refine x_icmp_ne (tgt := 96) hx hb dL_isKept_61 (by decide) (by omega) (by omega) (fun c61 => absurd c61 (by decide)) (fun c61 => ?_)
    refine lv_aload_n hx hb dL_isKept_64 rfl (lv_at hl 0 rfl) ?_
    refine x_calliUB (wf := fun b65 : BU => brkU ck ka ad ra b65 ++ lngC ck oa D) (M := brkU ck ka ad ra b56) (Mf := fun b65 => brkU ck ka ad ra b65) (N := lngC ck oa D) (List.Perm.refl _) (fun b65 => List.Perm.refl _) hP hD hS hA (fun hPm hDm => vx_runSW (As := [.ref ((ad 7) 0)]) (rest := []) ⟨hx, hb, hml, hown, htg⟩ (w_restoreSnapshot l dg ck ka ad ra S9 X9 Q S 1 b56  _ hκ hR   hst) (vx_cwSW 1 htg (gwSW wq_1560 wq_1561 wq_0 wqL_restoreSnapshot) rfl rfl rfl (by decide +kernel) ⟨Nat.le_of_ble_eq_true rfl, Nat.le_of_ble_eq_true rfl⟩) (wrK_preS hK hPm hDm hC hS hA) rfl rfl hl.1 rfl (lv_room (Nat.le_of_ble_eq_true rfl)) dL_isKept_65 ⟨by show _ ≤ 2000; omega, by show _ ≤ 12000; omega⟩) (fun r65 b65 H locs hw65 hP hD hS => ?_)
    have hP : va_P dg vwCl (brkU ck ka ad ra b65 ++ lngC ck oa D) H := hP
    have hD : va_D A (brkU ck ka ad ra b65 ++ lngC ck oa D) := hD
    obtain ⟨rfl, hRa, hRb⟩ := hw65
    have hR := hRb (by decide)
    refine x_is (show (if (1 : Int) = 0 then -79 else S 0 0) = (S 0 0) from if_neg (by decide)) ?_
    have hκr : KI n S (upO X9 1 0) Q S 1 := ⟨hκs.1, ⟨hκ.2.1.1, by show (0 : Int) ≤ 0 ∧ (0 : Int) ≤ 8; decide⟩, hκ.2.2.1, fun j q1 q2 => absurd (show j ≤ 0 from q2) (by omega), by decide, hκs.2.2.2.2.2.1, fun _ => hκs.1⟩
    refine lv_iload_n hx hb dL_isKept_68 rfl (lv_at hl 3 rfl) ?_
    refine lv_icmp_ne (tgt := 96) hx hb dL_isKept_69 (by decide) (fun c69 => absurd rfl c69) (fun c69 => ?_)
    refine lv_aload_n hx hb dL_isKept_72 rfl (lv_at hl 0 rfl) ?_
    refine x_calllUB (wf := fun b73 : BU => brkU ck ka ad ra b73 ++ lngC ck oa D) (M := brkU ck ka ad ra b65) (Mf := fun b73 => brkU ck ka ad ra b73) (N := lngC ck oa D) (List.Perm.refl _) (fun b73 => List.Perm.refl _) hP hD hS hA (fun hPm hDm => va_runS (As := [.ref ((ad 7) 0)]) (rest := []) ⟨hx, hb, hml, hown, htg⟩ (lf_sum l dg ck ka ad ra S (upO X9 1 0) Q S 1 b65  _ hκr hR  hst) (cwS 1 htg (gwS wq_1178 wq_1179 wq_0 wq_1180) rfl rfl rfl (by decide +kernel) ⟨Nat.le_of_ble_eq_true rfl, Nat.le_of_ble_eq_true rfl⟩) (wrK_preS hK hPm hDm hC hS hA) rfl rfl hl.1 rfl (lv_room (Nat.le_of_ble_eq_true rfl)) dL_isKept_73 ⟨by show _ ≤ 2000; omega, by show _ ≤ 12000; omega⟩) (fun r73 b73 H locs hw73 hP hD hS => ?_)
    have hP : va_P dg vwCl (brkU ck ka ad ra b73 ++ lngC ck oa D) H := hP
    have hD : va_D A (brkU ck ka ad ra b73 ++ lngC ck oa D) := hD
    obtain ⟨rfl, hR⟩ := hw73
    refine lv_aload_n hx hb dL_isKept_76 rfl (lv_at hl 1 rfl) ?_
    refine lv_iload_n hx hb dL_isKept_77 rfl (lv_at hl 2 rfl) ?_
    refine va_lald hx hb hK hP 166 5 rfl rfl (zI_in (z := made) (by omega) (by decide)) dL_isKept_78 ?_
    refine W.eq (g2 := F0 m 79 ls [.long (D (made).toNat), .long (sumF S)]) (by rw [zI_clamp (by omega)]) ?_
    refine W.lcmp hx hb dL_isKept_79 ?_
    refine W.eq (g2 := F0 m 80 ls [.int (zI 0)]) (congrArg (fun v9 => F0 m 80 ls [.int v9]) (show lg_cmp (sumF S) (D (made).toNat) = zI 0 by rw [hcur]; exact lg_self _)) ?_
    refine x_if_ne (tgt := 96) hx hb dL_isKept_80 (by decide) (by omega) (fun c80 => absurd c80 (by decide)) (fun c80 => ?_)
    refine lv_aload_n hx hb dL_isKept_83 rfl (lv_at hl 0 rfl) ?_
    refine x_calliUB (wf := fun b84 : BU => brkU ck ka ad ra b84 ++ lngC ck oa D) (M := brkU ck ka ad ra b73) (Mf := fun b84 => brkU ck ka ad ra b84) (N := lngC ck oa D) (List.Perm.refl _) (fun b84 => List.Perm.refl _) hP hD hS hA (fun hPm hDm => vx_runSW (As := [.ref ((ad 7) 0)]) (rest := []) ⟨hx, hb, hml, hown, htg⟩ (w_undo l dg ck ka ad ra S (upO X9 1 0) Q S 1 b73  _ hκr hR   hst) (vx_cwSW 1 htg (gwSW wq_1549 wq_1550 wq_0 wqL_undo) rfl rfl rfl (by decide +kernel) ⟨Nat.le_of_ble_eq_true rfl, Nat.le_of_ble_eq_true rfl⟩) (wrK_preS hK hPm hDm hC hS hA) rfl rfl hl.1 rfl (lv_room (Nat.le_of_ble_eq_true rfl)) dL_isKept_84 ⟨by show _ ≤ 2000; omega, by show _ ≤ 12000; omega⟩) (fun r84 b84 H locs hw84 hP hD hS => ?_)
    have hP : va_P dg vwCl (brkU ck ka ad ra b84 ++ lngC ck oa D) H := hP
    have hD : va_D A (brkU ck ka ad ra b84 ++ lngC ck oa D) := hD
    obtain ⟨rfl, hRa, hRb⟩ := hw84
    have hR := hRa rfl
    refine x_is (show (if (upO X9 1 0) 1 = 0 then -79 else (upO X9 1 0) 1 - 1) = (-79) from if_pos rfl) ?_
    refine x_bipush hx hb dL_isKept_87 (by decide) ?_
    refine x_icmp_ne (tgt := 96) hx hb dL_isKept_89 (by decide) (by omega) (by omega) (fun c89 => absurd c89 (by decide)) (fun c89 => ?_)
    refine x_iconst hx hb dL_isKept_92 ?_
    refine lv_goto (tgt := 97) hx hb dL_isKept_93 (by decide) ?_
    exact W.widen (k := 2000) (n := 12000) (by omega) (by omega) (W.zret (v := _) hx hb hr (by first | rfl | exact nar_z (by omega)) (fun t9 ht9 hW9 => ⟨⟨_, b84, rfl, rfl, by rw [ht9]; exact hP, by rw [hAe]; exact hD⟩, hS.F ht9⟩) hS.2.2 dL_isKept_97)
  · obtain ⟨v23, e_v23⟩ : ∃ y9 : Int, y9 = left + (-1) := ⟨_, rfl⟩
    refine lv_iinc (v := zI v23) (lv' := [(4, .int (zI v23)), (0, .ref ((ad 7) 0)), (1, .ref oa), (2, .int (zI made)), (3, .int (zI (S 0 0))), (5, .int (zI nn))]) hx hb dL_isKept_23 hl (k := 4) rfl (by rw [e_v23]; exact zI_add _ _) (by decide) rfl (fun ls hl => ?_)
    have hX9 := hκ.2.1
    have hκu := hκ.undo (by omega)
    have hsu := hsm.undo hX9.1
    refine lv_aload_n hx hb dL_isKept_26 rfl (lv_at hl 1 rfl) ?_
    refine x_calliUB (wf := fun b27 : BU => brkU ck ka ad ra b27 ++ lngC ck oa D) (M := brkU ck ka ad ra b) (Mf := fun b27 => brkU ck ka ad ra b27) (N := lngC ck oa D) (List.Perm.refl _) (fun b27 => List.Perm.refl _) hP hD hS hA (fun hPm hDm => vx_runSW (As := [.ref ((ad 7) 0)]) (rest := []) ⟨hx, hb, hml, hown, htg⟩ (w_undo l dg ck ka ad ra S9 X9 Q S 1 b  _ hκ hR   hst) (vx_cwSW 1 htg (gwSW wq_1549 wq_1550 wq_0 wqL_undo) rfl rfl rfl (by decide +kernel) ⟨Nat.le_of_ble_eq_true rfl, Nat.le_of_ble_eq_true rfl⟩) (wrK_preS hK hPm hDm hC hS hA) rfl rfl hl.1 rfl (lv_room (Nat.le_of_ble_eq_true rfl)) dL_isKept_27 ⟨by show _ ≤ 2000; omega, by show _ ≤ 12000; omega⟩) (fun r27 b27 H locs hw27 hP hD hS => ?_)
    have hP : va_P dg vwCl (brkU ck ka ad ra b27 ++ lngC ck oa D) H := hP
    have hD : va_D A (brkU ck ka ad ra b27 ++ lngC ck oa D) := hD
    obtain ⟨rfl, hRa, hRb⟩ := hw27
    have hR := hRb (by omega)
    refine x_is (show (if X9 1 = 0 then -79 else X9 1 - 1) = (X9 1 - 1) from if_neg (by omega)) ?_
    refine lv_iload hx hb dL_isKept_30 (lv_at hl 0 rfl) ?_
    refine x_icmp_ne (tgt := 47) hx hb dL_isKept_32 (by decide) (by omega) (by omega) (fun c32 => False.elim (by omega)) (fun c32 => ?_)
    refine lv_aload_n hx hb dL_isKept_35 rfl (lv_at hl 1 rfl) ?_
    refine x_calllUB (wf := fun b36 : BU => brkU ck ka ad ra b36 ++ lngC ck oa D) (M := brkU ck ka ad ra b27) (Mf := fun b36 => brkU ck ka ad ra b36) (N := lngC ck oa D) (List.Perm.refl _) (fun b36 => List.Perm.refl _) hP hD hS hA (fun hPm hDm => va_runS (As := [.ref ((ad 7) 0)]) (rest := []) ⟨hx, hb, hml, hown, htg⟩ (lf_sum l dg ck ka ad ra (Q (hix X9 1)) (upO (upO X9 0 ((X9 0 + 8 - 1) % 8)) 1 (X9 1 - 1)) Q S 1 b27  _ hκu hR  hst) (cwS 1 htg (gwS wq_1178 wq_1179 wq_0 wq_1180) rfl rfl rfl (by decide +kernel) ⟨Nat.le_of_ble_eq_true rfl, Nat.le_of_ble_eq_true rfl⟩) (wrK_preS hK hPm hDm hC hS hA) rfl rfl hl.1 rfl (lv_room (Nat.le_of_ble_eq_true rfl)) dL_isKept_36 ⟨by show _ ≤ 2000; omega, by show _ ≤ 12000; omega⟩) (fun r36 b36 H locs hw36 hP hD hS => ?_)
    have hP : va_P dg vwCl (brkU ck ka ad ra b36 ++ lngC ck oa D) H := hP
    have hD : va_D A (brkU ck ka ad ra b36 ++ lngC ck oa D) := hD
    obtain ⟨rfl, hR⟩ := hw36
    have hdn : D (nn).toNat = sumF (Q (hix X9 1)) := by have h9 := hsm 1 (by omega) (by omega); rw [show nn + 1 - 1 = nn by omega] at h9; exact h9
    refine lv_aload_n hx hb dL_isKept_39 rfl (lv_at hl 2 rfl) ?_
    refine lv_iload hx hb dL_isKept_40 (lv_at hl 5 rfl) ?_
    refine va_lald hx hb hK hP 166 5 rfl rfl (zI_in (z := nn) (by omega) (by decide)) dL_isKept_42 ?_
    refine W.eq (g2 := F0 m 43 ls [.long (D (nn).toNat), .long (sumF (Q (hix X9 1)))]) (by rw [zI_clamp (by omega)]) ?_
    refine W.lcmp hx hb dL_isKept_43 ?_
    refine W.eq (g2 := F0 m 44 ls [.int (zI 0)]) (congrArg (fun v9 => F0 m 44 ls [.int v9]) (show lg_cmp (sumF (Q (hix X9 1))) (D (nn).toNat) = zI 0 by rw [hdn]; exact lg_self _)) ?_
    refine x_if_eq (tgt := 49) hx hb dL_isKept_44 (by decide) (by omega) (fun c44 => ?_) (fun c44 => absurd c44 (by decide))
    obtain ⟨v49, e_v49⟩ : ∃ y9 : Int, y9 = nn + (-1) := ⟨_, rfl⟩
    refine lv_iinc (v := zI v49) (lv' := [(5, .int (zI v49)), (4, .int (zI v23)), (0, .ref ((ad 7) 0)), (1, .ref oa), (2, .int (zI made)), (3, .int (zI (S 0 0)))]) hx hb dL_isKept_49 hl (k := 5) rfl (by rw [e_v49]; exact zI_add _ _) (by decide) rfl (fun ls hl => ?_)
    refine lv_goto (tgt := 18) hx hb dL_isKept_52 (by decide) ?_
    exact W.widen (k := 0 + 158 * (8 - v23).toNat) (n := 0 + 948 * (8 - v23).toNat) (by omega) (by omega) (ih_18 (b36, (Q (hix X9 1)), (upO (upO X9 0 ((X9 0 + 8 - 1) % 8)) 1 (X9 1 - 1)), v23, v49) (show KI n (Q (hix X9 1)) (upO (upO X9 0 ((X9 0 + 8 - 1) % 8)) 1 (X9 1 - 1)) Q S 1 ∧ RO (Q (hix X9 1)) (upO (upO X9 0 ((X9 0 + 8 - 1) % 8)) 1 (X9 1 - 1)) Q S 1 b36 ∧ v23 = (upO (upO X9 0 ((X9 0 + 8 - 1) % 8)) 1 (X9 1 - 1)) 1 ∧ (0 ≤ v23 ∧ v23 ≤ 8) ∧ (-1 ≤ v49 ∧ v49 < 69 ∧ v23 ≤ v49 + 1) ∧ HS (upO (upO X9 0 ((X9 0 + 8 - 1) % 8)) 1 (X9 1 - 1)) Q (v49 + 1) D from ⟨hκu, hR, by show v23 = X9 1 - 1; omega, by omega, by omega, by rw [show v49 + 1 = nn + 1 - 1 by omega]; exact hsu⟩) (show v23.toNat < left.toNat from by omega) ls H locs (lv_sub hl [2, 3, 4, 5, 1, 0] rfl) hP hD hS)
