/-! the reference: execute -/
theorem actZ_eq {S : St} {k a b d a' b' d' : Int} (hk : 0 ≤ k ∧ k ≤ 9) (ha : a = a') (hb : 2 ≤ arZ k → b = b') (hd : 3 ≤ arZ k → d = d') : actZ S k a b d = actZ S k a' b' d' := by
  subst ha
  rcases (show k = 0 ∨ k = 1 ∨ k = 2 ∨ k = 3 ∨ k = 4 ∨ k = 5 ∨ k = 6 ∨ k = 7 ∨ k = 8 ∨ k = 9 by omega) with rfl | rfl | rfl | rfl | rfl | rfl | rfl | rfl | rfl | rfl
  · rw [hb (by decide), hd (by decide)]
  · rw [hb (by decide), hd (by decide)]
  · rfl
  · rw [hb (by decide)]; rfl
  · rw [hb (by decide), hd (by decide)]
  · rfl
  · rw [hb (by decide)]; rfl
  · rfl
  · rfl
  · rfl
theorem stZ_n {T : Int → Int} {n : Int} (hn : 0 ≤ n) : ∀ k : Nat, (∀ i, i < k → gdP T n i) → stZ T n k ≤ n
  | 0, _ => hn
  | k + 1, h => by
    have h1 := chA_lt (h k (by omega)).2 (by decide)
    show (cmdR T n (stZ T n k)).2.1 + 1 ≤ n
    omega
theorem exZ_1 {S : St} {T : Int → Int} {n v : Int} (h : prsZ T n = (1, v)) : exZ S T n = (1, v, 0, S) := by
  unfold exZ
  rw [h]
  exact if_pos (show (1 : Int) ≠ 0 by decide)
theorem exZ_0 {S U : St} {T : Int → Int} {n v : Int} (h : prsZ T n = (0, v)) (hr : runF T n v 31 0 S = (-1, 0, U)) : exZ S T n = (0, v, 0, U) := by
  unfold exZ
  rw [h]
  show (if (0 : Int) ≠ 0 then _ else if (runF T n v 31 0 S).1 = -1 then _ else _) = _
  rw [if_neg (by decide), hr]
  exact if_pos rfl
theorem exZ_2 {S U : St} {T : Int → Int} {n v k g : Int} (h : prsZ T n = (0, v)) (hr : runF T n v 31 0 S = (k, g, U)) (hk : 0 ≤ k) (hg : g < 0) : exZ S T n = (2, k, g, S) := by
  unfold exZ
  rw [h]
  show (if (0 : Int) ≠ 0 then _ else if (runF T n v 31 0 S).1 = -1 then _ else _) = _
  rw [if_neg (by decide), hr]
  show (if k = -1 then _ else if g < 0 then _ else _) = _
  rw [if_neg (by omega), if_pos hg]
theorem exZ_3 {S U : St} {T : Int → Int} {n v k g : Int} (h : prsZ T n = (0, v)) (hr : runF T n v 31 0 S = (k, g, U)) (hk : 0 ≤ k) (hg : ¬ g < 0) : exZ S T n = (3, k, g, S) := by
  unfold exZ
  rw [h]
  show (if (0 : Int) ≠ 0 then _ else if (runF T n v 31 0 S).1 = -1 then _ else _) = _
  rw [if_neg (by decide), hr]
  show (if k = -1 then _ else if g < 0 then _ else _) = _
  rw [if_neg (by omega), if_neg hg]

set_option maxHeartbeats 4000000 in
set_option maxRecDepth 100000 in
/-- BenchBrokerModel.execute -/
theorem m_execute (l : Launch) (dg : va_G) (ck : Nat → ClassId) (ka : Nat → Nat) (mo : Nat → Nat) (S : St) (F1 F2 F3 F4 : Int → Int) (M : St) (sz : Nat) {Mx : Int} (hV : Inv Mx S) (hMx : Mx + 3100 ≤ 4000000) (hln : 0 ≤ M 8 3 ∧ M 8 3 ≤ 60) (htx : ∀ i, 0 ≤ i → i < 60 → 0 ≤ M 5 i ∧ M 5 i ≤ 126) (hkp : 0 ≤ M 8 1 ∧ M 8 1 ≤ 8) : Met l yX9_execute (.code yX9_execute cX9_execute 4 (some .int) :: GW) ({ frames := 8, cells := 0, slots := 0, locals := 176 }) (va_Pc [.ref (mo 0)] (wrK dg ck ka sz (modelC ck mo (encZ S) F1 F2 F3 F4 M))) (va_Qi (fun r (u : St) => exP M u (exZ S (M 5) (M 8 3)).1 (exZ S (M 5) (M 8 3)).2.1 (exZ S (M 5) (M 8 3)).2.2.1 ∧ r = zI (if (exZ S (M 5) (M 8 3)).1 = 0 then (exZ S (M 5) (M 8 3)).2.1 else 0)) (fun u t9 => wrQ dg sz (modelC ck mo (encZ S) F1 F2 F3 F4 M) (modelC ck mo (encZ (exZ S (M 5) (M 8 3)).2.2.2) (encZ S) F2 (if (exZ S (M 5) (M 8 3)).1 = 0 then hiZ F3 (encZ S) (M 8 1) else F3) F4 u) t9) (va_A (modelC ck mo (encZ S) F1 F2 F3 F4 M) sz)) 0 0 (va_A (modelC ck mo (encZ S) F1 F2 F3 F4 M) sz) := by
  refine Met.ofW (cc := cX9_execute) (maxL := 4) (ret := (some .int)) (by decide) rfl ?_
  intro p e s m args below meth c s₁ B hml hv
  obtain ⟨rfl, ⟨hsz, hP, hK, hD0⟩, hC⟩ := hv
  have hx := B.exec
  have hb := B.bytes
  have hr := B.returns
  have hts := atoms_spec (ws := .code yX9_execute cX9_execute 4 (some .int) :: GW) B.pre
  have htg : ∀ w ∈ GW, w.before _ s = true := fun w h => hts w (List.mem_cons_of_mem _ h)
  have hown : s.vm.findClass RX9 = some m.cls := findClass_of_methodNamed B.named
  have hlocks := B.notSynchronized
  subst hsz
  have hD := hD0.self (sz := s.heap.size)
  generalize hAe : va_A (modelC ck mo (encZ S) F1 F2 F3 F4 M) s.heap.size = A at hD hC ⊢
  have hA : ∀ q : Nat, s.heap.size ≤ q → A q := fun q h => by rw [← hAe]; exact Or.inr h
  have hS : va_S A s.heap s.heap [] := va_S.rf
  have hP : va_P dg vwCl (modelC ck mo (encZ S) F1 F2 F3 F4 M) s.heap := hP
  have hl := lv_entry ([.ref (mo 0)]) (n := 4) (Nat.le_of_ble_eq_true rfl)
  rw [lg_entry_eq]
  generalize (lg_sl ([.ref (mo 0)]) ++ List.replicate (4 - (lg_sl ([.ref (mo 0)])).length) Slot.unset).toArray = ls at hl ⊢
  have hl : lv_has ls 4 [(0, .ref (mo 0))] := hl
  refine lv_aload_n hx hb dX9_execute_0 rfl (lv_at hl 0 rfl) ?_
  refine x_callv (ws' := modelC ck mo (encZ S) (encZ S) F2 F3 F4 (upS M 8 0 0)) [] (M := modelC ck mo (encZ S) F1 F2 F3 F4 M) (M' := modelC ck mo (encZ S) (encZ S) F2 F3 F4 (upS M 8 0 0)) ([]) (List.append_nil _).symm (List.append_nil _).symm hP hD hS hA (fun hPm hDm => va_runV (As := []) (rest := []) ⟨hx, hb, hml, hown, htg⟩ (m_remembers l dg ck mo S F1 F2 F3 F4 M _ ) (cwV 0 htg (gwV wq_1635 wq_1637 wp_31 wq_15 wq_1638) rfl rfl rfl (by decide +kernel) ⟨Nat.le_of_ble_eq_true rfl, Nat.le_of_ble_eq_true rfl⟩) (wr_preV hK hPm hDm 0 11 rfl rfl) rfl rfl hl.1 rfl (lv_room (Nat.le_of_ble_eq_true rfl)) dX9_execute_1 ⟨Nat.zero_le _, Nat.zero_le _⟩) (fun H locs hP hD hS => ?_)
  refine lv_aload_n hx hb dX9_execute_4 rfl (lv_at hl 0 rfl) ?_
  refine x_iconst hx hb dX9_execute_5 ?_
  refine va_put (D := dg) (ci := 11) (v := .int (zI 0)) (ty := .int) (C := RX9) (T := TX9) (N := 23) hx hb htg inG_X9 tyX9 tyX9_ok nmX9 hown hK hP hD hS 0 rfl rfl 19 (Nat.le_of_ble_eq_true rfl) (htg _ wq_1576) (fun _ h9 => h9) rfl (by decide +kernel) rfl rfl (Nat.le_of_ble_eq_true rfl) dX9_execute_6 (fun H locs hP hD hS => ?_)
  have hP : va_P dg vwCl (modelC ck mo (encZ S) (encZ S) F2 F3 F4 (upS (upS M 8 0 0) 8 11 0)) H := hP
  have hD : va_D A (modelC ck mo (encZ S) (encZ S) F2 F3 F4 (upS (upS M 8 0 0) 8 11 0)) := hD
  refine lv_aload_n hx hb dX9_execute_9 rfl (lv_at hl 0 rfl) ?_
  refine lv_aload_n hx hb dX9_execute_10 rfl (lv_at hl 0 rfl) ?_
  refine va_get (D := dg) (ci := 11) (v := .int (zI (M 8 3))) (C := RX9) (T := TX9) (N := 23) hx hb htg inG_X9 hown hK hP 0 rfl rfl 11 (Nat.le_of_ble_eq_true rfl) (htg _ wq_1568) (fun _ h9 => h9) rfl dX9_execute_11 ?_
  refine va_put (D := dg) (ci := 11) (v := .int (zI (M 8 3))) (ty := .int) (C := RX9) (T := TX9) (N := 23) hx hb htg inG_X9 tyX9 tyX9_ok nmX9 hown hK hP hD hS 0 rfl rfl 20 (Nat.le_of_ble_eq_true rfl) (htg _ wq_1577) (fun _ h9 => h9) rfl (by decide +kernel) rfl rfl (Nat.le_of_ble_eq_true rfl) dX9_execute_14 (fun H locs hP hD hS => ?_)
  have hP : va_P dg vwCl (modelC ck mo (encZ S) (encZ S) F2 F3 F4 (upS (upS (upS M 8 0 0) 8 11 0) 8 12 (M 8 3))) H := hP
  have hD : va_D A (modelC ck mo (encZ S) (encZ S) F2 F3 F4 (upS (upS (upS M 8 0 0) 8 11 0) 8 12 (M 8 3))) := hD
  refine lv_aload_n hx hb dX9_execute_17 rfl (lv_at hl 0 rfl) ?_
  refine x_iconst hx hb dX9_execute_18 ?_
  refine va_put (D := dg) (ci := 11) (v := .int (zI 0)) (ty := .int) (C := RX9) (T := TX9) (N := 23) hx hb htg inG_X9 tyX9 tyX9_ok nmX9 hown hK hP hD hS 0 rfl rfl 11 (Nat.le_of_ble_eq_true rfl) (htg _ wq_1568) (fun _ h9 => h9) rfl (by decide +kernel) rfl rfl (Nat.le_of_ble_eq_true rfl) dX9_execute_19 (fun H locs hP hD hS => ?_)
  have hP : va_P dg vwCl (modelC ck mo (encZ S) (encZ S) F2 F3 F4 (upS (upS (upS (upS M 8 0 0) 8 11 0) 8 12 (M 8 3)) 8 3 0)) H := hP
  have hD : va_D A (modelC ck mo (encZ S) (encZ S) F2 F3 F4 (upS (upS (upS (upS M 8 0 0) 8 11 0) 8 12 (M 8 3)) 8 3 0)) := hD
  refine lv_aload_n hx hb dX9_execute_22 rfl (lv_at hl 0 rfl) ?_
  refine x_iconst hx hb dX9_execute_23 ?_
  refine va_put (D := dg) (ci := 11) (v := .int (zI 0)) (ty := .int) (C := RX9) (T := TX9) (N := 23) hx hb htg inG_X9 tyX9 tyX9_ok nmX9 hown hK hP hD hS 0 rfl rfl 21 (Nat.le_of_ble_eq_true rfl) (htg _ wq_1578) (fun _ h9 => h9) rfl (by decide +kernel) rfl rfl (Nat.le_of_ble_eq_true rfl) dX9_execute_24 (fun H locs hP hD hS => ?_)
  have hP : va_P dg vwCl (modelC ck mo (encZ S) (encZ S) F2 F3 F4 (upS (upS (upS (upS (upS M 8 0 0) 8 11 0) 8 12 (M 8 3)) 8 3 0) 8 13 0)) H := hP
  have hD : va_D A (modelC ck mo (encZ S) (encZ S) F2 F3 F4 (upS (upS (upS (upS (upS M 8 0 0) 8 11 0) 8 12 (M 8 3)) 8 3 0) 8 13 0)) := hD
  refine lv_aload_n hx hb dX9_execute_27 rfl (lv_at hl 0 rfl) ?_
  refine x_iconst hx hb dX9_execute_28 ?_
  refine va_put (D := dg) (ci := 11) (v := .int (zI 0)) (ty := .boolean) (C := RX9) (T := TX9) (N := 23) hx hb htg inG_X9 tyX9 tyX9_ok nmX9 hown hK hP hD hS 0 rfl rfl 22 (Nat.le_of_ble_eq_true rfl) (htg _ wq_1579) (fun _ h9 => h9) rfl (by decide +kernel) rfl rfl (Nat.le_of_ble_eq_true rfl) dX9_execute_29 (fun H locs hP hD hS => ?_)
  have hP : va_P dg vwCl (modelC ck mo (encZ S) (encZ S) F2 F3 F4 (upS (upS (upS (upS (upS (upS M 8 0 0) 8 11 0) 8 12 (M 8 3)) 8 3 0) 8 13 0) 8 14 0)) H := hP
  have hD : va_D A (modelC ck mo (encZ S) (encZ S) F2 F3 F4 (upS (upS (upS (upS (upS (upS M 8 0 0) 8 11 0) 8 12 (M 8 3)) 8 3 0) 8 13 0) 8 14 0)) := hD
  refine lv_aload_n hx hb dX9_execute_32 rfl (lv_at hl 0 rfl) ?_
  refine x_callvU hP hD hS hA (va_runV (As := []) (rest := []) ⟨hx, hb, hml, hown, htg⟩ (m_readsOne l dg ck ka mo S (encZ S) F2 F3 F4 (upS (upS (upS (upS (upS (upS M 8 0 0) 8 11 0) 8 12 (M 8 3)) 8 3 0) 8 13 0) 8 14 0) _ (show 0 ≤ 0 ∧ 0 ≤ 59 by omega) (show 0 ≤ 0 ∧ 0 ≤ (M 8 3) ∧ (M 8 3) ≤ 60 by omega) (show 0 = 0 by omega) htx) (cwV 0 htg (gwV wq_2034 wq_2036 wp_73 wq_15 wq_2037) rfl rfl rfl (by decide +kernel) ⟨Nat.le_of_ble_eq_true rfl, Nat.le_of_ble_eq_true rfl⟩) (wrK_preV hK hP hD hC hS hA 0 11 rfl rfl) rfl rfl hl.1 rfl (lv_room (Nat.le_of_ble_eq_true rfl)) dX9_execute_33 ⟨Nat.zero_le _, Nat.zero_le _⟩) (fun M33 H locs hM33 hP hD hS => ?_)
  have hP : va_P dg vwCl (modelC ck mo (encZ S) (encZ S) F2 F3 F4 M33) H := hP
  have hD : va_D A (modelC ck mo (encZ S) (encZ S) F2 F3 F4 M33) := hD
  refine x_loopW (ι := St × Nat) (fun v => prI ((upS (upS (upS (upS (upS (upS M 8 0 0) 8 11 0) 8 12 (M 8 3)) 8 3 0) 8 13 0) 8 14 0)) (M 5) (M 8 3) v.1 v.2) (fun v => (60 - stZ (M 5) (M 8 3) v.2).toNat) (fun v => [(0, .ref (mo 0))]) (fun v => modelC ck mo (encZ S) (encZ S) F2 F3 F4 v.1) (M33, (0 : Nat)) (show prI ((upS (upS (upS (upS (upS (upS M 8 0 0) 8 11 0) 8 12 (M 8 3)) 8 3 0) 8 13 0) 8 14 0)) (M 5) (M 8 3) M33 (0 : Nat) from (prI_0 rfl rfl hln.1 rfl rfl hM33)) (lv_sub hl [0] rfl) hP hD hS ?_
  intro v hv ih_36 ls H locs hl hP hD hS
  obtain ⟨u, j⟩ := v
  have hl : lv_has ls 4 [(0, .ref (mo 0))] := hl
  have hv : prI ((upS (upS (upS (upS (upS (upS M 8 0 0) 8 11 0) 8 12 (M 8 3)) 8 3 0) 8 13 0) 8 14 0)) (M 5) (M 8 3) u j := hv
  have hP : va_P dg vwCl (modelC ck mo (encZ S) (encZ S) F2 F3 F4 u) H := hP
  have hD : va_D A (modelC ck mo (encZ S) (encZ S) F2 F3 F4 u) := hD
  obtain ⟨⟨a1, a2, a3⟩, a4, a5, a6, a7, a8, a9, a10, a11⟩ := hv
  have hbb := cmdR_b (T := M 5) a11
  have a12 : u 8 12 = M 8 3 := a6 12 (by decide) (by decide) (by decide)
  have hca := chA_r htx hln.2 (z := (cmdR (M 5) (M 8 3) (stZ (M 5) (M 8 3) j)).2.1) (by omega)
  have hce : chA (u 5) (u 8 12) (u 8 11) = chA (M 5) (M 8 3) (cmdR (M 5) (M 8 3) (stZ (M 5) (M 8 3) j)).2.1 := by rw [a4, a12, a2]
  have hst : stZ (M 5) (M 8 3) (j + 1) = (cmdR (M 5) (M 8 3) (stZ (M 5) (M 8 3) j)).2.1 + 1 := rfl
  have htu : ∀ i, 0 ≤ i → i < 60 → 0 ≤ u 5 i ∧ u 5 i ≤ 126 := by rw [a4]; exact htx
  refine lv_aload_n hx hb dX9_execute_36 rfl (lv_at hl 0 rfl) ?_
  refine x_midW (ι := Unit) (nL := 4) (D := dg) (cl := vwCl) (A := A) (H0 := s.heap) (fun v => u 8 14 ≠ 0 ∨ chA (M 5) (M 8 3) (cmdR (M 5) (M 8 3) (stZ (M 5) (M 8 3) j)).2.1 ≠ 59) (fun v => [(0, .ref (mo 0))]) (fun v => []) (fun v => modelC ck mo (encZ S) (encZ S) F2 F3 F4 u) 70 ?_ (fun mid_70 => ?_)
  · intro v hv ls H locs hl hP hD hS
    obtain ⟨z0, rfl⟩ : ∃ z : Unit, z = v := ⟨_, rfl⟩
    have hl : lv_has ls 4 [(0, .ref (mo 0))] := hl
    have hv : u 8 14 ≠ 0 ∨ chA (M 5) (M 8 3) (cmdR (M 5) (M 8 3) (stZ (M 5) (M 8 3) j)).2.1 ≠ 59 := hv
    have hP : va_P dg vwCl (modelC ck mo (encZ S) (encZ S) F2 F3 F4 u) H := hP
    have hD : va_D A (modelC ck mo (encZ S) (encZ S) F2 F3 F4 u) := hD
    obtain hor := hv
    refine lv_aload_n hx hb dX9_execute_70 rfl (lv_at hl 0 rfl) ?_
    refine va_get (D := dg) (ci := 11) (v := .int (zI (u 8 14))) (C := RX9) (T := TX9) (N := 23) hx hb htg inG_X9 hown hK hP 0 rfl rfl 22 (Nat.le_of_ble_eq_true rfl) (htg _ wq_1579) (fun _ h9 => h9) rfl dX9_execute_71 ?_
    refine x_if_ne (tgt := 88) hx hb dX9_execute_74 (by decide) (by omega) (fun c74 => ?_) (fun c74 => ?_)
    · have hx9 : exZ S (M 5) (M 8 3) = (1, (cmdR (M 5) (M 8 3) (stZ (M 5) (M 8 3) j)).2.1, 0, S) := exZ_1 (prs_bad (by omega) a9 (by omega))
      refine lv_aload_n hx hb dX9_execute_88 rfl (lv_at hl 0 rfl) ?_
      refine lv_aload_n hx hb dX9_execute_89 rfl (lv_at hl 0 rfl) ?_
      refine va_get (D := dg) (ci := 11) (v := .int (zI (u 8 11))) (C := RX9) (T := TX9) (N := 23) hx hb htg inG_X9 hown hK hP 0 rfl rfl 19 (Nat.le_of_ble_eq_true rfl) (htg _ wq_1576) (fun _ h9 => h9) rfl dX9_execute_90 ?_
      refine va_put (D := dg) (ci := 11) (v := .int (zI (u 8 11))) (ty := .int) (C := RX9) (T := TX9) (N := 23) hx hb htg inG_X9 tyX9 tyX9_ok nmX9 hown hK hP hD hS 0 rfl rfl 13 (Nat.le_of_ble_eq_true rfl) (htg _ wq_1570) (fun _ h9 => h9) rfl (by decide +kernel) rfl rfl (Nat.le_of_ble_eq_true rfl) dX9_execute_93 (fun H locs hP hD hS => ?_)
      have hP : va_P dg vwCl (modelC ck mo (encZ S) (encZ S) F2 F3 F4 (upS u 8 5 (u 8 11))) H := hP
      have hD : va_D A (modelC ck mo (encZ S) (encZ S) F2 F3 F4 (upS u 8 5 (u 8 11))) := hD
      refine lv_aload_n hx hb dX9_execute_96 rfl (lv_at hl 0 rfl) ?_
      refine x_iconst hx hb dX9_execute_97 ?_
      refine x_calli (ws' := modelC ck mo (encZ S) (encZ S) F2 F3 F4 (upS (upS u 8 5 (u 8 11)) 8 0 1)) [] (M := modelC ck mo (encZ S) (encZ S) F2 F3 F4 (upS u 8 5 (u 8 11))) (M' := modelC ck mo (encZ S) (encZ S) F2 F3 F4 (upS (upS u 8 5 (u 8 11)) 8 0 1)) ([]) (List.append_nil _).symm (List.append_nil _).symm hP hD hS hA (fun hPm hDm => va_runV (As := [.int (zI 1)]) (rest := []) ⟨hx, hb, hml, hown, htg⟩ (m_fails l dg ck mo S (encZ S) F2 F3 F4 (upS u 8 5 (u 8 11)) 1 _ ) (cwV 1 htg (gwV wq_1677 wq_1679 wp_40 wq_15 wq_1680) rfl rfl rfl (by decide +kernel) ⟨Nat.le_of_ble_eq_true rfl, Nat.le_of_ble_eq_true rfl⟩) (wr_preV hK hPm hDm 0 11 rfl rfl) rfl rfl hl.1 rfl (lv_room (Nat.le_of_ble_eq_true rfl)) dX9_execute_98 ⟨Nat.zero_le _, Nat.zero_le _⟩) (fun r98 H locs hr98 hP hD hS => ?_)
      subst hr98
      have hCe : (exZ S (M 5) (M 8 3)).2.2.2 = S := (by rw [hx9])
      have hP : va_P dg vwCl (modelC ck mo (encZ (exZ S (M 5) (M 8 3)).2.2.2) (encZ S) F2 F3 F4 (upS (upS u 8 5 (u 8 11)) 8 0 1)) _ := va_P_eq (by rw [hCe]) hP
      have hD : va_D A (modelC ck mo (encZ (exZ S (M 5) (M 8 3)).2.2.2) (encZ S) F2 F3 F4 (upS (upS u 8 5 (u 8 11)) 8 0 1)) := va_D_eq (by rw [hCe]) hD
      have hCe : (if (exZ S (M 5) (M 8 3)).1 = 0 then hiZ F3 (encZ S) (M 8 1) else F3) = F3 := (by rw [hx9] <;> rfl)
      have hP : va_P dg vwCl (modelC ck mo (encZ (exZ S (M 5) (M 8 3)).2.2.2) (encZ S) F2 (if (exZ S (M 5) (M 8 3)).1 = 0 then hiZ F3 (encZ S) (M 8 1) else F3) F4 (upS (upS u 8 5 (u 8 11)) 8 0 1)) _ := va_P_eq (by rw [hCe]) hP
      have hD : va_D A (modelC ck mo (encZ (exZ S (M 5) (M 8 3)).2.2.2) (encZ S) F2 (if (exZ S (M 5) (M 8 3)).1 = 0 then hiZ F3 (encZ S) (M 8 1) else F3) F4 (upS (upS u 8 5 (u 8 11)) 8 0 1)) := va_D_eq (by rw [hCe]) hD
      exact W.iret (v := _) hx hb hr (fun t9 ht9 hW9 => ⟨⟨_, (upS (upS u 8 5 (u 8 11)) 8 0 1), rfl, (by rw [hx9]; exact ⟨⟨rfl, (a6 1 (by decide) (by decide) (by decide)), (a6 2 (by decide) (by decide) (by decide)), (a6 3 (by decide) (by decide) (by decide)), (a6 4 (by decide) (by decide) (by decide)), (a2.trans rfl), (a6 6 (by decide) (by decide) (by decide)), (a6 7 (by decide) (by decide) (by decide)), (a6 8 (by decide) (by decide) (by decide)), a4, a5⟩, rfl⟩), by rw [ht9]; exact hP, by rw [hAe]; exact hD⟩, hS.F ht9⟩) hS.2.2 dX9_execute_101
    · refine lv_aload_n hx hb dX9_execute_77 rfl (lv_at hl 0 rfl) ?_
      refine va_get (D := dg) (ci := 11) (v := .int (zI (u 8 11))) (C := RX9) (T := TX9) (N := 23) hx hb htg inG_X9 hown hK hP 0 rfl rfl 19 (Nat.le_of_ble_eq_true rfl) (htg _ wq_1576) (fun _ h9 => h9) rfl dX9_execute_78 ?_
      refine lv_aload_n hx hb dX9_execute_81 rfl (lv_at hl 0 rfl) ?_
      refine va_get (D := dg) (ci := 11) (v := .int (zI (u 8 12))) (C := RX9) (T := TX9) (N := 23) hx hb htg inG_X9 hown hK hP 0 rfl rfl 20 (Nat.le_of_ble_eq_true rfl) (htg _ wq_1577) (fun _ h9 => h9) rfl dX9_execute_82 ?_
      refine x_icmp_ge (tgt := 102) hx hb dX9_execute_85 (by decide) (by omega) (by omega) (fun c85 => ?_) (fun c85 => ?_)
      · have hpg : prsZ (M 5) (M 8 3) = (0, (j : Int) + 1) := by first | (exfalso; omega) | exact prs_good (by omega) a9 (by omega) (by omega) (by omega)
        refine x_iconst hx hb dX9_execute_102 ?_
        refine lv_istore_n (lv' := [(1, .int (zI 0)), (0, .ref (mo 0))]) hx hb dX9_execute_103 rfl hl (by decide) rfl (fun ls hl => ?_)
        refine x_loopW (ι := St × St × Int) (fun v => (0 ≤ v.2.2 ∧ v.2.2 ≤ (j : Int) + 1) ∧ Inv (Mx + 99 * v.2.2) v.1 ∧ runF (M 5) (M 8 3) ((j : Int) + 1) (31 - v.2.2.toNat) v.2.2.toNat v.1 = runF (M 5) (M 8 3) ((j : Int) + 1) 31 0 S ∧ v.2.1 6 = u 6 ∧ v.2.1 5 = u 5 ∧ v.2.1 7 = u 7 ∧ (∀ i, i ≠ 9 → i ≠ 10 → v.2.1 8 i = u 8 i)) (fun v => ((j : Int) + 1 - v.2.2).toNat) (fun v => [(0, .ref (mo 0)), (1, .int (zI v.2.2))]) (fun v => modelC ck mo (encZ v.1) (encZ S) F2 F3 F4 v.2.1) (S, u, 0) (show (0 ≤ (0 : Int) ∧ (0 : Int) ≤ (j : Int) + 1) ∧ Inv (Mx + 99 * (0 : Int)) S ∧ runF (M 5) (M 8 3) ((j : Int) + 1) (31 - (0 : Int).toNat) (0 : Int).toNat S = runF (M 5) (M 8 3) ((j : Int) + 1) 31 0 S ∧ u 6 = u 6 ∧ u 5 = u 5 ∧ u 7 = u 7 ∧ (∀ i, i ≠ 9 → i ≠ 10 → u 8 i = u 8 i) from ⟨by omega, hV.mono (by omega) (by omega), rfl, rfl, rfl, rfl, fun _ _ _ => rfl⟩) (lv_sub hl [1, 0] rfl) hP hD hS ?_
        intro v hv ih_104 ls H locs hl hP hD hS
        obtain ⟨T2, y, x⟩ := v
        have hl : lv_has ls 4 [(0, .ref (mo 0)), (1, .int (zI x))] := hl
        have hv : (0 ≤ x ∧ x ≤ (j : Int) + 1) ∧ Inv (Mx + 99 * x) T2 ∧ runF (M 5) (M 8 3) ((j : Int) + 1) (31 - x.toNat) x.toNat T2 = runF (M 5) (M 8 3) ((j : Int) + 1) 31 0 S ∧ y 6 = u 6 ∧ y 5 = u 5 ∧ y 7 = u 7 ∧ (∀ i, i ≠ 9 → i ≠ 10 → y 8 i = u 8 i) := hv
        have hP : va_P dg vwCl (modelC ck mo (encZ T2) (encZ S) F2 F3 F4 y) H := hP
        have hD : va_D A (modelC ck mo (encZ T2) (encZ S) F2 F3 F4 y) := hD
        obtain ⟨hxx, hVk, hrun, hy6, hy5, hy7, hy8⟩ := hv
        have e104 : ((x.toNat : Nat) : Int) = x := Int.toNat_of_nonneg (by omega)
        have hy13 : y 8 13 = (j : Int) + 1 := (hy8 13 (by decide) (by decide)).trans a3
        have hy81 : y 8 1 = M 8 1 := (hy8 1 (by decide) (by decide)).trans (a6 1 (by decide) (by decide) (by decide))
        refine lv_iload_n hx hb dX9_execute_104 rfl (lv_at hl 1 rfl) ?_
        refine lv_aload_n hx hb dX9_execute_105 rfl (lv_at hl 0 rfl) ?_
        refine va_get (D := dg) (ci := 11) (v := .int (zI (y 8 13))) (C := RX9) (T := TX9) (N := 23) hx hb htg inG_X9 hown hK hP 0 rfl rfl 21 (Nat.le_of_ble_eq_true rfl) (htg _ wq_1578) (fun _ h9 => h9) rfl dX9_execute_106 ?_
        refine x_icmp_ge (tgt := 189) hx hb dX9_execute_109 (by decide) (by omega) (by omega) (fun c109 => ?_) (fun c109 => ?_)
        · have hr9 : runF (M 5) (M 8 3) ((j : Int) + 1) 31 0 S = (-1, 0, T2) := hrun.symm.trans (runF_e (by omega))
          have hx9 := exZ_0 hpg hr9
          refine lv_aload_n hx hb dX9_execute_189 rfl (lv_at hl 0 rfl) ?_
          refine lv_aload_n hx hb dX9_execute_190 rfl (lv_at hl 0 rfl) ?_
          refine va_get (D := dg) (ci := 11) (v := .int (zI (y 8 13))) (C := RX9) (T := TX9) (N := 23) hx hb htg inG_X9 hown hK hP 0 rfl rfl 21 (Nat.le_of_ble_eq_true rfl) (htg _ wq_1578) (fun _ h9 => h9) rfl dX9_execute_191 ?_
          refine x_calli (ws' := modelC ck mo (encZ T2) (encZ S) F2 (hiZ F3 (encZ S) (y 8 1)) F4 (upS y 8 1 (k1Z (y 8 1)))) [] (M := modelC ck mo (encZ T2) (encZ S) F2 F3 F4 y) (M' := modelC ck mo (encZ T2) (encZ S) F2 (hiZ F3 (encZ S) (y 8 1)) F4 (upS y 8 1 (k1Z (y 8 1)))) ([]) (List.append_nil _).symm (List.append_nil _).symm hP hD hS hA (fun hPm hDm => va_runV (As := [.int (zI (y 8 13))]) (rest := []) ⟨hx, hb, hml, hown, htg⟩ (m_changed l dg ck mo T2 (encZ S) F2 F3 F4 y (y 8 13) _ (show 0 ≤ y 8 1 ∧ y 8 1 ≤ 8 by omega)) (cwV 1 htg (gwV wq_1673 wq_1675 wp_39 wq_15 wq_1676) rfl rfl rfl (by decide +kernel) ⟨Nat.le_of_ble_eq_true rfl, Nat.le_of_ble_eq_true rfl⟩) (wr_preV hK hPm hDm 0 11 rfl rfl) rfl rfl hl.1 rfl (lv_room (Nat.le_of_ble_eq_true rfl)) dX9_execute_194 ⟨Nat.zero_le _, Nat.zero_le _⟩) (fun r194 H locs hr194 hP hD hS => ?_)
          subst hr194
          have hCe : (exZ S (M 5) (M 8 3)).2.2.2 = T2 := (by rw [hx9])
          have hP : va_P dg vwCl (modelC ck mo (encZ (exZ S (M 5) (M 8 3)).2.2.2) (encZ S) F2 (hiZ F3 (encZ S) (y 8 1)) F4 (upS y 8 1 (k1Z (y 8 1)))) _ := va_P_eq (by rw [hCe]) hP
          have hD : va_D A (modelC ck mo (encZ (exZ S (M 5) (M 8 3)).2.2.2) (encZ S) F2 (hiZ F3 (encZ S) (y 8 1)) F4 (upS y 8 1 (k1Z (y 8 1)))) := va_D_eq (by rw [hCe]) hD
          have hCe : (if (exZ S (M 5) (M 8 3)).1 = 0 then hiZ F3 (encZ S) (M 8 1) else F3) = (hiZ F3 (encZ S) (y 8 1)) := (by rw [hx9, hy81] <;> rfl)
          have hP : va_P dg vwCl (modelC ck mo (encZ (exZ S (M 5) (M 8 3)).2.2.2) (encZ S) F2 (if (exZ S (M 5) (M 8 3)).1 = 0 then hiZ F3 (encZ S) (M 8 1) else F3) F4 (upS y 8 1 (k1Z (y 8 1)))) _ := va_P_eq (by rw [hCe]) hP
          have hD : va_D A (modelC ck mo (encZ (exZ S (M 5) (M 8 3)).2.2.2) (encZ S) F2 (if (exZ S (M 5) (M 8 3)).1 = 0 then hiZ F3 (encZ S) (M 8 1) else F3) F4 (upS y 8 1 (k1Z (y 8 1)))) := va_D_eq (by rw [hCe]) hD
          exact W.iret (v := _) hx hb hr (fun t9 ht9 hW9 => ⟨⟨_, (upS y 8 1 (k1Z (y 8 1))), rfl, (by rw [hx9]; exact ⟨⟨((hy8 0 (by decide) (by decide)).trans (a6 0 (by decide) (by decide) (by decide))), (show k1Z (y 8 1) = k1Z (M 8 1) by rw [hy81]), ((hy8 2 (by decide) (by decide)).trans (a6 2 (by decide) (by decide) (by decide))), ((hy8 3 (by decide) (by decide)).trans (a6 3 (by decide) (by decide) (by decide))), ((hy8 4 (by decide) (by decide)).trans (a6 4 (by decide) (by decide) (by decide))), ((hy8 5 (by decide) (by decide)).trans (a6 5 (by decide) (by decide) (by decide))), ((hy8 6 (by decide) (by decide)).trans (a6 6 (by decide) (by decide) (by decide))), ((hy8 7 (by decide) (by decide)).trans (a6 7 (by decide) (by decide) (by decide))), ((hy8 8 (by decide) (by decide)).trans (a6 8 (by decide) (by decide) (by decide))), (hy5.trans a4), (hy7.trans a5)⟩, congrArg zI ((hy8 13 (by decide) (by decide)).trans a3)⟩), by rw [ht9]; exact hP, by rw [hAe]; exact hD⟩, hS.F ht9⟩) hS.2.2 dX9_execute_197
        · have hge := fun i (h : i < j) => (a9 i h)
          have g0 : (cmdR (M 5) (M 8 3) (stZ (M 5) (M 8 3) x.toNat)).1 = 0 := (Nat.lt_or_ge x.toNat j).elim (fun h => (a9 _ h).1) (fun h => by rw [show x.toNat = j by omega]; omega)
          have hb4 := cmdR_b (T := M 5) (stZ_n (T := M 5) hln.1 x.toNat (fun i h => a9 i (by omega)))
          have hk4 := (hb4.2.2.2.2.2.2 g0).2
          have ht4 := a8 x.toNat (by omega) hk4
          rw [e104, ← hy6] at ht4
          have hkr := cmdK_r (M 5) (M 8 3) (stZ (M 5) (M 8 3) x.toNat)
          have hA4 : (actZ T2 (cmdK (M 5) (M 8 3) (stZ (M 5) (M 8 3) x.toNat)) (y 6 ((4 * x) + 1)) (y 6 ((4 * x) + 2)) (y 6 ((4 * x) + 3))) = (cmdA T2 (M 5) (M 8 3) x.toNat) := actZ_eq (by omega) ht4.2.1 ht4.2.2.1 ht4.2.2.2
          have hA5 : (actZ T2 (cmdK (M 5) (M 8 3) (stZ (M 5) (M 8 3) x.toNat)) (y 6 ((4 * x) + 1)) (y 6 ((4 * x) + 2)) (y 6 ((4 * x) + 3))).1 = (cmdA T2 (M 5) (M 8 3) x.toNat).1 := by rw [hA4]
          have hds := dsZ_r (k := (cmdK (M 5) (M 8 3) (stZ (M 5) (M 8 3) x.toNat))) (actZ_r T2 (cmdK (M 5) (M 8 3) (stZ (M 5) (M 8 3) x.toNat)) (y 6 ((4 * x) + 1)) (y 6 ((4 * x) + 2)) (y 6 ((4 * x) + 3)))
          refine lv_aload_n hx hb dX9_execute_112 rfl (lv_at hl 0 rfl) ?_
          refine lv_iload_n hx hb dX9_execute_113 rfl (lv_at hl 1 rfl) ?_
          refine x_calli (ws' := modelC ck mo (encZ (actZ T2 (cmdK (M 5) (M 8 3) (stZ (M 5) (M 8 3) x.toNat)) (y 6 ((4 * x) + 1)) (y 6 ((4 * x) + 2)) (y 6 ((4 * x) + 3))).2.2) (encZ S) F2 F3 F4 (mAns y (actZ T2 (cmdK (M 5) (M 8 3) (stZ (M 5) (M 8 3) x.toNat)) (y 6 ((4 * x) + 1)) (y 6 ((4 * x) + 2)) (y 6 ((4 * x) + 3))).1 (actZ T2 (cmdK (M 5) (M 8 3) (stZ (M 5) (M 8 3) x.toNat)) (y 6 ((4 * x) + 1)) (y 6 ((4 * x) + 2)) (y 6 ((4 * x) + 3))).2.1)) [] (M := modelC ck mo (encZ T2) (encZ S) F2 F3 F4 y) (M' := modelC ck mo (encZ (actZ T2 (cmdK (M 5) (M 8 3) (stZ (M 5) (M 8 3) x.toNat)) (y 6 ((4 * x) + 1)) (y 6 ((4 * x) + 2)) (y 6 ((4 * x) + 3))).2.2) (encZ S) F2 F3 F4 (mAns y (actZ T2 (cmdK (M 5) (M 8 3) (stZ (M 5) (M 8 3) x.toNat)) (y 6 ((4 * x) + 1)) (y 6 ((4 * x) + 2)) (y 6 ((4 * x) + 3))).1 (actZ T2 (cmdK (M 5) (M 8 3) (stZ (M 5) (M 8 3) x.toNat)) (y 6 ((4 * x) + 1)) (y 6 ((4 * x) + 2)) (y 6 ((4 * x) + 3))).2.1)) ([]) (List.append_nil _).symm (List.append_nil _).symm hP hD hS hA (fun hPm hDm => va_runV (As := [.int (zI x)]) (rest := []) ⟨hx, hb, hml, hown, htg⟩ (m_does l dg ck mo T2 (encZ S) F2 F3 F4 y x (cmdK (M 5) (M 8 3) (stZ (M 5) (M 8 3) x.toNat)) _ hVk (by omega) ⟨ht4.1, by omega⟩ (by rw [ht4.2.1]; exact hb4.2.2.2.1) (fun z => by rw [ht4.2.2.1 z]; exact hb4.2.2.2.2.1) (fun z => by rw [ht4.2.2.2 z]; exact hb4.2.2.2.2.2.1)) (cwV 1 htg (gwV wq_2067 wq_2069 wp_78 wq_15 wq_2070) rfl rfl rfl (by decide +kernel) ⟨Nat.le_of_ble_eq_true rfl, Nat.le_of_ble_eq_true rfl⟩) (wr_preV hK hPm hDm 0 11 rfl rfl) rfl rfl hl.1 rfl (lv_room (Nat.le_of_ble_eq_true rfl)) dX9_execute_114 ⟨Nat.zero_le _, Nat.zero_le _⟩) (fun r114 H locs hr114 hP hD hS => ?_)
          subst hr114
          have hCe : (cmdA T2 (M 5) (M 8 3) x.toNat).2.2 = (actZ T2 (cmdK (M 5) (M 8 3) (stZ (M 5) (M 8 3) x.toNat)) (y 6 ((4 * x) + 1)) (y 6 ((4 * x) + 2)) (y 6 ((4 * x) + 3))).2.2 := (by rw [hA4])
          have hP : va_P dg vwCl (modelC ck mo (encZ (cmdA T2 (M 5) (M 8 3) x.toNat).2.2) (encZ S) F2 F3 F4 (mAns y (actZ T2 (cmdK (M 5) (M 8 3) (stZ (M 5) (M 8 3) x.toNat)) (y 6 ((4 * x) + 1)) (y 6 ((4 * x) + 2)) (y 6 ((4 * x) + 3))).1 (actZ T2 (cmdK (M 5) (M 8 3) (stZ (M 5) (M 8 3) x.toNat)) (y 6 ((4 * x) + 1)) (y 6 ((4 * x) + 2)) (y 6 ((4 * x) + 3))).2.1)) _ := va_P_eq (by rw [hCe]) hP
          have hD : va_D A (modelC ck mo (encZ (cmdA T2 (M 5) (M 8 3) x.toNat).2.2) (encZ S) F2 F3 F4 (mAns y (actZ T2 (cmdK (M 5) (M 8 3) (stZ (M 5) (M 8 3) x.toNat)) (y 6 ((4 * x) + 1)) (y 6 ((4 * x) + 2)) (y 6 ((4 * x) + 3))).1 (actZ T2 (cmdK (M 5) (M 8 3) (stZ (M 5) (M 8 3) x.toNat)) (y 6 ((4 * x) + 1)) (y 6 ((4 * x) + 2)) (y 6 ((4 * x) + 3))).2.1)) := va_D_eq (by rw [hCe]) hD
          refine x_top _ (fun v117 e_v117 => ?_)
          refine lv_istore_n (lv' := [(2, .int (zI v117)), (0, .ref (mo 0)), (1, .int (zI x))]) hx hb dX9_execute_117 rfl hl (by decide) rfl (fun ls hl => ?_)
          refine lv_iload_n hx hb dX9_execute_118 rfl (lv_at hl 0 rfl) ?_
          refine x_if_ne (tgt := 125) hx hb dX9_execute_119 (by decide) (by omega) (fun c119 => ?_) (fun c119 => ?_)
          · refine x_iconst hx hb dX9_execute_125 ?_
            refine lv_istore_n (lv' := [(3, .int (zI 0)), (2, .int (zI v117)), (0, .ref (mo 0)), (1, .int (zI x))]) hx hb dX9_execute_126 rfl hl (by decide) rfl (fun ls hl => ?_)
            have hP : va_P dg vwCl (modelC ck mo (mixZ 0 (encZ S) (encZ (cmdA T2 (M 5) (M 8 3) x.toNat).2.2)) (encZ S) F2 F3 F4 (mAns y (actZ T2 (cmdK (M 5) (M 8 3) (stZ (M 5) (M 8 3) x.toNat)) (y 6 ((4 * x) + 1)) (y 6 ((4 * x) + 2)) (y 6 ((4 * x) + 3))).1 (actZ T2 (cmdK (M 5) (M 8 3) (stZ (M 5) (M 8 3) x.toNat)) (y 6 ((4 * x) + 1)) (y 6 ((4 * x) + 2)) (y 6 ((4 * x) + 3))).2.1)) _ := va_P_ch hP 1 rfl (fun j _ => mix_0 _ _ j) rfl
            have hD : va_D A (modelC ck mo (mixZ 0 (encZ S) (encZ (cmdA T2 (M 5) (M 8 3) x.toNat).2.2)) (encZ S) F2 F3 F4 (mAns y (actZ T2 (cmdK (M 5) (M 8 3) (stZ (M 5) (M 8 3) x.toNat)) (y 6 ((4 * x) + 1)) (y 6 ((4 * x) + 2)) (y 6 ((4 * x) + 3))).1 (actZ T2 (cmdK (M 5) (M 8 3) (stZ (M 5) (M 8 3) x.toNat)) (y 6 ((4 * x) + 1)) (y 6 ((4 * x) + 2)) (y 6 ((4 * x) + 3))).2.1)) := va_D_ch hD 1 rfl rfl
            refine x_loopW (ι := Int) (fun v => 0 ≤ v ∧ v ≤ 102) (fun v => (102 - v).toNat) (fun v => [(0, .ref (mo 0)), (1, .int (zI x)), (2, .int (zI v117)), (3, .int (zI v))]) (fun v => modelC ck mo (mixZ v (encZ S) (encZ (cmdA T2 (M 5) (M 8 3) x.toNat).2.2)) (encZ S) F2 F3 F4 (mAns y (actZ T2 (cmdK (M 5) (M 8 3) (stZ (M 5) (M 8 3) x.toNat)) (y 6 ((4 * x) + 1)) (y 6 ((4 * x) + 2)) (y 6 ((4 * x) + 3))).1 (actZ T2 (cmdK (M 5) (M 8 3) (stZ (M 5) (M 8 3) x.toNat)) (y 6 ((4 * x) + 1)) (y 6 ((4 * x) + 2)) (y 6 ((4 * x) + 3))).2.1)) (0) (show 0 ≤ (0 : Int) ∧ (0 : Int) ≤ 102 from (by omega)) (lv_sub hl [2, 3, 1, 0] rfl) hP hD hS ?_
            intro v hv ih_127 ls H locs hl hP hD hS
            obtain ⟨k, rfl⟩ : ∃ z : Int, z = v := ⟨_, rfl⟩
            have hl : lv_has ls 4 [(0, .ref (mo 0)), (1, .int (zI x)), (2, .int (zI v117)), (3, .int (zI k))] := hl
            have hv : 0 ≤ k ∧ k ≤ 102 := hv
            have hP : va_P dg vwCl (modelC ck mo (mixZ k (encZ S) (encZ (cmdA T2 (M 5) (M 8 3) x.toNat).2.2)) (encZ S) F2 F3 F4 (mAns y (actZ T2 (cmdK (M 5) (M 8 3) (stZ (M 5) (M 8 3) x.toNat)) (y 6 ((4 * x) + 1)) (y 6 ((4 * x) + 2)) (y 6 ((4 * x) + 3))).1 (actZ T2 (cmdK (M 5) (M 8 3) (stZ (M 5) (M 8 3) x.toNat)) (y 6 ((4 * x) + 1)) (y 6 ((4 * x) + 2)) (y 6 ((4 * x) + 3))).2.1)) H := hP
            have hD : va_D A (modelC ck mo (mixZ k (encZ S) (encZ (cmdA T2 (M 5) (M 8 3) x.toNat).2.2)) (encZ S) F2 F3 F4 (mAns y (actZ T2 (cmdK (M 5) (M 8 3) (stZ (M 5) (M 8 3) x.toNat)) (y 6 ((4 * x) + 1)) (y 6 ((4 * x) + 2)) (y 6 ((4 * x) + 3))).1 (actZ T2 (cmdK (M 5) (M 8 3) (stZ (M 5) (M 8 3) x.toNat)) (y 6 ((4 * x) + 1)) (y 6 ((4 * x) + 2)) (y 6 ((4 * x) + 3))).2.1)) := hD
            obtain ⟨hk0, hk9⟩ := hv
            refine lv_iload_n hx hb dX9_execute_127 rfl (lv_at hl 3 rfl) ?_
            refine x_bipush hx hb dX9_execute_128 (by decide) ?_
            refine x_icmp_ge (tgt := 151) hx hb dX9_execute_130 (by decide) (by omega) (by omega) (fun c130 => ?_) (fun c130 => ?_)
            · have hP : va_P dg vwCl (modelC ck mo (encZ S) (encZ S) F2 F3 F4 (mAns y (actZ T2 (cmdK (M 5) (M 8 3) (stZ (M 5) (M 8 3) x.toNat)) (y 6 ((4 * x) + 1)) (y 6 ((4 * x) + 2)) (y 6 ((4 * x) + 3))).1 (actZ T2 (cmdK (M 5) (M 8 3) (stZ (M 5) (M 8 3) x.toNat)) (y 6 ((4 * x) + 1)) (y 6 ((4 * x) + 2)) (y 6 ((4 * x) + 3))).2.1)) _ := va_P_ch hP 1 rfl (mix_e (by omega)) rfl
              have hD : va_D A (modelC ck mo (encZ S) (encZ S) F2 F3 F4 (mAns y (actZ T2 (cmdK (M 5) (M 8 3) (stZ (M 5) (M 8 3) x.toNat)) (y 6 ((4 * x) + 1)) (y 6 ((4 * x) + 2)) (y 6 ((4 * x) + 3))).1 (actZ T2 (cmdK (M 5) (M 8 3) (stZ (M 5) (M 8 3) x.toNat)) (y 6 ((4 * x) + 1)) (y 6 ((4 * x) + 2)) (y 6 ((4 * x) + 3))).2.1)) := va_D_ch hD 1 rfl rfl
              refine lv_iload_n hx hb dX9_execute_151 rfl (lv_at hl 2 rfl) ?_
              have hr9 : runF (M 5) (M 8 3) ((j : Int) + 1) 31 0 S = (x, (cmdA T2 (M 5) (M 8 3) x.toNat).1, T2) := by rw [← hrun, show 31 - x.toNat = (30 - x.toNat) + 1 by omega]; exact (runF_x (by omega) (by omega)).trans (by rw [e104])
              refine x_if_ge (tgt := 161) hx hb dX9_execute_152 (by decide) (by omega) (fun c152 => ?_) (fun c152 => ?_)
              · have hx9 := exZ_3 hpg hr9 (by omega) (by omega)
                refine lv_aload_n hx hb dX9_execute_161 rfl (lv_at hl 0 rfl) ?_
                refine x_bipush hx hb dX9_execute_162 (by decide) ?_
                refine va_put (D := dg) (ci := 11) (v := .int (zI 12)) (ty := .int) (C := RX9) (T := TX9) (N := 23) hx hb htg inG_X9 tyX9 tyX9_ok nmX9 hown hK hP hD hS 0 rfl rfl 14 (Nat.le_of_ble_eq_true rfl) (htg _ wq_1571) (fun _ h9 => h9) rfl (by decide +kernel) rfl rfl (Nat.le_of_ble_eq_true rfl) dX9_execute_164 (fun H locs hP hD hS => ?_)
                have hP : va_P dg vwCl (modelC ck mo (encZ S) (encZ S) F2 F3 F4 (upS (mAns y (actZ T2 (cmdK (M 5) (M 8 3) (stZ (M 5) (M 8 3) x.toNat)) (y 6 ((4 * x) + 1)) (y 6 ((4 * x) + 2)) (y 6 ((4 * x) + 3))).1 (actZ T2 (cmdK (M 5) (M 8 3) (stZ (M 5) (M 8 3) x.toNat)) (y 6 ((4 * x) + 1)) (y 6 ((4 * x) + 2)) (y 6 ((4 * x) + 3))).2.1) 8 6 12)) H := hP
                have hD : va_D A (modelC ck mo (encZ S) (encZ S) F2 F3 F4 (upS (mAns y (actZ T2 (cmdK (M 5) (M 8 3) (stZ (M 5) (M 8 3) x.toNat)) (y 6 ((4 * x) + 1)) (y 6 ((4 * x) + 2)) (y 6 ((4 * x) + 3))).1 (actZ T2 (cmdK (M 5) (M 8 3) (stZ (M 5) (M 8 3) x.toNat)) (y 6 ((4 * x) + 1)) (y 6 ((4 * x) + 2)) (y 6 ((4 * x) + 3))).2.1) 8 6 12)) := hD
                refine lv_aload_n hx hb dX9_execute_167 rfl (lv_at hl 0 rfl) ?_
                refine lv_iload_n hx hb dX9_execute_168 rfl (lv_at hl 1 rfl) ?_
                refine va_put (D := dg) (ci := 11) (v := .int (zI x)) (ty := .int) (C := RX9) (T := TX9) (N := 23) hx hb htg inG_X9 tyX9 tyX9_ok nmX9 hown hK hP hD hS 0 rfl rfl 15 (Nat.le_of_ble_eq_true rfl) (htg _ wq_1572) (fun _ h9 => h9) rfl (by decide +kernel) rfl rfl (Nat.le_of_ble_eq_true rfl) dX9_execute_169 (fun H locs hP hD hS => ?_)
                have hP : va_P dg vwCl (modelC ck mo (encZ S) (encZ S) F2 F3 F4 (upS (upS (mAns y (actZ T2 (cmdK (M 5) (M 8 3) (stZ (M 5) (M 8 3) x.toNat)) (y 6 ((4 * x) + 1)) (y 6 ((4 * x) + 2)) (y 6 ((4 * x) + 3))).1 (actZ T2 (cmdK (M 5) (M 8 3) (stZ (M 5) (M 8 3) x.toNat)) (y 6 ((4 * x) + 1)) (y 6 ((4 * x) + 2)) (y 6 ((4 * x) + 3))).2.1) 8 6 12) 8 7 x)) H := hP
                have hD : va_D A (modelC ck mo (encZ S) (encZ S) F2 F3 F4 (upS (upS (mAns y (actZ T2 (cmdK (M 5) (M 8 3) (stZ (M 5) (M 8 3) x.toNat)) (y 6 ((4 * x) + 1)) (y 6 ((4 * x) + 2)) (y 6 ((4 * x) + 3))).1 (actZ T2 (cmdK (M 5) (M 8 3) (stZ (M 5) (M 8 3) x.toNat)) (y 6 ((4 * x) + 1)) (y 6 ((4 * x) + 2)) (y 6 ((4 * x) + 3))).2.1) 8 6 12) 8 7 x)) := hD
                refine lv_aload_n hx hb dX9_execute_172 rfl (lv_at hl 0 rfl) ?_
                refine lv_iload_n hx hb dX9_execute_173 rfl (lv_at hl 2 rfl) ?_
                refine va_put (D := dg) (ci := 11) (v := .int (zI v117)) (ty := .int) (C := RX9) (T := TX9) (N := 23) hx hb htg inG_X9 tyX9 tyX9_ok nmX9 hown hK hP hD hS 0 rfl rfl 16 (Nat.le_of_ble_eq_true rfl) (htg _ wq_1573) (fun _ h9 => h9) rfl (by decide +kernel) rfl rfl (Nat.le_of_ble_eq_true rfl) dX9_execute_174 (fun H locs hP hD hS => ?_)
                have hP : va_P dg vwCl (modelC ck mo (encZ S) (encZ S) F2 F3 F4 (upS (upS (upS (mAns y (actZ T2 (cmdK (M 5) (M 8 3) (stZ (M 5) (M 8 3) x.toNat)) (y 6 ((4 * x) + 1)) (y 6 ((4 * x) + 2)) (y 6 ((4 * x) + 3))).1 (actZ T2 (cmdK (M 5) (M 8 3) (stZ (M 5) (M 8 3) x.toNat)) (y 6 ((4 * x) + 1)) (y 6 ((4 * x) + 2)) (y 6 ((4 * x) + 3))).2.1) 8 6 12) 8 7 x) 8 8 v117)) H := hP
                have hD : va_D A (modelC ck mo (encZ S) (encZ S) F2 F3 F4 (upS (upS (upS (mAns y (actZ T2 (cmdK (M 5) (M 8 3) (stZ (M 5) (M 8 3) x.toNat)) (y 6 ((4 * x) + 1)) (y 6 ((4 * x) + 2)) (y 6 ((4 * x) + 3))).1 (actZ T2 (cmdK (M 5) (M 8 3) (stZ (M 5) (M 8 3) x.toNat)) (y 6 ((4 * x) + 1)) (y 6 ((4 * x) + 2)) (y 6 ((4 * x) + 3))).2.1) 8 6 12) 8 7 x) 8 8 v117)) := hD
                refine lv_aload_n hx hb dX9_execute_177 rfl (lv_at hl 0 rfl) ?_
                refine x_iconst hx hb dX9_execute_178 ?_
                refine x_calli (ws' := modelC ck mo (encZ S) (encZ S) F2 F3 F4 (upS (upS (upS (upS (mAns y (actZ T2 (cmdK (M 5) (M 8 3) (stZ (M 5) (M 8 3) x.toNat)) (y 6 ((4 * x) + 1)) (y 6 ((4 * x) + 2)) (y 6 ((4 * x) + 3))).1 (actZ T2 (cmdK (M 5) (M 8 3) (stZ (M 5) (M 8 3) x.toNat)) (y 6 ((4 * x) + 1)) (y 6 ((4 * x) + 2)) (y 6 ((4 * x) + 3))).2.1) 8 6 12) 8 7 x) 8 8 v117) 8 0 3)) [] (M := modelC ck mo (encZ S) (encZ S) F2 F3 F4 (upS (upS (upS (mAns y (actZ T2 (cmdK (M 5) (M 8 3) (stZ (M 5) (M 8 3) x.toNat)) (y 6 ((4 * x) + 1)) (y 6 ((4 * x) + 2)) (y 6 ((4 * x) + 3))).1 (actZ T2 (cmdK (M 5) (M 8 3) (stZ (M 5) (M 8 3) x.toNat)) (y 6 ((4 * x) + 1)) (y 6 ((4 * x) + 2)) (y 6 ((4 * x) + 3))).2.1) 8 6 12) 8 7 x) 8 8 v117)) (M' := modelC ck mo (encZ S) (encZ S) F2 F3 F4 (upS (upS (upS (upS (mAns y (actZ T2 (cmdK (M 5) (M 8 3) (stZ (M 5) (M 8 3) x.toNat)) (y 6 ((4 * x) + 1)) (y 6 ((4 * x) + 2)) (y 6 ((4 * x) + 3))).1 (actZ T2 (cmdK (M 5) (M 8 3) (stZ (M 5) (M 8 3) x.toNat)) (y 6 ((4 * x) + 1)) (y 6 ((4 * x) + 2)) (y 6 ((4 * x) + 3))).2.1) 8 6 12) 8 7 x) 8 8 v117) 8 0 3)) ([]) (List.append_nil _).symm (List.append_nil _).symm hP hD hS hA (fun hPm hDm => va_runV (As := [.int (zI 3)]) (rest := []) ⟨hx, hb, hml, hown, htg⟩ (m_fails l dg ck mo S (encZ S) F2 F3 F4 (upS (upS (upS (mAns y (actZ T2 (cmdK (M 5) (M 8 3) (stZ (M 5) (M 8 3) x.toNat)) (y 6 ((4 * x) + 1)) (y 6 ((4 * x) + 2)) (y 6 ((4 * x) + 3))).1 (actZ T2 (cmdK (M 5) (M 8 3) (stZ (M 5) (M 8 3) x.toNat)) (y 6 ((4 * x) + 1)) (y 6 ((4 * x) + 2)) (y 6 ((4 * x) + 3))).2.1) 8 6 12) 8 7 x) 8 8 v117) 3 _ ) (cwV 1 htg (gwV wq_1677 wq_1679 wp_40 wq_15 wq_1680) rfl rfl rfl (by decide +kernel) ⟨Nat.le_of_ble_eq_true rfl, Nat.le_of_ble_eq_true rfl⟩) (wr_preV hK hPm hDm 0 11 rfl rfl) rfl rfl hl.1 rfl (lv_room (Nat.le_of_ble_eq_true rfl)) dX9_execute_179 ⟨Nat.zero_le _, Nat.zero_le _⟩) (fun r179 H locs hr179 hP hD hS => ?_)
                subst hr179
                have hCe : (exZ S (M 5) (M 8 3)).2.2.2 = S := (by rw [hx9])
                have hP : va_P dg vwCl (modelC ck mo (encZ (exZ S (M 5) (M 8 3)).2.2.2) (encZ S) F2 F3 F4 (upS (upS (upS (upS (mAns y (actZ T2 (cmdK (M 5) (M 8 3) (stZ (M 5) (M 8 3) x.toNat)) (y 6 ((4 * x) + 1)) (y 6 ((4 * x) + 2)) (y 6 ((4 * x) + 3))).1 (actZ T2 (cmdK (M 5) (M 8 3) (stZ (M 5) (M 8 3) x.toNat)) (y 6 ((4 * x) + 1)) (y 6 ((4 * x) + 2)) (y 6 ((4 * x) + 3))).2.1) 8 6 12) 8 7 x) 8 8 v117) 8 0 3)) _ := va_P_eq (by rw [hCe]) hP
                have hD : va_D A (modelC ck mo (encZ (exZ S (M 5) (M 8 3)).2.2.2) (encZ S) F2 F3 F4 (upS (upS (upS (upS (mAns y (actZ T2 (cmdK (M 5) (M 8 3) (stZ (M 5) (M 8 3) x.toNat)) (y 6 ((4 * x) + 1)) (y 6 ((4 * x) + 2)) (y 6 ((4 * x) + 3))).1 (actZ T2 (cmdK (M 5) (M 8 3) (stZ (M 5) (M 8 3) x.toNat)) (y 6 ((4 * x) + 1)) (y 6 ((4 * x) + 2)) (y 6 ((4 * x) + 3))).2.1) 8 6 12) 8 7 x) 8 8 v117) 8 0 3)) := va_D_eq (by rw [hCe]) hD
                have hCe : (if (exZ S (M 5) (M 8 3)).1 = 0 then hiZ F3 (encZ S) (M 8 1) else F3) = F3 := (by rw [hx9] <;> rfl)
                have hP : va_P dg vwCl (modelC ck mo (encZ (exZ S (M 5) (M 8 3)).2.2.2) (encZ S) F2 (if (exZ S (M 5) (M 8 3)).1 = 0 then hiZ F3 (encZ S) (M 8 1) else F3) F4 (upS (upS (upS (upS (mAns y (actZ T2 (cmdK (M 5) (M 8 3) (stZ (M 5) (M 8 3) x.toNat)) (y 6 ((4 * x) + 1)) (y 6 ((4 * x) + 2)) (y 6 ((4 * x) + 3))).1 (actZ T2 (cmdK (M 5) (M 8 3) (stZ (M 5) (M 8 3) x.toNat)) (y 6 ((4 * x) + 1)) (y 6 ((4 * x) + 2)) (y 6 ((4 * x) + 3))).2.1) 8 6 12) 8 7 x) 8 8 v117) 8 0 3)) _ := va_P_eq (by rw [hCe]) hP
                have hD : va_D A (modelC ck mo (encZ (exZ S (M 5) (M 8 3)).2.2.2) (encZ S) F2 (if (exZ S (M 5) (M 8 3)).1 = 0 then hiZ F3 (encZ S) (M 8 1) else F3) F4 (upS (upS (upS (upS (mAns y (actZ T2 (cmdK (M 5) (M 8 3) (stZ (M 5) (M 8 3) x.toNat)) (y 6 ((4 * x) + 1)) (y 6 ((4 * x) + 2)) (y 6 ((4 * x) + 3))).1 (actZ T2 (cmdK (M 5) (M 8 3) (stZ (M 5) (M 8 3) x.toNat)) (y 6 ((4 * x) + 1)) (y 6 ((4 * x) + 2)) (y 6 ((4 * x) + 3))).2.1) 8 6 12) 8 7 x) 8 8 v117) 8 0 3)) := va_D_eq (by rw [hCe]) hD
                exact W.iret (v := _) hx hb hr (fun t9 ht9 hW9 => ⟨⟨_, (upS (upS (upS (upS (mAns y (actZ T2 (cmdK (M 5) (M 8 3) (stZ (M 5) (M 8 3) x.toNat)) (y 6 ((4 * x) + 1)) (y 6 ((4 * x) + 2)) (y 6 ((4 * x) + 3))).1 (actZ T2 (cmdK (M 5) (M 8 3) (stZ (M 5) (M 8 3) x.toNat)) (y 6 ((4 * x) + 1)) (y 6 ((4 * x) + 2)) (y 6 ((4 * x) + 3))).2.1) 8 6 12) 8 7 x) 8 8 v117) 8 0 3), rfl, (by rw [hx9]; exact ⟨⟨rfl, (by (repeat rw [upS_n (by omega)]); exact (mAns_k (by omega)).trans ((hy8 1 (by decide) (by decide)).trans (a6 1 (by decide) (by decide) (by decide)))), (by (repeat rw [upS_n (by omega)]); exact (mAns_k (by omega)).trans ((hy8 2 (by decide) (by decide)).trans (a6 2 (by decide) (by decide) (by decide)))), (by (repeat rw [upS_n (by omega)]); exact (mAns_k (by omega)).trans ((hy8 3 (by decide) (by decide)).trans (a6 3 (by decide) (by decide) (by decide)))), (by (repeat rw [upS_n (by omega)]); exact (mAns_k (by omega)).trans ((hy8 4 (by decide) (by decide)).trans (a6 4 (by decide) (by decide) (by decide)))), (by (repeat rw [upS_n (by omega)]); exact (mAns_k (by omega)).trans ((hy8 5 (by decide) (by decide)).trans (a6 5 (by decide) (by decide) (by decide)))), rfl, rfl, (show v117 = (cmdA T2 (M 5) (M 8 3) x.toNat).1 by omega), (funext fun i => by (repeat rw [upS_n (by omega)]); exact (mAns_k (by omega)).trans (congrFun (hy5.trans a4) i)), (funext fun i => by (repeat rw [upS_n (by omega)]); exact (mAns_k (by omega)).trans (congrFun (hy7.trans a5) i))⟩, rfl⟩), by rw [ht9]; exact hP, by rw [hAe]; exact hD⟩, hS.F ht9⟩) hS.2.2 dX9_execute_182
              · have hx9 := exZ_2 hpg hr9 (by omega) (by omega)
                refine lv_aload_n hx hb dX9_execute_155 rfl (lv_at hl 0 rfl) ?_
                refine x_iconst hx hb dX9_execute_156 ?_
                refine x_calli (ws' := modelC ck mo (encZ S) (encZ S) F2 F3 F4 (upS (mAns y (actZ T2 (cmdK (M 5) (M 8 3) (stZ (M 5) (M 8 3) x.toNat)) (y 6 ((4 * x) + 1)) (y 6 ((4 * x) + 2)) (y 6 ((4 * x) + 3))).1 (actZ T2 (cmdK (M 5) (M 8 3) (stZ (M 5) (M 8 3) x.toNat)) (y 6 ((4 * x) + 1)) (y 6 ((4 * x) + 2)) (y 6 ((4 * x) + 3))).2.1) 8 0 2)) [] (M := modelC ck mo (encZ S) (encZ S) F2 F3 F4 (mAns y (actZ T2 (cmdK (M 5) (M 8 3) (stZ (M 5) (M 8 3) x.toNat)) (y 6 ((4 * x) + 1)) (y 6 ((4 * x) + 2)) (y 6 ((4 * x) + 3))).1 (actZ T2 (cmdK (M 5) (M 8 3) (stZ (M 5) (M 8 3) x.toNat)) (y 6 ((4 * x) + 1)) (y 6 ((4 * x) + 2)) (y 6 ((4 * x) + 3))).2.1)) (M' := modelC ck mo (encZ S) (encZ S) F2 F3 F4 (upS (mAns y (actZ T2 (cmdK (M 5) (M 8 3) (stZ (M 5) (M 8 3) x.toNat)) (y 6 ((4 * x) + 1)) (y 6 ((4 * x) + 2)) (y 6 ((4 * x) + 3))).1 (actZ T2 (cmdK (M 5) (M 8 3) (stZ (M 5) (M 8 3) x.toNat)) (y 6 ((4 * x) + 1)) (y 6 ((4 * x) + 2)) (y 6 ((4 * x) + 3))).2.1) 8 0 2)) ([]) (List.append_nil _).symm (List.append_nil _).symm hP hD hS hA (fun hPm hDm => va_runV (As := [.int (zI 2)]) (rest := []) ⟨hx, hb, hml, hown, htg⟩ (m_fails l dg ck mo S (encZ S) F2 F3 F4 (mAns y (actZ T2 (cmdK (M 5) (M 8 3) (stZ (M 5) (M 8 3) x.toNat)) (y 6 ((4 * x) + 1)) (y 6 ((4 * x) + 2)) (y 6 ((4 * x) + 3))).1 (actZ T2 (cmdK (M 5) (M 8 3) (stZ (M 5) (M 8 3) x.toNat)) (y 6 ((4 * x) + 1)) (y 6 ((4 * x) + 2)) (y 6 ((4 * x) + 3))).2.1) 2 _ ) (cwV 1 htg (gwV wq_1677 wq_1679 wp_40 wq_15 wq_1680) rfl rfl rfl (by decide +kernel) ⟨Nat.le_of_ble_eq_true rfl, Nat.le_of_ble_eq_true rfl⟩) (wr_preV hK hPm hDm 0 11 rfl rfl) rfl rfl hl.1 rfl (lv_room (Nat.le_of_ble_eq_true rfl)) dX9_execute_157 ⟨Nat.zero_le _, Nat.zero_le _⟩) (fun r157 H locs hr157 hP hD hS => ?_)
                subst hr157
                have hCe : (exZ S (M 5) (M 8 3)).2.2.2 = S := (by rw [hx9])
                have hP : va_P dg vwCl (modelC ck mo (encZ (exZ S (M 5) (M 8 3)).2.2.2) (encZ S) F2 F3 F4 (upS (mAns y (actZ T2 (cmdK (M 5) (M 8 3) (stZ (M 5) (M 8 3) x.toNat)) (y 6 ((4 * x) + 1)) (y 6 ((4 * x) + 2)) (y 6 ((4 * x) + 3))).1 (actZ T2 (cmdK (M 5) (M 8 3) (stZ (M 5) (M 8 3) x.toNat)) (y 6 ((4 * x) + 1)) (y 6 ((4 * x) + 2)) (y 6 ((4 * x) + 3))).2.1) 8 0 2)) _ := va_P_eq (by rw [hCe]) hP
                have hD : va_D A (modelC ck mo (encZ (exZ S (M 5) (M 8 3)).2.2.2) (encZ S) F2 F3 F4 (upS (mAns y (actZ T2 (cmdK (M 5) (M 8 3) (stZ (M 5) (M 8 3) x.toNat)) (y 6 ((4 * x) + 1)) (y 6 ((4 * x) + 2)) (y 6 ((4 * x) + 3))).1 (actZ T2 (cmdK (M 5) (M 8 3) (stZ (M 5) (M 8 3) x.toNat)) (y 6 ((4 * x) + 1)) (y 6 ((4 * x) + 2)) (y 6 ((4 * x) + 3))).2.1) 8 0 2)) := va_D_eq (by rw [hCe]) hD
                have hCe : (if (exZ S (M 5) (M 8 3)).1 = 0 then hiZ F3 (encZ S) (M 8 1) else F3) = F3 := (by rw [hx9] <;> rfl)
                have hP : va_P dg vwCl (modelC ck mo (encZ (exZ S (M 5) (M 8 3)).2.2.2) (encZ S) F2 (if (exZ S (M 5) (M 8 3)).1 = 0 then hiZ F3 (encZ S) (M 8 1) else F3) F4 (upS (mAns y (actZ T2 (cmdK (M 5) (M 8 3) (stZ (M 5) (M 8 3) x.toNat)) (y 6 ((4 * x) + 1)) (y 6 ((4 * x) + 2)) (y 6 ((4 * x) + 3))).1 (actZ T2 (cmdK (M 5) (M 8 3) (stZ (M 5) (M 8 3) x.toNat)) (y 6 ((4 * x) + 1)) (y 6 ((4 * x) + 2)) (y 6 ((4 * x) + 3))).2.1) 8 0 2)) _ := va_P_eq (by rw [hCe]) hP
                have hD : va_D A (modelC ck mo (encZ (exZ S (M 5) (M 8 3)).2.2.2) (encZ S) F2 (if (exZ S (M 5) (M 8 3)).1 = 0 then hiZ F3 (encZ S) (M 8 1) else F3) F4 (upS (mAns y (actZ T2 (cmdK (M 5) (M 8 3) (stZ (M 5) (M 8 3) x.toNat)) (y 6 ((4 * x) + 1)) (y 6 ((4 * x) + 2)) (y 6 ((4 * x) + 3))).1 (actZ T2 (cmdK (M 5) (M 8 3) (stZ (M 5) (M 8 3) x.toNat)) (y 6 ((4 * x) + 1)) (y 6 ((4 * x) + 2)) (y 6 ((4 * x) + 3))).2.1) 8 0 2)) := va_D_eq (by rw [hCe]) hD
                exact W.iret (v := _) hx hb hr (fun t9 ht9 hW9 => ⟨⟨_, (upS (mAns y (actZ T2 (cmdK (M 5) (M 8 3) (stZ (M 5) (M 8 3) x.toNat)) (y 6 ((4 * x) + 1)) (y 6 ((4 * x) + 2)) (y 6 ((4 * x) + 3))).1 (actZ T2 (cmdK (M 5) (M 8 3) (stZ (M 5) (M 8 3) x.toNat)) (y 6 ((4 * x) + 1)) (y 6 ((4 * x) + 2)) (y 6 ((4 * x) + 3))).2.1) 8 0 2), rfl, (by rw [hx9]; exact ⟨⟨rfl, (by (repeat rw [upS_n (by omega)]); exact (mAns_k (by omega)).trans ((hy8 1 (by decide) (by decide)).trans (a6 1 (by decide) (by decide) (by decide)))), (by (repeat rw [upS_n (by omega)]); exact (mAns_k (by omega)).trans ((hy8 2 (by decide) (by decide)).trans (a6 2 (by decide) (by decide) (by decide)))), (by (repeat rw [upS_n (by omega)]); exact (mAns_k (by omega)).trans ((hy8 3 (by decide) (by decide)).trans (a6 3 (by decide) (by decide) (by decide)))), (by (repeat rw [upS_n (by omega)]); exact (mAns_k (by omega)).trans ((hy8 4 (by decide) (by decide)).trans (a6 4 (by decide) (by decide) (by decide)))), (by (repeat rw [upS_n (by omega)]); exact (mAns_k (by omega)).trans ((hy8 5 (by decide) (by decide)).trans (a6 5 (by decide) (by decide) (by decide)))), (by (repeat rw [upS_n (by omega)]); exact (mAns_k (by omega)).trans ((hy8 6 (by decide) (by decide)).trans (a6 6 (by decide) (by decide) (by decide)))), (by (repeat rw [upS_n (by omega)]); exact (mAns_k (by omega)).trans ((hy8 7 (by decide) (by decide)).trans (a6 7 (by decide) (by decide) (by decide)))), (by (repeat rw [upS_n (by omega)]); exact (mAns_k (by omega)).trans ((hy8 8 (by decide) (by decide)).trans (a6 8 (by decide) (by decide) (by decide)))), (funext fun i => by (repeat rw [upS_n (by omega)]); exact (mAns_k (by omega)).trans (congrFun (hy5.trans a4) i)), (funext fun i => by (repeat rw [upS_n (by omega)]); exact (mAns_k (by omega)).trans (congrFun (hy7.trans a5) i))⟩, rfl⟩), by rw [ht9]; exact hP, by rw [hAe]; exact hD⟩, hS.F ht9⟩) hS.2.2 dX9_execute_160
            · refine lv_aload_n hx hb dX9_execute_133 rfl (lv_at hl 0 rfl) ?_
              refine va_get (D := dg) (ci := 11) (v := .ref (mo 1)) (C := RX9) (T := TX9) (N := 23) hx hb htg inG_X9 hown hK hP 0 rfl rfl 1 (Nat.le_of_ble_eq_true rfl) (htg _ wq_1558) (fun _ h9 => h9) rfl dX9_execute_134 ?_
              refine lv_iload_n hx hb dX9_execute_137 rfl (lv_at hl 3 rfl) ?_
              refine lv_aload_n hx hb dX9_execute_138 rfl (lv_at hl 0 rfl) ?_
              refine va_get (D := dg) (ci := 11) (v := .ref (mo 2)) (C := RX9) (T := TX9) (N := 23) hx hb htg inG_X9 hown hK hP 0 rfl rfl 2 (Nat.le_of_ble_eq_true rfl) (htg _ wq_1559) (fun _ h9 => h9) rfl dX9_execute_139 ?_
              refine lv_iload_n hx hb dX9_execute_142 rfl (lv_at hl 3 rfl) ?_
              refine x_iald hx hb hK hP 2 0 (encZ S) rfl rfl (fun _ => rfl) (P := fun _ => True) (fun _ => trivial) (by decide) (by omega) dX9_execute_143 (fun _ => ?_)
              refine x_iastC (ws' := modelC ck mo (mixZ (k + 1) (encZ S) (encZ (cmdA T2 (M 5) (M 8 3) x.toNat).2.2)) (encZ S) F2 F3 F4 (mAns y (actZ T2 (cmdK (M 5) (M 8 3) (stZ (M 5) (M 8 3) x.toNat)) (y 6 ((4 * x) + 1)) (y 6 ((4 * x) + 2)) (y 6 ((4 * x) + 3))).1 (actZ T2 (cmdK (M 5) (M 8 3) (stZ (M 5) (M 8 3) x.toNat)) (y 6 ((4 * x) + 1)) (y 6 ((4 * x) + 2)) (y 6 ((4 * x) + 3))).2.1)) hx hb hK hP hD hS 1 0 rfl rfl (by decide) (by omega) (mix_p (by omega)) rfl dX9_execute_144 (fun H locs hP hD hS => ?_)
              refine lv_iinc (v := zI (k + 1)) (lv' := [(3, .int (zI (k + 1))), (0, .ref (mo 0)), (1, .int (zI x)), (2, .int (zI v117))]) hx hb dX9_execute_145 hl (k := 3) rfl (zI_add _ _) (by decide) rfl (fun ls hl => ?_)
              refine lv_goto (tgt := 127) hx hb dX9_execute_148 (by decide) ?_
              exact ih_127 ((k + 1)) (show 0 ≤ (k + 1) ∧ (k + 1) ≤ 102 from (by omega)) (show (102 - (k + 1)).toNat < (102 - k).toNat from by omega) ls H locs (lv_sub hl [1, 2, 3, 0] rfl) hP hD hS
          · refine lv_goto (tgt := 183) hx hb dX9_execute_122 (by decide) ?_
            obtain ⟨v183, e_v183⟩ : ∃ y : Int, y = x + 1 := ⟨_, rfl⟩
            refine lv_iinc (v := zI v183) (lv' := [(1, .int (zI v183)), (2, .int (zI v117)), (0, .ref (mo 0))]) hx hb dX9_execute_183 hl (k := 2) rfl (by rw [e_v183]; exact zI_add _ _) (by decide) rfl (fun ls hl => ?_)
            refine lv_goto (tgt := 104) hx hb dX9_execute_186 (by decide) ?_
            exact ih_104 ((cmdA T2 (M 5) (M 8 3) x.toNat).2.2, (mAns y (actZ T2 (cmdK (M 5) (M 8 3) (stZ (M 5) (M 8 3) x.toNat)) (y 6 ((4 * x) + 1)) (y 6 ((4 * x) + 2)) (y 6 ((4 * x) + 3))).1 (actZ T2 (cmdK (M 5) (M 8 3) (stZ (M 5) (M 8 3) x.toNat)) (y 6 ((4 * x) + 1)) (y 6 ((4 * x) + 2)) (y 6 ((4 * x) + 3))).2.1), v183) (show (0 ≤ v183 ∧ v183 ≤ (j : Int) + 1) ∧ Inv (Mx + 99 * v183) (cmdA T2 (M 5) (M 8 3) x.toNat).2.2 ∧ runF (M 5) (M 8 3) ((j : Int) + 1) (31 - v183.toNat) v183.toNat (cmdA T2 (M 5) (M 8 3) x.toNat).2.2 = runF (M 5) (M 8 3) ((j : Int) + 1) 31 0 S ∧ (mAns y (actZ T2 (cmdK (M 5) (M 8 3) (stZ (M 5) (M 8 3) x.toNat)) (y 6 ((4 * x) + 1)) (y 6 ((4 * x) + 2)) (y 6 ((4 * x) + 3))).1 (actZ T2 (cmdK (M 5) (M 8 3) (stZ (M 5) (M 8 3) x.toNat)) (y 6 ((4 * x) + 1)) (y 6 ((4 * x) + 2)) (y 6 ((4 * x) + 3))).2.1) 6 = u 6 ∧ (mAns y (actZ T2 (cmdK (M 5) (M 8 3) (stZ (M 5) (M 8 3) x.toNat)) (y 6 ((4 * x) + 1)) (y 6 ((4 * x) + 2)) (y 6 ((4 * x) + 3))).1 (actZ T2 (cmdK (M 5) (M 8 3) (stZ (M 5) (M 8 3) x.toNat)) (y 6 ((4 * x) + 1)) (y 6 ((4 * x) + 2)) (y 6 ((4 * x) + 3))).2.1) 5 = u 5 ∧ (mAns y (actZ T2 (cmdK (M 5) (M 8 3) (stZ (M 5) (M 8 3) x.toNat)) (y 6 ((4 * x) + 1)) (y 6 ((4 * x) + 2)) (y 6 ((4 * x) + 3))).1 (actZ T2 (cmdK (M 5) (M 8 3) (stZ (M 5) (M 8 3) x.toNat)) (y 6 ((4 * x) + 1)) (y 6 ((4 * x) + 2)) (y 6 ((4 * x) + 3))).2.1) 7 = u 7 ∧ (∀ i, i ≠ 9 → i ≠ 10 → (mAns y (actZ T2 (cmdK (M 5) (M 8 3) (stZ (M 5) (M 8 3) x.toNat)) (y 6 ((4 * x) + 1)) (y 6 ((4 * x) + 2)) (y 6 ((4 * x) + 3))).1 (actZ T2 (cmdK (M 5) (M 8 3) (stZ (M 5) (M 8 3) x.toNat)) (y 6 ((4 * x) + 1)) (y 6 ((4 * x) + 2)) (y 6 ((4 * x) + 3))).2.1) 8 i = u 8 i) from ⟨by omega, by rw [← hA4, show Mx + 99 * v183 = Mx + 99 * x + 99 by omega]; exact actZ_inv hVk (by omega), by rw [← hrun, show 31 - x.toNat = (31 - v183.toNat) + 1 by omega, show v183.toNat = x.toNat + 1 by omega]; exact (runF_s (by omega) (by omega)).symm, funext fun i => (mAns_k (by omega)).trans (congrFun hy6 i), funext fun i => (mAns_k (by omega)).trans (congrFun hy5 i), funext fun i => (mAns_k (by omega)).trans (congrFun hy7 i), fun i h1 h2 => (mAns_k (by omega)).trans (hy8 i h1 h2)⟩) (show ((j : Int) + 1 - v183).toNat < ((j : Int) + 1 - x).toNat from by omega) ls H locs (lv_sub hl [2, 0] rfl) hP hD hS
      · have hx9 : exZ S (M 5) (M 8 3) = (1, (cmdR (M 5) (M 8 3) (stZ (M 5) (M 8 3) j)).2.1, 0, S) := exZ_1 (prs_bad (by omega) a9 (by omega))
        refine lv_aload_n hx hb dX9_execute_88 rfl (lv_at hl 0 rfl) ?_
        refine lv_aload_n hx hb dX9_execute_89 rfl (lv_at hl 0 rfl) ?_
        refine va_get (D := dg) (ci := 11) (v := .int (zI (u 8 11))) (C := RX9) (T := TX9) (N := 23) hx hb htg inG_X9 hown hK hP 0 rfl rfl 19 (Nat.le_of_ble_eq_true rfl) (htg _ wq_1576) (fun _ h9 => h9) rfl dX9_execute_90 ?_
        refine va_put (D := dg) (ci := 11) (v := .int (zI (u 8 11))) (ty := .int) (C := RX9) (T := TX9) (N := 23) hx hb htg inG_X9 tyX9 tyX9_ok nmX9 hown hK hP hD hS 0 rfl rfl 13 (Nat.le_of_ble_eq_true rfl) (htg _ wq_1570) (fun _ h9 => h9) rfl (by decide +kernel) rfl rfl (Nat.le_of_ble_eq_true rfl) dX9_execute_93 (fun H locs hP hD hS => ?_)
        have hP : va_P dg vwCl (modelC ck mo (encZ S) (encZ S) F2 F3 F4 (upS u 8 5 (u 8 11))) H := hP
        have hD : va_D A (modelC ck mo (encZ S) (encZ S) F2 F3 F4 (upS u 8 5 (u 8 11))) := hD
        refine lv_aload_n hx hb dX9_execute_96 rfl (lv_at hl 0 rfl) ?_
        refine x_iconst hx hb dX9_execute_97 ?_
        refine x_calli (ws' := modelC ck mo (encZ S) (encZ S) F2 F3 F4 (upS (upS u 8 5 (u 8 11)) 8 0 1)) [] (M := modelC ck mo (encZ S) (encZ S) F2 F3 F4 (upS u 8 5 (u 8 11))) (M' := modelC ck mo (encZ S) (encZ S) F2 F3 F4 (upS (upS u 8 5 (u 8 11)) 8 0 1)) ([]) (List.append_nil _).symm (List.append_nil _).symm hP hD hS hA (fun hPm hDm => va_runV (As := [.int (zI 1)]) (rest := []) ⟨hx, hb, hml, hown, htg⟩ (m_fails l dg ck mo S (encZ S) F2 F3 F4 (upS u 8 5 (u 8 11)) 1 _ ) (cwV 1 htg (gwV wq_1677 wq_1679 wp_40 wq_15 wq_1680) rfl rfl rfl (by decide +kernel) ⟨Nat.le_of_ble_eq_true rfl, Nat.le_of_ble_eq_true rfl⟩) (wr_preV hK hPm hDm 0 11 rfl rfl) rfl rfl hl.1 rfl (lv_room (Nat.le_of_ble_eq_true rfl)) dX9_execute_98 ⟨Nat.zero_le _, Nat.zero_le _⟩) (fun r98 H locs hr98 hP hD hS => ?_)
        subst hr98
        have hCe : (exZ S (M 5) (M 8 3)).2.2.2 = S := (by rw [hx9])
        have hP : va_P dg vwCl (modelC ck mo (encZ (exZ S (M 5) (M 8 3)).2.2.2) (encZ S) F2 F3 F4 (upS (upS u 8 5 (u 8 11)) 8 0 1)) _ := va_P_eq (by rw [hCe]) hP
        have hD : va_D A (modelC ck mo (encZ (exZ S (M 5) (M 8 3)).2.2.2) (encZ S) F2 F3 F4 (upS (upS u 8 5 (u 8 11)) 8 0 1)) := va_D_eq (by rw [hCe]) hD
        have hCe : (if (exZ S (M 5) (M 8 3)).1 = 0 then hiZ F3 (encZ S) (M 8 1) else F3) = F3 := (by rw [hx9] <;> rfl)
        have hP : va_P dg vwCl (modelC ck mo (encZ (exZ S (M 5) (M 8 3)).2.2.2) (encZ S) F2 (if (exZ S (M 5) (M 8 3)).1 = 0 then hiZ F3 (encZ S) (M 8 1) else F3) F4 (upS (upS u 8 5 (u 8 11)) 8 0 1)) _ := va_P_eq (by rw [hCe]) hP
        have hD : va_D A (modelC ck mo (encZ (exZ S (M 5) (M 8 3)).2.2.2) (encZ S) F2 (if (exZ S (M 5) (M 8 3)).1 = 0 then hiZ F3 (encZ S) (M 8 1) else F3) F4 (upS (upS u 8 5 (u 8 11)) 8 0 1)) := va_D_eq (by rw [hCe]) hD
        exact W.iret (v := _) hx hb hr (fun t9 ht9 hW9 => ⟨⟨_, (upS (upS u 8 5 (u 8 11)) 8 0 1), rfl, (by rw [hx9]; exact ⟨⟨rfl, (a6 1 (by decide) (by decide) (by decide)), (a6 2 (by decide) (by decide) (by decide)), (a6 3 (by decide) (by decide) (by decide)), (a6 4 (by decide) (by decide) (by decide)), (a2.trans rfl), (a6 6 (by decide) (by decide) (by decide)), (a6 7 (by decide) (by decide) (by decide)), (a6 8 (by decide) (by decide) (by decide)), a4, a5⟩, rfl⟩), by rw [ht9]; exact hP, by rw [hAe]; exact hD⟩, hS.F ht9⟩) hS.2.2 dX9_execute_101
  · refine va_get (D := dg) (ci := 11) (v := .int (zI (u 8 14))) (C := RX9) (T := TX9) (N := 23) hx hb htg inG_X9 hown hK hP 0 rfl rfl 22 (Nat.le_of_ble_eq_true rfl) (htg _ wq_1579) (fun _ h9 => h9) rfl dX9_execute_37 ?_
    refine x_if_ne (tgt := 70) hx hb dX9_execute_40 (by decide) (by omega) (fun c40 => ?_) (fun c40 => ?_)
    · exact mid_70 (()) (show u 8 14 ≠ 0 ∨ chA (M 5) (M 8 3) (cmdR (M 5) (M 8 3) (stZ (M 5) (M 8 3) j)).2.1 ≠ 59 from (by omega)) ls H locs (lv_sub hl [0] rfl) hP hD hS
    · refine lv_aload_n hx hb dX9_execute_43 rfl (lv_at hl 0 rfl) ?_
      refine x_iconst hx hb dX9_execute_44 ?_
      refine vp_callSi (W.runV (As := [.int (zI 0)]) (rest := []) ⟨hx, hb, hml, hown, htg⟩ (m_here l dg ck mo S (encZ S) F2 F3 F4 u 0 (by omega) (show 0 ≤ (u 8 11) ∧ (u 8 11) ≤ (u 8 12) ∧ (u 8 12) ≤ 60 by omega)) (cwV 1 htg (gwV wq_2038 wq_2040 wp_74 wq_15 wq_2041) rfl rfl rfl (by decide +kernel) ⟨Nat.le_of_ble_eq_true rfl, Nat.le_of_ble_eq_true rfl⟩) (rd_preV hK hP 0 11 rfl rfl) rfl rfl hl.1 rfl (lv_room (Nat.le_of_ble_eq_true rfl)) dX9_execute_45 ⟨Nat.zero_le _, Nat.zero_le _⟩) (fun r45 hr45 => ?_)
      subst hr45
      refine x_is (show (chA (u 5) (u 8 12) (u 8 11 + 0)) = (chA (u 5) (u 8 12) (u 8 11)) from (congrArg (chA (u 5) (u 8 12)) (Int.add_zero (u 8 11)))) ?_
      refine x_bipush hx hb dX9_execute_48 (by decide) ?_
      refine x_icmp_ne (tgt := 70) hx hb dX9_execute_50 (by decide) (by omega) (by omega) (fun c50 => ?_) (fun c50 => ?_)
      · exact mid_70 (()) (show u 8 14 ≠ 0 ∨ chA (M 5) (M 8 3) (cmdR (M 5) (M 8 3) (stZ (M 5) (M 8 3) j)).2.1 ≠ 59 from (by omega)) ls H locs (lv_sub hl [0] rfl) hP hD hS
      · have hlt := chA_lt (T := M 5) (n := M 8 3) (show chA (M 5) (M 8 3) (cmdR (M 5) (M 8 3) (stZ (M 5) (M 8 3) j)).2.1 = 59 by omega) (by decide)
        have hok := (hbb.2.2.2.2.2.2 (show (cmdR (M 5) (M 8 3) (stZ (M 5) (M 8 3) j)).1 = 0 by omega)).1
        refine lv_aload_n hx hb dX9_execute_53 rfl (lv_at hl 0 rfl) ?_
        refine lv_dup hx hb dX9_execute_54 rfl ?_
        refine va_get (D := dg) (ci := 11) (v := .int (zI (u 8 11))) (C := RX9) (T := TX9) (N := 23) hx hb htg inG_X9 hown hK hP 0 rfl rfl 19 (Nat.le_of_ble_eq_true rfl) (htg _ wq_1576) (fun _ h9 => h9) rfl dX9_execute_55 ?_
        refine x_iconst hx hb dX9_execute_58 ?_
        refine x_iadd hx hb dX9_execute_59 ?_
        refine va_put (D := dg) (ci := 11) (v := .int (zI ((u 8 11) + 1))) (ty := .int) (C := RX9) (T := TX9) (N := 23) hx hb htg inG_X9 tyX9 tyX9_ok nmX9 hown hK hP hD hS 0 rfl rfl 19 (Nat.le_of_ble_eq_true rfl) (htg _ wq_1576) (fun _ h9 => h9) rfl (by decide +kernel) rfl rfl (Nat.le_of_ble_eq_true rfl) dX9_execute_60 (fun H locs hP hD hS => ?_)
        have hP : va_P dg vwCl (modelC ck mo (encZ S) (encZ S) F2 F3 F4 (upS u 8 11 ((u 8 11) + 1))) H := hP
        have hD : va_D A (modelC ck mo (encZ S) (encZ S) F2 F3 F4 (upS u 8 11 ((u 8 11) + 1))) := hD
        refine lv_aload_n hx hb dX9_execute_63 rfl (lv_at hl 0 rfl) ?_
        refine x_callvU hP hD hS hA (va_runV (As := []) (rest := []) ⟨hx, hb, hml, hown, htg⟩ (m_readsOne l dg ck ka mo S (encZ S) F2 F3 F4 (upS u 8 11 ((u 8 11) + 1)) _ (show 0 ≤ (u 8 13) ∧ (u 8 13) ≤ 59 by omega) (show 0 ≤ ((u 8 11) + 1) ∧ ((u 8 11) + 1) ≤ (u 8 12) ∧ (u 8 12) ≤ 60 by omega) (show (u 8 14) = 0 by omega) htu) (cwV 0 htg (gwV wq_2034 wq_2036 wp_73 wq_15 wq_2037) rfl rfl rfl (by decide +kernel) ⟨Nat.le_of_ble_eq_true rfl, Nat.le_of_ble_eq_true rfl⟩) (wrK_preV hK hP hD hC hS hA 0 11 rfl rfl) rfl rfl hl.1 rfl (lv_room (Nat.le_of_ble_eq_true rfl)) dX9_execute_64 ⟨Nat.zero_le _, Nat.zero_le _⟩) (fun M64 H locs hM64 hP hD hS => ?_)
        have hP : va_P dg vwCl (modelC ck mo (encZ S) (encZ S) F2 F3 F4 M64) H := hP
        have hD : va_D A (modelC ck mo (encZ S) (encZ S) F2 F3 F4 M64) := hD
        refine lv_goto (tgt := 36) hx hb dX9_execute_67 (by decide) ?_
        exact ih_36 (M64, (j + 1)) (show prI ((upS (upS (upS (upS (upS (upS M 8 0 0) 8 11 0) 8 12 (M 8 3)) 8 3 0) 8 13 0) 8 14 0)) (M 5) (M 8 3) M64 (j + 1) from (prI_s ⟨⟨a1, a2, a3⟩, a4, a5, a6, a7, a8, a9, a10, a11⟩ (by omega) (by omega) hM64)) (show (60 - stZ (M 5) (M 8 3) (j + 1)).toNat < (60 - stZ (M 5) (M 8 3) j).toNat from by omega) ls H locs (lv_sub hl [0] rfl) hP hD hS
