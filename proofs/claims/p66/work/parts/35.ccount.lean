/-! the class: commands counted -/
def ccP (I u : St) : Prop := u 0 0 = I 0 0 ∧ u 1 = I 1 ∧ (0 ≤ u 0 2 ∧ u 0 2 ≤ 9) ∧ ((prsZ (I 1) (I 0 0)).1 ≠ 0 → u 0 1 = (prsZ (I 1) (I 0 0)).2)
theorem prF_ok {T : Int → Int} {n v : Int} : ∀ (f j : Nat), prsF T n f j = (0, v) → (j : Int) < v ∧ v ≤ j + f ∧ ∀ i : Nat, j ≤ i → (i : Int) < v → (cmdR T n (stZ T n i)).1 = 0 ∧ ((i : Int) + 1 < v → chA T n (cmdR T n (stZ T n i)).2.1 = 59)
  | 0, j, h => absurd (show (1 : Int) = 0 from congrArg (fun q => q.1) h) (by decide)
  | f + 1, j, h => by
    have h : (if (cmdR T n (stZ T n j)).1 ≠ 0 then (1, (cmdR T n (stZ T n j)).2.1) else if chA T n (cmdR T n (stZ T n j)).2.1 = 59 then prsF T n f (j + 1) else if (cmdR T n (stZ T n j)).2.1 < n then (1, (cmdR T n (stZ T n j)).2.1) else (0, (j : Int) + 1)) = ((0 : Int), v) := h
    by_cases c : (cmdR T n (stZ T n j)).1 ≠ 0
    · rw [if_pos c] at h
      exact absurd (show (1 : Int) = 0 from congrArg (fun q => q.1) h) (by decide)
    · rw [if_neg c] at h
      have c' : (cmdR T n (stZ T n j)).1 = 0 := Classical.byContradiction c
      by_cases c2 : chA T n (cmdR T n (stZ T n j)).2.1 = 59
      · rw [if_pos c2] at h
        obtain ⟨h1, h2, h3⟩ := prF_ok f (j + 1) h
        refine ⟨by omega, by omega, fun i hi hv => ?_⟩
        by_cases e : i = j
        · subst e
          exact ⟨c', fun _ => c2⟩
        · exact h3 i (by omega) hv
      · rw [if_neg c2] at h
        by_cases c3 : (cmdR T n (stZ T n j)).2.1 < n
        · rw [if_pos c3] at h
          exact absurd (show (1 : Int) = 0 from congrArg (fun q => q.1) h) (by decide)
        · rw [if_neg c3] at h
          have hv : (j : Int) + 1 = v := congrArg (fun q => q.2) h
          refine ⟨by omega, by omega, fun i hi hlt => ?_⟩
          obtain rfl : i = j := by omega
          exact ⟨c', fun q => by omega⟩
theorem prs_ok {T : Int → Int} {n v : Int} (h : prsZ T n = (0, v)) : (1 ≤ v ∧ v ≤ 31) ∧ ∀ i : Nat, (i : Int) < v → (cmdR T n (stZ T n i)).1 = 0 ∧ ((i : Int) + 1 < v → chA T n (cmdR T n (stZ T n i)).2.1 = 59) := by
  have h9 := prF_ok 31 0 h
  exact ⟨by omega, fun i hi => h9.2.2 i (Nat.zero_le _) hi⟩
theorem prs_01 (T : Int → Int) (n : Int) : (prsZ T n).1 = 0 ∨ (prsZ T n).1 = 1 := by
  have key : ∀ f j, (prsF T n f j).1 = 0 ∨ (prsF T n f j).1 = 1 := fun f => by
    induction f with
    | zero => exact fun j => Or.inr rfl
    | succ f ih =>
      intro j
      have h : prsF T n (f + 1) j = (if (cmdR T n (stZ T n j)).1 ≠ 0 then (1, (cmdR T n (stZ T n j)).2.1) else if chA T n (cmdR T n (stZ T n j)).2.1 = 59 then prsF T n f (j + 1) else if (cmdR T n (stZ T n j)).2.1 < n then (1, (cmdR T n (stZ T n j)).2.1) else (0, (j : Int) + 1)) := rfl
      rw [h]
      split
      · exact Or.inr rfl
      · split
        · exact ih _
        · split
          · exact Or.inr rfl
          · exact Or.inl rfl
  exact key 31 0

set_option maxHeartbeats 4000000 in
set_option maxRecDepth 100000 in
/-- BenchBroker$Input.countCommands -/
theorem i_count (l : Launch) (dg : va_G) (ck : Nat → ClassId) (ka : Nat → Nat) (wa : Nat → Nat) (I : St) (sz : Nat) (hkv : 0 ≤ I 0 2 ∧ I 0 2 ≤ 9) (hln : 0 ≤ I 0 0 ∧ I 0 0 ≤ 60) (htx : ∀ i, 0 ≤ i → i < 60 → 0 ≤ I 1 i ∧ I 1 i ≤ 126) : Met l yX3_countCommands (.code yX3_countCommands cX3_countCommands 2 (some .int) :: GW) ({ frames := 7, cells := 0, slots := 0, locals := 153 }) (va_Pc [.ref (wa 0)] (wrK dg ck ka sz (inputC ck ka wa I))) (va_Qi (fun r (u : St) => ccP I u ∧ r = zI (if (prsZ (I 1) (I 0 0)).1 = 0 then (prsZ (I 1) (I 0 0)).2 else -1)) (fun u t9 => wrQ dg sz (inputC ck ka wa I) (inputC ck ka wa u) t9) (va_A (inputC ck ka wa I) sz)) 0 0 (va_A (inputC ck ka wa I) sz) := by
  refine Met.ofW (cc := cX3_countCommands) (maxL := 2) (ret := (some .int)) (by decide) rfl ?_
  intro p e s m args below meth c s₁ B hml hv
  obtain ⟨rfl, ⟨hsz, hP, hK, hD0⟩, hC⟩ := hv
  have hx := B.exec
  have hb := B.bytes
  have hr := B.returns
  have hts := atoms_spec (ws := .code yX3_countCommands cX3_countCommands 2 (some .int) :: GW) B.pre
  have htg : ∀ w ∈ GW, w.before _ s = true := fun w h => hts w (List.mem_cons_of_mem _ h)
  have hown : s.vm.findClass RX3 = some m.cls := findClass_of_methodNamed B.named
  have hlocks := B.notSynchronized
  subst hsz
  have hD := hD0.self (sz := s.heap.size)
  generalize hAe : va_A (inputC ck ka wa I) s.heap.size = A at hD hC ⊢
  have hA : ∀ q : Nat, s.heap.size ≤ q → A q := fun q h => by rw [← hAe]; exact Or.inr h
  have hS : va_S A s.heap s.heap [] := va_S.rf
  have hP : va_P dg vwCl (inputC ck ka wa I) s.heap := hP
  have hl := lv_entry ([.ref (wa 0)]) (n := 2) (Nat.le_of_ble_eq_true rfl)
  rw [lg_entry_eq]
  generalize (lg_sl ([.ref (wa 0)]) ++ List.replicate (2 - (lg_sl ([.ref (wa 0)])).length) Slot.unset).toArray = ls at hl ⊢
  have hl : lv_has ls 2 [(0, .ref (wa 0))] := hl
  refine lv_aload_n hx hb dX3_countCommands_0 rfl (lv_at hl 0 rfl) ?_
  refine x_iconst hx hb dX3_countCommands_1 ?_
  refine va_put (D := dg) (ci := 6) (v := .int (zI 0)) (ty := .int) (C := RX3) (T := TX3) (N := 5) hx hb htg inG_X3 tyX3 tyX3_ok nmX3 hown hK hP hD hS 0 rfl rfl 2 (Nat.le_of_ble_eq_true rfl) (htg _ wq_228) (fun _ h9 => h9) rfl (by decide +kernel) rfl rfl (Nat.le_of_ble_eq_true rfl) dX3_countCommands_2 (fun H locs hP hD hS => ?_)
  have hP : va_P dg vwCl (inputC ck ka wa (upS I 0 1 0)) H := hP
  have hD : va_D A (inputC ck ka wa (upS I 0 1 0)) := hD
  refine x_iconst hx hb dX3_countCommands_5 ?_
  refine lv_istore_n (lv' := [(1, .int (zI 1)), (0, .ref (wa 0))]) hx hb dX3_countCommands_6 rfl hl (by decide) rfl (fun ls hl => ?_)
  refine x_loopW (ι := St × Int) (fun v => 1 ≤ v.2 ∧ v.1 0 0 = I 0 0 ∧ v.1 1 = I 1 ∧ (0 ≤ v.1 0 2 ∧ v.1 0 2 ≤ 9) ∧ v.1 0 1 = stZ (I 1) (I 0 0) (v.2 - 1).toNat ∧ (∀ i, i < (v.2 - 1).toNat → gdP (I 1) (I 0 0) i) ∧ 2 * (v.2 - 1) ≤ stZ (I 1) (I 0 0) (v.2 - 1).toNat ∧ stZ (I 1) (I 0 0) (v.2 - 1).toNat ≤ I 0 0) (fun v => (61 - v.2).toNat) (fun v => [(0, .ref (wa 0)), (1, .int (zI v.2))]) (fun v => inputC ck ka wa v.1) ((upS I 0 1 0), 1) (show 1 ≤ (1 : Int) ∧ (upS I 0 1 0) 0 0 = I 0 0 ∧ (upS I 0 1 0) 1 = I 1 ∧ (0 ≤ (upS I 0 1 0) 0 2 ∧ (upS I 0 1 0) 0 2 ≤ 9) ∧ (upS I 0 1 0) 0 1 = stZ (I 1) (I 0 0) ((1 : Int) - 1).toNat ∧ (∀ i, i < ((1 : Int) - 1).toNat → gdP (I 1) (I 0 0) i) ∧ 2 * ((1 : Int) - 1) ≤ stZ (I 1) (I 0 0) ((1 : Int) - 1).toNat ∧ stZ (I 1) (I 0 0) ((1 : Int) - 1).toNat ≤ I 0 0 from ⟨by omega, rfl, rfl, hkv, rfl, fun i hi => absurd hi (Nat.not_lt_zero _), by show (0 : Int) ≤ 0; omega, hln.1⟩) (lv_sub hl [1, 0] rfl) hP hD hS ?_
  intro v hv ih_7 ls H locs hl hP hD hS
  obtain ⟨y, x⟩ := v
  have hl : lv_has ls 2 [(0, .ref (wa 0)), (1, .int (zI x))] := hl
  have hv : 1 ≤ x ∧ y 0 0 = I 0 0 ∧ y 1 = I 1 ∧ (0 ≤ y 0 2 ∧ y 0 2 ≤ 9) ∧ y 0 1 = stZ (I 1) (I 0 0) (x - 1).toNat ∧ (∀ i, i < (x - 1).toNat → gdP (I 1) (I 0 0) i) ∧ 2 * (x - 1) ≤ stZ (I 1) (I 0 0) (x - 1).toNat ∧ stZ (I 1) (I 0 0) (x - 1).toNat ≤ I 0 0 := hv
  have hP : va_P dg vwCl (inputC ck ka wa y) H := hP
  have hD : va_D A (inputC ck ka wa y) := hD
  obtain ⟨hx1, hy0, hy1, hy2, hyp, hgd, hs2, hsn⟩ := hv
  have hty : ∀ i, 0 ≤ i → i < 60 → 0 ≤ y 1 i ∧ y 1 i ≤ 126 := by rw [hy1]; exact htx
  have hcb := cmdR_b (T := I 1) hsn
  have hcr : cmdR (y 1) (y 0 0) (y 0 1) = (cmdR (I 1) (I 0 0) (stZ (I 1) (I 0 0) (x - 1).toNat)) := by rw [hy1, hy0, hyp]
  have hj9 : (x - 1).toNat ≤ 30 := by omega
  refine lv_iload_n hx hb dX3_countCommands_7 rfl (lv_at hl 1 rfl) ?_
  refine x_bipush hx hb dX3_countCommands_8 (by decide) ?_
  refine x_icmp_gt (tgt := 52) hx hb dX3_countCommands_10 (by decide) (by omega) (by omega) (fun c10 => ?_) (fun c10 => ?_)
  · exfalso; omega
  · refine lv_aload_n hx hb dX3_countCommands_13 rfl (lv_at hl 0 rfl) ?_
    refine x_calliU hP hD hS hA (va_runV (As := []) (rest := []) ⟨hx, hb, hml, hown, htg⟩ (i_readCommand l dg ck ka wa y _ hy2 (show 0 ≤ (y 0 1) ∧ (y 0 1) ≤ (y 0 0) ∧ (y 0 0) ≤ 60 by omega) hty) (cwV 0 htg (gwV wq_1127 wq_1128 wq_1129 wq_8 wq_1130) rfl rfl rfl (by decide +kernel) ⟨Nat.le_of_ble_eq_true rfl, Nat.le_of_ble_eq_true rfl⟩) (wrK_preV hK hP hD hC hS hA 0 6 rfl rfl) rfl rfl hl.1 rfl (lv_room (Nat.le_of_ble_eq_true rfl)) dX3_countCommands_14 ⟨Nat.zero_le _, Nat.zero_le _⟩) (fun r14 M14 H locs hM14 hP hD hS => ?_)
    have hP : va_P dg vwCl (inputC ck ka wa M14) H := hP
    have hD : va_D A (inputC ck ka wa M14) := hD
    obtain ⟨hM14, rfl⟩ := hM14
    obtain ⟨q0, q1, qp, hm2, -⟩ := hM14
    have hm0 : M14 0 0 = I 0 0 := q0.trans hy0
    have hm1 : M14 1 = I 1 := q1.trans hy1
    have hmp : M14 0 1 = (cmdR (I 1) (I 0 0) (stZ (I 1) (I 0 0) (x - 1).toNat)).2.1 := by rw [qp, hcr]
    have htm : ∀ i, 0 ≤ i → i < 60 → 0 ≤ M14 1 i ∧ M14 1 i ≤ 126 := by rw [hm1]; exact htx
    refine x_bz_ne (tgt := 22) hx hb dX3_countCommands_17 (by decide) (fun c17 => ?_) (fun c17 => ?_)
    · have hok : (cmdR (I 1) (I 0 0) (stZ (I 1) (I 0 0) (x - 1).toNat)).1 = 0 := by rw [← hcr]; exact c17
      refine lv_aload_n hx hb dX3_countCommands_22 rfl (lv_at hl 0 rfl) ?_
      refine va_get (D := dg) (ci := 6) (v := .int (zI (M14 0 1))) (C := RX3) (T := TX3) (N := 5) hx hb htg inG_X3 hown hK hP 0 rfl rfl 2 (Nat.le_of_ble_eq_true rfl) (htg _ wq_228) (fun _ h9 => h9) rfl dX3_countCommands_23 ?_
      refine lv_aload_n hx hb dX3_countCommands_26 rfl (lv_at hl 0 rfl) ?_
      refine va_get (D := dg) (ci := 6) (v := .int (zI (M14 0 0))) (C := RX3) (T := TX3) (N := 5) hx hb htg inG_X3 hown hK hP 0 rfl rfl 1 (Nat.le_of_ble_eq_true rfl) (htg _ wq_226) (fun _ h9 => h9) rfl dX3_countCommands_27 ?_
      refine x_icmp_ne (tgt := 35) hx hb dX3_countCommands_30 (by decide) (by omega) (by omega) (fun c30 => ?_) (fun c30 => ?_)
      · refine lv_aload_n hx hb dX3_countCommands_35 rfl (lv_at hl 0 rfl) ?_
        refine x_bipush hx hb dX3_countCommands_36 (by decide) ?_
        refine x_calli (ws' := inputC ck ka wa (upS M14 0 1 ((M14 0 1) + bI ((chA (M14 1) (M14 0 0) (M14 0 1)) = 59)))) [] (M := inputC ck ka wa M14) (M' := inputC ck ka wa (upS M14 0 1 ((M14 0 1) + bI ((chA (M14 1) (M14 0 0) (M14 0 1)) = 59)))) ([]) (List.append_nil _).symm (List.append_nil _).symm hP hD hS hA (fun hPm hDm => va_runV (As := [.int (zI 59)]) (rest := []) ⟨hx, hb, hml, hown, htg⟩ (i_readSign l dg ck ka wa M14 59 _ (by omega) (show 0 ≤ (M14 0 1) ∧ (M14 0 1) ≤ (M14 0 0) ∧ (M14 0 0) ≤ 60 by omega) htm) (cwV 1 htg (gwV wq_1148 wq_1149 wq_1150 wq_8 wq_1151) rfl rfl rfl (by decide +kernel) ⟨Nat.le_of_ble_eq_true rfl, Nat.le_of_ble_eq_true rfl⟩) (wrK_preV hK hPm hDm hC hS hA 0 6 rfl rfl) rfl rfl hl.1 rfl (lv_room (Nat.le_of_ble_eq_true rfl)) dX3_countCommands_38 ⟨Nat.zero_le _, Nat.zero_le _⟩) (fun r38 H locs hr38 hP hD hS => ?_)
        subst hr38
        refine x_bz_ne (tgt := 46) hx hb dX3_countCommands_41 (by decide) (fun c41 => ?_) (fun c41 => ?_)
        · obtain ⟨v46, e_v46⟩ : ∃ y : Int, y = x + 1 := ⟨_, rfl⟩
          refine lv_iinc (v := zI v46) (lv' := [(1, .int (zI v46)), (0, .ref (wa 0))]) hx hb dX3_countCommands_46 hl (k := 1) rfl (by rw [e_v46]; exact zI_add _ _) (by decide) rfl (fun ls hl => ?_)
          refine lv_goto (tgt := 7) hx hb dX3_countCommands_49 (by decide) ?_
          exact ih_7 ((upS M14 0 1 ((M14 0 1) + bI ((chA (M14 1) (M14 0 0) (M14 0 1)) = 59))), v46) (show 1 ≤ v46 ∧ (upS M14 0 1 ((M14 0 1) + bI ((chA (M14 1) (M14 0 0) (M14 0 1)) = 59))) 0 0 = I 0 0 ∧ (upS M14 0 1 ((M14 0 1) + bI ((chA (M14 1) (M14 0 0) (M14 0 1)) = 59))) 1 = I 1 ∧ (0 ≤ (upS M14 0 1 ((M14 0 1) + bI ((chA (M14 1) (M14 0 0) (M14 0 1)) = 59))) 0 2 ∧ (upS M14 0 1 ((M14 0 1) + bI ((chA (M14 1) (M14 0 0) (M14 0 1)) = 59))) 0 2 ≤ 9) ∧ (upS M14 0 1 ((M14 0 1) + bI ((chA (M14 1) (M14 0 0) (M14 0 1)) = 59))) 0 1 = stZ (I 1) (I 0 0) (v46 - 1).toNat ∧ (∀ i, i < (v46 - 1).toNat → gdP (I 1) (I 0 0) i) ∧ 2 * (v46 - 1) ≤ stZ (I 1) (I 0 0) (v46 - 1).toNat ∧ stZ (I 1) (I 0 0) (v46 - 1).toNat ≤ I 0 0 from (by have e9 : (v46 - 1).toNat = (x - 1).toNat + 1 := (by omega); have h59 : chA (I 1) (I 0 0) (cmdR (I 1) (I 0 0) (stZ (I 1) (I 0 0) (x - 1).toNat)).2.1 = 59 := (by rw [← hmp, ← hm1, ← hm0]; exact c41); have hlt := chA_lt h59 (by decide); have hst : stZ (I 1) (I 0 0) ((x - 1).toNat + 1) = (cmdR (I 1) (I 0 0) (stZ (I 1) (I 0 0) (x - 1).toNat)).2.1 + 1 := rfl; exact ⟨by omega, hm0, hm1, hm2, (show M14 0 1 + bI (chA (M14 1) (M14 0 0) (M14 0 1) = 59) = _ by rw [bI_t c41, e9, hst, hmp]), fun i hi => (Classical.em (i = (x - 1).toNat)).elim (fun ej => by rw [ej]; exact ⟨hok, h59⟩) (fun ej => hgd i (by omega)), by rw [e9, hst]; omega, by rw [e9, hst]; omega⟩)) (show (61 - v46).toNat < (61 - x).toNat from by omega) ls H locs (lv_sub hl [1, 0] rfl) hP hD hS
        · have hpz : prsZ (I 1) (I 0 0) = (1, (cmdR (I 1) (I 0 0) (stZ (I 1) (I 0 0) (x - 1).toNat)).2.1) := prs_bad hj9 hgd (Or.inr ⟨by rw [← hmp, ← hm1, ← hm0]; exact c41, by omega⟩)
          refine x_iconst hx hb dX3_countCommands_44 ?_
          exact W.iret (v := _) hx hb hr (fun t9 ht9 hW9 => ⟨⟨_, (upS M14 0 1 ((M14 0 1) + bI ((chA (M14 1) (M14 0 0) (M14 0 1)) = 59))), rfl, (by unfold ccP; rw [hpz]; exact ⟨⟨hm0, hm1, hm2, fun _ => (show M14 0 1 + bI (chA (M14 1) (M14 0 0) (M14 0 1) = 59) = _ by rw [bI_f c41, Int.add_zero]; exact hmp)⟩, rfl⟩), by rw [ht9]; exact hP, by rw [hAe]; exact hD⟩, hS.F ht9⟩) hS.2.2 dX3_countCommands_45
      · have hpz : prsZ (I 1) (I 0 0) = (0, ((x - 1).toNat : Int) + 1) := prs_good hj9 hgd hok (fun q => by have := chA_lt q (by decide); omega) (by omega)
        refine lv_iload_n hx hb dX3_countCommands_33 rfl (lv_at hl 1 rfl) ?_
        exact W.iret (v := _) hx hb hr (fun t9 ht9 hW9 => ⟨⟨_, M14, rfl, (by unfold ccP; rw [hpz]; exact ⟨⟨hm0, hm1, hm2, fun q => absurd rfl q⟩, congrArg zI (show x = ((x - 1).toNat : Int) + 1 by omega)⟩), by rw [ht9]; exact hP, by rw [hAe]; exact hD⟩, hS.F ht9⟩) hS.2.2 dX3_countCommands_34
    · have hpz : prsZ (I 1) (I 0 0) = (1, (cmdR (I 1) (I 0 0) (stZ (I 1) (I 0 0) (x - 1).toNat)).2.1) := prs_bad hj9 hgd (Or.inl (by rw [← hcr]; exact c17))
      refine x_iconst hx hb dX3_countCommands_20 ?_
      exact W.iret (v := _) hx hb hr (fun t9 ht9 hW9 => ⟨⟨_, M14, rfl, (by unfold ccP; rw [hpz]; exact ⟨⟨hm0, hm1, hm2, fun _ => hmp⟩, rfl⟩), by rw [ht9]; exact hP, by rw [hAe]; exact hD⟩, hS.F ht9⟩) hS.2.2 dX3_countCommands_21
