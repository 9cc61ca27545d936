/-! the reference: mean rent, share let -/
theorem nn_d : ∀ a, a < 201 → ∀ b, b < 11 → vf_n64 (FP.ddiv (FP.i2d (zI (a : Nat))) (FP.i2d (zI ((b : Nat) + 1 : Nat)))) := by unfold vf_n64; decide +kernel
theorem nn_f : ∀ a, a < 11 → ∀ b, b < 11 → vf_n32 (FP.fdiv (FP.i2f (zI (a : Nat))) (FP.i2f (zI ((b : Nat) + 1 : Nat)))) := by unfold vf_n32; decide +kernel
theorem nnD {a b : Int} (ha : 0 ≤ a ∧ a ≤ 200) (hb : 1 ≤ b ∧ b ≤ 10) : vf_n64 (FP.ddiv (FP.i2d (zI a)) (FP.i2d (zI b))) := by
  have h := nn_d a.toNat (by omega) (b.toNat - 1) (by omega)
  rw [Int.toNat_of_nonneg ha.1, show (((b.toNat - 1) + 1 : Nat) : Int) = b by omega] at h
  exact h
theorem nnF {a b : Int} (ha : 0 ≤ a ∧ a ≤ 10) (hb : 1 ≤ b ∧ b ≤ 10) : vf_n32 (FP.fdiv (FP.i2f (zI a)) (FP.i2f (zI b))) := by
  have h := nn_f a.toNat (by omega) (b.toNat - 1) (by omega)
  rw [Int.toNat_of_nonneg ha.1, show (((b.toNat - 1) + 1 : Nat) : Int) = b by omega] at h
  exact h
def mrD (S : St) : UInt64 := if S 0 0 = 0 then FP.dconst0 else FP.ddiv (FP.i2d (zI (sumZ (rent S) (S 0 0).toNat))) (FP.i2d (zI (S 0 0)))
def lsF (S : St) : UInt32 := if S 0 0 = 0 then FP.fconst0 else FP.fdiv (FP.i2f (zI (sumZ (fun o => bI (S 4 o ≠ 0)) (S 0 0).toNat))) (FP.i2f (zI (S 0 0)))

set_option maxHeartbeats 4000000 in
set_option maxRecDepth 100000 in
/-- BenchBrokerModel.meanRent -/
theorem m_meanRent (l : Launch) (dg : va_G) (ck : Nat → ClassId) (mo : Nat → Nat) (S : St) (F1 F2 F3 F4 : Int → Int) (M : St) (sz : Nat) (hI : Bd S)  : Met l yX9_meanRent (.code yX9_meanRent cX9_meanRent 3 (some .double) :: GW) ({ frames := 4, cells := 0, slots := 0, locals := 91 }) (va_Pc [.ref (mo 0)] (wrP dg ck sz (modelC ck mo (encZ S) F1 F2 F3 F4 M))) (va_Qd (fun r (_ : Unit) => r = mrD S) (fun _ t9 => wrQ dg sz (modelC ck mo (encZ S) F1 F2 F3 F4 M) (modelC ck mo (encZ S) F1 F2 F3 F4 (upS M 8 0 (bI (S 0 0 = 0)))) t9) (va_A (modelC ck mo (encZ S) F1 F2 F3 F4 M) sz)) 0 0 (va_A (modelC ck mo (encZ S) F1 F2 F3 F4 M) sz) := by
  refine Met.ofW (cc := cX9_meanRent) (maxL := 3) (ret := (some .double)) (by decide) rfl ?_
  intro p e s m args below meth c s₁ B hml hv
  obtain ⟨rfl, hsz, hP, hK, hD0⟩ := hv
  have hx := B.exec
  have hb := B.bytes
  have hr := B.returns
  have hts := atoms_spec (ws := .code yX9_meanRent cX9_meanRent 3 (some .double) :: GW) B.pre
  have htg : ∀ w ∈ GW, w.before _ s = true := fun w h => hts w (List.mem_cons_of_mem _ h)
  have hown : s.vm.findClass RX9 = some m.cls := findClass_of_methodNamed B.named
  have hlocks := B.notSynchronized
  subst hsz
  have hD := hD0.self (sz := s.heap.size)
  generalize hAe : va_A (modelC ck mo (encZ S) F1 F2 F3 F4 M) s.heap.size = A at hD ⊢
  have hA : ∀ q : Nat, s.heap.size ≤ q → A q := fun q h => by rw [← hAe]; exact Or.inr h
  have hS : va_S A s.heap s.heap [] := va_S.rf
  have hP : va_P dg vwCl (modelC ck mo (encZ S) F1 F2 F3 F4 M) s.heap := hP
  have hl := lv_entry ([.ref (mo 0)]) (n := 3) (Nat.le_of_ble_eq_true rfl)
  rw [lg_entry_eq]
  generalize (lg_sl ([.ref (mo 0)]) ++ List.replicate (3 - (lg_sl ([.ref (mo 0)])).length) Slot.unset).toArray = ls at hl ⊢
  have hl : lv_has ls 3 [(0, .ref (mo 0))] := hl
  obtain ⟨b00, b01, b02, b03, b1, b2, b3, b4, b5, b6, b7, b8, b9, b10, b11, b12⟩ := id hI
  refine lv_aload_n hx hb dX9_meanRent_0 rfl (lv_at hl 0 rfl) ?_
  refine lv_aload_n hx hb dX9_meanRent_1 rfl (lv_at hl 0 rfl) ?_
  refine va_get (D := dg) (ci := 11) (v := .ref (mo 1)) (C := RX9) (T := TX9) (N := 23) hx hb htg inG_X9 hown hK hP 0 rfl rfl 1 (Nat.le_of_ble_eq_true rfl) (htg _ wq_1558) (fun _ h9 => h9) rfl dX9_meanRent_2 ?_
  refine x_iconst hx hb dX9_meanRent_5 ?_
  refine x_iald hx hb hK hP 1 0 (encZ S) rfl rfl (fun _ => rfl) (P := fun _ => True) (fun _ => trivial) (by decide) (by omega) dX9_meanRent_6 (fun _ => ?_)
  refine x_is (show (encZ S) 0 = (S 0 0) from (encV (k := 0) (i := 0) (Or.inl ⟨rfl, by decide, by decide, rfl⟩)).trans (rfl)) ?_
  refine x_if_ne (tgt := 14) hx hb dX9_meanRent_7 (by decide) (by omega) (fun c7 => ?_) (fun c7 => ?_)
  · refine x_iconst hx hb dX9_meanRent_14 ?_
    refine va_put (D := dg) (ci := 11) (v := .int (zI 0)) (ty := .int) (C := RX9) (T := TX9) (N := 23) hx hb htg inG_X9 tyX9 tyX9_ok nmX9 hown hK hP hD hS 0 rfl rfl 0 (Nat.le_of_ble_eq_true rfl) (htg _ wq_1557) (fun _ h9 => h9) rfl (by decide +kernel) rfl rfl (Nat.le_of_ble_eq_true rfl) dX9_meanRent_15 (fun H locs hP hD hS => ?_)
    have hP : va_P dg vwCl (modelC ck mo (encZ S) F1 F2 F3 F4 (upS M 8 0 0)) H := hP
    have hD : va_D A (modelC ck mo (encZ S) F1 F2 F3 F4 (upS M 8 0 0)) := hD
    refine lv_aload_n hx hb dX9_meanRent_18 rfl (lv_at hl 0 rfl) ?_
    refine va_get (D := dg) (ci := 11) (v := .int (zI 0)) (C := RX9) (T := TX9) (N := 23) hx hb htg inG_X9 hown hK hP 0 rfl rfl 0 (Nat.le_of_ble_eq_true rfl) (htg _ wq_1557) (fun _ h9 => h9) rfl dX9_meanRent_19 ?_
    refine x_if_le (tgt := 27) hx hb dX9_meanRent_22 (by decide) (by omega) (fun c22 => ?_) (fun c22 => absurd c22 (by decide))
    refine x_iconst hx hb dX9_meanRent_27 ?_
    refine lv_istore_n (lv' := [(1, .int (zI 0)), (0, .ref (mo 0))]) hx hb dX9_meanRent_28 rfl hl (by decide) rfl (fun ls hl => ?_)
    refine x_iconst hx hb dX9_meanRent_29 ?_
    refine lv_istore_n (lv' := [(2, .int (zI 0)), (1, .int (zI 0)), (0, .ref (mo 0))]) hx hb dX9_meanRent_30 rfl hl (by decide) rfl (fun ls hl => ?_)
    refine x_loopW (ι := Int × Int) (fun v => (0 ≤ v.2 ∧ v.2 ≤ S 0 0) ∧ v.1 = sumZ (rent S) v.2.toNat) (fun v => (S 0 0 - v.2).toNat) (fun v => [(0, .ref (mo 0)), (1, .int (zI v.1)), (2, .int (zI v.2))]) (fun v => modelC ck mo (encZ S) F1 F2 F3 F4 (upS M 8 0 0)) (0, 0) (show (0 ≤ (0 : Int) ∧ (0 : Int) ≤ S 0 0) ∧ (0 : Int) = sumZ (rent S) (0 : Int).toNat from ⟨by omega, rfl⟩) (lv_sub hl [2, 1, 0] rfl) hP hD hS ?_
    intro v hv ih_31 ls H locs hl hP hD hS
    obtain ⟨u, i⟩ := v
    have hl : lv_has ls 3 [(0, .ref (mo 0)), (1, .int (zI u)), (2, .int (zI i))] := hl
    have hv : (0 ≤ i ∧ i ≤ S 0 0) ∧ u = sumZ (rent S) i.toNat := hv
    have hP : va_P dg vwCl (modelC ck mo (encZ S) F1 F2 F3 F4 (upS M 8 0 0)) H := hP
    have hD : va_D A (modelC ck mo (encZ S) F1 F2 F3 F4 (upS M 8 0 0)) := hD
    obtain ⟨hi, hu⟩ := hv
    have hsr := sumZ_r (f := rent S) (M := 20) (fun o => ⟨by have := (rent_r hI o).1; omega, (rent_r hI o).2⟩) i.toNat
    rw [← hu] at hsr
    refine lv_iload_n hx hb dX9_meanRent_31 rfl (lv_at hl 2 rfl) ?_
    refine lv_aload_n hx hb dX9_meanRent_32 rfl (lv_at hl 0 rfl) ?_
    refine va_get (D := dg) (ci := 11) (v := .ref (mo 1)) (C := RX9) (T := TX9) (N := 23) hx hb htg inG_X9 hown hK hP 0 rfl rfl 1 (Nat.le_of_ble_eq_true rfl) (htg _ wq_1558) (fun _ h9 => h9) rfl dX9_meanRent_33 ?_
    refine x_iconst hx hb dX9_meanRent_36 ?_
    refine x_iald hx hb hK hP 1 0 (encZ S) rfl rfl (fun _ => rfl) (P := fun _ => True) (fun _ => trivial) (by decide) (by omega) dX9_meanRent_37 (fun _ => ?_)
    refine x_is (show (encZ S) 0 = (S 0 0) from (encV (k := 0) (i := 0) (Or.inl ⟨rfl, by decide, by decide, rfl⟩)).trans (rfl)) ?_
    refine x_icmp_ge (tgt := 55) hx hb dX9_meanRent_38 (by decide) (by omega) (by omega) (fun c38 => ?_) (fun c38 => ?_)
    · refine lv_iload_n hx hb dX9_meanRent_55 rfl (lv_at hl 1 rfl) ?_
      refine lv_i2d hx hb dX9_meanRent_56 ?_
      refine lv_aload_n hx hb dX9_meanRent_57 rfl (lv_at hl 0 rfl) ?_
      refine va_get (D := dg) (ci := 11) (v := .ref (mo 1)) (C := RX9) (T := TX9) (N := 23) hx hb htg inG_X9 hown hK hP 0 rfl rfl 1 (Nat.le_of_ble_eq_true rfl) (htg _ wq_1558) (fun _ h9 => h9) rfl dX9_meanRent_58 ?_
      refine x_iconst hx hb dX9_meanRent_61 ?_
      refine x_iald hx hb hK hP 1 0 (encZ S) rfl rfl (fun _ => rfl) (P := fun _ => True) (fun _ => trivial) (by decide) (by omega) dX9_meanRent_62 (fun _ => ?_)
      refine x_is (show (encZ S) 0 = (S 0 0) from (encV (k := 0) (i := 0) (Or.inl ⟨rfl, by decide, by decide, rfl⟩)).trans (rfl)) ?_
      refine lv_i2d hx hb dX9_meanRent_63 ?_
      refine lv_ddiv hx hb dX9_meanRent_64 (nnD (by omega) (by omega)) ?_
      have hEq : modelC ck mo (encZ S) F1 F2 F3 F4 (upS M 8 0 (bI (S 0 0 = 0))) = modelC ck mo (encZ S) F1 F2 F3 F4 (upS M 8 0 0) := (by rw [bI_f (by omega)])
      exact W.dret (v := _) hx hb hr (fun t9 ht9 hW9 => ⟨⟨_, (), rfl, (by unfold mrD; rw [if_neg (by omega), hu, show i = S 0 0 by omega]), by rw [ht9, hEq]; exact hP, by rw [hEq, hAe]; exact hD⟩, hS.F ht9⟩) hS.2.2 dX9_meanRent_65
    · refine lv_iload_n hx hb dX9_meanRent_41 rfl (lv_at hl 1 rfl) ?_
      refine lv_aload_n hx hb dX9_meanRent_42 rfl (lv_at hl 0 rfl) ?_
      refine lv_iload_n hx hb dX9_meanRent_43 rfl (lv_at hl 2 rfl) ?_
      refine vp_callSi (W.runV (As := [.int (zI i)]) (rest := [.int (zI u)]) ⟨hx, hb, hml, hown, htg⟩ (m_rent l dg ck mo S F1 F2 F3 F4 (upS M 8 0 0) i hI (by omega)) (cwV 1 htg (gwV wq_1753 wq_1755 wp_49 wq_15 wq_1756) rfl rfl rfl (by decide +kernel) ⟨Nat.le_of_ble_eq_true rfl, Nat.le_of_ble_eq_true rfl⟩) (rd_preV hK hP 0 11 rfl rfl) rfl rfl hl.1 rfl (lv_room (Nat.le_of_ble_eq_true rfl)) dX9_meanRent_44 ⟨Nat.zero_le _, Nat.zero_le _⟩) (fun r44 hr44 => ?_)
      subst hr44
      refine x_iadd hx hb dX9_meanRent_47 ?_
      refine x_top _ (fun v48 e_v48 => ?_)
      refine lv_istore_n (lv' := [(1, .int (zI v48)), (0, .ref (mo 0)), (2, .int (zI i))]) hx hb dX9_meanRent_48 rfl hl (by decide) rfl (fun ls hl => ?_)
      obtain ⟨v49, e_v49⟩ : ∃ y : Int, y = i + 1 := ⟨_, rfl⟩
      refine lv_iinc (v := zI v49) (lv' := [(2, .int (zI v49)), (1, .int (zI v48)), (0, .ref (mo 0))]) hx hb dX9_meanRent_49 hl (k := 2) rfl (by rw [e_v49]; exact zI_add _ _) (by decide) rfl (fun ls hl => ?_)
      refine lv_goto (tgt := 31) hx hb dX9_meanRent_52 (by decide) ?_
      exact ih_31 (v48, v49) (show (0 ≤ v49 ∧ v49 ≤ S 0 0) ∧ v48 = sumZ (rent S) v49.toNat from ⟨by omega, (by rw [e_v49, sumZ_s hi.1, ← hu]; exact e_v48)⟩) (show (S 0 0 - v49).toNat < (S 0 0 - i).toNat from by omega) ls H locs (lv_sub hl [2, 1, 0] rfl) hP hD hS
  · refine x_iconst hx hb dX9_meanRent_10 ?_
    refine lv_goto (tgt := 15) hx hb dX9_meanRent_11 (by decide) ?_
    refine va_put (D := dg) (ci := 11) (v := .int (zI 1)) (ty := .int) (C := RX9) (T := TX9) (N := 23) hx hb htg inG_X9 tyX9 tyX9_ok nmX9 hown hK hP hD hS 0 rfl rfl 0 (Nat.le_of_ble_eq_true rfl) (htg _ wq_1557) (fun _ h9 => h9) rfl (by decide +kernel) rfl rfl (Nat.le_of_ble_eq_true rfl) dX9_meanRent_15 (fun H locs hP hD hS => ?_)
    have hP : va_P dg vwCl (modelC ck mo (encZ S) F1 F2 F3 F4 (upS M 8 0 1)) H := hP
    have hD : va_D A (modelC ck mo (encZ S) F1 F2 F3 F4 (upS M 8 0 1)) := hD
    refine lv_aload_n hx hb dX9_meanRent_18 rfl (lv_at hl 0 rfl) ?_
    refine va_get (D := dg) (ci := 11) (v := .int (zI 1)) (C := RX9) (T := TX9) (N := 23) hx hb htg inG_X9 hown hK hP 0 rfl rfl 0 (Nat.le_of_ble_eq_true rfl) (htg _ wq_1557) (fun _ h9 => h9) rfl dX9_meanRent_19 ?_
    refine x_if_le (tgt := 27) hx hb dX9_meanRent_22 (by decide) (by omega) (fun c22 => absurd c22 (by decide)) (fun c22 => ?_)
    refine lv_dconst0 hx hb dX9_meanRent_25 ?_
    have hEq : modelC ck mo (encZ S) F1 F2 F3 F4 (upS M 8 0 (bI (S 0 0 = 0))) = modelC ck mo (encZ S) F1 F2 F3 F4 (upS M 8 0 1) := (by rw [bI_t (by omega)])
    exact W.dret (v := _) hx hb hr (fun t9 ht9 hW9 => ⟨⟨_, (), rfl, (by unfold mrD; rw [if_pos (by omega)]), by rw [ht9, hEq]; exact hP, by rw [hEq, hAe]; exact hD⟩, hS.F ht9⟩) hS.2.2 dX9_meanRent_26

set_option maxHeartbeats 4000000 in
set_option maxRecDepth 100000 in
/-- BenchBrokerModel.letShare -/
theorem m_letShare (l : Launch) (dg : va_G) (ck : Nat → ClassId) (mo : Nat → Nat) (S : St) (F1 F2 F3 F4 : Int → Int) (M : St) (sz : Nat) (hI : Bd S)  : Met l yX9_letShare (.code yX9_letShare cX9_letShare 3 (some .float) :: GW) ({ frames := 2, cells := 0, slots := 0, locals := 43 }) (va_Pc [.ref (mo 0)] (wrP dg ck sz (modelC ck mo (encZ S) F1 F2 F3 F4 M))) (va_Qf (fun r (_ : Unit) => r = lsF S) (fun _ t9 => wrQ dg sz (modelC ck mo (encZ S) F1 F2 F3 F4 M) (modelC ck mo (encZ S) F1 F2 F3 F4 (upS M 8 0 (bI (S 0 0 = 0)))) t9) (va_A (modelC ck mo (encZ S) F1 F2 F3 F4 M) sz)) 0 0 (va_A (modelC ck mo (encZ S) F1 F2 F3 F4 M) sz) := by
  refine Met.ofW (cc := cX9_letShare) (maxL := 3) (ret := (some .float)) (by decide) rfl ?_
  intro p e s m args below meth c s₁ B hml hv
  obtain ⟨rfl, hsz, hP, hK, hD0⟩ := hv
  have hx := B.exec
  have hb := B.bytes
  have hr := B.returns
  have hts := atoms_spec (ws := .code yX9_letShare cX9_letShare 3 (some .float) :: GW) B.pre
  have htg : ∀ w ∈ GW, w.before _ s = true := fun w h => hts w (List.mem_cons_of_mem _ h)
  have hown : s.vm.findClass RX9 = some m.cls := findClass_of_methodNamed B.named
  have hlocks := B.notSynchronized
  subst hsz
  have hD := hD0.self (sz := s.heap.size)
  generalize hAe : va_A (modelC ck mo (encZ S) F1 F2 F3 F4 M) s.heap.size = A at hD ⊢
  have hA : ∀ q : Nat, s.heap.size ≤ q → A q := fun q h => by rw [← hAe]; exact Or.inr h
  have hS : va_S A s.heap s.heap [] := va_S.rf
  have hP : va_P dg vwCl (modelC ck mo (encZ S) F1 F2 F3 F4 M) s.heap := hP
  have hl := lv_entry ([.ref (mo 0)]) (n := 3) (Nat.le_of_ble_eq_true rfl)
  rw [lg_entry_eq]
  generalize (lg_sl ([.ref (mo 0)]) ++ List.replicate (3 - (lg_sl ([.ref (mo 0)])).length) Slot.unset).toArray = ls at hl ⊢
  have hl : lv_has ls 3 [(0, .ref (mo 0))] := hl
  obtain ⟨b00, b01, b02, b03, b1, b2, b3, b4, b5, b6, b7, b8, b9, b10, b11, b12⟩ := id hI
  refine lv_aload_n hx hb dX9_letShare_0 rfl (lv_at hl 0 rfl) ?_
  refine lv_aload_n hx hb dX9_letShare_1 rfl (lv_at hl 0 rfl) ?_
  refine va_get (D := dg) (ci := 11) (v := .ref (mo 1)) (C := RX9) (T := TX9) (N := 23) hx hb htg inG_X9 hown hK hP 0 rfl rfl 1 (Nat.le_of_ble_eq_true rfl) (htg _ wq_1558) (fun _ h9 => h9) rfl dX9_letShare_2 ?_
  refine x_iconst hx hb dX9_letShare_5 ?_
  refine x_iald hx hb hK hP 1 0 (encZ S) rfl rfl (fun _ => rfl) (P := fun _ => True) (fun _ => trivial) (by decide) (by omega) dX9_letShare_6 (fun _ => ?_)
  refine x_is (show (encZ S) 0 = (S 0 0) from (encV (k := 0) (i := 0) (Or.inl ⟨rfl, by decide, by decide, rfl⟩)).trans (rfl)) ?_
  refine x_if_ne (tgt := 14) hx hb dX9_letShare_7 (by decide) (by omega) (fun c7 => ?_) (fun c7 => ?_)
  · refine x_iconst hx hb dX9_letShare_14 ?_
    refine va_put (D := dg) (ci := 11) (v := .int (zI 0)) (ty := .int) (C := RX9) (T := TX9) (N := 23) hx hb htg inG_X9 tyX9 tyX9_ok nmX9 hown hK hP hD hS 0 rfl rfl 0 (Nat.le_of_ble_eq_true rfl) (htg _ wq_1557) (fun _ h9 => h9) rfl (by decide +kernel) rfl rfl (Nat.le_of_ble_eq_true rfl) dX9_letShare_15 (fun H locs hP hD hS => ?_)
    have hP : va_P dg vwCl (modelC ck mo (encZ S) F1 F2 F3 F4 (upS M 8 0 0)) H := hP
    have hD : va_D A (modelC ck mo (encZ S) F1 F2 F3 F4 (upS M 8 0 0)) := hD
    refine lv_aload_n hx hb dX9_letShare_18 rfl (lv_at hl 0 rfl) ?_
    refine va_get (D := dg) (ci := 11) (v := .int (zI 0)) (C := RX9) (T := TX9) (N := 23) hx hb htg inG_X9 hown hK hP 0 rfl rfl 0 (Nat.le_of_ble_eq_true rfl) (htg _ wq_1557) (fun _ h9 => h9) rfl dX9_letShare_19 ?_
    refine x_if_le (tgt := 27) hx hb dX9_letShare_22 (by decide) (by omega) (fun c22 => ?_) (fun c22 => absurd c22 (by decide))
    refine x_iconst hx hb dX9_letShare_27 ?_
    refine lv_istore_n (lv' := [(1, .int (zI 0)), (0, .ref (mo 0))]) hx hb dX9_letShare_28 rfl hl (by decide) rfl (fun ls hl => ?_)
    refine x_iconst hx hb dX9_letShare_29 ?_
    refine lv_istore_n (lv' := [(2, .int (zI 0)), (1, .int (zI 0)), (0, .ref (mo 0))]) hx hb dX9_letShare_30 rfl hl (by decide) rfl (fun ls hl => ?_)
    refine x_loopW (ι := Int × Int) (fun v => (0 ≤ v.2 ∧ v.2 ≤ S 0 0) ∧ v.1 = sumZ (fun o => bI (S 4 o ≠ 0)) v.2.toNat) (fun v => (S 0 0 - v.2).toNat) (fun v => [(0, .ref (mo 0)), (1, .int (zI v.1)), (2, .int (zI v.2))]) (fun v => modelC ck mo (encZ S) F1 F2 F3 F4 (upS M 8 0 0)) (0, 0) (show (0 ≤ (0 : Int) ∧ (0 : Int) ≤ S 0 0) ∧ (0 : Int) = sumZ (fun o => bI (S 4 o ≠ 0)) (0 : Int).toNat from ⟨by omega, rfl⟩) (lv_sub hl [2, 1, 0] rfl) hP hD hS ?_
    intro v hv ih_31 ls H locs hl hP hD hS
    obtain ⟨u, i⟩ := v
    have hl : lv_has ls 3 [(0, .ref (mo 0)), (1, .int (zI u)), (2, .int (zI i))] := hl
    have hv : (0 ≤ i ∧ i ≤ S 0 0) ∧ u = sumZ (fun o => bI (S 4 o ≠ 0)) i.toNat := hv
    have hP : va_P dg vwCl (modelC ck mo (encZ S) F1 F2 F3 F4 (upS M 8 0 0)) H := hP
    have hD : va_D A (modelC ck mo (encZ S) F1 F2 F3 F4 (upS M 8 0 0)) := hD
    obtain ⟨hi, hu⟩ := hv
    have hsr := sumZ_r (f := fun o => bI (S 4 o ≠ 0)) (M := 1) (fun o => bI_r _) i.toNat
    rw [← hu] at hsr
    refine lv_iload_n hx hb dX9_letShare_31 rfl (lv_at hl 2 rfl) ?_
    refine lv_aload_n hx hb dX9_letShare_32 rfl (lv_at hl 0 rfl) ?_
    refine va_get (D := dg) (ci := 11) (v := .ref (mo 1)) (C := RX9) (T := TX9) (N := 23) hx hb htg inG_X9 hown hK hP 0 rfl rfl 1 (Nat.le_of_ble_eq_true rfl) (htg _ wq_1558) (fun _ h9 => h9) rfl dX9_letShare_33 ?_
    refine x_iconst hx hb dX9_letShare_36 ?_
    refine x_iald hx hb hK hP 1 0 (encZ S) rfl rfl (fun _ => rfl) (P := fun _ => True) (fun _ => trivial) (by decide) (by omega) dX9_letShare_37 (fun _ => ?_)
    refine x_is (show (encZ S) 0 = (S 0 0) from (encV (k := 0) (i := 0) (Or.inl ⟨rfl, by decide, by decide, rfl⟩)).trans (rfl)) ?_
    refine x_icmp_ge (tgt := 64) hx hb dX9_letShare_38 (by decide) (by omega) (by omega) (fun c38 => ?_) (fun c38 => ?_)
    · refine lv_iload_n hx hb dX9_letShare_64 rfl (lv_at hl 1 rfl) ?_
      refine lv_i2f hx hb dX9_letShare_65 ?_
      refine lv_aload_n hx hb dX9_letShare_66 rfl (lv_at hl 0 rfl) ?_
      refine va_get (D := dg) (ci := 11) (v := .ref (mo 1)) (C := RX9) (T := TX9) (N := 23) hx hb htg inG_X9 hown hK hP 0 rfl rfl 1 (Nat.le_of_ble_eq_true rfl) (htg _ wq_1558) (fun _ h9 => h9) rfl dX9_letShare_67 ?_
      refine x_iconst hx hb dX9_letShare_70 ?_
      refine x_iald hx hb hK hP 1 0 (encZ S) rfl rfl (fun _ => rfl) (P := fun _ => True) (fun _ => trivial) (by decide) (by omega) dX9_letShare_71 (fun _ => ?_)
      refine x_is (show (encZ S) 0 = (S 0 0) from (encV (k := 0) (i := 0) (Or.inl ⟨rfl, by decide, by decide, rfl⟩)).trans (rfl)) ?_
      refine lv_i2f hx hb dX9_letShare_72 ?_
      refine lv_fdiv hx hb dX9_letShare_73 (nnF (by omega) (by omega)) ?_
      have hEq : modelC ck mo (encZ S) F1 F2 F3 F4 (upS M 8 0 (bI (S 0 0 = 0))) = modelC ck mo (encZ S) F1 F2 F3 F4 (upS M 8 0 0) := (by rw [bI_f (by omega)])
      exact W.fret (v := _) hx hb hr (fun t9 ht9 hW9 => ⟨⟨_, (), rfl, (by unfold lsF; rw [if_neg (by omega), hu, show i = S 0 0 by omega]), by rw [ht9, hEq]; exact hP, by rw [hEq, hAe]; exact hD⟩, hS.F ht9⟩) hS.2.2 dX9_letShare_74
    · refine lv_iload_n hx hb dX9_letShare_41 rfl (lv_at hl 1 rfl) ?_
      refine lv_aload_n hx hb dX9_letShare_42 rfl (lv_at hl 0 rfl) ?_
      refine lv_iload_n hx hb dX9_letShare_43 rfl (lv_at hl 2 rfl) ?_
      refine vp_callSi (W.runV (As := [.int (zI i)]) (rest := [.int (zI u)]) ⟨hx, hb, hml, hown, htg⟩ (m_by l dg ck mo S F1 F2 F3 F4 (upS M 8 0 0) i (by omega)) (cwV 1 htg (gwV wq_1853 wq_1855 wp_59 wq_15 wq_1856) rfl rfl rfl (by decide +kernel) ⟨Nat.le_of_ble_eq_true rfl, Nat.le_of_ble_eq_true rfl⟩) (rd_preV hK hP 0 11 rfl rfl) rfl rfl hl.1 rfl (lv_room (Nat.le_of_ble_eq_true rfl)) dX9_letShare_44 ⟨Nat.zero_le _, Nat.zero_le _⟩) (fun r44 hr44 => ?_)
      subst hr44
      have q44 := b4 i
      refine x_is (show (S 4 i - 1) = ((S 4 i) - 1) from rfl) ?_
      refine x_iconst hx hb dX9_letShare_47 ?_
      refine x_icmp_ne (tgt := 55) hx hb dX9_letShare_48 (by decide) (by omega) (by omega) (fun c48 => ?_) (fun c48 => ?_)
      · refine x_iconst hx hb dX9_letShare_55 ?_
        refine x_iadd hx hb dX9_letShare_56 ?_
        refine x_top _ (fun v57 e_v57 => ?_)
        refine lv_istore_n (lv' := [(1, .int (zI v57)), (0, .ref (mo 0)), (2, .int (zI i))]) hx hb dX9_letShare_57 rfl hl (by decide) rfl (fun ls hl => ?_)
        obtain ⟨v58, e_v58⟩ : ∃ y : Int, y = i + 1 := ⟨_, rfl⟩
        refine lv_iinc (v := zI v58) (lv' := [(2, .int (zI v58)), (1, .int (zI v57)), (0, .ref (mo 0))]) hx hb dX9_letShare_58 hl (k := 2) rfl (by rw [e_v58]; exact zI_add _ _) (by decide) rfl (fun ls hl => ?_)
        refine lv_goto (tgt := 31) hx hb dX9_letShare_61 (by decide) ?_
        exact ih_31 (v57, v58) (show (0 ≤ v58 ∧ v58 ≤ S 0 0) ∧ v57 = sumZ (fun o => bI (S 4 o ≠ 0)) v58.toNat from ⟨by omega, (by rw [e_v58, sumZ_s hi.1, ← hu]; first | (rw [bI_t (show S 4 i ≠ 0 by omega)]; exact e_v57) | (rw [bI_f (show ¬ S 4 i ≠ 0 by omega)]; exact e_v57))⟩) (show (S 0 0 - v58).toNat < (S 0 0 - i).toNat from by omega) ls H locs (lv_sub hl [2, 1, 0] rfl) hP hD hS
      · refine x_iconst hx hb dX9_letShare_51 ?_
        refine lv_goto (tgt := 56) hx hb dX9_letShare_52 (by decide) ?_
        refine x_iadd hx hb dX9_letShare_56 ?_
        refine x_top _ (fun v57 e_v57 => ?_)
        refine lv_istore_n (lv' := [(1, .int (zI v57)), (0, .ref (mo 0)), (2, .int (zI i))]) hx hb dX9_letShare_57 rfl hl (by decide) rfl (fun ls hl => ?_)
        obtain ⟨v58, e_v58⟩ : ∃ y : Int, y = i + 1 := ⟨_, rfl⟩
        refine lv_iinc (v := zI v58) (lv' := [(2, .int (zI v58)), (1, .int (zI v57)), (0, .ref (mo 0))]) hx hb dX9_letShare_58 hl (k := 2) rfl (by rw [e_v58]; exact zI_add _ _) (by decide) rfl (fun ls hl => ?_)
        refine lv_goto (tgt := 31) hx hb dX9_letShare_61 (by decide) ?_
        exact ih_31 (v57, v58) (show (0 ≤ v58 ∧ v58 ≤ S 0 0) ∧ v57 = sumZ (fun o => bI (S 4 o ≠ 0)) v58.toNat from ⟨by omega, (by rw [e_v58, sumZ_s hi.1, ← hu]; first | (rw [bI_t (show S 4 i ≠ 0 by omega)]; exact e_v57) | (rw [bI_f (show ¬ S 4 i ≠ 0 by omega)]; exact e_v57))⟩) (show (S 0 0 - v58).toNat < (S 0 0 - i).toNat from by omega) ls H locs (lv_sub hl [2, 1, 0] rfl) hP hD hS
  · refine x_iconst hx hb dX9_letShare_10 ?_
    refine lv_goto (tgt := 15) hx hb dX9_letShare_11 (by decide) ?_
    refine va_put (D := dg) (ci := 11) (v := .int (zI 1)) (ty := .int) (C := RX9) (T := TX9) (N := 23) hx hb htg inG_X9 tyX9 tyX9_ok nmX9 hown hK hP hD hS 0 rfl rfl 0 (Nat.le_of_ble_eq_true rfl) (htg _ wq_1557) (fun _ h9 => h9) rfl (by decide +kernel) rfl rfl (Nat.le_of_ble_eq_true rfl) dX9_letShare_15 (fun H locs hP hD hS => ?_)
    have hP : va_P dg vwCl (modelC ck mo (encZ S) F1 F2 F3 F4 (upS M 8 0 1)) H := hP
    have hD : va_D A (modelC ck mo (encZ S) F1 F2 F3 F4 (upS M 8 0 1)) := hD
    refine lv_aload_n hx hb dX9_letShare_18 rfl (lv_at hl 0 rfl) ?_
    refine va_get (D := dg) (ci := 11) (v := .int (zI 1)) (C := RX9) (T := TX9) (N := 23) hx hb htg inG_X9 hown hK hP 0 rfl rfl 0 (Nat.le_of_ble_eq_true rfl) (htg _ wq_1557) (fun _ h9 => h9) rfl dX9_letShare_19 ?_
    refine x_if_le (tgt := 27) hx hb dX9_letShare_22 (by decide) (by omega) (fun c22 => absurd c22 (by decide)) (fun c22 => ?_)
    refine lv_fconst0 hx hb dX9_letShare_25 ?_
    have hEq : modelC ck mo (encZ S) F1 F2 F3 F4 (upS M 8 0 (bI (S 0 0 = 0))) = modelC ck mo (encZ S) F1 F2 F3 F4 (upS M 8 0 1) := (by rw [bI_t (by omega)])
    exact W.fret (v := _) hx hb hr (fun t9 ht9 hW9 => ⟨⟨_, (), rfl, (by unfold lsF; rw [if_pos (by omega)]), by rw [ht9, hEq]; exact hP, by rw [hEq, hAe]; exact hD⟩, hS.F ht9⟩) hS.2.2 dX9_letShare_26

set_option maxHeartbeats 4000000 in
set_option maxRecDepth 100000 in
/-- BenchBrokerModel.thrown -/
theorem m_thrown (l : Launch) (dg : va_G) (ck : Nat → ClassId) (mo : Nat → Nat) (S : St) (F1 F2 F3 F4 : Int → Int) (M : St)  : Met l yX9_thrown (.code yX9_thrown cX9_thrown 1 (some .int) :: GW) ({ frames := 0, cells := 0, slots := 0, locals := 0 }) (va_Pc [.ref (mo 0)] (rdP dg ck (modelC ck mo (encZ S) F1 F2 F3 F4 M))) (vp_Si (fun r => r = zI (M 8 0))) 0 0 (fun _ => False) := by
  refine Met.ofW (cc := cX9_thrown) (maxL := 1) (ret := (some .int)) (by decide) rfl ?_
  intro p e s m args below meth c s₁ B hml hv
  obtain ⟨rfl, hP, hK⟩ := hv
  have hx := B.exec
  have hb := B.bytes
  have hr := B.returns
  have hts := atoms_spec (ws := .code yX9_thrown cX9_thrown 1 (some .int) :: GW) B.pre
  have htg : ∀ w ∈ GW, w.before _ s = true := fun w h => hts w (List.mem_cons_of_mem _ h)
  have hown : s.vm.findClass RX9 = some m.cls := findClass_of_methodNamed B.named
  have hlocks := B.notSynchronized
  have hl := lv_entry ([.ref (mo 0)]) (n := 1) (Nat.le_of_ble_eq_true rfl)
  rw [lg_entry_eq]
  generalize (lg_sl ([.ref (mo 0)]) ++ List.replicate (1 - (lg_sl ([.ref (mo 0)])).length) Slot.unset).toArray = ls at hl ⊢
  have hl : lv_has ls 1 [(0, .ref (mo 0))] := hl
  refine lv_aload_n hx hb dX9_thrown_0 rfl (lv_at hl 0 rfl) ?_
  refine va_get (D := dg) (ci := 11) (v := .int (zI (M 8 0))) (C := RX9) (T := TX9) (N := 23) hx hb htg inG_X9 hown hK hP 0 rfl rfl 0 (Nat.le_of_ble_eq_true rfl) (htg _ wq_1557) (fun _ h9 => h9) rfl dX9_thrown_1 ?_
  exact W.iret (v := _) hx hb hr (fun t9 ht9 hW9 => ⟨_, rfl, rfl, ht9⟩) (fun _ h => by cases h) dX9_thrown_4

theorem barM_n {S M : St} {t b : Int} {k : Nat} {i : Int} (h : ¬ (k = 8 ∧ i = 9)) : barM S M t b k i = M k i := by
  unfold barM
  split
  · rfl
  · exact upS_n (by omega)
/-- what a question leaves: what is thrown, all else as it was but for what it speaks about -/
def qM (M u : St) (t : Int) : Prop := u 8 0 = t ∧ ∀ k i, ¬ (k = 8 ∧ (i = 0 ∨ i = 9)) → u k i = M k i

set_option maxHeartbeats 4000000 in
set_option maxRecDepth 100000 in
/-- BenchBrokerModel.canLease -/
theorem m_canLease (l : Launch) (dg : va_G) (ck : Nat → ClassId) (mo : Nat → Nat) (S : St) (F1 F2 F3 F4 : Int → Int) (M : St) (x y : Int) (sz : Nat) (hI : Bd S) (rg_x : -2147483648 ≤ x ∧ x < 2147483648) (rg_y : -2147483648 ≤ y ∧ y < 2147483648) : Met l yX9_canLease (.code yX9_canLease cX9_canLease 3 (some .boolean) :: GW) ({ frames := 5, cells := 0, slots := 0, locals := 113 }) (va_Pc [.ref (mo 0), .int (zI x), .int (zI y)] (wrP dg ck sz (modelC ck mo (encZ S) F1 F2 F3 F4 M))) (va_Qi (fun r (u : St) => qM M u (1 - bI (isTen S x ∧ isBench S y)) ∧ r = zI (bI (isTen S x ∧ isBench S y ∧ obst S x y = 0))) (fun u t9 => wrQ dg sz (modelC ck mo (encZ S) F1 F2 F3 F4 M) (modelC ck mo (encZ S) F1 F2 F3 F4 u) t9) (va_A (modelC ck mo (encZ S) F1 F2 F3 F4 M) sz)) 0 0 (va_A (modelC ck mo (encZ S) F1 F2 F3 F4 M) sz) := by
  refine Met.ofW (cc := cX9_canLease) (maxL := 3) (ret := (some .boolean)) (by decide) rfl ?_
  intro p e s m args below meth c s₁ B hml hv
  obtain ⟨rfl, hsz, hP, hK, hD0⟩ := hv
  have hx := B.exec
  have hb := B.bytes
  have hr := B.returns
  have hts := atoms_spec (ws := .code yX9_canLease cX9_canLease 3 (some .boolean) :: GW) B.pre
  have htg : ∀ w ∈ GW, w.before _ s = true := fun w h => hts w (List.mem_cons_of_mem _ h)
  have hown : s.vm.findClass RX9 = some m.cls := findClass_of_methodNamed B.named
  have hlocks := B.notSynchronized
  subst hsz
  have hD := hD0.self (sz := s.heap.size)
  generalize hAe : va_A (modelC ck mo (encZ S) F1 F2 F3 F4 M) s.heap.size = A at hD ⊢
  have hA : ∀ q : Nat, s.heap.size ≤ q → A q := fun q h => by rw [← hAe]; exact Or.inr h
  have hS : va_S A s.heap s.heap [] := va_S.rf
  have hP : va_P dg vwCl (modelC ck mo (encZ S) F1 F2 F3 F4 M) s.heap := hP
  have hl := lv_entry ([.ref (mo 0), .int (zI x), .int (zI y)]) (n := 3) (Nat.le_of_ble_eq_true rfl)
  rw [lg_entry_eq]
  generalize (lg_sl ([.ref (mo 0), .int (zI x), .int (zI y)]) ++ List.replicate (3 - (lg_sl ([.ref (mo 0), .int (zI x), .int (zI y)])).length) Slot.unset).toArray = ls at hl ⊢
  have hl : lv_has ls 3 [(0, .ref (mo 0)), (1, .int (zI x)), (2, .int (zI y))] := hl
  obtain ⟨b00, b01, b02, b03, b1, b2, b3, b4, b5, b6, b7, b8, b9, b10, b11, b12⟩ := id hI
  have hob := obst_r S x y
  refine lv_aload_n hx hb dX9_canLease_0 rfl (lv_at hl 0 rfl) ?_
  refine lv_aload_n hx hb dX9_canLease_1 rfl (lv_at hl 0 rfl) ?_
  refine lv_iload_n hx hb dX9_canLease_2 rfl (lv_at hl 1 rfl) ?_
  refine vp_callSi (W.runV (As := [.int (zI x)]) (rest := [.ref (mo 0)]) ⟨hx, hb, hml, hown, htg⟩ (m_isTenant l dg ck mo S F1 F2 F3 F4 M x hI (by omega)) (cwV 1 htg (gwV wq_1821 wq_1823 wp_55 wq_15 wq_1824) rfl rfl rfl (by decide +kernel) ⟨Nat.le_of_ble_eq_true rfl, Nat.le_of_ble_eq_true rfl⟩) (rd_preV hK hP 0 11 rfl rfl) rfl rfl hl.1 rfl (lv_room (Nat.le_of_ble_eq_true rfl)) dX9_canLease_3 ⟨Nat.zero_le _, Nat.zero_le _⟩) (fun r3 hr3 => ?_)
  subst hr3
  refine x_bz_eq (tgt := 21) hx hb dX9_canLease_6 (by decide) (fun c6 => ?_) (fun c6 => ?_)
  · refine x_iconst hx hb dX9_canLease_21 ?_
    refine va_put (D := dg) (ci := 11) (v := .int (zI 1)) (ty := .int) (C := RX9) (T := TX9) (N := 23) hx hb htg inG_X9 tyX9 tyX9_ok nmX9 hown hK hP hD hS 0 rfl rfl 0 (Nat.le_of_ble_eq_true rfl) (htg _ wq_1557) (fun _ h9 => h9) rfl (by decide +kernel) rfl rfl (Nat.le_of_ble_eq_true rfl) dX9_canLease_22 (fun H locs hP hD hS => ?_)
    have hP : va_P dg vwCl (modelC ck mo (encZ S) F1 F2 F3 F4 (upS M 8 0 1)) H := hP
    have hD : va_D A (modelC ck mo (encZ S) F1 F2 F3 F4 (upS M 8 0 1)) := hD
    refine lv_aload_n hx hb dX9_canLease_25 rfl (lv_at hl 0 rfl) ?_
    refine va_get (D := dg) (ci := 11) (v := .int (zI 1)) (C := RX9) (T := TX9) (N := 23) hx hb htg inG_X9 hown hK hP 0 rfl rfl 0 (Nat.le_of_ble_eq_true rfl) (htg _ wq_1557) (fun _ h9 => h9) rfl dX9_canLease_26 ?_
    refine x_if_ne (tgt := 45) hx hb dX9_canLease_29 (by decide) (by omega) (fun c29 => ?_) (fun c29 => absurd c29 (by decide))
    refine x_iconst hx hb dX9_canLease_45 ?_
    exact W.zret (v := _) hx hb hr (by first | rfl | rfl) (fun t9 ht9 hW9 => ⟨⟨_, (upS M 8 0 1), rfl, (⟨⟨(show (1 : Int) = 1 - bI (isTen S x ∧ isBench S y) by rw [bI_f (show ¬ (isTen S x ∧ isBench S y) by omega)]; rfl), fun k9 i9 h9 => upS_n (by omega)⟩, (congrArg zI (by first | exact (bI_t (by omega)).symm | exact (bI_f (by omega)).symm))⟩), by rw [ht9]; exact hP, by rw [hAe]; exact hD⟩, hS.F ht9⟩) hS.2.2 dX9_canLease_46
  · refine lv_aload_n hx hb dX9_canLease_9 rfl (lv_at hl 0 rfl) ?_
    refine lv_iload_n hx hb dX9_canLease_10 rfl (lv_at hl 2 rfl) ?_
    refine vp_callSi (W.runV (As := [.int (zI y)]) (rest := [.ref (mo 0)]) ⟨hx, hb, hml, hown, htg⟩ (m_isBench l dg ck mo S F1 F2 F3 F4 M y hI (by omega)) (cwV 1 htg (gwV wq_1689 wq_1691 wp_42 wq_15 wq_1692) rfl rfl rfl (by decide +kernel) ⟨Nat.le_of_ble_eq_true rfl, Nat.le_of_ble_eq_true rfl⟩) (rd_preV hK hP 0 11 rfl rfl) rfl rfl hl.1 rfl (lv_room (Nat.le_of_ble_eq_true rfl)) dX9_canLease_11 ⟨Nat.zero_le _, Nat.zero_le _⟩) (fun r11 hr11 => ?_)
    subst hr11
    refine x_bz_eq (tgt := 21) hx hb dX9_canLease_14 (by decide) (fun c14 => ?_) (fun c14 => ?_)
    · refine x_iconst hx hb dX9_canLease_21 ?_
      refine va_put (D := dg) (ci := 11) (v := .int (zI 1)) (ty := .int) (C := RX9) (T := TX9) (N := 23) hx hb htg inG_X9 tyX9 tyX9_ok nmX9 hown hK hP hD hS 0 rfl rfl 0 (Nat.le_of_ble_eq_true rfl) (htg _ wq_1557) (fun _ h9 => h9) rfl (by decide +kernel) rfl rfl (Nat.le_of_ble_eq_true rfl) dX9_canLease_22 (fun H locs hP hD hS => ?_)
      have hP : va_P dg vwCl (modelC ck mo (encZ S) F1 F2 F3 F4 (upS M 8 0 1)) H := hP
      have hD : va_D A (modelC ck mo (encZ S) F1 F2 F3 F4 (upS M 8 0 1)) := hD
      refine lv_aload_n hx hb dX9_canLease_25 rfl (lv_at hl 0 rfl) ?_
      refine va_get (D := dg) (ci := 11) (v := .int (zI 1)) (C := RX9) (T := TX9) (N := 23) hx hb htg inG_X9 hown hK hP 0 rfl rfl 0 (Nat.le_of_ble_eq_true rfl) (htg _ wq_1557) (fun _ h9 => h9) rfl dX9_canLease_26 ?_
      refine x_if_ne (tgt := 45) hx hb dX9_canLease_29 (by decide) (by omega) (fun c29 => ?_) (fun c29 => absurd c29 (by decide))
      refine x_iconst hx hb dX9_canLease_45 ?_
      exact W.zret (v := _) hx hb hr (by first | rfl | rfl) (fun t9 ht9 hW9 => ⟨⟨_, (upS M 8 0 1), rfl, (⟨⟨(show (1 : Int) = 1 - bI (isTen S x ∧ isBench S y) by rw [bI_f (show ¬ (isTen S x ∧ isBench S y) by omega)]; rfl), fun k9 i9 h9 => upS_n (by omega)⟩, (congrArg zI (by first | exact (bI_t (by omega)).symm | exact (bI_f (by omega)).symm))⟩), by rw [ht9]; exact hP, by rw [hAe]; exact hD⟩, hS.F ht9⟩) hS.2.2 dX9_canLease_46
    · refine x_iconst hx hb dX9_canLease_17 ?_
      refine lv_goto (tgt := 22) hx hb dX9_canLease_18 (by decide) ?_
      refine va_put (D := dg) (ci := 11) (v := .int (zI 0)) (ty := .int) (C := RX9) (T := TX9) (N := 23) hx hb htg inG_X9 tyX9 tyX9_ok nmX9 hown hK hP hD hS 0 rfl rfl 0 (Nat.le_of_ble_eq_true rfl) (htg _ wq_1557) (fun _ h9 => h9) rfl (by decide +kernel) rfl rfl (Nat.le_of_ble_eq_true rfl) dX9_canLease_22 (fun H locs hP hD hS => ?_)
      have hP : va_P dg vwCl (modelC ck mo (encZ S) F1 F2 F3 F4 (upS M 8 0 0)) H := hP
      have hD : va_D A (modelC ck mo (encZ S) F1 F2 F3 F4 (upS M 8 0 0)) := hD
      refine lv_aload_n hx hb dX9_canLease_25 rfl (lv_at hl 0 rfl) ?_
      refine va_get (D := dg) (ci := 11) (v := .int (zI 0)) (C := RX9) (T := TX9) (N := 23) hx hb htg inG_X9 hown hK hP 0 rfl rfl 0 (Nat.le_of_ble_eq_true rfl) (htg _ wq_1557) (fun _ h9 => h9) rfl dX9_canLease_26 ?_
      refine x_if_ne (tgt := 45) hx hb dX9_canLease_29 (by decide) (by omega) (fun c29 => absurd c29 (by decide)) (fun c29 => ?_)
      refine lv_aload_n hx hb dX9_canLease_32 rfl (lv_at hl 0 rfl) ?_
      refine lv_iload_n hx hb dX9_canLease_33 rfl (lv_at hl 1 rfl) ?_
      refine lv_iload_n hx hb dX9_canLease_34 rfl (lv_at hl 2 rfl) ?_
      refine x_calli (ws' := modelC ck mo (encZ S) F1 F2 F3 F4 (barM S (upS M 8 0 0) x y)) [] (M := modelC ck mo (encZ S) F1 F2 F3 F4 (upS M 8 0 0)) (M' := modelC ck mo (encZ S) F1 F2 F3 F4 (barM S (upS M 8 0 0) x y)) ([]) (List.append_nil _).symm (List.append_nil _).symm hP hD hS hA (fun hPm hDm => va_runV (As := [.int (zI x), .int (zI y)]) (rest := []) ⟨hx, hb, hml, hown, htg⟩ (m_barred l dg ck mo S F1 F2 F3 F4 (upS M 8 0 0) x y _ hI (by omega) (by omega)) (cwV 2 htg (gwV wq_1861 wq_1863 wp_60 wq_15 wq_1864) rfl rfl rfl (by decide +kernel) ⟨Nat.le_of_ble_eq_true rfl, Nat.le_of_ble_eq_true rfl⟩) (wr_preV hK hPm hDm 0 11 rfl rfl) rfl rfl hl.1 rfl (lv_room (Nat.le_of_ble_eq_true rfl)) dX9_canLease_35 ⟨Nat.zero_le _, Nat.zero_le _⟩) (fun r35 H locs hr35 hP hD hS => ?_)
      subst hr35
      refine x_if_ne (tgt := 45) hx hb dX9_canLease_38 (by decide) (by omega) (fun c38 => ?_) (fun c38 => ?_)
      · refine x_iconst hx hb dX9_canLease_45 ?_
        exact W.zret (v := _) hx hb hr (by first | rfl | rfl) (fun t9 ht9 hW9 => ⟨⟨_, (barM S (upS M 8 0 0) x y), rfl, (⟨⟨(barM_n (by omega)).trans (show (0 : Int) = 1 - bI (isTen S x ∧ isBench S y) by rw [bI_t (show (isTen S x ∧ isBench S y) by omega)]; rfl), fun k9 i9 h9 => (barM_n (by omega)).trans (upS_n (by omega))⟩, (congrArg zI (by first | exact (bI_t (by omega)).symm | exact (bI_f (by omega)).symm))⟩), by rw [ht9]; exact hP, by rw [hAe]; exact hD⟩, hS.F ht9⟩) hS.2.2 dX9_canLease_46
      · refine x_iconst hx hb dX9_canLease_41 ?_
        refine lv_goto (tgt := 46) hx hb dX9_canLease_42 (by decide) ?_
        exact W.zret (v := _) hx hb hr (by first | rfl | rfl) (fun t9 ht9 hW9 => ⟨⟨_, (barM S (upS M 8 0 0) x y), rfl, (⟨⟨(barM_n (by omega)).trans (show (0 : Int) = 1 - bI (isTen S x ∧ isBench S y) by rw [bI_t (show (isTen S x ∧ isBench S y) by omega)]; rfl), fun k9 i9 h9 => (barM_n (by omega)).trans (upS_n (by omega))⟩, (congrArg zI (by first | exact (bI_t (by omega)).symm | exact (bI_f (by omega)).symm))⟩), by rw [ht9]; exact hP, by rw [hAe]; exact hD⟩, hS.F ht9⟩) hS.2.2 dX9_canLease_46

set_option maxHeartbeats 4000000 in
set_option maxRecDepth 100000 in
/-- BenchBrokerModel.cheapestFor -/
theorem m_cheapestFor (l : Launch) (dg : va_G) (ck : Nat → ClassId) (mo : Nat → Nat) (S : St) (F1 F2 F3 F4 : Int → Int) (M : St) (x : Int) (sz : Nat) (hI : Bd S) (rg_x : -2147483648 ≤ x ∧ x < 2147483648) : Met l yX9_cheapestFor (.code yX9_cheapestFor cX9_cheapestFor 4 (some .int) :: GW) ({ frames := 5, cells := 0, slots := 0, locals := 113 }) (va_Pc [.ref (mo 0), .int (zI x)] (wrP dg ck sz (modelC ck mo (encZ S) F1 F2 F3 F4 M))) (va_Qi (fun r (u : St) => qM M u (if ¬ isTen S x then 1 else if chB S x (S 0 0).toNat = -1 then 2 else 0) ∧ r = zI (if (if ¬ isTen S x then 1 else if chB S x (S 0 0).toNat = -1 then 2 else 0) = 0 then chB S x (S 0 0).toNat else 0)) (fun u t9 => wrQ dg sz (modelC ck mo (encZ S) F1 F2 F3 F4 M) (modelC ck mo (encZ S) F1 F2 F3 F4 u) t9) (va_A (modelC ck mo (encZ S) F1 F2 F3 F4 M) sz)) 0 0 (va_A (modelC ck mo (encZ S) F1 F2 F3 F4 M) sz) := by
  refine Met.ofW (cc := cX9_cheapestFor) (maxL := 4) (ret := (some .int)) (by decide) rfl ?_
  intro p e s m args below meth c s₁ B hml hv
  obtain ⟨rfl, hsz, hP, hK, hD0⟩ := hv
  have hx := B.exec
  have hb := B.bytes
  have hr := B.returns
  have hts := atoms_spec (ws := .code yX9_cheapestFor cX9_cheapestFor 4 (some .int) :: GW) B.pre
  have htg : ∀ w ∈ GW, w.before _ s = true := fun w h => hts w (List.mem_cons_of_mem _ h)
  have hown : s.vm.findClass RX9 = some m.cls := findClass_of_methodNamed B.named
  have hlocks := B.notSynchronized
  subst hsz
  have hD := hD0.self (sz := s.heap.size)
  generalize hAe : va_A (modelC ck mo (encZ S) F1 F2 F3 F4 M) s.heap.size = A at hD ⊢
  have hA : ∀ q : Nat, s.heap.size ≤ q → A q := fun q h => by rw [← hAe]; exact Or.inr h
  have hS : va_S A s.heap s.heap [] := va_S.rf
  have hP : va_P dg vwCl (modelC ck mo (encZ S) F1 F2 F3 F4 M) s.heap := hP
  have hl := lv_entry ([.ref (mo 0), .int (zI x)]) (n := 4) (Nat.le_of_ble_eq_true rfl)
  rw [lg_entry_eq]
  generalize (lg_sl ([.ref (mo 0), .int (zI x)]) ++ List.replicate (4 - (lg_sl ([.ref (mo 0), .int (zI x)])).length) Slot.unset).toArray = ls at hl ⊢
  have hl : lv_has ls 4 [(0, .ref (mo 0)), (1, .int (zI x))] := hl
  obtain ⟨b00, b01, b02, b03, b1, b2, b3, b4, b5, b6, b7, b8, b9, b10, b11, b12⟩ := id hI
  refine lv_aload_n hx hb dX9_cheapestFor_0 rfl (lv_at hl 0 rfl) ?_
  refine lv_aload_n hx hb dX9_cheapestFor_1 rfl (lv_at hl 0 rfl) ?_
  refine lv_iload_n hx hb dX9_cheapestFor_2 rfl (lv_at hl 1 rfl) ?_
  refine vp_callSi (W.runV (As := [.int (zI x)]) (rest := [.ref (mo 0)]) ⟨hx, hb, hml, hown, htg⟩ (m_isTenant l dg ck mo S F1 F2 F3 F4 M x hI (by omega)) (cwV 1 htg (gwV wq_1821 wq_1823 wp_55 wq_15 wq_1824) rfl rfl rfl (by decide +kernel) ⟨Nat.le_of_ble_eq_true rfl, Nat.le_of_ble_eq_true rfl⟩) (rd_preV hK hP 0 11 rfl rfl) rfl rfl hl.1 rfl (lv_room (Nat.le_of_ble_eq_true rfl)) dX9_cheapestFor_3 ⟨Nat.zero_le _, Nat.zero_le _⟩) (fun r3 hr3 => ?_)
  subst hr3
  refine x_bz_eq (tgt := 13) hx hb dX9_cheapestFor_6 (by decide) (fun c6 => ?_) (fun c6 => ?_)
  · refine x_iconst hx hb dX9_cheapestFor_13 ?_
    refine va_put (D := dg) (ci := 11) (v := .int (zI 1)) (ty := .int) (C := RX9) (T := TX9) (N := 23) hx hb htg inG_X9 tyX9 tyX9_ok nmX9 hown hK hP hD hS 0 rfl rfl 0 (Nat.le_of_ble_eq_true rfl) (htg _ wq_1557) (fun _ h9 => h9) rfl (by decide +kernel) rfl rfl (Nat.le_of_ble_eq_true rfl) dX9_cheapestFor_14 (fun H locs hP hD hS => ?_)
    have hP : va_P dg vwCl (modelC ck mo (encZ S) F1 F2 F3 F4 (upS M 8 0 1)) H := hP
    have hD : va_D A (modelC ck mo (encZ S) F1 F2 F3 F4 (upS M 8 0 1)) := hD
    refine lv_aload_n hx hb dX9_cheapestFor_17 rfl (lv_at hl 0 rfl) ?_
    refine va_get (D := dg) (ci := 11) (v := .int (zI 1)) (C := RX9) (T := TX9) (N := 23) hx hb htg inG_X9 hown hK hP 0 rfl rfl 0 (Nat.le_of_ble_eq_true rfl) (htg _ wq_1557) (fun _ h9 => h9) rfl dX9_cheapestFor_18 ?_
    refine x_if_le (tgt := 26) hx hb dX9_cheapestFor_21 (by decide) (by omega) (fun c21 => absurd c21 (by decide)) (fun c21 => ?_)
    refine x_iconst hx hb dX9_cheapestFor_24 ?_
    exact W.iret (v := _) hx hb hr (fun t9 ht9 hW9 => ⟨⟨_, (upS M 8 0 1), rfl, (⟨⟨(show (1 : Int) = (if ¬ isTen S x then 1 else if chB S x (S 0 0).toNat = -1 then 2 else 0) by rw [if_pos (by omega)]), fun k9 i9 h9 => upS_n (by omega)⟩, (show zI 0 = zI (if (if ¬ isTen S x then 1 else if chB S x (S 0 0).toNat = -1 then 2 else 0) = 0 then _ else 0) by rw [if_pos (show ¬ isTen S x by omega)]; rfl)⟩), by rw [ht9]; exact hP, by rw [hAe]; exact hD⟩, hS.F ht9⟩) hS.2.2 dX9_cheapestFor_25
  · refine x_iconst hx hb dX9_cheapestFor_9 ?_
    refine lv_goto (tgt := 14) hx hb dX9_cheapestFor_10 (by decide) ?_
    refine va_put (D := dg) (ci := 11) (v := .int (zI 0)) (ty := .int) (C := RX9) (T := TX9) (N := 23) hx hb htg inG_X9 tyX9 tyX9_ok nmX9 hown hK hP hD hS 0 rfl rfl 0 (Nat.le_of_ble_eq_true rfl) (htg _ wq_1557) (fun _ h9 => h9) rfl (by decide +kernel) rfl rfl (Nat.le_of_ble_eq_true rfl) dX9_cheapestFor_14 (fun H locs hP hD hS => ?_)
    have hP : va_P dg vwCl (modelC ck mo (encZ S) F1 F2 F3 F4 (upS M 8 0 0)) H := hP
    have hD : va_D A (modelC ck mo (encZ S) F1 F2 F3 F4 (upS M 8 0 0)) := hD
    refine lv_aload_n hx hb dX9_cheapestFor_17 rfl (lv_at hl 0 rfl) ?_
    refine va_get (D := dg) (ci := 11) (v := .int (zI 0)) (C := RX9) (T := TX9) (N := 23) hx hb htg inG_X9 hown hK hP 0 rfl rfl 0 (Nat.le_of_ble_eq_true rfl) (htg _ wq_1557) (fun _ h9 => h9) rfl dX9_cheapestFor_18 ?_
    refine x_if_le (tgt := 26) hx hb dX9_cheapestFor_21 (by decide) (by omega) (fun c21 => ?_) (fun c21 => absurd c21 (by decide))
    refine x_iconst hx hb dX9_cheapestFor_26 ?_
    refine lv_istore_n (lv' := [(2, .int (zI (-1))), (0, .ref (mo 0)), (1, .int (zI x))]) hx hb dX9_cheapestFor_27 rfl hl (by decide) rfl (fun ls hl => ?_)
    refine x_iconst hx hb dX9_cheapestFor_28 ?_
    refine lv_istore_n (lv' := [(3, .int (zI 0)), (2, .int (zI (-1))), (0, .ref (mo 0)), (1, .int (zI x))]) hx hb dX9_cheapestFor_29 rfl hl (by decide) rfl (fun ls hl => ?_)
    refine x_loopW (ι := St × Int × Int) (fun v => (0 ≤ v.2.2 ∧ v.2.2 ≤ S 0 0) ∧ v.2.1 = chB S x v.2.2.toNat ∧ v.1 8 0 = 0 ∧ ∀ k9 i9, ¬ (k9 = 8 ∧ (i9 = 0 ∨ i9 = 9)) → v.1 k9 i9 = M k9 i9) (fun v => (S 0 0 - v.2.2).toNat) (fun v => [(0, .ref (mo 0)), (1, .int (zI x)), (2, .int (zI v.2.1)), (3, .int (zI v.2.2))]) (fun v => modelC ck mo (encZ S) F1 F2 F3 F4 v.1) ((upS M 8 0 0), (-1), 0) (show (0 ≤ (0 : Int) ∧ (0 : Int) ≤ S 0 0) ∧ ((-1) : Int) = chB S x (0 : Int).toNat ∧ (upS M 8 0 0) 8 0 = 0 ∧ ∀ k9 i9, ¬ (k9 = 8 ∧ (i9 = 0 ∨ i9 = 9)) → (upS M 8 0 0) k9 i9 = M k9 i9 from ⟨by omega, rfl, rfl, fun k9 i9 h9 => upS_n (by omega)⟩) (lv_sub hl [2, 3, 1, 0] rfl) hP hD hS ?_
    intro v hv ih_30 ls H locs hl hP hD hS
    obtain ⟨y, u, i⟩ := v
    have hl : lv_has ls 4 [(0, .ref (mo 0)), (1, .int (zI x)), (2, .int (zI u)), (3, .int (zI i))] := hl
    have hv : (0 ≤ i ∧ i ≤ S 0 0) ∧ u = chB S x i.toNat ∧ y 8 0 = 0 ∧ ∀ k9 i9, ¬ (k9 = 8 ∧ (i9 = 0 ∨ i9 = 9)) → y k9 i9 = M k9 i9 := hv
    have hP : va_P dg vwCl (modelC ck mo (encZ S) F1 F2 F3 F4 y) H := hP
    have hD : va_D A (modelC ck mo (encZ S) F1 F2 F3 F4 y) := hD
    obtain ⟨hi, hu, hy0, hy8⟩ := hv
    refine lv_iload_n hx hb dX9_cheapestFor_30 rfl (lv_at hl 3 rfl) ?_
    refine lv_aload_n hx hb dX9_cheapestFor_31 rfl (lv_at hl 0 rfl) ?_
    refine va_get (D := dg) (ci := 11) (v := .ref (mo 1)) (C := RX9) (T := TX9) (N := 23) hx hb htg inG_X9 hown hK hP 0 rfl rfl 1 (Nat.le_of_ble_eq_true rfl) (htg _ wq_1558) (fun _ h9 => h9) rfl dX9_cheapestFor_32 ?_
    refine x_iconst hx hb dX9_cheapestFor_35 ?_
    refine x_iald hx hb hK hP 1 0 (encZ S) rfl rfl (fun _ => rfl) (P := fun _ => True) (fun _ => trivial) (by decide) (by omega) dX9_cheapestFor_36 (fun _ => ?_)
    refine x_is (show (encZ S) 0 = (S 0 0) from (encV (k := 0) (i := 0) (Or.inl ⟨rfl, by decide, by decide, rfl⟩)).trans (rfl)) ?_
    refine x_icmp_ge (tgt := 75) hx hb dX9_cheapestFor_37 (by decide) (by omega) (by omega) (fun c37 => ?_) (fun c37 => ?_)
    · have hcr := chB_r S x i.toNat
      have hub : chB S x (S 0 0).toNat = u := by rw [hu, show i = S 0 0 by omega]
      refine lv_iload_n hx hb dX9_cheapestFor_75 rfl (lv_at hl 2 rfl) ?_
      refine x_iconst hx hb dX9_cheapestFor_76 ?_
      refine x_icmp_ne (tgt := 88) hx hb dX9_cheapestFor_77 (by decide) (by omega) (by omega) (fun c77 => ?_) (fun c77 => ?_)
      · refine lv_iload_n hx hb dX9_cheapestFor_88 rfl (lv_at hl 2 rfl) ?_
        exact W.iret (v := _) hx hb hr (fun t9 ht9 hW9 => ⟨⟨_, y, rfl, (⟨⟨(hy0.trans (show (0 : Int) = (if ¬ isTen S x then 1 else if chB S x (S 0 0).toNat = -1 then 2 else 0) by rw [hub, if_neg (by omega), if_neg (by omega)])), fun k9 i9 h9 => (hy8 k9 i9 h9)⟩, (show zI u = zI (if (if ¬ isTen S x then 1 else if chB S x (S 0 0).toNat = -1 then 2 else 0) = 0 then chB S x (S 0 0).toNat else 0) by rw [hub, if_neg (show ¬ ¬ isTen S x by omega), if_neg (show ¬ u = -1 by omega)]; rfl)⟩), by rw [ht9]; exact hP, by rw [hAe]; exact hD⟩, hS.F ht9⟩) hS.2.2 dX9_cheapestFor_89
      · refine lv_aload_n hx hb dX9_cheapestFor_80 rfl (lv_at hl 0 rfl) ?_
        refine x_iconst hx hb dX9_cheapestFor_81 ?_
        refine x_calli (ws' := modelC ck mo (encZ S) F1 F2 F3 F4 (upS y 8 0 2)) [] (M := modelC ck mo (encZ S) F1 F2 F3 F4 y) (M' := modelC ck mo (encZ S) F1 F2 F3 F4 (upS y 8 0 2)) ([]) (List.append_nil _).symm (List.append_nil _).symm hP hD hS hA (fun hPm hDm => va_runV (As := [.int (zI 2)]) (rest := []) ⟨hx, hb, hml, hown, htg⟩ (m_fails l dg ck mo S F1 F2 F3 F4 y 2 _ ) (cwV 1 htg (gwV wq_1677 wq_1679 wp_40 wq_15 wq_1680) rfl rfl rfl (by decide +kernel) ⟨Nat.le_of_ble_eq_true rfl, Nat.le_of_ble_eq_true rfl⟩) (wr_preV hK hPm hDm 0 11 rfl rfl) rfl rfl hl.1 rfl (lv_room (Nat.le_of_ble_eq_true rfl)) dX9_cheapestFor_82 ⟨Nat.zero_le _, Nat.zero_le _⟩) (fun r82 H locs hr82 hP hD hS => ?_)
        subst hr82
        refine lv_goto (tgt := 89) hx hb dX9_cheapestFor_85 (by decide) ?_
        exact W.iret (v := _) hx hb hr (fun t9 ht9 hW9 => ⟨⟨_, (upS y 8 0 2), rfl, (⟨⟨(show (2 : Int) = (if ¬ isTen S x then 1 else if chB S x (S 0 0).toNat = -1 then 2 else 0) by rw [hub, if_neg (by omega), if_pos (by omega)]), fun k9 i9 h9 => (upS_n (by omega)).trans (hy8 k9 i9 h9)⟩, (show zI 0 = zI (if (if ¬ isTen S x then 1 else if chB S x (S 0 0).toNat = -1 then 2 else 0) = 0 then _ else 0) by rw [hub, if_neg (show ¬ ¬ isTen S x by omega), if_pos (show u = -1 by omega)]; rfl)⟩), by rw [ht9]; exact hP, by rw [hAe]; exact hD⟩, hS.F ht9⟩) hS.2.2 dX9_cheapestFor_89
    · have hre := rent_r hI i
      have hob := obst_r S x i
      have hcr := chB_r S x i.toNat
      have hre2 := rent_r hI u
      refine lv_aload_n hx hb dX9_cheapestFor_40 rfl (lv_at hl 0 rfl) ?_
      refine lv_iload_n hx hb dX9_cheapestFor_41 rfl (lv_at hl 1 rfl) ?_
      refine lv_iload_n hx hb dX9_cheapestFor_42 rfl (lv_at hl 3 rfl) ?_
      refine x_calli (ws' := modelC ck mo (encZ S) F1 F2 F3 F4 (barM S y x i)) [] (M := modelC ck mo (encZ S) F1 F2 F3 F4 y) (M' := modelC ck mo (encZ S) F1 F2 F3 F4 (barM S y x i)) ([]) (List.append_nil _).symm (List.append_nil _).symm hP hD hS hA (fun hPm hDm => va_runV (As := [.int (zI x), .int (zI i)]) (rest := []) ⟨hx, hb, hml, hown, htg⟩ (m_barred l dg ck mo S F1 F2 F3 F4 y x i _ hI (by omega) (by omega)) (cwV 2 htg (gwV wq_1861 wq_1863 wp_60 wq_15 wq_1864) rfl rfl rfl (by decide +kernel) ⟨Nat.le_of_ble_eq_true rfl, Nat.le_of_ble_eq_true rfl⟩) (wr_preV hK hPm hDm 0 11 rfl rfl) rfl rfl hl.1 rfl (lv_room (Nat.le_of_ble_eq_true rfl)) dX9_cheapestFor_43 ⟨Nat.zero_le _, Nat.zero_le _⟩) (fun r43 H locs hr43 hP hD hS => ?_)
      subst hr43
      refine x_if_ne (tgt := 69) hx hb dX9_cheapestFor_46 (by decide) (by omega) (fun c46 => ?_) (fun c46 => ?_)
      · obtain ⟨v69, e_v69⟩ : ∃ y : Int, y = i + 1 := ⟨_, rfl⟩
        refine lv_iinc (v := zI v69) (lv' := [(3, .int (zI v69)), (0, .ref (mo 0)), (1, .int (zI x)), (2, .int (zI u))]) hx hb dX9_cheapestFor_69 hl (k := 3) rfl (by rw [e_v69]; exact zI_add _ _) (by decide) rfl (fun ls hl => ?_)
        refine lv_goto (tgt := 30) hx hb dX9_cheapestFor_72 (by decide) ?_
        exact ih_30 ((barM S y x i), u, v69) (show (0 ≤ v69 ∧ v69 ≤ S 0 0) ∧ u = chB S x v69.toNat ∧ (barM S y x i) 8 0 = 0 ∧ ∀ k9 i9, ¬ (k9 = 8 ∧ (i9 = 0 ∨ i9 = 9)) → (barM S y x i) k9 i9 = M k9 i9 from ⟨by omega, (by rw [e_v69, chB_s hi.1, ← hu]; first | rw [if_pos ⟨by omega, by omega⟩] | rw [if_neg (fun h => by omega)]), (barM_n (by omega)).trans hy0, fun k9 i9 h9 => (barM_n (by omega)).trans (hy8 k9 i9 h9)⟩) (show (S 0 0 - v69).toNat < (S 0 0 - i).toNat from by omega) ls H locs (lv_sub hl [1, 2, 3, 0] rfl) hP hD hS
      · refine lv_iload_n hx hb dX9_cheapestFor_49 rfl (lv_at hl 2 rfl) ?_
        refine x_iconst hx hb dX9_cheapestFor_50 ?_
        refine x_icmp_eq (tgt := 67) hx hb dX9_cheapestFor_51 (by decide) (by omega) (by omega) (fun c51 => ?_) (fun c51 => ?_)
        · refine lv_iload_n hx hb dX9_cheapestFor_67 rfl (lv_at hl 3 rfl) ?_
          refine lv_istore_n (lv' := [(2, .int (zI i)), (0, .ref (mo 0)), (1, .int (zI x)), (3, .int (zI i))]) hx hb dX9_cheapestFor_68 rfl hl (by decide) rfl (fun ls hl => ?_)
          obtain ⟨v69, e_v69⟩ : ∃ y : Int, y = i + 1 := ⟨_, rfl⟩
          refine lv_iinc (v := zI v69) (lv' := [(3, .int (zI v69)), (2, .int (zI i)), (0, .ref (mo 0)), (1, .int (zI x))]) hx hb dX9_cheapestFor_69 hl (k := 3) rfl (by rw [e_v69]; exact zI_add _ _) (by decide) rfl (fun ls hl => ?_)
          refine lv_goto (tgt := 30) hx hb dX9_cheapestFor_72 (by decide) ?_
          exact ih_30 ((barM S y x i), i, v69) (show (0 ≤ v69 ∧ v69 ≤ S 0 0) ∧ i = chB S x v69.toNat ∧ (barM S y x i) 8 0 = 0 ∧ ∀ k9 i9, ¬ (k9 = 8 ∧ (i9 = 0 ∨ i9 = 9)) → (barM S y x i) k9 i9 = M k9 i9 from ⟨by omega, (by rw [e_v69, chB_s hi.1, ← hu]; first | rw [if_pos ⟨by omega, by omega⟩] | rw [if_neg (fun h => by omega)]), (barM_n (by omega)).trans hy0, fun k9 i9 h9 => (barM_n (by omega)).trans (hy8 k9 i9 h9)⟩) (show (S 0 0 - v69).toNat < (S 0 0 - i).toNat from by omega) ls H locs (lv_sub hl [2, 3, 1, 0] rfl) hP hD hS
        · refine lv_aload_n hx hb dX9_cheapestFor_54 rfl (lv_at hl 0 rfl) ?_
          refine lv_iload_n hx hb dX9_cheapestFor_55 rfl (lv_at hl 3 rfl) ?_
          refine vp_callSi (W.runV (As := [.int (zI i)]) (rest := []) ⟨hx, hb, hml, hown, htg⟩ (m_rent l dg ck mo S F1 F2 F3 F4 (barM S y x i) i hI (by omega)) (cwV 1 htg (gwV wq_1753 wq_1755 wp_49 wq_15 wq_1756) rfl rfl rfl (by decide +kernel) ⟨Nat.le_of_ble_eq_true rfl, Nat.le_of_ble_eq_true rfl⟩) (rd_preV hK hP 0 11 rfl rfl) rfl rfl hl.1 rfl (lv_room (Nat.le_of_ble_eq_true rfl)) dX9_cheapestFor_56 ⟨Nat.zero_le _, Nat.zero_le _⟩) (fun r56 hr56 => ?_)
          subst hr56
          refine lv_aload_n hx hb dX9_cheapestFor_59 rfl (lv_at hl 0 rfl) ?_
          refine lv_iload_n hx hb dX9_cheapestFor_60 rfl (lv_at hl 2 rfl) ?_
          refine vp_callSi (W.runV (As := [.int (zI u)]) (rest := [.int (zI (rent S i))]) ⟨hx, hb, hml, hown, htg⟩ (m_rent l dg ck mo S F1 F2 F3 F4 (barM S y x i) u hI (by omega)) (cwV 1 htg (gwV wq_1753 wq_1755 wp_49 wq_15 wq_1756) rfl rfl rfl (by decide +kernel) ⟨Nat.le_of_ble_eq_true rfl, Nat.le_of_ble_eq_true rfl⟩) (rd_preV hK hP 0 11 rfl rfl) rfl rfl hl.1 rfl (lv_room (Nat.le_of_ble_eq_true rfl)) dX9_cheapestFor_61 ⟨Nat.zero_le _, Nat.zero_le _⟩) (fun r61 hr61 => ?_)
          subst hr61
          refine x_icmp_ge (tgt := 69) hx hb dX9_cheapestFor_64 (by decide) (by omega) (by omega) (fun c64 => ?_) (fun c64 => ?_)
          · obtain ⟨v69, e_v69⟩ : ∃ y : Int, y = i + 1 := ⟨_, rfl⟩
            refine lv_iinc (v := zI v69) (lv' := [(3, .int (zI v69)), (0, .ref (mo 0)), (1, .int (zI x)), (2, .int (zI u))]) hx hb dX9_cheapestFor_69 hl (k := 3) rfl (by rw [e_v69]; exact zI_add _ _) (by decide) rfl (fun ls hl => ?_)
            refine lv_goto (tgt := 30) hx hb dX9_cheapestFor_72 (by decide) ?_
            exact ih_30 ((barM S y x i), u, v69) (show (0 ≤ v69 ∧ v69 ≤ S 0 0) ∧ u = chB S x v69.toNat ∧ (barM S y x i) 8 0 = 0 ∧ ∀ k9 i9, ¬ (k9 = 8 ∧ (i9 = 0 ∨ i9 = 9)) → (barM S y x i) k9 i9 = M k9 i9 from ⟨by omega, (by rw [e_v69, chB_s hi.1, ← hu]; first | rw [if_pos ⟨by omega, by omega⟩] | rw [if_neg (fun h => by omega)]), (barM_n (by omega)).trans hy0, fun k9 i9 h9 => (barM_n (by omega)).trans (hy8 k9 i9 h9)⟩) (show (S 0 0 - v69).toNat < (S 0 0 - i).toNat from by omega) ls H locs (lv_sub hl [1, 2, 3, 0] rfl) hP hD hS
          · refine lv_iload_n hx hb dX9_cheapestFor_67 rfl (lv_at hl 3 rfl) ?_
            refine lv_istore_n (lv' := [(2, .int (zI i)), (0, .ref (mo 0)), (1, .int (zI x)), (3, .int (zI i))]) hx hb dX9_cheapestFor_68 rfl hl (by decide) rfl (fun ls hl => ?_)
            obtain ⟨v69, e_v69⟩ : ∃ y : Int, y = i + 1 := ⟨_, rfl⟩
            refine lv_iinc (v := zI v69) (lv' := [(3, .int (zI v69)), (2, .int (zI i)), (0, .ref (mo 0)), (1, .int (zI x))]) hx hb dX9_cheapestFor_69 hl (k := 3) rfl (by rw [e_v69]; exact zI_add _ _) (by decide) rfl (fun ls hl => ?_)
            refine lv_goto (tgt := 30) hx hb dX9_cheapestFor_72 (by decide) ?_
            exact ih_30 ((barM S y x i), i, v69) (show (0 ≤ v69 ∧ v69 ≤ S 0 0) ∧ i = chB S x v69.toNat ∧ (barM S y x i) 8 0 = 0 ∧ ∀ k9 i9, ¬ (k9 = 8 ∧ (i9 = 0 ∨ i9 = 9)) → (barM S y x i) k9 i9 = M k9 i9 from ⟨by omega, (by rw [e_v69, chB_s hi.1, ← hu]; first | rw [if_pos ⟨by omega, by omega⟩] | rw [if_neg (fun h => by omega)]), (barM_n (by omega)).trans hy0, fun k9 i9 h9 => (barM_n (by omega)).trans (hy8 k9 i9 h9)⟩) (show (S 0 0 - v69).toNat < (S 0 0 - i).toNat from by omega) ls H locs (lv_sub hl [2, 3, 1, 0] rfl) hP hD hS
