/-! the reference: mean rent, share let -/
theorem nn_d : ∀ a, a < 201 → ∀ b, b < 11 → vf_n64 (FP.ddiv (FP.i2d (zI (a : Nat))) (FP.i2d (zI ((b : Nat) + 1 : Nat)))) := by unfold vf_n64; decide +kernel
theorem nn_f : ∀ a, a < 11 → ∀ b, b < 11 → vf_n32 (FP.fdiv (FP.i2f (zI (a : Nat))) (FP.i2f (zI ((b : Nat) + 1 : Nat)))) := by unfold vf_n32; decide +kernel
theorem nnD {a b : Int} (ha : 0 ≤ a ∧ a ≤ 200) (hb : 1 ≤ b ∧ b ≤ 10) : vf_n64 (FP.ddiv (FP.i2d (zI a)) (FP.i2d (zI b))) := by
  have h := nn_d a.toNat (by omega) (b.toNat - 1) (by omega)
  rw [Int.toNat_of_nonneg ha.1, show (((b.toNat - 1) + 1 : Nat) : Int) = b by omega] at h
  exact h
theorem nnF {a b : Int} (ha : 0 ≤ a ∧ a ≤ 10) (hb : 1 ≤ b ∧ b ≤ 10) : vf_n32 (FP.fdiv (FP.i2f (zI a)) (FP.i2f (zI b))) := by
  have h := nn_f a.toNat (by omega) (b.toNat - 1) (by omega)
  rw [Int.toNat_of_nonneg ha.1, show (((b.toNat - 1) + 1 : Nat) : Int) = b by omega] at h
  exact h
def mrD (S : St) : UInt64 := if S 0 0 = 0 then FP.dconst0 else FP.ddiv (FP.i2d (zI (sumZ (rent S) (S 0 0).toNat))) (FP.i2d (zI (S 0 0)))
def lsF (S : St) : UInt32 := if S 0 0 = 0 then FP.fconst0 else FP.fdiv (FP.i2f (zI (sumZ (fun o => bI (S 4 o ≠ 0)) (S 0 0).toNat))) (FP.i2f (zI (S 0 0)))

set_option maxHeartbeats 4000000 in
set_option maxRecDepth 100000 in
/-- BenchBrokerModel.meanRent -/
theorem m_meanRent (l : Launch) (dg : va_G) (ck : Nat → ClassId) (mo : Nat → Nat) (S : St) (F1 F2 F3 F4 : Int → Int) (M : St) (sz : Nat) (hI : Bd S)  : Met l yX9_meanRent (.code yX9_meanRent cX9_meanRent 3 (some .double) :: GW) ({ frames := 4, cells := 0, slots := 0, locals := 91 }) (va_Pc [.ref (mo 0)] (wrP dg ck sz (modelC ck mo (encZ S) F1 F2 F3 F4 M))) (va_Qd (fun r (_ : Unit) => r = mrD S) (fun _ t9 => wrQ dg sz (modelC ck mo (encZ S) F1 F2 F3 F4 M) (modelC ck mo (encZ S) F1 F2 F3 F4 (upS M 8 0 (bI (S 0 0 = 0)))) t9) (va_A (modelC ck mo (encZ S) F1 F2 F3 F4 M) sz)) 0 0 (va_A (modelC ck mo (encZ S) F1 F2 F3 F4 M) sz) := by
  refine Met.ofW (cc := cX9_meanRent) (maxL := 3) (ret := (some .double)) (by decide) rfl ?_
  intro p e s m args below meth c s₁ B hml hv
  obtain ⟨rfl, hsz, hP, hK, hD0⟩ := hv
  have hx := B.exec
  have hb := B.bytes
  have hr := B.returns
  have hts := atoms_spec (ws := .code yX9_meanRent cX9_meanRent 3 (some .double) :: GW) B.pre
  have htg : ∀ w ∈ GW, w.before _ s = true := fun w h => hts w (List.mem_cons_of_mem _ h)
  have hown : s.vm.findClass RX9 = some m.cls := findClass_of_methodNamed B.named
  have hlocks := B.notSynchronized
  subst hsz
  have hD := hD0.self (sz := s.heap.size)
  generalize hAe : va_A (modelC ck mo (encZ S) F1 F2 F3 F4 M) s.heap.size = A at hD ⊢
  have hA : ∀ q : Nat, s.heap.size ≤ q → A q := fun q h => by rw [← hAe]; exact Or.inr h
  have hS : va_S A s.heap s.heap [] := va_S.rf
  have hP : va_P dg vwCl (modelC ck mo (encZ S) F1 F2 F3 F4 M) s.heap := hP
  have hl := lv_entry ([.ref (mo 0)]) (n := 3) (Nat.le_of_ble_eq_true rfl)
  rw [lg_entry_eq]
  generalize (lg_sl ([.ref (mo 0)]) ++ List.replicate (3 - (lg_sl ([.ref (mo 0)])).length) Slot.unset).toArray = ls at hl ⊢
  have hl : lv_has ls 3 [(0, .ref (mo 0))] := hl
  obtain ⟨b00, b01, b02, b03, b1, b2, b3, b4, b5, b6, b7, b8, b9, b10, b11, b12⟩ := id hI
  refine lv_aload_n hx hb dX9_meanRent_0 rfl (lv_at hl 0 rfl) ?_
  refine lv_aload_n hx hb dX9_meanRent_1 rfl (lv_at hl 0 rfl) ?_
  refine va_get (D := dg) (ci := 11) (v := .ref (mo 1)) (C := RX9) (T := TX9) (N := 23) hx hb htg inG_X9 hown hK hP 0 rfl rfl 1 (Nat.le_of_ble_eq_true rfl) (htg _ wq_1558) (fun _ h9 => h9) rfl dX9_meanRent_2 ?_
  refine x_iconst hx hb dX9_meanRent_5 ?_
  refine x_iald hx hb hK hP 1 0 (encZ S) rfl rfl (fun _ => rfl) (P := fun _ => True) (fun _ => trivial) (by decide) (by omega) dX9_meanRent_6 (fun _ => ?_)
  refine x_is (show (encZ S) 0 = (S 0 0) from (encV (k := 0) (i := 0) (Or.inl ⟨rfl, by decide, by decide, rfl⟩)).trans (rfl)) ?_
  refine x_if_ne (tgt := 14) hx hb dX9_meanRent_7 (by decide) (by omega) (fun c7 => ?_) (fun c7 => ?_)
  · refine x_iconst hx hb dX9_meanRent_14 ?_
    refine va_put (D := dg) (ci := 11) (v := .int (zI 0)) (ty := .int) (C := RX9) (T := TX9) (N := 23) hx hb htg inG_X9 tyX9 tyX9_ok nmX9 hown hK hP hD hS 0 rfl rfl 0 (Nat.le_of_ble_eq_true rfl) (htg _ wq_1557) (fun _ h9 => h9) rfl (by decide +kernel) rfl rfl (Nat.le_of_ble_eq_true rfl) dX9_meanRent_15 (fun H locs hP hD hS => ?_)
    have hP : va_P dg vwCl (modelC ck mo (encZ S) F1 F2 F3 F4 (upS M 8 0 0)) H := hP
    have hD : va_D A (modelC ck mo (encZ S) F1 F2 F3 F4 (upS M 8 0 0)) := hD
    refine lv_aload_n hx hb dX9_meanRent_18 rfl (lv_at hl 0 rfl) ?_
    refine va_get (D := dg) (ci := 11) (v := .int (zI 0)) (C := RX9) (T := TX9) (N := 23) hx hb htg inG_X9 hown hK hP 0 rfl rfl 0 (Nat.le_of_ble_eq_true rfl) (htg _ wq_1557) (fun _ h9 => h9) rfl dX9_meanRent_19 ?_
    refine x_if_le (tgt := 27) hx hb dX9_meanRent_22 (by decide) (by omega) (fun c22 => ?_) (fun c22 => absurd c22 (by decide))
    refine x_iconst hx hb dX9_meanRent_27 ?_
    refine lv_istore_n (lv' := [(1, .int (zI 0)), (0, .ref (mo 0))]) hx hb dX9_meanRent_28 rfl hl (by decide) rfl (fun ls hl => ?_)
    refine x_iconst hx hb dX9_meanRent_29 ?_
    refine lv_istore_n (lv' := [(2, .int (zI 0)), (1, .int (zI 0)), (0, .ref (mo 0))]) hx hb dX9_meanRent_30 rfl hl (by decide) rfl (fun ls hl => ?_)
    refine x_loopW (ι := Int × Int) (fun v => (0 ≤ v.2 ∧ v.2 ≤ S 0 0) ∧ v.1 = sumZ (rent S) v.2.toNat) (fun v => (S 0 0 - v.2).toNat) (fun v => [(0, .ref (mo 0)), (1, .int (zI v.1)), (2, .int (zI v.2))]) (fun v => modelC ck mo (encZ S) F1 F2 F3 F4 (upS M 8 0 0)) (0, 0) (show (0 ≤ (0 : Int) ∧ (0 : Int) ≤ S 0 0) ∧ (0 : Int) = sumZ (rent S) (0 : Int).toNat from ⟨by omega, rfl⟩) (lv_sub hl [2, 1, 0] rfl) hP hD hS ?_
    intro v hv ih_31 ls H locs hl hP hD hS
    obtain ⟨u, i⟩ := v
    have hl : lv_has ls 3 [(0, .ref (mo 0)), (1, .int (zI u)), (2, .int (zI i))] := hl
    have hv : (0 ≤ i ∧ i ≤ S 0 0) ∧ u = sumZ (rent S) i.toNat := hv
    have hP : va_P dg vwCl (modelC ck mo (encZ S) F1 F2 F3 F4 (upS M 8 0 0)) H := hP
    have hD : va_D A (modelC ck mo (encZ S) F1 F2 F3 F4 (upS M 8 0 0)) := hD
    obtain ⟨hi, hu⟩ := hv
    have hsr := sumZ_r (f := rent S) (M := 20) (fun o => ⟨by have := (rent_r hI o).1; omega, (rent_r hI o).2⟩) i.toNat
    rw [← hu] at hsr
    refine lv_iload_n hx hb dX9_meanRent_31 rfl (lv_at hl 2 rfl) ?_
    refine lv_aload_n hx hb dX9_meanRent_32 rfl (lv_at hl 0 rfl) ?_
    refine va_get (D := dg) (ci := 11) (v := .ref (mo 1)) (C := RX9) (T := TX9) (N := 23) hx hb htg inG_X9 hown hK hP 0 rfl rfl 1 (Nat.le_of_ble_eq_true rfl) (htg _ wq_1558) (fun _ h9 => h9) rfl dX9_meanRent_33 ?_
    refine x_iconst hx hb dX9_meanRent_36 ?_
    refine x_iald hx hb hK hP 1 0 (encZ S) rfl rfl (fun _ => rfl) (P := fun _ => True) (fun _ => trivial) (by decide) (by omega) dX9_meanRent_37 (fun _ => ?_)
    refine x_is (show (encZ S) 0 = (S 0 0) from (encV (k := 0) (i := 0) (Or.inl ⟨rfl, by decide, by decide, rfl⟩)).trans (rfl)) ?_
    refine x_icmp_ge (tgt := 55) hx hb dX9_meanRent_38 (by decide) (by omega) (by omega) (fun c38 => ?_) (fun c38 => ?_)
    · refine lv_iload_n hx hb dX9_meanRent_55 rfl (lv_at hl 1 rfl) ?_
      refine lv_i2d hx hb dX9_meanRent_56 ?_
      refine lv_aload_n hx hb dX9_meanRent_57 rfl (lv_at hl 0 rfl) ?_
      refine va_get (D := dg) (ci := 11) (v := .ref (mo 1)) (C := RX9) (T := TX9) (N := 23) hx hb htg inG_X9 hown hK hP 0 rfl rfl 1 (Nat.le_of_ble_eq_true rfl) (htg _ wq_1558) (fun _ h9 => h9) rfl dX9_meanRent_58 ?_
      refine x_iconst hx hb dX9_meanRent_61 ?_
      refine x_iald hx hb hK hP 1 0 (encZ S) rfl rfl (fun _ => rfl) (P := fun _ => True) (fun _ => trivial) (by decide) (by omega) dX9_meanRent_62 (fun _ => ?_)
      refine x_is (show (encZ S) 0 = (S 0 0) from (encV (k := 0) (i := 0) (Or.inl ⟨rfl, by decide, by decide, rfl⟩)).trans (rfl)) ?_
      refine lv_i2d hx hb dX9_meanRent_63 ?_
      refine lv_ddiv hx hb dX9_meanRent_64 (nnD (by omega) (by omega)) ?_
      have hEq : modelC ck mo (encZ S) F1 F2 F3 F4 (upS M 8 0 (bI (S 0 0 = 0))) = modelC ck mo (encZ S) F1 F2 F3 F4 (upS M 8 0 0) := (by rw [bI_f (by omega)])
      exact W.dret (v := _) hx hb hr (fun t9 ht9 hW9 => ⟨⟨_, (), rfl, (by unfold mrD; rw [if_neg (by omega), hu, show i = S 0 0 by omega]), by rw [ht9, hEq]; exact hP, by rw [hEq, hAe]; exact hD⟩, hS.F ht9⟩) hS.2.2 dX9_meanRent_65
    · refine lv_iload_n hx hb dX9_meanRent_41 rfl (lv_at hl 1 rfl) ?_
      refine lv_aload_n hx hb dX9_meanRent_42 rfl (lv_at hl 0 rfl) ?_
      refine lv_iload_n hx hb dX9_meanRent_43 rfl (lv_at hl 2 rfl) ?_
      refine vp_callSi (W.runV (As := [.int (zI i)]) (rest := [.int (zI u)]) ⟨hx, hb, hml, hown, htg⟩ (m_rent l dg ck mo S F1 F2 F3 F4 (upS M 8 0 0) i hI (by omega)) (cwV 1 htg (gwV wq_1753 wq_1755 wp_49 wq_15 wq_1756) rfl rfl rfl (by decide +kernel) ⟨Nat.le_of_ble_eq_true rfl, Nat.le_of_ble_eq_true rfl⟩) (rd_preV hK hP 0 11 rfl rfl) rfl rfl hl.1 rfl (lv_room (Nat.le_of_ble_eq_true rfl)) dX9_meanRent_44 ⟨Nat.zero_le _, Nat.zero_le _⟩) (fun r44 hr44 => ?_)
      subst hr44
      refine x_iadd hx hb dX9_meanRent_47 ?_
      refine x_top _ (fun v48 e_v48 => ?_)
      refine lv_istore_n (lv' := [(1, .int (zI v48)), (0, .ref (mo 0)), (2, .int (zI i))]) hx hb dX9_meanRent_48 rfl hl (by decide) rfl (fun ls hl => ?_)
      obtain ⟨v49, e_v49⟩ : ∃ y : Int, y = i + 1 := ⟨_, rfl⟩
      refine lv_iinc (v := zI v49) (lv' := [(2, .int (zI v49)), (1, .int (zI v48)), (0, .ref (mo 0))]) hx hb dX9_meanRent_49 hl (k := 2) rfl (by rw [e_v49]; exact zI_add _ _) (by decide) rfl (fun ls hl => ?_)
      refine lv_goto (tgt := 31) hx hb dX9_meanRent_52 (by decide) ?_
      exact ih_31 (v48, v49) (show (0 ≤ v49 ∧ v49 ≤ S 0 0) ∧ v48 = sumZ (rent S) v49.toNat from ⟨by omega, (by rw [e_v49, sumZ_s hi.1, ← hu]; exact e_v48)⟩) (show (S 0 0 - v49).toNat < (S 0 0 - i).toNat from by omega) ls H locs (lv_sub hl [2, 1, 0] rfl) hP hD hS
  · refine x_iconst hx hb dX9_meanRent_10 ?_
    refine lv_goto (tgt := 15) hx hb dX9_meanRent_11 (by decide) ?_
    refine va_put (D := dg) (ci := 11) (v := .int (zI 1)) (ty := .int) (C := RX9) (T := TX9) (N := 23) hx hb htg inG_X9 tyX9 tyX9_ok nmX9 hown hK hP hD hS 0 rfl rfl 0 (Nat.le_of_ble_eq_true rfl) (htg _ wq_1557) (fun _ h9 => h9) rfl (by decide +kernel) rfl rfl (Nat.le_of_ble_eq_true rfl) dX9_meanRent_15 (fun H locs hP hD hS => ?_)
    have hP : va_P dg vwCl (modelC ck mo (encZ S) F1 F2 F3 F4 (upS M 8 0 1)) H := hP
    have hD : va_D A (modelC ck mo (encZ S) F1 F2 F3 F4 (upS M 8 0 1)) := hD
    refine lv_aload_n hx hb dX9_meanRent_18 rfl (lv_at hl 0 rfl) ?_
    refine va_get (D := dg) (ci := 11) (v := .int (zI 1)) (C := RX9) (T := TX9) (N := 23) hx hb htg inG_X9 hown hK hP 0 rfl rfl 0 (Nat.le_of_ble_eq_true rfl) (htg _ wq_1557) (fun _ h9 => h9) rfl dX9_meanRent_19 ?_
    refine x_if_le (tgt := 27) hx hb dX9_meanRent_22 (by decide) (by omega) (fun c22 => absurd c22 (by decide)) (fun c22 => ?_)
    refine lv_dconst0 hx hb dX9_meanRent_25 ?_
    have hEq : modelC ck mo (encZ S) F1 F2 F3 F4 (upS M 8 0 (bI (S 0 0 = 0))) = modelC ck mo (encZ S) F1 F2 F3 F4 (upS M 8 0 1) := (by rw [bI_t (by omega)])
    exact W.dret (v := _) hx hb hr (fun t9 ht9 hW9 => ⟨⟨_, (), rfl, (by unfold mrD; rw [if_pos (by omega)]), by rw [ht9, hEq]; exact hP, by rw [hEq, hAe]; exact hD⟩, hS.F ht9⟩) hS.2.2 dX9_meanRent_26

set_option maxHeartbeats 4000000 in
set_option maxRecDepth 100000 in
/-- BenchBrokerModel.letShare -/
theorem m_letShare (l : Launch) (dg : va_G) (ck : Nat → ClassId) (mo : Nat → Nat) (S : St) (F1 F2 F3 F4 : Int → Int) (M : St) (sz : Nat) (hI : Bd S)  : Met l yX9_letShare (.code yX9_letShare cX9_letShare 3 (some .float) :: GW) ({ frames := 2, cells := 0, slots := 0, locals := 43 }) (va_Pc [.ref (mo 0)] (wrP dg ck sz (modelC ck mo (encZ S) F1 F2 F3 F4 M))) (va_Qf (fun r (_ : Unit) => r = lsF S) (fun _ t9 => wrQ dg sz (modelC ck mo (encZ S) F1 F2 F3 F4 M) (modelC ck mo (encZ S) F1 F2 F3 F4 (upS M 8 0 (bI (S 0 0 = 0)))) t9) (va_A (modelC ck mo (encZ S) F1 F2 F3 F4 M) sz)) 0 0 (va_A (modelC ck mo (encZ S) F1 F2 F3 F4 M) sz) := by
  refine Met.ofW (cc := cX9_letShare) (maxL := 3) (ret := (some .float)) (by decide) rfl ?_
  intro p e s m args below meth c s₁ B hml hv
  obtain ⟨rfl, hsz, hP, hK, hD0⟩ := hv
  have hx := B.exec
  have hb := B.bytes
  have hr := B.returns
  have hts := atoms_spec (ws := .code yX9_letShare cX9_letShare 3 (some .float) :: GW) B.pre
  have htg : ∀ w ∈ GW, w.before _ s = true := fun w h => hts w (List.mem_cons_of_mem _ h)
  have hown : s.vm.findClass RX9 = some m.cls := findClass_of_methodNamed B.named
  have hlocks := B.notSynchronized
  subst hsz
  have hD := hD0.self (sz := s.heap.size)
  generalize hAe : va_A (modelC ck mo (encZ S) F1 F2 F3 F4 M) s.heap.size = A at hD ⊢
  have hA : ∀ q : Nat, s.heap.size ≤ q → A q := fun q h => by rw [← hAe]; exact Or.inr h
  have hS : va_S A s.heap s.heap [] := va_S.rf
  have hP : va_P dg vwCl (modelC ck mo (encZ S) F1 F2 F3 F4 M) s.heap := hP
  have hl := lv_entry ([.ref (mo 0)]) (n := 3) (Nat.le_of_ble_eq_true rfl)
  rw [lg_entry_eq]
  generalize (lg_sl ([.ref (mo 0)]) ++ List.replicate (3 - (lg_sl ([.ref (mo 0)])).length) Slot.unset).toArray = ls at hl ⊢
  have hl : lv_has ls 3 [(0, .ref (mo 0))] := hl
  obtain ⟨b00, b01, b02, b03, b1, b2, b3, b4, b5, b6, b7, b8, b9, b10, b11, b12⟩ := id hI
  refine lv_aload_n hx hb dX9_letShare_0 rfl (lv_at hl 0 rfl) ?_
  refine lv_aload_n hx hb dX9_letShare_1 rfl (lv_at hl 0 rfl) ?_
  refine va_get (D := dg) (ci := 11) (v := .ref (mo 1)) (C := RX9) (T := TX9) (N := 23) hx hb htg inG_X9 hown hK hP 0 rfl rfl 1 (Nat.le_of_ble_eq_true rfl) (htg _ wq_1558) (fun _ h9 => h9) rfl dX9_letShare_2 ?_
  refine x_iconst hx hb dX9_letShare_5 ?_
  refine x_iald hx hb hK hP 1 0 (encZ S) rfl rfl (fun _ => rfl) (P := fun _ => True) (fun _ => trivial) (by decide) (by omega) dX9_letShare_6 (fun _ => ?_)
  refine x_is (show (encZ S) 0 = (S 0 0) from (encV (k := 0) (i := 0) (Or.inl ⟨rfl, by decide, by decide, rfl⟩)).trans (rfl)) ?_
  refine x_if_ne (tgt := 14) hx hb dX9_letShare_7 (by decide) (by omega) (fun c7 => ?_) (fun c7 => ?_)
  · refine x_iconst hx hb dX9_letShare_14 ?_
    refine va_put (D := dg) (ci := 11) (v := .int (zI 0)) (ty := .int) (C := RX9) (T := TX9) (N := 23) hx hb htg inG_X9 tyX9 tyX9_ok nmX9 hown hK hP hD hS 0 rfl rfl 0 (Nat.le_of_ble_eq_true rfl) (htg _ wq_1557) (fun _ h9 => h9) rfl (by decide +kernel) rfl rfl (Nat.le_of_ble_eq_true rfl) dX9_letShare_15 (fun H locs hP hD hS => ?_)
    have hP : va_P dg vwCl (modelC ck mo (encZ S) F1 F2 F3 F4 (upS M 8 0 0)) H := hP
    have hD : va_D A (modelC ck mo (encZ S) F1 F2 F3 F4 (upS M 8 0 0)) := hD
    refine lv_aload_n hx hb dX9_letShare_18 rfl (lv_at hl 0 rfl) ?_
    refine va_get (D := dg) (ci := 11) (v := .int (zI 0)) (C := RX9) (T := TX9) (N := 23) hx hb htg inG_X9 hown hK hP 0 rfl rfl 0 (Nat.le_of_ble_eq_true rfl) (htg _ wq_1557) (fun _ h9 => h9) rfl dX9_letShare_19 ?_
    refine x_if_le (tgt := 27) hx hb dX9_letShare_22 (by decide) (by omega) (fun c22 => ?_) (fun c22 => absurd c22 (by decide))
    refine x_iconst hx hb dX9_letShare_27 ?_
    refine lv_istore_n (lv' := [(1, .int (zI 0)), (0, .ref (mo 0))]) hx hb dX9_letShare_28 rfl hl (by decide) rfl (fun ls hl => ?_)
    refine x_iconst hx hb dX9_letShare_29 ?_
    refine lv_istore_n (lv' := [(2, .int (zI 0)), (1, .int (zI 0)), (0, .ref (mo 0))]) hx hb dX9_letShare_30 rfl hl (by decide) rfl (fun ls hl => ?_)
    refine x_loopW (ι := Int × Int) (fun v => (0 ≤ v.2 ∧ v.2 ≤ S 0 0) ∧ v.1 = sumZ (fun o => bI (S 4 o ≠ 0)) v.2.toNat) (fun v => (S 0 0 - v.2).toNat) (fun v => [(0, .ref (mo 0)), (1, .int (zI v.1)), (2, .int (zI v.2))]) (fun v => modelC ck mo (encZ S) F1 F2 F3 F4 (upS M 8 0 0)) (0, 0) (show (0 ≤ (0 : Int) ∧ (0 : Int) ≤ S 0 0) ∧ (0 : Int) = sumZ (fun o => bI (S 4 o ≠ 0)) (0 : Int).toNat from ⟨by omega, rfl⟩) (lv_sub hl [2, 1, 0] rfl) hP hD hS ?_
    intro v hv ih_31 ls H locs hl hP hD hS
    obtain ⟨u, i⟩ := v
    have hl : lv_has ls 3 [(0, .ref (mo 0)), (1, .int (zI u)), (2, .int (zI i))] := hl
    have hv : (0 ≤ i ∧ i ≤ S 0 0) ∧ u = sumZ (fun o => bI (S 4 o ≠ 0)) i.toNat := hv
    have hP : va_P dg vwCl (modelC ck mo (encZ S) F1 F2 F3 F4 (upS M 8 0 0)) H := hP
    have hD : va_D A (modelC ck mo (encZ S) F1 F2 F3 F4 (upS M 8 0 0)) := hD
    obtain ⟨hi, hu⟩ := hv
    have hsr := sumZ_r (f := fun o => bI (S 4 o ≠ 0)) (M := 1) (fun o => bI_r _) i.toNat
    rw [← hu] at hsr
    refine lv_iload_n hx hb dX9_letShare_31 rfl (lv_at hl 2 rfl) ?_
    refine lv_aload_n hx hb dX9_letShare_32 rfl (lv_at hl 0 rfl) ?_
    refine va_get (D := dg) (ci := 11) (v := .ref (mo 1)) (C := RX9) (T := TX9) (N := 23) hx hb htg inG_X9 hown hK hP 0 rfl rfl 1 (Nat.le_of_ble_eq_true rfl) (htg _ wq_1558) (fun _ h9 => h9) rfl dX9_letShare_33 ?_
    refine x_iconst hx hb dX9_letShare_36 ?_
    refine x_iald hx hb hK hP 1 0 (encZ S) rfl rfl (fun _ => rfl) (P := fun _ => True) (fun _ => trivial) (by decide) (by omega) dX9_letShare_37 (fun _ => ?_)
    refine x_is (show (encZ S) 0 = (S 0 0) from (encV (k := 0) (i := 0) (Or.inl ⟨rfl, by decide, by decide, rfl⟩)).trans (rfl)) ?_
    refine x_icmp_ge (tgt := 64) hx hb dX9_letShare_38 (by decide) (by omega) (by omega) (fun c38 => ?_) (fun c38 => ?_)
    · refine lv_iload_n hx hb dX9_letShare_64 rfl (lv_at hl 1 rfl) ?_
      refine lv_i2f hx hb dX9_letShare_65 ?_
      refine lv_aload_n hx hb dX9_letShare_66 rfl (lv_at hl 0 rfl) ?_
      refine va_get (D := dg) (ci := 11) (v := .ref (mo 1)) (C := RX9) (T := TX9) (N := 23) hx hb htg inG_X9 hown hK hP 0 rfl rfl 1 (Nat.le_of_ble_eq_true rfl) (htg _ wq_1558) (fun _ h9 => h9) rfl dX9_letShare_67 ?_
      refine x_iconst hx hb dX9_letShare_70 ?_
      refine x_iald hx hb hK hP 1 0 (encZ S) rfl rfl (fun _ => rfl) (P := fun _ => True) (fun _ => trivial) (by decide) (by omega) dX9_letShare_71 (fun _ => ?_)
      refine x_is (show (encZ S) 0 = (S 0 0) from (encV (k := 0) (i := 0) (Or.inl ⟨rfl, by decide, by decide, rfl⟩)).trans (rfl)) ?_
      refine lv_i2f hx hb dX9_letShare_72 ?_
      refine lv_fdiv hx hb dX9_letShare_73 (nnF (by omega) (by omega)) ?_
      have hEq : modelC ck mo (encZ S) F1 F2 F3 F4 (upS M 8 0 (bI (S 0 0 = 0))) = modelC ck mo (encZ S) F1 F2 F3 F4 (upS M 8 0 0) := (by rw [bI_f (by omega)])
      exact W.fret (v := _) hx hb hr (fun t9 ht9 hW9 => ⟨⟨_, (), rfl, (by unfold lsF; rw [if_neg (by omega), hu, show i = S 0 0 by omega]), by rw [ht9, hEq]; exact hP, by rw [hEq, hAe]; exact hD⟩, hS.F ht9⟩) hS.2.2 dX9_letShare_74
    · refine lv_iload_n hx hb dX9_letShare_41 rfl (lv_at hl 1 rfl) ?_
      refine lv_aload_n hx hb dX9_letShare_42 rfl (lv_at hl 0 rfl) ?_
      refine lv_iload_n hx hb dX9_letShare_43 rfl (lv_at hl 2 rfl) ?_
      refine vp_callSi (W.runV (As := [.int (zI i)]) (rest := [.int (zI u)]) ⟨hx, hb, hml, hown, htg⟩ (m_by l dg ck mo S F1 F2 F3 F4 (upS M 8 0 0) i (by omega)) (cwV 1 htg (gwV wq_1853 wq_1855 wp_59 wq_15 wq_1856) rfl rfl rfl (by decide +kernel) ⟨Nat.le_of_ble_eq_true rfl, Nat.le_of_ble_eq_true rfl⟩) (rd_preV hK hP 0 11 rfl rfl) rfl rfl hl.1 rfl (lv_room (Nat.le_of_ble_eq_true rfl)) dX9_letShare_44 ⟨Nat.zero_le _, Nat.zero_le _⟩) (fun r44 hr44 => ?_)
      subst hr44
      have q44 := b4 i
      refine x_is (show (S 4 i - 1) = ((S 4 i) - 1) from rfl) ?_
      refine x_iconst hx hb dX9_letShare_47 ?_
      refine x_icmp_ne (tgt := 55) hx hb dX9_letShare_48 (by decide) (by omega) (by omega) (fun c48 => ?_) (fun c48 => ?_)
      · refine x_iconst hx hb dX9_letShare_55 ?_
        refine x_iadd hx hb dX9_letShare_56 ?_
        refine x_top _ (fun v57 e_v57 => ?_)
        refine lv_istore_n (lv' := [(1, .int (zI v57)), (0, .ref (mo 0)), (2, .int (zI i))]) hx hb dX9_letShare_57 rfl hl (by decide) rfl (fun ls hl => ?_)
        obtain ⟨v58, e_v58⟩ : ∃ y : Int, y = i + 1 := ⟨_, rfl⟩
        refine lv_iinc (v := zI v58) (lv' := [(2, .int (zI v58)), (1, .int (zI v57)), (0, .ref (mo 0))]) hx hb dX9_letShare_58 hl (k := 2) rfl (by rw [e_v58]; exact zI_add _ _) (by decide) rfl (fun ls hl => ?_)
        refine lv_goto (tgt := 31) hx hb dX9_letShare_61 (by decide) ?_
        exact ih_31 (v57, v58) (show (0 ≤ v58 ∧ v58 ≤ S 0 0) ∧ v57 = sumZ (fun o => bI (S 4 o ≠ 0)) v58.toNat from ⟨by omega, (by rw [e_v58, sumZ_s hi.1, ← hu]; first | (rw [bI_t (show S 4 i ≠ 0 by omega)]; exact e_v57) | (rw [bI_f (show ¬ S 4 i ≠ 0 by omega)]; exact e_v57))⟩) (show (S 0 0 - v58).toNat < (S 0 0 - i).toNat from by omega) ls H locs (lv_sub hl [2, 1, 0] rfl) hP hD hS
      · refine x_iconst hx hb dX9_letShare_51 ?_
        refine lv_goto (tgt := 56) hx hb dX9_letShare_52 (by decide) ?_
        refine x_iadd hx hb dX9_letShare_56 ?_
        refine x_top _ (fun v57 e_v57 => ?_)
        refine lv_istore_n (lv' := [(1, .int (zI v57)), (0, .ref (mo 0)), (2, .int (zI i))]) hx hb dX9_letShare_57 rfl hl (by decide) rfl (fun ls hl => ?_)
        obtain ⟨v58, e_v58⟩ : ∃ y : Int, y = i + 1 := ⟨_, rfl⟩
        refine lv_iinc (v := zI v58) (lv' := [(2, .int (zI v58)), (1, .int (zI v57)), (0, .ref (mo 0))]) hx hb dX9_letShare_58 hl (k := 2) rfl (by rw [e_v58]; exact zI_add _ _) (by decide) rfl (fun ls hl => ?_)
        refine lv_goto (tgt := 31) hx hb dX9_letShare_61 (by decide) ?_
        exact ih_31 (v57, v58) (show (0 ≤ v58 ∧ v58 ≤ S 0 0) ∧ v57 = sumZ (fun o => bI (S 4 o ≠ 0)) v58.toNat from ⟨by omega, (by rw [e_v58, sumZ_s hi.1, ← hu]; first | (rw [bI_t (show S 4 i ≠ 0 by omega)]; exact e_v57) | (rw [bI_f (show ¬ S 4 i ≠ 0 by omega)]; exact e_v57))⟩) (show (S 0 0 - v58).toNat < (S 0 0 - i).toNat from by omega) ls H locs (lv_sub hl [2, 1, 0] rfl) hP hD hS
  · refine x_iconst hx hb dX9_letShare_10 ?_
    refine lv_goto (tgt := 15) hx hb dX9_letShare_11 (by decide) ?_
    refine va_put (D := dg) (ci := 11) (v := .int (zI 1)) (ty := .int) (C := RX9) (T := TX9) (N := 23) hx hb htg inG_X9 tyX9 tyX9_ok nmX9 hown hK hP hD hS 0 rfl rfl 0 (Nat.le_of_ble_eq_true rfl) (htg _ wq_1557) (fun _ h9 => h9) rfl (by decide +kernel) rfl rfl (Nat.le_of_ble_eq_true rfl) dX9_letShare_15 (fun H locs hP hD hS => ?_)
    have hP : va_P dg vwCl (modelC ck mo (encZ S) F1 F2 F3 F4 (upS M 8 0 1)) H := hP
    have hD : va_D A (modelC ck mo (encZ S) F1 F2 F3 F4 (upS M 8 0 1)) := hD
    refine lv_aload_n hx hb dX9_letShare_18 rfl (lv_at hl 0 rfl) ?_
    refine va_get (D := dg) (ci := 11) (v := .int (zI 1)) (C := RX9) (T := TX9) (N := 23) hx hb htg inG_X9 hown hK hP 0 rfl rfl 0 (Nat.le_of_ble_eq_true rfl) (htg _ wq_1557) (fun _ h9 => h9) rfl dX9_letShare_19 ?_
    refine x_if_le (tgt := 27) hx hb dX9_letShare_22 (by decide) (by omega) (fun c22 => absurd c22 (by decide)) (fun c22 => ?_)
    refine lv_fconst0 hx hb dX9_letShare_25 ?_
    have hEq : modelC ck mo (encZ S) F1 F2 F3 F4 (upS M 8 0 (bI (S 0 0 = 0))) = modelC ck mo (encZ S) F1 F2 F3 F4 (upS M 8 0 1) := (by rw [bI_t (by omega)])
    exact W.fret (v := _) hx hb hr (fun t9 ht9 hW9 => ⟨⟨_, (), rfl, (by unfold lsF; rw [if_pos (by omega)]), by rw [ht9, hEq]; exact hP, by rw [hEq, hAe]; exact hD⟩, hS.F ht9⟩) hS.2.2 dX9_letShare_26

set_option maxHeartbeats 4000000 in
set_option maxRecDepth 100000 in
/-- BenchBrokerModel.thrown -/
theorem m_thrown (l : Launch) (dg : va_G) (ck : Nat → ClassId) (mo : Nat → Nat) (S : St) (F1 F2 F3 F4 : Int → Int) (M : St)  : Met l yX9_thrown (.code yX9_thrown cX9_thrown 1 (some .int) :: GW) ({ frames := 0, cells := 0, slots := 0, locals := 0 }) (va_Pc [.ref (mo 0)] (rdP dg ck (modelC ck mo (encZ S) F1 F2 F3 F4 M))) (vp_Si (fun r => r = zI (M 8 0))) 0 0 (fun _ => False) := by
  refine Met.ofW (cc := cX9_thrown) (maxL := 1) (ret := (some .int)) (by decide) rfl ?_
  intro p e s m args below meth c s₁ B hml hv
  obtain ⟨rfl, hP, hK⟩ := hv
  have hx := B.exec
  have hb := B.bytes
  have hr := B.returns
  have hts := atoms_spec (ws := .code yX9_thrown cX9_thrown 1 (some .int) :: GW) B.pre
  have htg : ∀ w ∈ GW, w.before _ s = true := fun w h => hts w (List.mem_cons_of_mem _ h)
  have hown : s.vm.findClass RX9 = some m.cls := findClass_of_methodNamed B.named
  have hlocks := B.notSynchronized
  have hl := lv_entry ([.ref (mo 0)]) (n := 1) (Nat.le_of_ble_eq_true rfl)
  rw [lg_entry_eq]
  generalize (lg_sl ([.ref (mo 0)]) ++ List.replicate (1 - (lg_sl ([.ref (mo 0)])).length) Slot.unset).toArray = ls at hl ⊢
  have hl : lv_has ls 1 [(0, .ref (mo 0))] := hl
  refine lv_aload_n hx hb dX9_thrown_0 rfl (lv_at hl 0 rfl) ?_
  refine va_get (D := dg) (ci := 11) (v := .int (zI (M 8 0))) (C := RX9) (T := TX9) (N := 23) hx hb htg inG_X9 hown hK hP 0 rfl rfl 0 (Nat.le_of_ble_eq_true rfl) (htg _ wq_1557) (fun _ h9 => h9) rfl dX9_thrown_1 ?_
  exact W.iret (v := _) hx hb hr (fun t9 ht9 hW9 => ⟨_, rfl, rfl, ht9⟩) (fun _ h => by cases h) dX9_thrown_4
