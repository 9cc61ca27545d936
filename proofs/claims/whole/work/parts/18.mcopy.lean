/-! the reference: copies of its array -/
theorem mix_any {f g h : Int → Int} {k : Int} {n : Nat} (hk : (n : Int) ≤ k) (hf : ∀ i : Int, 0 ≤ i → i < n → f i = h i) (j : Nat) (hj : j < n) : zz (mixZ k f g) j = zz h j := by
  unfold zz mixZ
  rw [if_pos (by omega), hf j (by omega) (by omega)]

set_option maxHeartbeats 4000000 in
set_option maxRecDepth 100000 in
/-- BenchBrokerModel.incomeWithin -/
theorem m_incomeWithin (l : Launch) (dg : va_G) (ck : Nat → ClassId) (mo : Nat → Nat) (S : St) (F1 F2 F3 F4 : Int → Int) (M : St) (x : Int) (sz : Nat) {Mx : Int} (hV : Inv Mx S) (rg_x : -2147483648 ≤ x ∧ x < 2147483648) : Met l yX9_incomeWithin (.code yX9_incomeWithin cX9_incomeWithin 5 (some .int) :: GW) ({ frames := 6, cells := 0, slots := 0, locals := 137 }) (va_Pc [.ref (mo 0), .int (zI x)] (wrP dg ck sz (modelC ck mo (encZ S) F1 F2 F3 F4 M))) (va_Qi (fun r (_ : Unit) => r = zI (itZ (isTerm x) ((elZ S x).2.2 0 5 - S 0 5))) (fun _ t9 => wrQ dg sz (modelC ck mo (encZ S) F1 F2 F3 F4 M) (modelC ck mo (encZ S) F1 F2 F3 (if isTerm x then encZ S else F4) (upS (upS M 8 10 (if isTerm x then (elZ S x).2.1 else M 8 10)) 8 0 (1 - bI (isTerm x)))) t9) (va_A (modelC ck mo (encZ S) F1 F2 F3 F4 M) sz)) 0 0 (va_A (modelC ck mo (encZ S) F1 F2 F3 F4 M) sz) := by
  refine Met.ofW (cc := cX9_incomeWithin) (maxL := 5) (ret := (some .int)) (by decide) rfl ?_
  intro p e s m args below meth c s₁ B hml hv
  obtain ⟨rfl, hsz, hP, hK, hD0⟩ := hv
  have hx := B.exec
  have hb := B.bytes
  have hr := B.returns
  have hts := atoms_spec (ws := .code yX9_incomeWithin cX9_incomeWithin 5 (some .int) :: GW) B.pre
  have htg : ∀ w ∈ GW, w.before _ s = true := fun w h => hts w (List.mem_cons_of_mem _ h)
  have hown : s.vm.findClass RX9 = some m.cls := findClass_of_methodNamed B.named
  have hlocks := B.notSynchronized
  subst hsz
  have hD := hD0.self (sz := s.heap.size)
  generalize hAe : va_A (modelC ck mo (encZ S) F1 F2 F3 F4 M) s.heap.size = A at hD ⊢
  have hA : ∀ q : Nat, s.heap.size ≤ q → A q := fun q h => by rw [← hAe]; exact Or.inr h
  have hS : va_S A s.heap s.heap [] := va_S.rf
  have hP : va_P dg vwCl (modelC ck mo (encZ S) F1 F2 F3 F4 M) s.heap := hP
  have hl := lv_entry ([.ref (mo 0), .int (zI x)]) (n := 5) (Nat.le_of_ble_eq_true rfl)
  rw [lg_entry_eq]
  generalize (lg_sl ([.ref (mo 0), .int (zI x)]) ++ List.replicate (5 - (lg_sl ([.ref (mo 0), .int (zI x)])).length) Slot.unset).toArray = ls at hl ⊢
  have hl : lv_has ls 5 [(0, .ref (mo 0)), (1, .int (zI x))] := hl
  refine lv_aload_n hx hb dX9_incomeWithin_0 rfl (lv_at hl 0 rfl) ?_
  refine lv_iload_n hx hb dX9_incomeWithin_1 rfl (lv_at hl 1 rfl) ?_
  refine x_iconst hx hb dX9_incomeWithin_2 ?_
  refine x_bipush hx hb dX9_incomeWithin_3 (by decide) ?_
  refine vp_callSi (W.runS (As := [.int (zI x), .int (zI 1), .int (zI 12)]) (rest := [.ref (mo 0)]) ⟨hx, hb, hml, hown, htg⟩ (m_in l dg ck x 1 12 (by omega) (by omega) (by omega)) (cwS 3 htg (gwS wq_1646 wq_1647 wq_15 wq_1648) rfl rfl rfl (by decide +kernel) ⟨Nat.le_of_ble_eq_true rfl, Nat.le_of_ble_eq_true rfl⟩) (rd_preS hK va_P_nil) rfl rfl hl.1 rfl (lv_room (Nat.le_of_ble_eq_true rfl)) dX9_incomeWithin_5 ⟨Nat.zero_le _, Nat.zero_le _⟩) (fun r5 hr5 => ?_)
  subst hr5
  refine x_bz_eq (tgt := 15) hx hb dX9_incomeWithin_8 (by decide) (fun c8 => ?_) (fun c8 => ?_)
  · refine x_iconst hx hb dX9_incomeWithin_15 ?_
    refine va_put (D := dg) (ci := 11) (v := .int (zI 1)) (ty := .int) (C := RX9) (T := TX9) (N := 23) hx hb htg inG_X9 tyX9 tyX9_ok nmX9 hown hK hP hD hS 0 rfl rfl 0 (Nat.le_of_ble_eq_true rfl) (htg _ wq_1557) (fun _ h9 => h9) rfl (by decide +kernel) rfl rfl (Nat.le_of_ble_eq_true rfl) dX9_incomeWithin_16 (fun H locs hP hD hS => ?_)
    have hP : va_P dg vwCl (modelC ck mo (encZ S) F1 F2 F3 F4 (upS M 8 0 1)) H := hP
    have hD : va_D A (modelC ck mo (encZ S) F1 F2 F3 F4 (upS M 8 0 1)) := hD
    refine lv_aload_n hx hb dX9_incomeWithin_19 rfl (lv_at hl 0 rfl) ?_
    refine va_get (D := dg) (ci := 11) (v := .int (zI 1)) (C := RX9) (T := TX9) (N := 23) hx hb htg inG_X9 hown hK hP 0 rfl rfl 0 (Nat.le_of_ble_eq_true rfl) (htg _ wq_1557) (fun _ h9 => h9) rfl dX9_incomeWithin_20 ?_
    refine x_if_le (tgt := 28) hx hb dX9_incomeWithin_23 (by decide) (by omega) (fun c23 => absurd c23 (by decide)) (fun c23 => ?_)
    refine x_iconst hx hb dX9_incomeWithin_26 ?_
    have hEq : modelC ck mo (encZ S) F1 F2 F3 (if isTerm x then encZ S else F4) (upS (upS M 8 10 (if isTerm x then (elZ S x).2.1 else M 8 10)) 8 0 (1 - bI (isTerm x))) = modelC ck mo (encZ S) F1 F2 F3 F4 (upS M 8 0 1) := (by rw [if_neg (show ¬ isTerm x by omega), if_neg (show ¬ isTerm x by omega), bI_f (show ¬ isTerm x by omega), upS_id (S := M) rfl] <;> rfl)
    exact W.iret (v := _) hx hb hr (fun t9 ht9 hW9 => ⟨⟨_, (), rfl, (by rw [itZ_f (show ¬ isTerm x by omega)]), by rw [ht9, hEq]; exact hP, by rw [hEq, hAe]; exact hD⟩, hS.F ht9⟩) hS.2.2 dX9_incomeWithin_27
  · refine x_iconst hx hb dX9_incomeWithin_11 ?_
    refine lv_goto (tgt := 16) hx hb dX9_incomeWithin_12 (by decide) ?_
    refine va_put (D := dg) (ci := 11) (v := .int (zI 0)) (ty := .int) (C := RX9) (T := TX9) (N := 23) hx hb htg inG_X9 tyX9 tyX9_ok nmX9 hown hK hP hD hS 0 rfl rfl 0 (Nat.le_of_ble_eq_true rfl) (htg _ wq_1557) (fun _ h9 => h9) rfl (by decide +kernel) rfl rfl (Nat.le_of_ble_eq_true rfl) dX9_incomeWithin_16 (fun H locs hP hD hS => ?_)
    have hP : va_P dg vwCl (modelC ck mo (encZ S) F1 F2 F3 F4 (upS M 8 0 0)) H := hP
    have hD : va_D A (modelC ck mo (encZ S) F1 F2 F3 F4 (upS M 8 0 0)) := hD
    refine lv_aload_n hx hb dX9_incomeWithin_19 rfl (lv_at hl 0 rfl) ?_
    refine va_get (D := dg) (ci := 11) (v := .int (zI 0)) (C := RX9) (T := TX9) (N := 23) hx hb htg inG_X9 hown hK hP 0 rfl rfl 0 (Nat.le_of_ble_eq_true rfl) (htg _ wq_1557) (fun _ h9 => h9) rfl dX9_incomeWithin_20 ?_
    refine x_if_le (tgt := 28) hx hb dX9_incomeWithin_23 (by decide) (by omega) (fun c23 => ?_) (fun c23 => absurd c23 (by decide))
    refine x_iconst hx hb dX9_incomeWithin_28 ?_
    refine lv_istore_n (lv' := [(2, .int (zI 0)), (0, .ref (mo 0)), (1, .int (zI x))]) hx hb dX9_incomeWithin_29 rfl hl (by decide) rfl (fun ls hl => ?_)
    have hP : va_P dg vwCl (modelC ck mo (encZ S) F1 F2 F3 (mixZ 0 (encZ S) F4) (upS M 8 0 0)) _ := va_P_ch hP 5 rfl (fun j _ => mix_0 _ _ j) rfl
    have hD : va_D A (modelC ck mo (encZ S) F1 F2 F3 (mixZ 0 (encZ S) F4) (upS M 8 0 0)) := va_D_ch hD 5 rfl rfl
    refine x_loopW (ι := Int) (fun v => 0 ≤ v ∧ v ≤ 102) (fun v => (102 - v).toNat) (fun v => [(0, .ref (mo 0)), (1, .int (zI x)), (2, .int (zI v))]) (fun v => modelC ck mo (encZ S) F1 F2 F3 (mixZ v (encZ S) F4) (upS M 8 0 0)) (0) (show 0 ≤ (0 : Int) ∧ (0 : Int) ≤ 102 from (by omega)) (lv_sub hl [1, 2, 0] rfl) hP hD hS ?_
    intro v hv ih_30 ls H locs hl hP hD hS
    obtain ⟨k, rfl⟩ : ∃ z : Int, z = v := ⟨_, rfl⟩
    have hl : lv_has ls 5 [(0, .ref (mo 0)), (1, .int (zI x)), (2, .int (zI k))] := hl
    have hv : 0 ≤ k ∧ k ≤ 102 := hv
    have hP : va_P dg vwCl (modelC ck mo (encZ S) F1 F2 F3 (mixZ k (encZ S) F4) (upS M 8 0 0)) H := hP
    have hD : va_D A (modelC ck mo (encZ S) F1 F2 F3 (mixZ k (encZ S) F4) (upS M 8 0 0)) := hD
    obtain ⟨hk0, hk9⟩ := hv
    refine lv_iload_n hx hb dX9_incomeWithin_30 rfl (lv_at hl 2 rfl) ?_
    refine x_bipush hx hb dX9_incomeWithin_31 (by decide) ?_
    refine x_icmp_ge (tgt := 54) hx hb dX9_incomeWithin_33 (by decide) (by omega) (by omega) (fun c33 => ?_) (fun c33 => ?_)
    · have hP : va_P dg vwCl (modelC ck mo (encZ S) F1 F2 F3 (encZ S) (upS M 8 0 0)) _ := va_P_ch hP 5 rfl (mix_e (by omega)) rfl
      have hD : va_D A (modelC ck mo (encZ S) F1 F2 F3 (encZ S) (upS M 8 0 0)) := va_D_ch hD 5 rfl rfl
      refine lv_aload_n hx hb dX9_incomeWithin_54 rfl (lv_at hl 0 rfl) ?_
      refine lv_iload_n hx hb dX9_incomeWithin_55 rfl (lv_at hl 1 rfl) ?_
      refine x_calli (ws' := modelC ck mo (encZ (elZ S x).2.2) F1 F2 F3 (encZ S) (mAns (upS M 8 0 0) (elZ S x).1 (elZ S x).2.1)) [] (M := modelC ck mo (encZ S) F1 F2 F3 (encZ S) (upS M 8 0 0)) (M' := modelC ck mo (encZ (elZ S x).2.2) F1 F2 F3 (encZ S) (mAns (upS M 8 0 0) (elZ S x).1 (elZ S x).2.1)) ([]) (List.append_nil _).symm (List.append_nil _).symm hP hD hS hA (fun hPm hDm => va_runV (As := [.int (zI x)]) (rest := []) ⟨hx, hb, hml, hown, htg⟩ (m_passes l dg ck mo S F1 F2 F3 (encZ S) (upS M 8 0 0) x _ hV (by omega)) (cwV 1 htg (gwV wq_1925 wq_1927 wp_66 wq_15 wq_1928) rfl rfl rfl (by decide +kernel) ⟨Nat.le_of_ble_eq_true rfl, Nat.le_of_ble_eq_true rfl⟩) (wr_preV hK hPm hDm 0 11 rfl rfl) rfl rfl hl.1 rfl (lv_room (Nat.le_of_ble_eq_true rfl)) dX9_incomeWithin_56 ⟨Nat.zero_le _, Nat.zero_le _⟩) (fun r56 H locs hr56 hP hD hS => ?_)
      subst hr56
      refine lv_istore_n (lv' := [(2, .int (zI (mcd (elZ S x).1))), (0, .ref (mo 0)), (1, .int (zI x))]) hx hb dX9_incomeWithin_59 rfl hl (by decide) rfl (fun ls hl => ?_)
      refine lv_aload_n hx hb dX9_incomeWithin_60 rfl (lv_at hl 1 rfl) ?_
      refine va_get (D := dg) (ci := 11) (v := .ref (mo 1)) (C := RX9) (T := TX9) (N := 23) hx hb htg inG_X9 hown hK hP 0 rfl rfl 1 (Nat.le_of_ble_eq_true rfl) (htg _ wq_1558) (fun _ h9 => h9) rfl dX9_incomeWithin_61 ?_
      refine x_iconst hx hb dX9_incomeWithin_64 ?_
      refine x_iald hx hb hK hP 1 0 (encZ (elZ S x).2.2) rfl rfl (fun _ => rfl) (P := fun _ => True) (fun _ => trivial) (by decide) (by omega) dX9_incomeWithin_65 (fun _ => ?_)
      refine x_is (show (encZ (elZ S x).2.2) 5 = ((elZ S x).2.2 0 5) from (encV (k := 0) (i := 5) (Or.inl ⟨rfl, by decide, by decide, rfl⟩)).trans (rfl)) ?_
      refine lv_aload_n hx hb dX9_incomeWithin_66 rfl (lv_at hl 1 rfl) ?_
      refine va_get (D := dg) (ci := 11) (v := .ref (mo 5)) (C := RX9) (T := TX9) (N := 23) hx hb htg inG_X9 hown hK hP 0 rfl rfl 5 (Nat.le_of_ble_eq_true rfl) (htg _ wq_1562) (fun _ h9 => h9) rfl dX9_incomeWithin_67 ?_
      refine x_iconst hx hb dX9_incomeWithin_70 ?_
      refine x_iald hx hb hK hP 5 0 (encZ S) rfl rfl (fun _ => rfl) (P := fun _ => True) (fun _ => trivial) (by decide) (by omega) dX9_incomeWithin_71 (fun _ => ?_)
      refine x_isub hx hb dX9_incomeWithin_72 ?_
      have h5 : encZ S 5 = S 0 5 := encS (by decide)
      refine x_is (show (((elZ S x).2.2 0 5) - ((encZ S) 5)) = ((elZ S x).2.2 0 5 - S 0 5) by omega) ?_
      refine lv_istore_n (lv' := [(3, .int (zI ((elZ S x).2.2 0 5 - S 0 5))), (2, .int (zI (mcd (elZ S x).1))), (0, .ref (mo 0)), (1, .int (zI x))]) hx hb dX9_incomeWithin_73 rfl hl (by decide) rfl (fun ls hl => ?_)
      have hCe : (upS (upS M 8 10 (if isTerm x then (elZ S x).2.1 else M 8 10)) 8 0 0) = (mAns (upS M 8 0 0) (elZ S x).1 (elZ S x).2.1) := (by have hc : elZ S x = (0, (msN S x.toNat).2, (msN S x.toNat).1) := (by unfold elZ; rw [if_neg (by omega)]); rw [if_pos (show isTerm x by omega), hc]; exact (upS_cm (by omega)).symm)
      have hP : va_P dg vwCl (modelC ck mo (encZ (elZ S x).2.2) F1 F2 F3 (encZ S) (upS (upS M 8 10 (if isTerm x then (elZ S x).2.1 else M 8 10)) 8 0 0)) _ := va_P_eq (by rw [hCe]) hP
      have hD : va_D A (modelC ck mo (encZ (elZ S x).2.2) F1 F2 F3 (encZ S) (upS (upS M 8 10 (if isTerm x then (elZ S x).2.1 else M 8 10)) 8 0 0)) := va_D_eq (by rw [hCe]) hD
      refine x_iconst hx hb dX9_incomeWithin_74 ?_
      refine lv_istore (lv' := [(4, .int (zI 0)), (3, .int (zI ((elZ S x).2.2 0 5 - S 0 5))), (2, .int (zI (mcd (elZ S x).1))), (0, .ref (mo 0)), (1, .int (zI x))]) hx hb dX9_incomeWithin_75 hl (by decide) rfl (fun ls hl => ?_)
      have hP : va_P dg vwCl (modelC ck mo (mixZ 0 (encZ S) (encZ (elZ S x).2.2)) F1 F2 F3 (encZ S) (upS (upS M 8 10 (if isTerm x then (elZ S x).2.1 else M 8 10)) 8 0 0)) _ := va_P_ch hP 1 rfl (fun j _ => mix_0 _ _ j) rfl
      have hD : va_D A (modelC ck mo (mixZ 0 (encZ S) (encZ (elZ S x).2.2)) F1 F2 F3 (encZ S) (upS (upS M 8 10 (if isTerm x then (elZ S x).2.1 else M 8 10)) 8 0 0)) := va_D_ch hD 1 rfl rfl
      refine x_loopW (ι := Int) (fun v => 0 ≤ v ∧ v ≤ 102) (fun v => (102 - v).toNat) (fun v => [(0, .ref (mo 0)), (1, .int (zI x)), (3, .int (zI ((elZ S x).2.2 0 5 - S 0 5))), (4, .int (zI v))]) (fun v => modelC ck mo (mixZ v (encZ S) (encZ (elZ S x).2.2)) F1 F2 F3 (encZ S) (upS (upS M 8 10 (if isTerm x then (elZ S x).2.1 else M 8 10)) 8 0 0)) (0) (show 0 ≤ (0 : Int) ∧ (0 : Int) ≤ 102 from (by omega)) (lv_sub hl [3, 4, 1, 0] rfl) hP hD hS ?_
      intro v hv ih_77 ls H locs hl hP hD hS
      obtain ⟨k, rfl⟩ : ∃ z : Int, z = v := ⟨_, rfl⟩
      have hl : lv_has ls 5 [(0, .ref (mo 0)), (1, .int (zI x)), (3, .int (zI ((elZ S x).2.2 0 5 - S 0 5))), (4, .int (zI k))] := hl
      have hv : 0 ≤ k ∧ k ≤ 102 := hv
      have hP : va_P dg vwCl (modelC ck mo (mixZ k (encZ S) (encZ (elZ S x).2.2)) F1 F2 F3 (encZ S) (upS (upS M 8 10 (if isTerm x then (elZ S x).2.1 else M 8 10)) 8 0 0)) H := hP
      have hD : va_D A (modelC ck mo (mixZ k (encZ S) (encZ (elZ S x).2.2)) F1 F2 F3 (encZ S) (upS (upS M 8 10 (if isTerm x then (elZ S x).2.1 else M 8 10)) 8 0 0)) := hD
      obtain ⟨hk0, hk9⟩ := hv
      refine lv_iload hx hb dX9_incomeWithin_77 (lv_at hl 3 rfl) ?_
      refine x_bipush hx hb dX9_incomeWithin_79 (by decide) ?_
      refine x_icmp_ge (tgt := 104) hx hb dX9_incomeWithin_81 (by decide) (by omega) (by omega) (fun c81 => ?_) (fun c81 => ?_)
      · have hP : va_P dg vwCl (modelC ck mo (encZ S) F1 F2 F3 (encZ S) (upS (upS M 8 10 (if isTerm x then (elZ S x).2.1 else M 8 10)) 8 0 0)) _ := va_P_ch hP 1 rfl (mix_e (by omega)) rfl
        have hD : va_D A (modelC ck mo (encZ S) F1 F2 F3 (encZ S) (upS (upS M 8 10 (if isTerm x then (elZ S x).2.1 else M 8 10)) 8 0 0)) := va_D_ch hD 1 rfl rfl
        refine lv_iload_n hx hb dX9_incomeWithin_104 rfl (lv_at hl 2 rfl) ?_
        have hEq : modelC ck mo (encZ S) F1 F2 F3 (if isTerm x then encZ S else F4) (upS (upS M 8 10 (if isTerm x then (elZ S x).2.1 else M 8 10)) 8 0 (1 - bI (isTerm x))) = modelC ck mo (encZ S) F1 F2 F3 (encZ S) (upS (upS M 8 10 (if isTerm x then (elZ S x).2.1 else M 8 10)) 8 0 0) := (by rw [bI_t (show isTerm x by omega), if_pos (show isTerm x by omega), if_pos (show isTerm x by omega)] <;> rfl)
        exact W.iret (v := _) hx hb hr (fun t9 ht9 hW9 => ⟨⟨_, (), rfl, (by rw [itZ_t (show isTerm x by omega)]), by rw [ht9, hEq]; exact hP, by rw [hEq, hAe]; exact hD⟩, hS.F ht9⟩) hS.2.2 dX9_incomeWithin_105
      · refine lv_aload_n hx hb dX9_incomeWithin_84 rfl (lv_at hl 0 rfl) ?_
        refine va_get (D := dg) (ci := 11) (v := .ref (mo 1)) (C := RX9) (T := TX9) (N := 23) hx hb htg inG_X9 hown hK hP 0 rfl rfl 1 (Nat.le_of_ble_eq_true rfl) (htg _ wq_1558) (fun _ h9 => h9) rfl dX9_incomeWithin_85 ?_
        refine lv_iload hx hb dX9_incomeWithin_88 (lv_at hl 3 rfl) ?_
        refine lv_aload_n hx hb dX9_incomeWithin_90 rfl (lv_at hl 0 rfl) ?_
        refine va_get (D := dg) (ci := 11) (v := .ref (mo 5)) (C := RX9) (T := TX9) (N := 23) hx hb htg inG_X9 hown hK hP 0 rfl rfl 5 (Nat.le_of_ble_eq_true rfl) (htg _ wq_1562) (fun _ h9 => h9) rfl dX9_incomeWithin_91 ?_
        refine lv_iload hx hb dX9_incomeWithin_94 (lv_at hl 3 rfl) ?_
        refine x_iald hx hb hK hP 5 0 (encZ S) rfl rfl (fun _ => rfl) (P := fun _ => True) (fun _ => trivial) (by decide) (by omega) dX9_incomeWithin_96 (fun _ => ?_)
        refine x_iastC (ws' := modelC ck mo (mixZ (k + 1) (encZ S) (encZ (elZ S x).2.2)) F1 F2 F3 (encZ S) (upS (upS M 8 10 (if isTerm x then (elZ S x).2.1 else M 8 10)) 8 0 0)) hx hb hK hP hD hS 1 0 rfl rfl (by decide) (by omega) (mix_p (by omega)) rfl dX9_incomeWithin_97 (fun H locs hP hD hS => ?_)
        refine lv_iinc (v := zI (k + 1)) (lv' := [(4, .int (zI (k + 1))), (0, .ref (mo 0)), (1, .int (zI x)), (3, .int (zI ((elZ S x).2.2 0 5 - S 0 5)))]) hx hb dX9_incomeWithin_98 hl (k := 3) rfl (zI_add _ _) (by decide) rfl (fun ls hl => ?_)
        refine lv_goto (tgt := 77) hx hb dX9_incomeWithin_101 (by decide) ?_
        exact ih_77 ((k + 1)) (show 0 ≤ (k + 1) ∧ (k + 1) ≤ 102 from (by omega)) (show (102 - (k + 1)).toNat < (102 - k).toNat from by omega) ls H locs (lv_sub hl [1, 2, 3, 0] rfl) hP hD hS
    · refine lv_aload_n hx hb dX9_incomeWithin_36 rfl (lv_at hl 0 rfl) ?_
      refine va_get (D := dg) (ci := 11) (v := .ref (mo 5)) (C := RX9) (T := TX9) (N := 23) hx hb htg inG_X9 hown hK hP 0 rfl rfl 5 (Nat.le_of_ble_eq_true rfl) (htg _ wq_1562) (fun _ h9 => h9) rfl dX9_incomeWithin_37 ?_
      refine lv_iload_n hx hb dX9_incomeWithin_40 rfl (lv_at hl 2 rfl) ?_
      refine lv_aload_n hx hb dX9_incomeWithin_41 rfl (lv_at hl 0 rfl) ?_
      refine va_get (D := dg) (ci := 11) (v := .ref (mo 1)) (C := RX9) (T := TX9) (N := 23) hx hb htg inG_X9 hown hK hP 0 rfl rfl 1 (Nat.le_of_ble_eq_true rfl) (htg _ wq_1558) (fun _ h9 => h9) rfl dX9_incomeWithin_42 ?_
      refine lv_iload_n hx hb dX9_incomeWithin_45 rfl (lv_at hl 2 rfl) ?_
      refine x_iald hx hb hK hP 1 0 (encZ S) rfl rfl (fun _ => rfl) (P := fun _ => True) (fun _ => trivial) (by decide) (by omega) dX9_incomeWithin_46 (fun _ => ?_)
      refine x_iastC (ws' := modelC ck mo (encZ S) F1 F2 F3 (mixZ (k + 1) (encZ S) F4) (upS M 8 0 0)) hx hb hK hP hD hS 5 0 rfl rfl (by decide) (by omega) (mix_p (by omega)) rfl dX9_incomeWithin_47 (fun H locs hP hD hS => ?_)
      refine lv_iinc (v := zI (k + 1)) (lv' := [(2, .int (zI (k + 1))), (0, .ref (mo 0)), (1, .int (zI x))]) hx hb dX9_incomeWithin_48 hl (k := 2) rfl (zI_add _ _) (by decide) rfl (fun ls hl => ?_)
      refine lv_goto (tgt := 30) hx hb dX9_incomeWithin_51 (by decide) ?_
      exact ih_30 ((k + 1)) (show 0 ≤ (k + 1) ∧ (k + 1) ≤ 102 from (by omega)) (show (102 - (k + 1)).toNat < (102 - k).toNat from by omega) ls H locs (lv_sub hl [1, 2, 0] rfl) hP hD hS

set_option maxHeartbeats 4000000 in
set_option maxRecDepth 100000 in
/-- BenchBrokerModel.incomeByLeases -/
theorem m_incomeByLeases (l : Launch) (dg : va_G) (ck : Nat → ClassId) (mo : Nat → Nat) (S : St) (F1 F2 F3 F4 : Int → Int) (M : St) (x : Int) (sz : Nat) {Mx : Int} (hV : Inv Mx S) (rg_x : -2147483648 ≤ x ∧ x < 2147483648) : Met l yX9_incomeByLeases (.code yX9_incomeByLeases cX9_incomeByLeases 2 (some .int) :: GW) ({ frames := 7, cells := 0, slots := 0, locals := 161 }) (va_Pc [.ref (mo 0), .int (zI x)] (wrP dg ck sz (modelC ck mo (encZ S) F1 F2 F3 F4 M))) (va_Qi (fun r (_ : Unit) => r = zI (itZ (isTerm x) ((elZ S x).2.2 0 5 - S 0 5))) (fun _ t9 => wrQ dg sz (modelC ck mo (encZ S) F1 F2 F3 F4 M) (modelC ck mo (encZ S) F1 F2 F3 (if isTerm x then encZ S else F4) (upS (upS M 8 10 (if isTerm x then (elZ S x).2.1 else M 8 10)) 8 0 (1 - bI (isTerm x)))) t9) (va_A (modelC ck mo (encZ S) F1 F2 F3 F4 M) sz)) 0 0 (va_A (modelC ck mo (encZ S) F1 F2 F3 F4 M) sz) := by
  refine Met.ofW (cc := cX9_incomeByLeases) (maxL := 2) (ret := (some .int)) (by decide) rfl ?_
  intro p e s m args below meth c s₁ B hml hv
  obtain ⟨rfl, hsz, hP, hK, hD0⟩ := hv
  have hx := B.exec
  have hb := B.bytes
  have hr := B.returns
  have hts := atoms_spec (ws := .code yX9_incomeByLeases cX9_incomeByLeases 2 (some .int) :: GW) B.pre
  have htg : ∀ w ∈ GW, w.before _ s = true := fun w h => hts w (List.mem_cons_of_mem _ h)
  have hown : s.vm.findClass RX9 = some m.cls := findClass_of_methodNamed B.named
  have hlocks := B.notSynchronized
  subst hsz
  have hD := hD0.self (sz := s.heap.size)
  generalize hAe : va_A (modelC ck mo (encZ S) F1 F2 F3 F4 M) s.heap.size = A at hD ⊢
  have hA : ∀ q : Nat, s.heap.size ≤ q → A q := fun q h => by rw [← hAe]; exact Or.inr h
  have hS : va_S A s.heap s.heap [] := va_S.rf
  have hP : va_P dg vwCl (modelC ck mo (encZ S) F1 F2 F3 F4 M) s.heap := hP
  have hl := lv_entry ([.ref (mo 0), .int (zI x)]) (n := 2) (Nat.le_of_ble_eq_true rfl)
  rw [lg_entry_eq]
  generalize (lg_sl ([.ref (mo 0), .int (zI x)]) ++ List.replicate (2 - (lg_sl ([.ref (mo 0), .int (zI x)])).length) Slot.unset).toArray = ls at hl ⊢
  have hl : lv_has ls 2 [(0, .ref (mo 0)), (1, .int (zI x))] := hl
  refine lv_aload_n hx hb dX9_incomeByLeases_0 rfl (lv_at hl 0 rfl) ?_
  refine lv_iload_n hx hb dX9_incomeByLeases_1 rfl (lv_at hl 1 rfl) ?_
  refine x_calli (ws' := modelC ck mo (encZ S) F1 F2 F3 (if isTerm x then encZ S else F4) (upS (upS M 8 10 (if isTerm x then (elZ S x).2.1 else M 8 10)) 8 0 (1 - bI (isTerm x)))) [] (M := modelC ck mo (encZ S) F1 F2 F3 F4 M) (M' := modelC ck mo (encZ S) F1 F2 F3 (if isTerm x then encZ S else F4) (upS (upS M 8 10 (if isTerm x then (elZ S x).2.1 else M 8 10)) 8 0 (1 - bI (isTerm x)))) ([]) (List.append_nil _).symm (List.append_nil _).symm hP hD hS hA (fun hPm hDm => va_runV (As := [.int (zI x)]) (rest := []) ⟨hx, hb, hml, hown, htg⟩ (m_incomeWithin l dg ck mo S F1 F2 F3 F4 M x _ hV (by omega)) (cwV 1 htg (gwV wq_1945 wq_1938 wq_1939 wq_15 wq_1940) rfl rfl rfl (by decide +kernel) ⟨Nat.le_of_ble_eq_true rfl, Nat.le_of_ble_eq_true rfl⟩) (wr_preV hK hPm hDm 0 11 rfl rfl) rfl rfl hl.1 rfl (lv_room (Nat.le_of_ble_eq_true rfl)) dX9_incomeByLeases_2 ⟨Nat.zero_le _, Nat.zero_le _⟩) (fun r2 H locs hr2 hP hD hS => ?_)
  subst hr2
  have hEq : modelC ck mo (encZ S) F1 F2 F3 (if isTerm x then encZ S else F4) (upS (upS M 8 10 (if isTerm x then (elZ S x).2.1 else M 8 10)) 8 0 (1 - bI (isTerm x))) = modelC ck mo (encZ S) F1 F2 F3 (if isTerm x then encZ S else F4) (upS (upS M 8 10 (if isTerm x then (elZ S x).2.1 else M 8 10)) 8 0 (1 - bI (isTerm x))) := rfl
  exact W.iret (v := _) hx hb hr (fun t9 ht9 hW9 => ⟨⟨_, (), rfl, rfl, by rw [ht9, hEq]; exact hP, by rw [hEq, hAe]; exact hD⟩, hS.F ht9⟩) hS.2.2 dX9_incomeByLeases_5

set_option maxHeartbeats 4000000 in
set_option maxRecDepth 100000 in
/-- BenchBrokerModel.saveSnapshot -/
theorem m_saveSnapshot (l : Launch) (dg : va_G) (ck : Nat → ClassId) (mo : Nat → Nat) (S : St) (F1 F2 F3 F4 : Int → Int) (M : St) (sz : Nat)  : Met l yX9_saveSnapshot (.code yX9_saveSnapshot cX9_saveSnapshot 2 (some .int) :: GW) ({ frames := 0, cells := 0, slots := 0, locals := 0 }) (va_Pc [.ref (mo 0)] (wrP dg ck sz (modelC ck mo (encZ S) F1 F2 F3 F4 M))) (va_Qi (fun r (_ : Unit) => r = zI (S 0 0)) (fun _ t9 => wrQ dg sz (modelC ck mo (encZ S) F1 F2 F3 F4 M) (modelC ck mo (encZ S) F1 (encZ S) F3 F4 (upS (upS M 8 0 0) 8 2 1)) t9) (va_A (modelC ck mo (encZ S) F1 F2 F3 F4 M) sz)) 0 0 (va_A (modelC ck mo (encZ S) F1 F2 F3 F4 M) sz) := by
  refine Met.ofW (cc := cX9_saveSnapshot) (maxL := 2) (ret := (some .int)) (by decide) rfl ?_
  intro p e s m args below meth c s₁ B hml hv
  obtain ⟨rfl, hsz, hP, hK, hD0⟩ := hv
  have hx := B.exec
  have hb := B.bytes
  have hr := B.returns
  have hts := atoms_spec (ws := .code yX9_saveSnapshot cX9_saveSnapshot 2 (some .int) :: GW) B.pre
  have htg : ∀ w ∈ GW, w.before _ s = true := fun w h => hts w (List.mem_cons_of_mem _ h)
  have hown : s.vm.findClass RX9 = some m.cls := findClass_of_methodNamed B.named
  have hlocks := B.notSynchronized
  subst hsz
  have hD := hD0.self (sz := s.heap.size)
  generalize hAe : va_A (modelC ck mo (encZ S) F1 F2 F3 F4 M) s.heap.size = A at hD ⊢
  have hA : ∀ q : Nat, s.heap.size ≤ q → A q := fun q h => by rw [← hAe]; exact Or.inr h
  have hS : va_S A s.heap s.heap [] := va_S.rf
  have hP : va_P dg vwCl (modelC ck mo (encZ S) F1 F2 F3 F4 M) s.heap := hP
  have hl := lv_entry ([.ref (mo 0)]) (n := 2) (Nat.le_of_ble_eq_true rfl)
  rw [lg_entry_eq]
  generalize (lg_sl ([.ref (mo 0)]) ++ List.replicate (2 - (lg_sl ([.ref (mo 0)])).length) Slot.unset).toArray = ls at hl ⊢
  have hl : lv_has ls 2 [(0, .ref (mo 0))] := hl
  refine lv_aload_n hx hb dX9_saveSnapshot_0 rfl (lv_at hl 0 rfl) ?_
  refine x_iconst hx hb dX9_saveSnapshot_1 ?_
  refine va_put (D := dg) (ci := 11) (v := .int (zI 0)) (ty := .int) (C := RX9) (T := TX9) (N := 23) hx hb htg inG_X9 tyX9 tyX9_ok nmX9 hown hK hP hD hS 0 rfl rfl 0 (Nat.le_of_ble_eq_true rfl) (htg _ wq_1557) (fun _ h9 => h9) rfl (by decide +kernel) rfl rfl (Nat.le_of_ble_eq_true rfl) dX9_saveSnapshot_2 (fun H locs hP hD hS => ?_)
  have hP : va_P dg vwCl (modelC ck mo (encZ S) F1 F2 F3 F4 (upS M 8 0 0)) H := hP
  have hD : va_D A (modelC ck mo (encZ S) F1 F2 F3 F4 (upS M 8 0 0)) := hD
  refine x_iconst hx hb dX9_saveSnapshot_5 ?_
  refine lv_istore_n (lv' := [(1, .int (zI 0)), (0, .ref (mo 0))]) hx hb dX9_saveSnapshot_6 rfl hl (by decide) rfl (fun ls hl => ?_)
  have hP : va_P dg vwCl (modelC ck mo (encZ S) F1 (mixZ 0 (encZ S) F2) F3 F4 (upS M 8 0 0)) _ := va_P_ch hP 3 rfl (fun j _ => mix_0 _ _ j) rfl
  have hD : va_D A (modelC ck mo (encZ S) F1 (mixZ 0 (encZ S) F2) F3 F4 (upS M 8 0 0)) := va_D_ch hD 3 rfl rfl
  refine x_loopW (ι := Int) (fun v => 0 ≤ v ∧ v ≤ 102) (fun v => (102 - v).toNat) (fun v => [(0, .ref (mo 0)), (1, .int (zI v))]) (fun v => modelC ck mo (encZ S) F1 (mixZ v (encZ S) F2) F3 F4 (upS M 8 0 0)) (0) (show 0 ≤ (0 : Int) ∧ (0 : Int) ≤ 102 from (by omega)) (lv_sub hl [1, 0] rfl) hP hD hS ?_
  intro v hv ih_7 ls H locs hl hP hD hS
  obtain ⟨k, rfl⟩ : ∃ z : Int, z = v := ⟨_, rfl⟩
  have hl : lv_has ls 2 [(0, .ref (mo 0)), (1, .int (zI k))] := hl
  have hv : 0 ≤ k ∧ k ≤ 102 := hv
  have hP : va_P dg vwCl (modelC ck mo (encZ S) F1 (mixZ k (encZ S) F2) F3 F4 (upS M 8 0 0)) H := hP
  have hD : va_D A (modelC ck mo (encZ S) F1 (mixZ k (encZ S) F2) F3 F4 (upS M 8 0 0)) := hD
  obtain ⟨hk0, hk9⟩ := hv
  refine lv_iload_n hx hb dX9_saveSnapshot_7 rfl (lv_at hl 1 rfl) ?_
  refine x_bipush hx hb dX9_saveSnapshot_8 (by decide) ?_
  refine x_icmp_ge (tgt := 31) hx hb dX9_saveSnapshot_10 (by decide) (by omega) (by omega) (fun c10 => ?_) (fun c10 => ?_)
  · have hP : va_P dg vwCl (modelC ck mo (encZ S) F1 (encZ S) F3 F4 (upS M 8 0 0)) _ := va_P_ch hP 3 rfl (mix_e (by omega)) rfl
    have hD : va_D A (modelC ck mo (encZ S) F1 (encZ S) F3 F4 (upS M 8 0 0)) := va_D_ch hD 3 rfl rfl
    refine lv_aload_n hx hb dX9_saveSnapshot_31 rfl (lv_at hl 0 rfl) ?_
    refine x_iconst hx hb dX9_saveSnapshot_32 ?_
    refine va_put (D := dg) (ci := 11) (v := .int (zI 1)) (ty := .boolean) (C := RX9) (T := TX9) (N := 23) hx hb htg inG_X9 tyX9 tyX9_ok nmX9 hown hK hP hD hS 0 rfl rfl 7 (Nat.le_of_ble_eq_true rfl) (htg _ wq_1564) (fun _ h9 => h9) rfl (by decide +kernel) rfl rfl (Nat.le_of_ble_eq_true rfl) dX9_saveSnapshot_33 (fun H locs hP hD hS => ?_)
    have hP : va_P dg vwCl (modelC ck mo (encZ S) F1 (encZ S) F3 F4 (upS (upS M 8 0 0) 8 2 1)) H := hP
    have hD : va_D A (modelC ck mo (encZ S) F1 (encZ S) F3 F4 (upS (upS M 8 0 0) 8 2 1)) := hD
    refine lv_aload_n hx hb dX9_saveSnapshot_36 rfl (lv_at hl 0 rfl) ?_
    refine va_get (D := dg) (ci := 11) (v := .ref (mo 1)) (C := RX9) (T := TX9) (N := 23) hx hb htg inG_X9 hown hK hP 0 rfl rfl 1 (Nat.le_of_ble_eq_true rfl) (htg _ wq_1558) (fun _ h9 => h9) rfl dX9_saveSnapshot_37 ?_
    refine x_iconst hx hb dX9_saveSnapshot_40 ?_
    refine x_iald hx hb hK hP 1 0 (encZ S) rfl rfl (fun _ => rfl) (P := fun _ => True) (fun _ => trivial) (by decide) (by omega) dX9_saveSnapshot_41 (fun _ => ?_)
    refine x_is (show (encZ S) 0 = (S 0 0) from (encV (k := 0) (i := 0) (Or.inl ⟨rfl, by decide, by decide, rfl⟩)).trans (rfl)) ?_
    have hEq : modelC ck mo (encZ S) F1 (encZ S) F3 F4 (upS (upS M 8 0 0) 8 2 1) = modelC ck mo (encZ S) F1 (encZ S) F3 F4 (upS (upS M 8 0 0) 8 2 1) := rfl
    exact W.iret (v := _) hx hb hr (fun t9 ht9 hW9 => ⟨⟨_, (), rfl, rfl, by rw [ht9, hEq]; exact hP, by rw [hEq, hAe]; exact hD⟩, hS.F ht9⟩) hS.2.2 dX9_saveSnapshot_42
  · refine lv_aload_n hx hb dX9_saveSnapshot_13 rfl (lv_at hl 0 rfl) ?_
    refine va_get (D := dg) (ci := 11) (v := .ref (mo 3)) (C := RX9) (T := TX9) (N := 23) hx hb htg inG_X9 hown hK hP 0 rfl rfl 3 (Nat.le_of_ble_eq_true rfl) (htg _ wq_1560) (fun _ h9 => h9) rfl dX9_saveSnapshot_14 ?_
    refine lv_iload_n hx hb dX9_saveSnapshot_17 rfl (lv_at hl 1 rfl) ?_
    refine lv_aload_n hx hb dX9_saveSnapshot_18 rfl (lv_at hl 0 rfl) ?_
    refine va_get (D := dg) (ci := 11) (v := .ref (mo 1)) (C := RX9) (T := TX9) (N := 23) hx hb htg inG_X9 hown hK hP 0 rfl rfl 1 (Nat.le_of_ble_eq_true rfl) (htg _ wq_1558) (fun _ h9 => h9) rfl dX9_saveSnapshot_19 ?_
    refine lv_iload_n hx hb dX9_saveSnapshot_22 rfl (lv_at hl 1 rfl) ?_
    refine x_iald hx hb hK hP 1 0 (encZ S) rfl rfl (fun _ => rfl) (P := fun _ => True) (fun _ => trivial) (by decide) (by omega) dX9_saveSnapshot_23 (fun _ => ?_)
    refine x_iastC (ws' := modelC ck mo (encZ S) F1 (mixZ (k + 1) (encZ S) F2) F3 F4 (upS M 8 0 0)) hx hb hK hP hD hS 3 0 rfl rfl (by decide) (by omega) (mix_p (by omega)) rfl dX9_saveSnapshot_24 (fun H locs hP hD hS => ?_)
    refine lv_iinc (v := zI (k + 1)) (lv' := [(1, .int (zI (k + 1))), (0, .ref (mo 0))]) hx hb dX9_saveSnapshot_25 hl (k := 1) rfl (zI_add _ _) (by decide) rfl (fun ls hl => ?_)
    refine lv_goto (tgt := 7) hx hb dX9_saveSnapshot_28 (by decide) ?_
    exact ih_7 ((k + 1)) (show 0 ≤ (k + 1) ∧ (k + 1) ≤ 102 from (by omega)) (show (102 - (k + 1)).toNat < (102 - k).toNat from by omega) ls H locs (lv_sub hl [1, 0] rfl) hP hD hS

set_option maxHeartbeats 4000000 in
set_option maxRecDepth 100000 in
/-- BenchBrokerModel.restoreSnapshot -/
theorem m_restoreSnapshot (l : Launch) (dg : va_G) (ck : Nat → ClassId) (mo : Nat → Nat) (S : St) (F1 F2 F3 F4 : Int → Int) (M : St) (T : St) (sz : Nat) (hsv : 0 ≤ M 8 2 ∧ M 8 2 ≤ 1) (hT : M 8 2 ≠ 0 → ∀ i, 0 ≤ i → i < 102 → F2 i = encZ T i) : Met l yX9_restoreSnapshot (.code yX9_restoreSnapshot cX9_restoreSnapshot 2 (some .int) :: GW) ({ frames := 1, cells := 0, slots := 0, locals := 21 }) (va_Pc [.ref (mo 0)] (wrP dg ck sz (modelC ck mo (encZ S) F1 F2 F3 F4 M))) (va_Qi (fun r (_ : Unit) => r = zI (itZ (M 8 2 ≠ 0) (T 0 0))) (fun _ t9 => wrQ dg sz (modelC ck mo (encZ S) F1 F2 F3 F4 M) (modelC ck mo (encZ (if M 8 2 = 0 then S else T)) F1 F2 F3 F4 (upS (upS M 8 1 (if M 8 2 = 0 then M 8 1 else 0)) 8 0 (bI (M 8 2 = 0)))) t9) (va_A (modelC ck mo (encZ S) F1 F2 F3 F4 M) sz)) 0 0 (va_A (modelC ck mo (encZ S) F1 F2 F3 F4 M) sz) := by
  refine Met.ofW (cc := cX9_restoreSnapshot) (maxL := 2) (ret := (some .int)) (by decide) rfl ?_
  intro p e s m args below meth c s₁ B hml hv
  obtain ⟨rfl, hsz, hP, hK, hD0⟩ := hv
  have hx := B.exec
  have hb := B.bytes
  have hr := B.returns
  have hts := atoms_spec (ws := .code yX9_restoreSnapshot cX9_restoreSnapshot 2 (some .int) :: GW) B.pre
  have htg : ∀ w ∈ GW, w.before _ s = true := fun w h => hts w (List.mem_cons_of_mem _ h)
  have hown : s.vm.findClass RX9 = some m.cls := findClass_of_methodNamed B.named
  have hlocks := B.notSynchronized
  subst hsz
  have hD := hD0.self (sz := s.heap.size)
  generalize hAe : va_A (modelC ck mo (encZ S) F1 F2 F3 F4 M) s.heap.size = A at hD ⊢
  have hA : ∀ q : Nat, s.heap.size ≤ q → A q := fun q h => by rw [← hAe]; exact Or.inr h
  have hS : va_S A s.heap s.heap [] := va_S.rf
  have hP : va_P dg vwCl (modelC ck mo (encZ S) F1 F2 F3 F4 M) s.heap := hP
  have hl := lv_entry ([.ref (mo 0)]) (n := 2) (Nat.le_of_ble_eq_true rfl)
  rw [lg_entry_eq]
  generalize (lg_sl ([.ref (mo 0)]) ++ List.replicate (2 - (lg_sl ([.ref (mo 0)])).length) Slot.unset).toArray = ls at hl ⊢
  have hl : lv_has ls 2 [(0, .ref (mo 0))] := hl
  refine lv_aload_n hx hb dX9_restoreSnapshot_0 rfl (lv_at hl 0 rfl) ?_
  refine x_iconst hx hb dX9_restoreSnapshot_1 ?_
  refine va_put (D := dg) (ci := 11) (v := .int (zI 0)) (ty := .int) (C := RX9) (T := TX9) (N := 23) hx hb htg inG_X9 tyX9 tyX9_ok nmX9 hown hK hP hD hS 0 rfl rfl 0 (Nat.le_of_ble_eq_true rfl) (htg _ wq_1557) (fun _ h9 => h9) rfl (by decide +kernel) rfl rfl (Nat.le_of_ble_eq_true rfl) dX9_restoreSnapshot_2 (fun H locs hP hD hS => ?_)
  have hP : va_P dg vwCl (modelC ck mo (encZ S) F1 F2 F3 F4 (upS M 8 0 0)) H := hP
  have hD : va_D A (modelC ck mo (encZ S) F1 F2 F3 F4 (upS M 8 0 0)) := hD
  refine lv_aload_n hx hb dX9_restoreSnapshot_5 rfl (lv_at hl 0 rfl) ?_
  refine va_get (D := dg) (ci := 11) (v := .int (zI (M 8 2))) (C := RX9) (T := TX9) (N := 23) hx hb htg inG_X9 hown hK hP 0 rfl rfl 7 (Nat.le_of_ble_eq_true rfl) (htg _ wq_1564) (fun _ h9 => h9) rfl dX9_restoreSnapshot_6 ?_
  refine x_if_ne (tgt := 18) hx hb dX9_restoreSnapshot_9 (by decide) (by omega) (fun c9 => ?_) (fun c9 => ?_)
  · refine x_iconst hx hb dX9_restoreSnapshot_18 ?_
    refine lv_istore_n (lv' := [(1, .int (zI 0)), (0, .ref (mo 0))]) hx hb dX9_restoreSnapshot_19 rfl hl (by decide) rfl (fun ls hl => ?_)
    have hP : va_P dg vwCl (modelC ck mo (mixZ 0 F2 (encZ S)) F1 F2 F3 F4 (upS M 8 0 0)) _ := va_P_ch hP 1 rfl (fun j _ => mix_0 _ _ j) rfl
    have hD : va_D A (modelC ck mo (mixZ 0 F2 (encZ S)) F1 F2 F3 F4 (upS M 8 0 0)) := va_D_ch hD 1 rfl rfl
    refine x_loopW (ι := Int) (fun v => 0 ≤ v ∧ v ≤ 102) (fun v => (102 - v).toNat) (fun v => [(0, .ref (mo 0)), (1, .int (zI v))]) (fun v => modelC ck mo (mixZ v F2 (encZ S)) F1 F2 F3 F4 (upS M 8 0 0)) (0) (show 0 ≤ (0 : Int) ∧ (0 : Int) ≤ 102 from (by omega)) (lv_sub hl [1, 0] rfl) hP hD hS ?_
    intro v hv ih_20 ls H locs hl hP hD hS
    obtain ⟨k, rfl⟩ : ∃ z : Int, z = v := ⟨_, rfl⟩
    have hl : lv_has ls 2 [(0, .ref (mo 0)), (1, .int (zI k))] := hl
    have hv : 0 ≤ k ∧ k ≤ 102 := hv
    have hP : va_P dg vwCl (modelC ck mo (mixZ k F2 (encZ S)) F1 F2 F3 F4 (upS M 8 0 0)) H := hP
    have hD : va_D A (modelC ck mo (mixZ k F2 (encZ S)) F1 F2 F3 F4 (upS M 8 0 0)) := hD
    obtain ⟨hk0, hk9⟩ := hv
    refine lv_iload_n hx hb dX9_restoreSnapshot_20 rfl (lv_at hl 1 rfl) ?_
    refine x_bipush hx hb dX9_restoreSnapshot_21 (by decide) ?_
    refine x_icmp_ge (tgt := 44) hx hb dX9_restoreSnapshot_23 (by decide) (by omega) (by omega) (fun c23 => ?_) (fun c23 => ?_)
    · have hP : va_P dg vwCl (modelC ck mo (encZ T) F1 F2 F3 F4 (upS M 8 0 0)) _ := va_P_ch hP 1 rfl (mix_any (by omega) (hT (by omega))) rfl
      have hD : va_D A (modelC ck mo (encZ T) F1 F2 F3 F4 (upS M 8 0 0)) := va_D_ch hD 1 rfl rfl
      refine lv_aload_n hx hb dX9_restoreSnapshot_44 rfl (lv_at hl 0 rfl) ?_
      refine x_iconst hx hb dX9_restoreSnapshot_45 ?_
      refine va_put (D := dg) (ci := 11) (v := .int (zI 0)) (ty := .int) (C := RX9) (T := TX9) (N := 23) hx hb htg inG_X9 tyX9 tyX9_ok nmX9 hown hK hP hD hS 0 rfl rfl 6 (Nat.le_of_ble_eq_true rfl) (htg _ wq_1563) (fun _ h9 => h9) rfl (by decide +kernel) rfl rfl (Nat.le_of_ble_eq_true rfl) dX9_restoreSnapshot_46 (fun H locs hP hD hS => ?_)
      have hP : va_P dg vwCl (modelC ck mo (encZ T) F1 F2 F3 F4 (upS (upS M 8 0 0) 8 1 0)) H := hP
      have hD : va_D A (modelC ck mo (encZ T) F1 F2 F3 F4 (upS (upS M 8 0 0) 8 1 0)) := hD
      refine lv_aload_n hx hb dX9_restoreSnapshot_49 rfl (lv_at hl 0 rfl) ?_
      refine va_get (D := dg) (ci := 11) (v := .ref (mo 1)) (C := RX9) (T := TX9) (N := 23) hx hb htg inG_X9 hown hK hP 0 rfl rfl 1 (Nat.le_of_ble_eq_true rfl) (htg _ wq_1558) (fun _ h9 => h9) rfl dX9_restoreSnapshot_50 ?_
      refine x_iconst hx hb dX9_restoreSnapshot_53 ?_
      refine x_iald hx hb hK hP 1 0 (encZ T) rfl rfl (fun _ => rfl) (P := fun _ => True) (fun _ => trivial) (by decide) (by omega) dX9_restoreSnapshot_54 (fun _ => ?_)
      refine x_is (show (encZ T) 0 = (T 0 0) from (encV (k := 0) (i := 0) (Or.inl ⟨rfl, by decide, by decide, rfl⟩)).trans (rfl)) ?_
      have hEq : modelC ck mo (encZ (if M 8 2 = 0 then S else T)) F1 F2 F3 F4 (upS (upS M 8 1 (if M 8 2 = 0 then M 8 1 else 0)) 8 0 (bI (M 8 2 = 0))) = modelC ck mo (encZ T) F1 F2 F3 F4 (upS (upS M 8 0 0) 8 1 0) := (by rw [if_neg (by omega), if_neg (by omega), bI_f (by omega), upS_cm (k := 8) (i := 1) (by omega)])
      exact W.iret (v := _) hx hb hr (fun t9 ht9 hW9 => ⟨⟨_, (), rfl, (by rw [itZ_t (by omega)] <;> rfl), by rw [ht9, hEq]; exact hP, by rw [hEq, hAe]; exact hD⟩, hS.F ht9⟩) hS.2.2 dX9_restoreSnapshot_55
    · refine lv_aload_n hx hb dX9_restoreSnapshot_26 rfl (lv_at hl 0 rfl) ?_
      refine va_get (D := dg) (ci := 11) (v := .ref (mo 1)) (C := RX9) (T := TX9) (N := 23) hx hb htg inG_X9 hown hK hP 0 rfl rfl 1 (Nat.le_of_ble_eq_true rfl) (htg _ wq_1558) (fun _ h9 => h9) rfl dX9_restoreSnapshot_27 ?_
      refine lv_iload_n hx hb dX9_restoreSnapshot_30 rfl (lv_at hl 1 rfl) ?_
      refine lv_aload_n hx hb dX9_restoreSnapshot_31 rfl (lv_at hl 0 rfl) ?_
      refine va_get (D := dg) (ci := 11) (v := .ref (mo 3)) (C := RX9) (T := TX9) (N := 23) hx hb htg inG_X9 hown hK hP 0 rfl rfl 3 (Nat.le_of_ble_eq_true rfl) (htg _ wq_1560) (fun _ h9 => h9) rfl dX9_restoreSnapshot_32 ?_
      refine lv_iload_n hx hb dX9_restoreSnapshot_35 rfl (lv_at hl 1 rfl) ?_
      refine x_iald hx hb hK hP 3 0 F2 rfl rfl (fun _ => rfl) (P := fun _ => True) (fun _ => trivial) (by decide) (by omega) dX9_restoreSnapshot_36 (fun _ => ?_)
      refine x_iastC (ws' := modelC ck mo (mixZ (k + 1) F2 (encZ S)) F1 F2 F3 F4 (upS M 8 0 0)) hx hb hK hP hD hS 1 0 rfl rfl (by decide) (by omega) (mix_p (by omega)) rfl dX9_restoreSnapshot_37 (fun H locs hP hD hS => ?_)
      refine lv_iinc (v := zI (k + 1)) (lv' := [(1, .int (zI (k + 1))), (0, .ref (mo 0))]) hx hb dX9_restoreSnapshot_38 hl (k := 1) rfl (zI_add _ _) (by decide) rfl (fun ls hl => ?_)
      refine lv_goto (tgt := 20) hx hb dX9_restoreSnapshot_41 (by decide) ?_
      exact ih_20 ((k + 1)) (show 0 ≤ (k + 1) ∧ (k + 1) ≤ 102 from (by omega)) (show (102 - (k + 1)).toNat < (102 - k).toNat from by omega) ls H locs (lv_sub hl [1, 0] rfl) hP hD hS
  · refine lv_aload_n hx hb dX9_restoreSnapshot_12 rfl (lv_at hl 0 rfl) ?_
    refine x_iconst hx hb dX9_restoreSnapshot_13 ?_
    refine x_calli (ws' := modelC ck mo (encZ S) F1 F2 F3 F4 (upS (upS M 8 0 0) 8 0 1)) [] (M := modelC ck mo (encZ S) F1 F2 F3 F4 (upS M 8 0 0)) (M' := modelC ck mo (encZ S) F1 F2 F3 F4 (upS (upS M 8 0 0) 8 0 1)) ([]) (List.append_nil _).symm (List.append_nil _).symm hP hD hS hA (fun hPm hDm => va_runV (As := [.int (zI 1)]) (rest := []) ⟨hx, hb, hml, hown, htg⟩ (m_fails l dg ck mo S F1 F2 F3 F4 (upS M 8 0 0) 1 _ ) (cwV 1 htg (gwV wq_1677 wq_1679 wp_40 wq_15 wq_1680) rfl rfl rfl (by decide +kernel) ⟨Nat.le_of_ble_eq_true rfl, Nat.le_of_ble_eq_true rfl⟩) (wr_preV hK hPm hDm 0 11 rfl rfl) rfl rfl hl.1 rfl (lv_room (Nat.le_of_ble_eq_true rfl)) dX9_restoreSnapshot_14 ⟨Nat.zero_le _, Nat.zero_le _⟩) (fun r14 H locs hr14 hP hD hS => ?_)
    subst hr14
    have hEq : modelC ck mo (encZ (if M 8 2 = 0 then S else T)) F1 F2 F3 F4 (upS (upS M 8 1 (if M 8 2 = 0 then M 8 1 else 0)) 8 0 (bI (M 8 2 = 0))) = modelC ck mo (encZ S) F1 F2 F3 F4 (upS (upS M 8 0 0) 8 0 1) := (by rw [if_pos (by omega), if_pos (by omega), bI_t (by omega), upS_id (S := M) rfl, upS_up])
    exact W.iret (v := _) hx hb hr (fun t9 ht9 hW9 => ⟨⟨_, (), rfl, (by rw [itZ_f (by omega)]), by rw [ht9, hEq]; exact hP, by rw [hEq, hAe]; exact hD⟩, hS.F ht9⟩) hS.2.2 dX9_restoreSnapshot_17

set_option maxHeartbeats 4000000 in
set_option maxRecDepth 100000 in
/-- BenchBrokerModel.undo -/
theorem m_undo (l : Launch) (dg : va_G) (ck : Nat → ClassId) (mo : Nat → Nat) (S : St) (F1 F2 F3 F4 : Int → Int) (M : St) (T : St) (sz : Nat) (hkp : 0 ≤ M 8 1 ∧ M 8 1 ≤ 8) (hT : M 8 1 ≠ 0 → ∀ i, 0 ≤ i → i < 102 → F3 (102 * (M 8 1 - 1) + i) = encZ T i) : Met l yX9_undo (.code yX9_undo cX9_undo 2 (some .int) :: GW) ({ frames := 1, cells := 0, slots := 0, locals := 21 }) (va_Pc [.ref (mo 0)] (wrP dg ck sz (modelC ck mo (encZ S) F1 F2 F3 F4 M))) (va_Qi (fun r (_ : Unit) => r = zI (itZ (M 8 1 ≠ 0) (M 8 1 - 1))) (fun _ t9 => wrQ dg sz (modelC ck mo (encZ S) F1 F2 F3 F4 M) (modelC ck mo (encZ (if M 8 1 = 0 then S else T)) F1 F2 F3 F4 (upS (upS M 8 1 (itZ (M 8 1 ≠ 0) (M 8 1 - 1))) 8 0 (bI (M 8 1 = 0)))) t9) (va_A (modelC ck mo (encZ S) F1 F2 F3 F4 M) sz)) 0 0 (va_A (modelC ck mo (encZ S) F1 F2 F3 F4 M) sz) := by
  refine Met.ofW (cc := cX9_undo) (maxL := 2) (ret := (some .int)) (by decide) rfl ?_
  intro p e s m args below meth c s₁ B hml hv
  obtain ⟨rfl, hsz, hP, hK, hD0⟩ := hv
  have hx := B.exec
  have hb := B.bytes
  have hr := B.returns
  have hts := atoms_spec (ws := .code yX9_undo cX9_undo 2 (some .int) :: GW) B.pre
  have htg : ∀ w ∈ GW, w.before _ s = true := fun w h => hts w (List.mem_cons_of_mem _ h)
  have hown : s.vm.findClass RX9 = some m.cls := findClass_of_methodNamed B.named
  have hlocks := B.notSynchronized
  subst hsz
  have hD := hD0.self (sz := s.heap.size)
  generalize hAe : va_A (modelC ck mo (encZ S) F1 F2 F3 F4 M) s.heap.size = A at hD ⊢
  have hA : ∀ q : Nat, s.heap.size ≤ q → A q := fun q h => by rw [← hAe]; exact Or.inr h
  have hS : va_S A s.heap s.heap [] := va_S.rf
  have hP : va_P dg vwCl (modelC ck mo (encZ S) F1 F2 F3 F4 M) s.heap := hP
  have hl := lv_entry ([.ref (mo 0)]) (n := 2) (Nat.le_of_ble_eq_true rfl)
  rw [lg_entry_eq]
  generalize (lg_sl ([.ref (mo 0)]) ++ List.replicate (2 - (lg_sl ([.ref (mo 0)])).length) Slot.unset).toArray = ls at hl ⊢
  have hl : lv_has ls 2 [(0, .ref (mo 0))] := hl
  refine lv_aload_n hx hb dX9_undo_0 rfl (lv_at hl 0 rfl) ?_
  refine x_iconst hx hb dX9_undo_1 ?_
  refine va_put (D := dg) (ci := 11) (v := .int (zI 0)) (ty := .int) (C := RX9) (T := TX9) (N := 23) hx hb htg inG_X9 tyX9 tyX9_ok nmX9 hown hK hP hD hS 0 rfl rfl 0 (Nat.le_of_ble_eq_true rfl) (htg _ wq_1557) (fun _ h9 => h9) rfl (by decide +kernel) rfl rfl (Nat.le_of_ble_eq_true rfl) dX9_undo_2 (fun H locs hP hD hS => ?_)
  have hP : va_P dg vwCl (modelC ck mo (encZ S) F1 F2 F3 F4 (upS M 8 0 0)) H := hP
  have hD : va_D A (modelC ck mo (encZ S) F1 F2 F3 F4 (upS M 8 0 0)) := hD
  refine lv_aload_n hx hb dX9_undo_5 rfl (lv_at hl 0 rfl) ?_
  refine va_get (D := dg) (ci := 11) (v := .int (zI (M 8 1))) (C := RX9) (T := TX9) (N := 23) hx hb htg inG_X9 hown hK hP 0 rfl rfl 6 (Nat.le_of_ble_eq_true rfl) (htg _ wq_1563) (fun _ h9 => h9) rfl dX9_undo_6 ?_
  refine x_if_ne (tgt := 18) hx hb dX9_undo_9 (by decide) (by omega) (fun c9 => ?_) (fun c9 => ?_)
  · refine lv_aload_n hx hb dX9_undo_18 rfl (lv_at hl 0 rfl) ?_
    refine lv_dup hx hb dX9_undo_19 rfl ?_
    refine va_get (D := dg) (ci := 11) (v := .int (zI (M 8 1))) (C := RX9) (T := TX9) (N := 23) hx hb htg inG_X9 hown hK hP 0 rfl rfl 6 (Nat.le_of_ble_eq_true rfl) (htg _ wq_1563) (fun _ h9 => h9) rfl dX9_undo_20 ?_
    refine x_iconst hx hb dX9_undo_23 ?_
    refine x_isub hx hb dX9_undo_24 ?_
    refine va_put (D := dg) (ci := 11) (v := .int (zI ((M 8 1) - 1))) (ty := .int) (C := RX9) (T := TX9) (N := 23) hx hb htg inG_X9 tyX9 tyX9_ok nmX9 hown hK hP hD hS 0 rfl rfl 6 (Nat.le_of_ble_eq_true rfl) (htg _ wq_1563) (fun _ h9 => h9) rfl (by decide +kernel) rfl rfl (Nat.le_of_ble_eq_true rfl) dX9_undo_25 (fun H locs hP hD hS => ?_)
    have hP : va_P dg vwCl (modelC ck mo (encZ S) F1 F2 F3 F4 (upS (upS M 8 0 0) 8 1 ((M 8 1) - 1))) H := hP
    have hD : va_D A (modelC ck mo (encZ S) F1 F2 F3 F4 (upS (upS M 8 0 0) 8 1 ((M 8 1) - 1))) := hD
    refine x_iconst hx hb dX9_undo_28 ?_
    refine lv_istore_n (lv' := [(1, .int (zI 0)), (0, .ref (mo 0))]) hx hb dX9_undo_29 rfl hl (by decide) rfl (fun ls hl => ?_)
    have hP : va_P dg vwCl (modelC ck mo (mixZ 0 (fun i => F3 (102 * (M 8 1 - 1) + i)) (encZ S)) F1 F2 F3 F4 (upS (upS M 8 0 0) 8 1 ((M 8 1) - 1))) _ := va_P_ch hP 1 rfl (fun j _ => mix_0 _ _ j) rfl
    have hD : va_D A (modelC ck mo (mixZ 0 (fun i => F3 (102 * (M 8 1 - 1) + i)) (encZ S)) F1 F2 F3 F4 (upS (upS M 8 0 0) 8 1 ((M 8 1) - 1))) := va_D_ch hD 1 rfl rfl
    refine x_loopW (ι := Int) (fun v => 0 ≤ v ∧ v ≤ 102) (fun v => (102 - v).toNat) (fun v => [(0, .ref (mo 0)), (1, .int (zI v))]) (fun v => modelC ck mo (mixZ v (fun i => F3 (102 * (M 8 1 - 1) + i)) (encZ S)) F1 F2 F3 F4 (upS (upS M 8 0 0) 8 1 ((M 8 1) - 1))) (0) (show 0 ≤ (0 : Int) ∧ (0 : Int) ≤ 102 from (by omega)) (lv_sub hl [1, 0] rfl) hP hD hS ?_
    intro v hv ih_30 ls H locs hl hP hD hS
    obtain ⟨k, rfl⟩ : ∃ z : Int, z = v := ⟨_, rfl⟩
    have hl : lv_has ls 2 [(0, .ref (mo 0)), (1, .int (zI k))] := hl
    have hv : 0 ≤ k ∧ k ≤ 102 := hv
    have hP : va_P dg vwCl (modelC ck mo (mixZ k (fun i => F3 (102 * (M 8 1 - 1) + i)) (encZ S)) F1 F2 F3 F4 (upS (upS M 8 0 0) 8 1 ((M 8 1) - 1))) H := hP
    have hD : va_D A (modelC ck mo (mixZ k (fun i => F3 (102 * (M 8 1 - 1) + i)) (encZ S)) F1 F2 F3 F4 (upS (upS M 8 0 0) 8 1 ((M 8 1) - 1))) := hD
    obtain ⟨hk0, hk9⟩ := hv
    refine lv_iload_n hx hb dX9_undo_30 rfl (lv_at hl 1 rfl) ?_
    refine x_bipush hx hb dX9_undo_31 (by decide) ?_
    refine x_icmp_ge (tgt := 62) hx hb dX9_undo_33 (by decide) (by omega) (by omega) (fun c33 => ?_) (fun c33 => ?_)
    · have hP : va_P dg vwCl (modelC ck mo (encZ T) F1 F2 F3 F4 (upS (upS M 8 0 0) 8 1 ((M 8 1) - 1))) _ := va_P_ch hP 1 rfl (mix_any (by omega) (hT (by omega))) rfl
      have hD : va_D A (modelC ck mo (encZ T) F1 F2 F3 F4 (upS (upS M 8 0 0) 8 1 ((M 8 1) - 1))) := va_D_ch hD 1 rfl rfl
      refine lv_aload_n hx hb dX9_undo_62 rfl (lv_at hl 0 rfl) ?_
      refine va_get (D := dg) (ci := 11) (v := .int (zI ((M 8 1) - 1))) (C := RX9) (T := TX9) (N := 23) hx hb htg inG_X9 hown hK hP 0 rfl rfl 6 (Nat.le_of_ble_eq_true rfl) (htg _ wq_1563) (fun _ h9 => h9) rfl dX9_undo_63 ?_
      have hEq : modelC ck mo (encZ (if M 8 1 = 0 then S else T)) F1 F2 F3 F4 (upS (upS M 8 1 (itZ (M 8 1 ≠ 0) (M 8 1 - 1))) 8 0 (bI (M 8 1 = 0))) = modelC ck mo (encZ T) F1 F2 F3 F4 (upS (upS M 8 0 0) 8 1 ((M 8 1) - 1)) := (by rw [if_neg (by omega), itZ_t (by omega), bI_f (by omega), upS_cm (k := 8) (i := 1) (by omega)])
      exact W.iret (v := _) hx hb hr (fun t9 ht9 hW9 => ⟨⟨_, (), rfl, (by rw [itZ_t (by omega)] <;> rfl), by rw [ht9, hEq]; exact hP, by rw [hEq, hAe]; exact hD⟩, hS.F ht9⟩) hS.2.2 dX9_undo_66
    · refine lv_aload_n hx hb dX9_undo_36 rfl (lv_at hl 0 rfl) ?_
      refine va_get (D := dg) (ci := 11) (v := .ref (mo 1)) (C := RX9) (T := TX9) (N := 23) hx hb htg inG_X9 hown hK hP 0 rfl rfl 1 (Nat.le_of_ble_eq_true rfl) (htg _ wq_1558) (fun _ h9 => h9) rfl dX9_undo_37 ?_
      refine lv_iload_n hx hb dX9_undo_40 rfl (lv_at hl 1 rfl) ?_
      refine lv_aload_n hx hb dX9_undo_41 rfl (lv_at hl 0 rfl) ?_
      refine va_get (D := dg) (ci := 11) (v := .ref (mo 4)) (C := RX9) (T := TX9) (N := 23) hx hb htg inG_X9 hown hK hP 0 rfl rfl 4 (Nat.le_of_ble_eq_true rfl) (htg _ wq_1561) (fun _ h9 => h9) rfl dX9_undo_42 ?_
      refine x_bipush hx hb dX9_undo_45 (by decide) ?_
      refine lv_aload_n hx hb dX9_undo_47 rfl (lv_at hl 0 rfl) ?_
      refine va_get (D := dg) (ci := 11) (v := .int (zI ((M 8 1) - 1))) (C := RX9) (T := TX9) (N := 23) hx hb htg inG_X9 hown hK hP 0 rfl rfl 6 (Nat.le_of_ble_eq_true rfl) (htg _ wq_1563) (fun _ h9 => h9) rfl dX9_undo_48 ?_
      refine x_imul hx hb dX9_undo_51 ?_
      refine lv_iload_n hx hb dX9_undo_52 rfl (lv_at hl 1 rfl) ?_
      refine x_iadd hx hb dX9_undo_53 ?_
      refine x_iald hx hb hK hP 4 0 F3 rfl rfl (fun _ => rfl) (P := fun _ => True) (fun _ => trivial) (by decide) (by omega) dX9_undo_54 (fun _ => ?_)
      refine x_iastC (ws' := modelC ck mo (mixZ (k + 1) (fun i => F3 (102 * (M 8 1 - 1) + i)) (encZ S)) F1 F2 F3 F4 (upS (upS M 8 0 0) 8 1 ((M 8 1) - 1))) hx hb hK hP hD hS 1 0 rfl rfl (by decide) (by omega) (mix_p (f := fun i => F3 (102 * (M 8 1 - 1) + i)) (by omega)) rfl dX9_undo_55 (fun H locs hP hD hS => ?_)
      refine lv_iinc (v := zI (k + 1)) (lv' := [(1, .int (zI (k + 1))), (0, .ref (mo 0))]) hx hb dX9_undo_56 hl (k := 1) rfl (zI_add _ _) (by decide) rfl (fun ls hl => ?_)
      refine lv_goto (tgt := 30) hx hb dX9_undo_59 (by decide) ?_
      exact ih_30 ((k + 1)) (show 0 ≤ (k + 1) ∧ (k + 1) ≤ 102 from (by omega)) (show (102 - (k + 1)).toNat < (102 - k).toNat from by omega) ls H locs (lv_sub hl [1, 0] rfl) hP hD hS
  · refine lv_aload_n hx hb dX9_undo_12 rfl (lv_at hl 0 rfl) ?_
    refine x_iconst hx hb dX9_undo_13 ?_
    refine x_calli (ws' := modelC ck mo (encZ S) F1 F2 F3 F4 (upS (upS M 8 0 0) 8 0 1)) [] (M := modelC ck mo (encZ S) F1 F2 F3 F4 (upS M 8 0 0)) (M' := modelC ck mo (encZ S) F1 F2 F3 F4 (upS (upS M 8 0 0) 8 0 1)) ([]) (List.append_nil _).symm (List.append_nil _).symm hP hD hS hA (fun hPm hDm => va_runV (As := [.int (zI 1)]) (rest := []) ⟨hx, hb, hml, hown, htg⟩ (m_fails l dg ck mo S F1 F2 F3 F4 (upS M 8 0 0) 1 _ ) (cwV 1 htg (gwV wq_1677 wq_1679 wp_40 wq_15 wq_1680) rfl rfl rfl (by decide +kernel) ⟨Nat.le_of_ble_eq_true rfl, Nat.le_of_ble_eq_true rfl⟩) (wr_preV hK hPm hDm 0 11 rfl rfl) rfl rfl hl.1 rfl (lv_room (Nat.le_of_ble_eq_true rfl)) dX9_undo_14 ⟨Nat.zero_le _, Nat.zero_le _⟩) (fun r14 H locs hr14 hP hD hS => ?_)
    subst hr14
    have hEq : modelC ck mo (encZ (if M 8 1 = 0 then S else T)) F1 F2 F3 F4 (upS (upS M 8 1 (itZ (M 8 1 ≠ 0) (M 8 1 - 1))) 8 0 (bI (M 8 1 = 0))) = modelC ck mo (encZ S) F1 F2 F3 F4 (upS (upS M 8 0 0) 8 0 1) := (by rw [if_pos (by omega), itZ_f (by omega), bI_t (by omega), upS_id (S := M) (by omega), upS_up])
    exact W.iret (v := _) hx hb hr (fun t9 ht9 hW9 => ⟨⟨_, (), rfl, (by rw [itZ_f (by omega)]), by rw [ht9, hEq]; exact hP, by rw [hEq, hAe]; exact hD⟩, hS.F ht9⟩) hS.2.2 dX9_undo_17
