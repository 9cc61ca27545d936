/-! the reference: its public face -/
theorem upS_up {S : St} {k : Nat} {i v w : Int} : upS (upS S k i v) k i w = upS S k i w := by
  funext k' j
  unfold upS
  by_cases e : k' = k ∧ j = i
  · rw [if_pos e, if_pos e]
  · rw [if_neg e, if_neg e, if_neg e]
def itZ (P : Prop) [Decidable P] (v : Int) : Int := if P then v else 0
theorem itZ_t {P : Prop} [Decidable P] {v : Int} (h : P) : itZ P v = v := if_pos h
theorem itZ_f {P : Prop} [Decidable P] {v : Int} (h : ¬ P) : itZ P v = 0 := if_neg h
theorem mAns_81 (M : St) (c x : Int) : mAns M c x 8 1 = M 8 1 := by
  unfold mAns
  split
  · rfl
  · split <;> rfl
theorem mcd_r {c : Int} (h : -2 ≤ c ∧ c ≤ 11) : -2147483648 ≤ mcd c ∧ mcd c < 2147483648 := by
  unfold mcd
  split <;> omega
theorem pbZ_r (S : St) (x y w : Int) : -2 ≤ (pbZ S x y w).1 ∧ (pbZ S x y w).1 ≤ 11 := by
  unfold pbZ
  (repeat' split) <;> (refine ⟨?_, ?_⟩ <;> (dsimp only; omega))
theorem pfZ_r (S : St) (x y w : Int) : -2 ≤ (pfZ S x y w).1 ∧ (pfZ S x y w).1 ≤ 11 := by
  unfold pfZ
  (repeat' split) <;> (refine ⟨?_, ?_⟩ <;> (dsimp only; omega))
theorem crZ_r (S : St) (x y : Int) : -2 ≤ (crZ S x y).1 ∧ (crZ S x y).1 ≤ 11 := by
  unfold crZ
  (repeat' split) <;> (refine ⟨?_, ?_⟩ <;> (dsimp only; omega))
theorem clZ_r (S : St) (x y : Int) : -2 ≤ (clZ S x y).1 ∧ (clZ S x y).1 ≤ 11 := by
  unfold clZ
  (repeat' split) <;> (refine ⟨?_, ?_⟩ <;> (dsimp only; omega))
theorem tgZ_r (S : St) (x : Int) : -2 ≤ (tgZ S x).1 ∧ (tgZ S x).1 ≤ 11 := by
  unfold tgZ
  (repeat' split) <;> (refine ⟨?_, ?_⟩ <;> (dsimp only; omega))
theorem cmZ_r (S : St) (x : Int) : -2 ≤ (cmZ S x).1 ∧ (cmZ S x).1 ≤ 11 := by
  unfold cmZ
  (repeat' split) <;> (refine ⟨?_, ?_⟩ <;> (dsimp only; omega))
theorem teZ_r (S : St) (x : Int) : -2 ≤ (teZ S x).1 ∧ (teZ S x).1 ≤ 11 := by
  unfold teZ
  (repeat' split) <;> (refine ⟨?_, ?_⟩ <;> (dsimp only; omega))
theorem giZ_r (S : St) (x y : Int) : -2 ≤ (giZ S x y).1 ∧ (giZ S x y).1 ≤ 11 := by
  unfold giZ
  (repeat' split) <;> (refine ⟨?_, ?_⟩ <;> (dsimp only; omega))
theorem leZ_r (S : St) (t b k : Int) : -2 ≤ (leZ S t b k).1 ∧ (leZ S t b k).1 ≤ 11 := by
  have h := obst_r S t b
  unfold leZ
  (repeat' split) <;> (refine ⟨?_, ?_⟩ <;> (dsimp only; omega))
theorem enZ_r (S : St) (x : Int) : -2 ≤ (enZ S x).1 ∧ (enZ S x).1 ≤ 11 := by
  unfold enZ
  (repeat' split) <;> (refine ⟨?_, ?_⟩ <;> (dsimp only; omega))
theorem reZ_r (S : St) (x y : Int) : -2 ≤ (reZ S x y).1 ∧ (reZ S x y).1 ≤ 11 := by
  unfold reZ
  (repeat' split) <;> (refine ⟨?_, ?_⟩ <;> (dsimp only; omega))
theorem elZ_r (S : St) (x : Int) : -2 ≤ (elZ S x).1 ∧ (elZ S x).1 ≤ 11 := by
  unfold elZ
  (repeat' split) <;> (refine ⟨?_, ?_⟩ <;> (dsimp only; omega))

set_option maxHeartbeats 4000000 in
set_option maxRecDepth 100000 in
/-- BenchBrokerModel.addBench -/
theorem m_addBench (l : Launch) (dg : va_G) (ck : Nat → ClassId) (mo : Nat → Nat) (S : St) (F1 F2 F3 F4 : Int → Int) (M : St) (x y w : Int) (sz : Nat) {Mx : Int} (hV : Inv Mx S) (rg_x : -2147483648 ≤ x ∧ x < 2147483648) (rg_y : -2147483648 ≤ y ∧ y < 2147483648) (rg_w : -2147483648 ≤ w ∧ w < 2147483648) (hkp : 0 ≤ M 8 1 ∧ M 8 1 ≤ 8) : Met l yX9_addBench (.code yX9_addBench cX9_addBench 4 (some .int) :: GW) ({ frames := 3, cells := 0, slots := 0, locals := 70 }) (va_Pc [.ref (mo 0), .int (zI x), .int (zI y), .int (zI w)] (wrP dg ck sz (modelC ck mo (encZ S) F1 F2 F3 F4 M))) (va_Qi (fun r (_ : Unit) => r = zI (endR (mAns (upS M 8 0 0) (pbZ S x y w).1 (pbZ S x y w).2.1) (pbZ S x y w).1)) (fun _ t9 => wrQ dg sz (modelC ck mo (encZ S) F1 F2 F3 F4 M) (modelC ck mo (encZ (pbZ S x y w).2.2) (encZ S) F2 (endF F3 (encZ S) (mAns (upS M 8 0 0) (pbZ S x y w).1 (pbZ S x y w).2.1) (pbZ S x y w).1) F4 (endM (mAns (upS M 8 0 0) (pbZ S x y w).1 (pbZ S x y w).2.1) (pbZ S x y w).1 3)) t9) (va_A (modelC ck mo (encZ S) F1 F2 F3 F4 M) sz)) 0 0 (va_A (modelC ck mo (encZ S) F1 F2 F3 F4 M) sz) := by
  refine Met.ofW (cc := cX9_addBench) (maxL := 4) (ret := (some .int)) (by decide) rfl ?_
  intro p e s m args below meth c s₁ B hml hv
  obtain ⟨rfl, hsz, hP, hK, hD0⟩ := hv
  have hx := B.exec
  have hb := B.bytes
  have hr := B.returns
  have hts := atoms_spec (ws := .code yX9_addBench cX9_addBench 4 (some .int) :: GW) B.pre
  have htg : ∀ w ∈ GW, w.before _ s = true := fun w h => hts w (List.mem_cons_of_mem _ h)
  have hown : s.vm.findClass RX9 = some m.cls := findClass_of_methodNamed B.named
  have hlocks := B.notSynchronized
  subst hsz
  have hD := hD0.self (sz := s.heap.size)
  generalize hAe : va_A (modelC ck mo (encZ S) F1 F2 F3 F4 M) s.heap.size = A at hD ⊢
  have hA : ∀ q : Nat, s.heap.size ≤ q → A q := fun q h => by rw [← hAe]; exact Or.inr h
  have hS : va_S A s.heap s.heap [] := va_S.rf
  have hP : va_P dg vwCl (modelC ck mo (encZ S) F1 F2 F3 F4 M) s.heap := hP
  have hl := lv_entry ([.ref (mo 0), .int (zI x), .int (zI y), .int (zI w)]) (n := 4) (Nat.le_of_ble_eq_true rfl)
  rw [lg_entry_eq]
  generalize (lg_sl ([.ref (mo 0), .int (zI x), .int (zI y), .int (zI w)]) ++ List.replicate (4 - (lg_sl ([.ref (mo 0), .int (zI x), .int (zI y), .int (zI w)])).length) Slot.unset).toArray = ls at hl ⊢
  have hl : lv_has ls 4 [(0, .ref (mo 0)), (1, .int (zI x)), (2, .int (zI y)), (3, .int (zI w))] := hl
  refine lv_aload_n hx hb dX9_addBench_0 rfl (lv_at hl 0 rfl) ?_
  refine x_callv (ws' := modelC ck mo (encZ S) (encZ S) F2 F3 F4 (upS M 8 0 0)) [] (M := modelC ck mo (encZ S) F1 F2 F3 F4 M) (M' := modelC ck mo (encZ S) (encZ S) F2 F3 F4 (upS M 8 0 0)) ([]) (List.append_nil _).symm (List.append_nil _).symm hP hD hS hA (fun hPm hDm => va_runV (As := []) (rest := []) ⟨hx, hb, hml, hown, htg⟩ (m_remembers l dg ck mo S F1 F2 F3 F4 M _ ) (cwV 0 htg (gwV wq_1635 wq_1637 wp_31 wq_15 wq_1638) rfl rfl rfl (by decide +kernel) ⟨Nat.le_of_ble_eq_true rfl, Nat.le_of_ble_eq_true rfl⟩) (wr_preV hK hPm hDm 0 11 rfl rfl) rfl rfl hl.1 rfl (lv_room (Nat.le_of_ble_eq_true rfl)) dX9_addBench_1 ⟨Nat.zero_le _, Nat.zero_le _⟩) (fun H locs hP hD hS => ?_)
  refine lv_aload_n hx hb dX9_addBench_4 rfl (lv_at hl 0 rfl) ?_
  refine lv_aload_n hx hb dX9_addBench_5 rfl (lv_at hl 0 rfl) ?_
  refine lv_iload_n hx hb dX9_addBench_6 rfl (lv_at hl 1 rfl) ?_
  refine lv_iload_n hx hb dX9_addBench_7 rfl (lv_at hl 2 rfl) ?_
  refine lv_iload_n hx hb dX9_addBench_8 rfl (lv_at hl 3 rfl) ?_
  refine x_calli (ws' := modelC ck mo (encZ (pbZ S x y w).2.2) (encZ S) F2 F3 F4 (mAns (upS M 8 0 0) (pbZ S x y w).1 (pbZ S x y w).2.1)) [] (M := modelC ck mo (encZ S) (encZ S) F2 F3 F4 (upS M 8 0 0)) (M' := modelC ck mo (encZ (pbZ S x y w).2.2) (encZ S) F2 F3 F4 (mAns (upS M 8 0 0) (pbZ S x y w).1 (pbZ S x y w).2.1)) ([]) (List.append_nil _).symm (List.append_nil _).symm hP hD hS hA (fun hPm hDm => va_runV (As := [.int (zI x), .int (zI y), .int (zI w)]) (rest := [.ref (mo 0)]) ⟨hx, hb, hml, hown, htg⟩ (m_addsBench l dg ck mo S (encZ S) F2 F3 F4 (upS M 8 0 0) x y w _ hV (by omega) (by omega) (by omega)) (cwV 3 htg (gwV wq_1639 wq_1641 wp_32 wq_15 wq_1642) rfl rfl rfl (by decide +kernel) ⟨Nat.le_of_ble_eq_true rfl, Nat.le_of_ble_eq_true rfl⟩) (wr_preV hK hPm hDm 0 11 rfl rfl) rfl rfl hl.1 rfl (lv_room (Nat.le_of_ble_eq_true rfl)) dX9_addBench_9 ⟨Nat.zero_le _, Nat.zero_le _⟩) (fun r9 H locs hr9 hP hD hS => ?_)
  subst hr9
  refine x_iconst hx hb dX9_addBench_12 ?_
  refine x_calli (ws' := modelC ck mo (encZ (pbZ S x y w).2.2) (encZ S) F2 (endF F3 (encZ S) (mAns (upS M 8 0 0) (pbZ S x y w).1 (pbZ S x y w).2.1) (pbZ S x y w).1) F4 (endM (mAns (upS M 8 0 0) (pbZ S x y w).1 (pbZ S x y w).2.1) (pbZ S x y w).1 3)) [] (M := modelC ck mo (encZ (pbZ S x y w).2.2) (encZ S) F2 F3 F4 (mAns (upS M 8 0 0) (pbZ S x y w).1 (pbZ S x y w).2.1)) (M' := modelC ck mo (encZ (pbZ S x y w).2.2) (encZ S) F2 (endF F3 (encZ S) (mAns (upS M 8 0 0) (pbZ S x y w).1 (pbZ S x y w).2.1) (pbZ S x y w).1) F4 (endM (mAns (upS M 8 0 0) (pbZ S x y w).1 (pbZ S x y w).2.1) (pbZ S x y w).1 3)) ([]) (List.append_nil _).symm (List.append_nil _).symm hP hD hS hA (fun hPm hDm => va_runV (As := [.int (zI (pbZ S x y w).1), .int (zI 3)]) (rest := []) ⟨hx, hb, hml, hown, htg⟩ (m_ends l dg ck mo (pbZ S x y w).2.2 (encZ S) F2 F3 F4 (mAns (upS M 8 0 0) (pbZ S x y w).1 (pbZ S x y w).2.1) (pbZ S x y w).1 3 _ (by have h := pbZ_r S x y w; omega) (by omega) (by rw [mAns_81]; exact hkp)) (cwV 2 htg (gwV wq_1669 wq_1671 wp_38 wq_15 wq_1672) rfl rfl rfl (by decide +kernel) ⟨Nat.le_of_ble_eq_true rfl, Nat.le_of_ble_eq_true rfl⟩) (wr_preV hK hPm hDm 0 11 rfl rfl) rfl rfl hl.1 rfl (lv_room (Nat.le_of_ble_eq_true rfl)) dX9_addBench_13 ⟨Nat.zero_le _, Nat.zero_le _⟩) (fun r13 H locs hr13 hP hD hS => ?_)
  subst hr13
  have hEq : modelC ck mo (encZ (pbZ S x y w).2.2) (encZ S) F2 (endF F3 (encZ S) (mAns (upS M 8 0 0) (pbZ S x y w).1 (pbZ S x y w).2.1) (pbZ S x y w).1) F4 (endM (mAns (upS M 8 0 0) (pbZ S x y w).1 (pbZ S x y w).2.1) (pbZ S x y w).1 3) = modelC ck mo (encZ (pbZ S x y w).2.2) (encZ S) F2 (endF F3 (encZ S) (mAns (upS M 8 0 0) (pbZ S x y w).1 (pbZ S x y w).2.1) (pbZ S x y w).1) F4 (endM (mAns (upS M 8 0 0) (pbZ S x y w).1 (pbZ S x y w).2.1) (pbZ S x y w).1 3) := rfl
  exact W.iret (v := _) hx hb hr (fun t9 ht9 hW9 => ⟨⟨_, (), rfl, rfl, by rw [ht9, hEq]; exact hP, by rw [hEq, hAe]; exact hD⟩, hS.F ht9⟩) hS.2.2 dX9_addBench_16

set_option maxHeartbeats 4000000 in
set_option maxRecDepth 100000 in
/-- BenchBrokerModel.setRent -/
theorem m_setRent (l : Launch) (dg : va_G) (ck : Nat → ClassId) (mo : Nat → Nat) (S : St) (F1 F2 F3 F4 : Int → Int) (M : St) (b w : Int) (sz : Nat) {Mx : Int} (hV : Inv Mx S) (rg_b : -2147483648 ≤ b ∧ b < 2147483648) (rg_w : -2147483648 ≤ w ∧ w < 2147483648) (hkp : 0 ≤ M 8 1 ∧ M 8 1 ≤ 8) : Met l yX9_setRent (.code yX9_setRent cX9_setRent 3 (some .int) :: GW) ({ frames := 3, cells := 0, slots := 0, locals := 66 }) (va_Pc [.ref (mo 0), .int (zI b), .int (zI w)] (wrP dg ck sz (modelC ck mo (encZ S) F1 F2 F3 F4 M))) (va_Qi (fun r (_ : Unit) => r = zI (endR (mAns (upS M 8 0 0) (crZ S b w).1 (crZ S b w).2.1) (crZ S b w).1)) (fun _ t9 => wrQ dg sz (modelC ck mo (encZ S) F1 F2 F3 F4 M) (modelC ck mo (encZ (crZ S b w).2.2) (encZ S) F2 (endF F3 (encZ S) (mAns (upS M 8 0 0) (crZ S b w).1 (crZ S b w).2.1) (crZ S b w).1) F4 (endM (mAns (upS M 8 0 0) (crZ S b w).1 (crZ S b w).2.1) (crZ S b w).1 1)) t9) (va_A (modelC ck mo (encZ S) F1 F2 F3 F4 M) sz)) 0 0 (va_A (modelC ck mo (encZ S) F1 F2 F3 F4 M) sz) := by
  refine Met.ofW (cc := cX9_setRent) (maxL := 3) (ret := (some .int)) (by decide) rfl ?_
  intro p e s m args below meth c s₁ B hml hv
  obtain ⟨rfl, hsz, hP, hK, hD0⟩ := hv
  have hx := B.exec
  have hb := B.bytes
  have hr := B.returns
  have hts := atoms_spec (ws := .code yX9_setRent cX9_setRent 3 (some .int) :: GW) B.pre
  have htg : ∀ w ∈ GW, w.before _ s = true := fun w h => hts w (List.mem_cons_of_mem _ h)
  have hown : s.vm.findClass RX9 = some m.cls := findClass_of_methodNamed B.named
  have hlocks := B.notSynchronized
  subst hsz
  have hD := hD0.self (sz := s.heap.size)
  generalize hAe : va_A (modelC ck mo (encZ S) F1 F2 F3 F4 M) s.heap.size = A at hD ⊢
  have hA : ∀ q : Nat, s.heap.size ≤ q → A q := fun q h => by rw [← hAe]; exact Or.inr h
  have hS : va_S A s.heap s.heap [] := va_S.rf
  have hP : va_P dg vwCl (modelC ck mo (encZ S) F1 F2 F3 F4 M) s.heap := hP
  have hl := lv_entry ([.ref (mo 0), .int (zI b), .int (zI w)]) (n := 3) (Nat.le_of_ble_eq_true rfl)
  rw [lg_entry_eq]
  generalize (lg_sl ([.ref (mo 0), .int (zI b), .int (zI w)]) ++ List.replicate (3 - (lg_sl ([.ref (mo 0), .int (zI b), .int (zI w)])).length) Slot.unset).toArray = ls at hl ⊢
  have hl : lv_has ls 3 [(0, .ref (mo 0)), (1, .int (zI b)), (2, .int (zI w))] := hl
  refine lv_aload_n hx hb dX9_setRent_0 rfl (lv_at hl 0 rfl) ?_
  refine x_callv (ws' := modelC ck mo (encZ S) (encZ S) F2 F3 F4 (upS M 8 0 0)) [] (M := modelC ck mo (encZ S) F1 F2 F3 F4 M) (M' := modelC ck mo (encZ S) (encZ S) F2 F3 F4 (upS M 8 0 0)) ([]) (List.append_nil _).symm (List.append_nil _).symm hP hD hS hA (fun hPm hDm => va_runV (As := []) (rest := []) ⟨hx, hb, hml, hown, htg⟩ (m_remembers l dg ck mo S F1 F2 F3 F4 M _ ) (cwV 0 htg (gwV wq_1635 wq_1637 wp_31 wq_15 wq_1638) rfl rfl rfl (by decide +kernel) ⟨Nat.le_of_ble_eq_true rfl, Nat.le_of_ble_eq_true rfl⟩) (wr_preV hK hPm hDm 0 11 rfl rfl) rfl rfl hl.1 rfl (lv_room (Nat.le_of_ble_eq_true rfl)) dX9_setRent_1 ⟨Nat.zero_le _, Nat.zero_le _⟩) (fun H locs hP hD hS => ?_)
  refine lv_aload_n hx hb dX9_setRent_4 rfl (lv_at hl 0 rfl) ?_
  refine lv_aload_n hx hb dX9_setRent_5 rfl (lv_at hl 0 rfl) ?_
  refine lv_iload_n hx hb dX9_setRent_6 rfl (lv_at hl 1 rfl) ?_
  refine lv_iload_n hx hb dX9_setRent_7 rfl (lv_at hl 2 rfl) ?_
  refine x_calli (ws' := modelC ck mo (encZ (crZ S b w).2.2) (encZ S) F2 F3 F4 (mAns (upS M 8 0 0) (crZ S b w).1 (crZ S b w).2.1)) [] (M := modelC ck mo (encZ S) (encZ S) F2 F3 F4 (upS M 8 0 0)) (M' := modelC ck mo (encZ (crZ S b w).2.2) (encZ S) F2 F3 F4 (mAns (upS M 8 0 0) (crZ S b w).1 (crZ S b w).2.1)) ([]) (List.append_nil _).symm (List.append_nil _).symm hP hD hS hA (fun hPm hDm => va_runV (As := [.int (zI b), .int (zI w)]) (rest := [.ref (mo 0)]) ⟨hx, hb, hml, hown, htg⟩ (m_rents l dg ck mo S (encZ S) F2 F3 F4 (upS M 8 0 0) b w _ hV (by omega) (by omega)) (cwV 2 htg (gwV wq_1685 wq_1687 wp_41 wq_15 wq_1688) rfl rfl rfl (by decide +kernel) ⟨Nat.le_of_ble_eq_true rfl, Nat.le_of_ble_eq_true rfl⟩) (wr_preV hK hPm hDm 0 11 rfl rfl) rfl rfl hl.1 rfl (lv_room (Nat.le_of_ble_eq_true rfl)) dX9_setRent_8 ⟨Nat.zero_le _, Nat.zero_le _⟩) (fun r8 H locs hr8 hP hD hS => ?_)
  subst hr8
  refine x_iconst hx hb dX9_setRent_11 ?_
  refine x_calli (ws' := modelC ck mo (encZ (crZ S b w).2.2) (encZ S) F2 (endF F3 (encZ S) (mAns (upS M 8 0 0) (crZ S b w).1 (crZ S b w).2.1) (crZ S b w).1) F4 (endM (mAns (upS M 8 0 0) (crZ S b w).1 (crZ S b w).2.1) (crZ S b w).1 1)) [] (M := modelC ck mo (encZ (crZ S b w).2.2) (encZ S) F2 F3 F4 (mAns (upS M 8 0 0) (crZ S b w).1 (crZ S b w).2.1)) (M' := modelC ck mo (encZ (crZ S b w).2.2) (encZ S) F2 (endF F3 (encZ S) (mAns (upS M 8 0 0) (crZ S b w).1 (crZ S b w).2.1) (crZ S b w).1) F4 (endM (mAns (upS M 8 0 0) (crZ S b w).1 (crZ S b w).2.1) (crZ S b w).1 1)) ([]) (List.append_nil _).symm (List.append_nil _).symm hP hD hS hA (fun hPm hDm => va_runV (As := [.int (zI (crZ S b w).1), .int (zI 1)]) (rest := []) ⟨hx, hb, hml, hown, htg⟩ (m_ends l dg ck mo (crZ S b w).2.2 (encZ S) F2 F3 F4 (mAns (upS M 8 0 0) (crZ S b w).1 (crZ S b w).2.1) (crZ S b w).1 1 _ (by have h := crZ_r S b w; omega) (by omega) (by rw [mAns_81]; exact hkp)) (cwV 2 htg (gwV wq_1669 wq_1671 wp_38 wq_15 wq_1672) rfl rfl rfl (by decide +kernel) ⟨Nat.le_of_ble_eq_true rfl, Nat.le_of_ble_eq_true rfl⟩) (wr_preV hK hPm hDm 0 11 rfl rfl) rfl rfl hl.1 rfl (lv_room (Nat.le_of_ble_eq_true rfl)) dX9_setRent_12 ⟨Nat.zero_le _, Nat.zero_le _⟩) (fun r12 H locs hr12 hP hD hS => ?_)
  subst hr12
  have hEq : modelC ck mo (encZ (crZ S b w).2.2) (encZ S) F2 (endF F3 (encZ S) (mAns (upS M 8 0 0) (crZ S b w).1 (crZ S b w).2.1) (crZ S b w).1) F4 (endM (mAns (upS M 8 0 0) (crZ S b w).1 (crZ S b w).2.1) (crZ S b w).1 1) = modelC ck mo (encZ (crZ S b w).2.2) (encZ S) F2 (endF F3 (encZ S) (mAns (upS M 8 0 0) (crZ S b w).1 (crZ S b w).2.1) (crZ S b w).1) F4 (endM (mAns (upS M 8 0 0) (crZ S b w).1 (crZ S b w).2.1) (crZ S b w).1 1) := rfl
  exact W.iret (v := _) hx hb hr (fun t9 ht9 hW9 => ⟨⟨_, (), rfl, rfl, by rw [ht9, hEq]; exact hP, by rw [hEq, hAe]; exact hD⟩, hS.F ht9⟩) hS.2.2 dX9_setRent_15

set_option maxHeartbeats 4000000 in
set_option maxRecDepth 100000 in
/-- BenchBrokerModel.addFountain -/
theorem m_addFountain (l : Launch) (dg : va_G) (ck : Nat → ClassId) (mo : Nat → Nat) (S : St) (F1 F2 F3 F4 : Int → Int) (M : St) (x y w : Int) (sz : Nat) {Mx : Int} (hV : Inv Mx S) (rg_x : -2147483648 ≤ x ∧ x < 2147483648) (rg_y : -2147483648 ≤ y ∧ y < 2147483648) (rg_w : -2147483648 ≤ w ∧ w < 2147483648) (hkp : 0 ≤ M 8 1 ∧ M 8 1 ≤ 8) : Met l yX9_addFountain (.code yX9_addFountain cX9_addFountain 4 (some .int) :: GW) ({ frames := 3, cells := 0, slots := 0, locals := 69 }) (va_Pc [.ref (mo 0), .int (zI x), .int (zI y), .int (zI w)] (wrP dg ck sz (modelC ck mo (encZ S) F1 F2 F3 F4 M))) (va_Qi (fun r (_ : Unit) => r = zI (endR (mAns (upS M 8 0 0) (pfZ S x y w).1 (pfZ S x y w).2.1) (pfZ S x y w).1)) (fun _ t9 => wrQ dg sz (modelC ck mo (encZ S) F1 F2 F3 F4 M) (modelC ck mo (encZ (pfZ S x y w).2.2) (encZ S) F2 (endF F3 (encZ S) (mAns (upS M 8 0 0) (pfZ S x y w).1 (pfZ S x y w).2.1) (pfZ S x y w).1) F4 (endM (mAns (upS M 8 0 0) (pfZ S x y w).1 (pfZ S x y w).2.1) (pfZ S x y w).1 3)) t9) (va_A (modelC ck mo (encZ S) F1 F2 F3 F4 M) sz)) 0 0 (va_A (modelC ck mo (encZ S) F1 F2 F3 F4 M) sz) := by
  refine Met.ofW (cc := cX9_addFountain) (maxL := 4) (ret := (some .int)) (by decide) rfl ?_
  intro p e s m args below meth c s₁ B hml hv
  obtain ⟨rfl, hsz, hP, hK, hD0⟩ := hv
  have hx := B.exec
  have hb := B.bytes
  have hr := B.returns
  have hts := atoms_spec (ws := .code yX9_addFountain cX9_addFountain 4 (some .int) :: GW) B.pre
  have htg : ∀ w ∈ GW, w.before _ s = true := fun w h => hts w (List.mem_cons_of_mem _ h)
  have hown : s.vm.findClass RX9 = some m.cls := findClass_of_methodNamed B.named
  have hlocks := B.notSynchronized
  subst hsz
  have hD := hD0.self (sz := s.heap.size)
  generalize hAe : va_A (modelC ck mo (encZ S) F1 F2 F3 F4 M) s.heap.size = A at hD ⊢
  have hA : ∀ q : Nat, s.heap.size ≤ q → A q := fun q h => by rw [← hAe]; exact Or.inr h
  have hS : va_S A s.heap s.heap [] := va_S.rf
  have hP : va_P dg vwCl (modelC ck mo (encZ S) F1 F2 F3 F4 M) s.heap := hP
  have hl := lv_entry ([.ref (mo 0), .int (zI x), .int (zI y), .int (zI w)]) (n := 4) (Nat.le_of_ble_eq_true rfl)
  rw [lg_entry_eq]
  generalize (lg_sl ([.ref (mo 0), .int (zI x), .int (zI y), .int (zI w)]) ++ List.replicate (4 - (lg_sl ([.ref (mo 0), .int (zI x), .int (zI y), .int (zI w)])).length) Slot.unset).toArray = ls at hl ⊢
  have hl : lv_has ls 4 [(0, .ref (mo 0)), (1, .int (zI x)), (2, .int (zI y)), (3, .int (zI w))] := hl
  refine lv_aload_n hx hb dX9_addFountain_0 rfl (lv_at hl 0 rfl) ?_
  refine x_callv (ws' := modelC ck mo (encZ S) (encZ S) F2 F3 F4 (upS M 8 0 0)) [] (M := modelC ck mo (encZ S) F1 F2 F3 F4 M) (M' := modelC ck mo (encZ S) (encZ S) F2 F3 F4 (upS M 8 0 0)) ([]) (List.append_nil _).symm (List.append_nil _).symm hP hD hS hA (fun hPm hDm => va_runV (As := []) (rest := []) ⟨hx, hb, hml, hown, htg⟩ (m_remembers l dg ck mo S F1 F2 F3 F4 M _ ) (cwV 0 htg (gwV wq_1635 wq_1637 wp_31 wq_15 wq_1638) rfl rfl rfl (by decide +kernel) ⟨Nat.le_of_ble_eq_true rfl, Nat.le_of_ble_eq_true rfl⟩) (wr_preV hK hPm hDm 0 11 rfl rfl) rfl rfl hl.1 rfl (lv_room (Nat.le_of_ble_eq_true rfl)) dX9_addFountain_1 ⟨Nat.zero_le _, Nat.zero_le _⟩) (fun H locs hP hD hS => ?_)
  refine lv_aload_n hx hb dX9_addFountain_4 rfl (lv_at hl 0 rfl) ?_
  refine lv_aload_n hx hb dX9_addFountain_5 rfl (lv_at hl 0 rfl) ?_
  refine lv_iload_n hx hb dX9_addFountain_6 rfl (lv_at hl 1 rfl) ?_
  refine lv_iload_n hx hb dX9_addFountain_7 rfl (lv_at hl 2 rfl) ?_
  refine lv_iload_n hx hb dX9_addFountain_8 rfl (lv_at hl 3 rfl) ?_
  refine x_calli (ws' := modelC ck mo (encZ (pfZ S x y w).2.2) (encZ S) F2 F3 F4 (mAns (upS M 8 0 0) (pfZ S x y w).1 (pfZ S x y w).2.1)) [] (M := modelC ck mo (encZ S) (encZ S) F2 F3 F4 (upS M 8 0 0)) (M' := modelC ck mo (encZ (pfZ S x y w).2.2) (encZ S) F2 F3 F4 (mAns (upS M 8 0 0) (pfZ S x y w).1 (pfZ S x y w).2.1)) ([]) (List.append_nil _).symm (List.append_nil _).symm hP hD hS hA (fun hPm hDm => va_runV (As := [.int (zI x), .int (zI y), .int (zI w)]) (rest := [.ref (mo 0)]) ⟨hx, hb, hml, hown, htg⟩ (m_addsFountain l dg ck mo S (encZ S) F2 F3 F4 (upS M 8 0 0) x y w _ hV (by omega) (by omega) (by omega)) (cwV 3 htg (gwV wq_1697 wq_1699 wp_43 wq_15 wq_1700) rfl rfl rfl (by decide +kernel) ⟨Nat.le_of_ble_eq_true rfl, Nat.le_of_ble_eq_true rfl⟩) (wr_preV hK hPm hDm 0 11 rfl rfl) rfl rfl hl.1 rfl (lv_room (Nat.le_of_ble_eq_true rfl)) dX9_addFountain_9 ⟨Nat.zero_le _, Nat.zero_le _⟩) (fun r9 H locs hr9 hP hD hS => ?_)
  subst hr9
  refine x_iconst hx hb dX9_addFountain_12 ?_
  refine x_calli (ws' := modelC ck mo (encZ (pfZ S x y w).2.2) (encZ S) F2 (endF F3 (encZ S) (mAns (upS M 8 0 0) (pfZ S x y w).1 (pfZ S x y w).2.1) (pfZ S x y w).1) F4 (endM (mAns (upS M 8 0 0) (pfZ S x y w).1 (pfZ S x y w).2.1) (pfZ S x y w).1 3)) [] (M := modelC ck mo (encZ (pfZ S x y w).2.2) (encZ S) F2 F3 F4 (mAns (upS M 8 0 0) (pfZ S x y w).1 (pfZ S x y w).2.1)) (M' := modelC ck mo (encZ (pfZ S x y w).2.2) (encZ S) F2 (endF F3 (encZ S) (mAns (upS M 8 0 0) (pfZ S x y w).1 (pfZ S x y w).2.1) (pfZ S x y w).1) F4 (endM (mAns (upS M 8 0 0) (pfZ S x y w).1 (pfZ S x y w).2.1) (pfZ S x y w).1 3)) ([]) (List.append_nil _).symm (List.append_nil _).symm hP hD hS hA (fun hPm hDm => va_runV (As := [.int (zI (pfZ S x y w).1), .int (zI 3)]) (rest := []) ⟨hx, hb, hml, hown, htg⟩ (m_ends l dg ck mo (pfZ S x y w).2.2 (encZ S) F2 F3 F4 (mAns (upS M 8 0 0) (pfZ S x y w).1 (pfZ S x y w).2.1) (pfZ S x y w).1 3 _ (by have h := pfZ_r S x y w; omega) (by omega) (by rw [mAns_81]; exact hkp)) (cwV 2 htg (gwV wq_1669 wq_1671 wp_38 wq_15 wq_1672) rfl rfl rfl (by decide +kernel) ⟨Nat.le_of_ble_eq_true rfl, Nat.le_of_ble_eq_true rfl⟩) (wr_preV hK hPm hDm 0 11 rfl rfl) rfl rfl hl.1 rfl (lv_room (Nat.le_of_ble_eq_true rfl)) dX9_addFountain_13 ⟨Nat.zero_le _, Nat.zero_le _⟩) (fun r13 H locs hr13 hP hD hS => ?_)
  subst hr13
  have hEq : modelC ck mo (encZ (pfZ S x y w).2.2) (encZ S) F2 (endF F3 (encZ S) (mAns (upS M 8 0 0) (pfZ S x y w).1 (pfZ S x y w).2.1) (pfZ S x y w).1) F4 (endM (mAns (upS M 8 0 0) (pfZ S x y w).1 (pfZ S x y w).2.1) (pfZ S x y w).1 3) = modelC ck mo (encZ (pfZ S x y w).2.2) (encZ S) F2 (endF F3 (encZ S) (mAns (upS M 8 0 0) (pfZ S x y w).1 (pfZ S x y w).2.1) (pfZ S x y w).1) F4 (endM (mAns (upS M 8 0 0) (pfZ S x y w).1 (pfZ S x y w).2.1) (pfZ S x y w).1 3) := rfl
  exact W.iret (v := _) hx hb hr (fun t9 ht9 hW9 => ⟨⟨_, (), rfl, rfl, by rw [ht9, hEq]; exact hP, by rw [hEq, hAe]; exact hD⟩, hS.F ht9⟩) hS.2.2 dX9_addFountain_16

set_option maxHeartbeats 4000000 in
set_option maxRecDepth 100000 in
/-- BenchBrokerModel.setLoudness -/
theorem m_setLoudness (l : Launch) (dg : va_G) (ck : Nat → ClassId) (mo : Nat → Nat) (S : St) (F1 F2 F3 F4 : Int → Int) (M : St) (f w : Int) (sz : Nat) {Mx : Int} (hV : Inv Mx S) (rg_f : -2147483648 ≤ f ∧ f < 2147483648) (rg_w : -2147483648 ≤ w ∧ w < 2147483648) (hkp : 0 ≤ M 8 1 ∧ M 8 1 ≤ 8) : Met l yX9_setLoudness (.code yX9_setLoudness cX9_setLoudness 3 (some .int) :: GW) ({ frames := 3, cells := 0, slots := 0, locals := 66 }) (va_Pc [.ref (mo 0), .int (zI f), .int (zI w)] (wrP dg ck sz (modelC ck mo (encZ S) F1 F2 F3 F4 M))) (va_Qi (fun r (_ : Unit) => r = zI (endR (mAns (upS M 8 0 0) (clZ S f w).1 (clZ S f w).2.1) (clZ S f w).1)) (fun _ t9 => wrQ dg sz (modelC ck mo (encZ S) F1 F2 F3 F4 M) (modelC ck mo (encZ (clZ S f w).2.2) (encZ S) F2 (endF F3 (encZ S) (mAns (upS M 8 0 0) (clZ S f w).1 (clZ S f w).2.1) (clZ S f w).1) F4 (endM (mAns (upS M 8 0 0) (clZ S f w).1 (clZ S f w).2.1) (clZ S f w).1 1)) t9) (va_A (modelC ck mo (encZ S) F1 F2 F3 F4 M) sz)) 0 0 (va_A (modelC ck mo (encZ S) F1 F2 F3 F4 M) sz) := by
  refine Met.ofW (cc := cX9_setLoudness) (maxL := 3) (ret := (some .int)) (by decide) rfl ?_
  intro p e s m args below meth c s₁ B hml hv
  obtain ⟨rfl, hsz, hP, hK, hD0⟩ := hv
  have hx := B.exec
  have hb := B.bytes
  have hr := B.returns
  have hts := atoms_spec (ws := .code yX9_setLoudness cX9_setLoudness 3 (some .int) :: GW) B.pre
  have htg : ∀ w ∈ GW, w.before _ s = true := fun w h => hts w (List.mem_cons_of_mem _ h)
  have hown : s.vm.findClass RX9 = some m.cls := findClass_of_methodNamed B.named
  have hlocks := B.notSynchronized
  subst hsz
  have hD := hD0.self (sz := s.heap.size)
  generalize hAe : va_A (modelC ck mo (encZ S) F1 F2 F3 F4 M) s.heap.size = A at hD ⊢
  have hA : ∀ q : Nat, s.heap.size ≤ q → A q := fun q h => by rw [← hAe]; exact Or.inr h
  have hS : va_S A s.heap s.heap [] := va_S.rf
  have hP : va_P dg vwCl (modelC ck mo (encZ S) F1 F2 F3 F4 M) s.heap := hP
  have hl := lv_entry ([.ref (mo 0), .int (zI f), .int (zI w)]) (n := 3) (Nat.le_of_ble_eq_true rfl)
  rw [lg_entry_eq]
  generalize (lg_sl ([.ref (mo 0), .int (zI f), .int (zI w)]) ++ List.replicate (3 - (lg_sl ([.ref (mo 0), .int (zI f), .int (zI w)])).length) Slot.unset).toArray = ls at hl ⊢
  have hl : lv_has ls 3 [(0, .ref (mo 0)), (1, .int (zI f)), (2, .int (zI w))] := hl
  refine lv_aload_n hx hb dX9_setLoudness_0 rfl (lv_at hl 0 rfl) ?_
  refine x_callv (ws' := modelC ck mo (encZ S) (encZ S) F2 F3 F4 (upS M 8 0 0)) [] (M := modelC ck mo (encZ S) F1 F2 F3 F4 M) (M' := modelC ck mo (encZ S) (encZ S) F2 F3 F4 (upS M 8 0 0)) ([]) (List.append_nil _).symm (List.append_nil _).symm hP hD hS hA (fun hPm hDm => va_runV (As := []) (rest := []) ⟨hx, hb, hml, hown, htg⟩ (m_remembers l dg ck mo S F1 F2 F3 F4 M _ ) (cwV 0 htg (gwV wq_1635 wq_1637 wp_31 wq_15 wq_1638) rfl rfl rfl (by decide +kernel) ⟨Nat.le_of_ble_eq_true rfl, Nat.le_of_ble_eq_true rfl⟩) (wr_preV hK hPm hDm 0 11 rfl rfl) rfl rfl hl.1 rfl (lv_room (Nat.le_of_ble_eq_true rfl)) dX9_setLoudness_1 ⟨Nat.zero_le _, Nat.zero_le _⟩) (fun H locs hP hD hS => ?_)
  refine lv_aload_n hx hb dX9_setLoudness_4 rfl (lv_at hl 0 rfl) ?_
  refine lv_aload_n hx hb dX9_setLoudness_5 rfl (lv_at hl 0 rfl) ?_
  refine lv_iload_n hx hb dX9_setLoudness_6 rfl (lv_at hl 1 rfl) ?_
  refine lv_iload_n hx hb dX9_setLoudness_7 rfl (lv_at hl 2 rfl) ?_
  refine x_calli (ws' := modelC ck mo (encZ (clZ S f w).2.2) (encZ S) F2 F3 F4 (mAns (upS M 8 0 0) (clZ S f w).1 (clZ S f w).2.1)) [] (M := modelC ck mo (encZ S) (encZ S) F2 F3 F4 (upS M 8 0 0)) (M' := modelC ck mo (encZ (clZ S f w).2.2) (encZ S) F2 F3 F4 (mAns (upS M 8 0 0) (clZ S f w).1 (clZ S f w).2.1)) ([]) (List.append_nil _).symm (List.append_nil _).symm hP hD hS hA (fun hPm hDm => va_runV (As := [.int (zI f), .int (zI w)]) (rest := [.ref (mo 0)]) ⟨hx, hb, hml, hown, htg⟩ (m_louds l dg ck mo S (encZ S) F2 F3 F4 (upS M 8 0 0) f w _ hV (by omega) (by omega)) (cwV 2 htg (gwV wq_1705 wq_1707 wp_44 wq_15 wq_1708) rfl rfl rfl (by decide +kernel) ⟨Nat.le_of_ble_eq_true rfl, Nat.le_of_ble_eq_true rfl⟩) (wr_preV hK hPm hDm 0 11 rfl rfl) rfl rfl hl.1 rfl (lv_room (Nat.le_of_ble_eq_true rfl)) dX9_setLoudness_8 ⟨Nat.zero_le _, Nat.zero_le _⟩) (fun r8 H locs hr8 hP hD hS => ?_)
  subst hr8
  refine x_iconst hx hb dX9_setLoudness_11 ?_
  refine x_calli (ws' := modelC ck mo (encZ (clZ S f w).2.2) (encZ S) F2 (endF F3 (encZ S) (mAns (upS M 8 0 0) (clZ S f w).1 (clZ S f w).2.1) (clZ S f w).1) F4 (endM (mAns (upS M 8 0 0) (clZ S f w).1 (clZ S f w).2.1) (clZ S f w).1 1)) [] (M := modelC ck mo (encZ (clZ S f w).2.2) (encZ S) F2 F3 F4 (mAns (upS M 8 0 0) (clZ S f w).1 (clZ S f w).2.1)) (M' := modelC ck mo (encZ (clZ S f w).2.2) (encZ S) F2 (endF F3 (encZ S) (mAns (upS M 8 0 0) (clZ S f w).1 (clZ S f w).2.1) (clZ S f w).1) F4 (endM (mAns (upS M 8 0 0) (clZ S f w).1 (clZ S f w).2.1) (clZ S f w).1 1)) ([]) (List.append_nil _).symm (List.append_nil _).symm hP hD hS hA (fun hPm hDm => va_runV (As := [.int (zI (clZ S f w).1), .int (zI 1)]) (rest := []) ⟨hx, hb, hml, hown, htg⟩ (m_ends l dg ck mo (clZ S f w).2.2 (encZ S) F2 F3 F4 (mAns (upS M 8 0 0) (clZ S f w).1 (clZ S f w).2.1) (clZ S f w).1 1 _ (by have h := clZ_r S f w; omega) (by omega) (by rw [mAns_81]; exact hkp)) (cwV 2 htg (gwV wq_1669 wq_1671 wp_38 wq_15 wq_1672) rfl rfl rfl (by decide +kernel) ⟨Nat.le_of_ble_eq_true rfl, Nat.le_of_ble_eq_true rfl⟩) (wr_preV hK hPm hDm 0 11 rfl rfl) rfl rfl hl.1 rfl (lv_room (Nat.le_of_ble_eq_true rfl)) dX9_setLoudness_12 ⟨Nat.zero_le _, Nat.zero_le _⟩) (fun r12 H locs hr12 hP hD hS => ?_)
  subst hr12
  have hEq : modelC ck mo (encZ (clZ S f w).2.2) (encZ S) F2 (endF F3 (encZ S) (mAns (upS M 8 0 0) (clZ S f w).1 (clZ S f w).2.1) (clZ S f w).1) F4 (endM (mAns (upS M 8 0 0) (clZ S f w).1 (clZ S f w).2.1) (clZ S f w).1 1) = modelC ck mo (encZ (clZ S f w).2.2) (encZ S) F2 (endF F3 (encZ S) (mAns (upS M 8 0 0) (clZ S f w).1 (clZ S f w).2.1) (clZ S f w).1) F4 (endM (mAns (upS M 8 0 0) (clZ S f w).1 (clZ S f w).2.1) (clZ S f w).1 1) := rfl
  exact W.iret (v := _) hx hb hr (fun t9 ht9 hW9 => ⟨⟨_, (), rfl, rfl, by rw [ht9, hEq]; exact hP, by rw [hEq, hAe]; exact hD⟩, hS.F ht9⟩) hS.2.2 dX9_setLoudness_15

set_option maxHeartbeats 4000000 in
set_option maxRecDepth 100000 in
/-- BenchBrokerModel.setNoiseLimit -/
theorem m_setNoiseLimit (l : Launch) (dg : va_G) (ck : Nat → ClassId) (mo : Nat → Nat) (S : St) (F1 F2 F3 F4 : Int → Int) (M : St) (x : Int) (sz : Nat) {Mx : Int} (hV : Inv Mx S) (rg_x : -2147483648 ≤ x ∧ x < 2147483648) (hkp : 0 ≤ M 8 1 ∧ M 8 1 ≤ 8) : Met l yX9_setNoiseLimit (.code yX9_setNoiseLimit cX9_setNoiseLimit 2 (some .int) :: GW) ({ frames := 2, cells := 0, slots := 0, locals := 44 }) (va_Pc [.ref (mo 0), .int (zI x)] (wrP dg ck sz (modelC ck mo (encZ S) F1 F2 F3 F4 M))) (va_Qi (fun r (_ : Unit) => r = zI (endR (mAns (upS M 8 0 0) (cmZ S x).1 (cmZ S x).2.1) (mcd (cmZ S x).1))) (fun _ t9 => wrQ dg sz (modelC ck mo (encZ S) F1 F2 F3 F4 M) (modelC ck mo (encZ (cmZ S x).2.2) (encZ S) F2 (endF F3 (encZ S) (mAns (upS M 8 0 0) (cmZ S x).1 (cmZ S x).2.1) (mcd (cmZ S x).1)) F4 (endM (mAns (upS M 8 0 0) (cmZ S x).1 (cmZ S x).2.1) (mcd (cmZ S x).1) 1)) t9) (va_A (modelC ck mo (encZ S) F1 F2 F3 F4 M) sz)) 0 0 (va_A (modelC ck mo (encZ S) F1 F2 F3 F4 M) sz) := by
  refine Met.ofW (cc := cX9_setNoiseLimit) (maxL := 2) (ret := (some .int)) (by decide) rfl ?_
  intro p e s m args below meth c s₁ B hml hv
  obtain ⟨rfl, hsz, hP, hK, hD0⟩ := hv
  have hx := B.exec
  have hb := B.bytes
  have hr := B.returns
  have hts := atoms_spec (ws := .code yX9_setNoiseLimit cX9_setNoiseLimit 2 (some .int) :: GW) B.pre
  have htg : ∀ w ∈ GW, w.before _ s = true := fun w h => hts w (List.mem_cons_of_mem _ h)
  have hown : s.vm.findClass RX9 = some m.cls := findClass_of_methodNamed B.named
  have hlocks := B.notSynchronized
  subst hsz
  have hD := hD0.self (sz := s.heap.size)
  generalize hAe : va_A (modelC ck mo (encZ S) F1 F2 F3 F4 M) s.heap.size = A at hD ⊢
  have hA : ∀ q : Nat, s.heap.size ≤ q → A q := fun q h => by rw [← hAe]; exact Or.inr h
  have hS : va_S A s.heap s.heap [] := va_S.rf
  have hP : va_P dg vwCl (modelC ck mo (encZ S) F1 F2 F3 F4 M) s.heap := hP
  have hl := lv_entry ([.ref (mo 0), .int (zI x)]) (n := 2) (Nat.le_of_ble_eq_true rfl)
  rw [lg_entry_eq]
  generalize (lg_sl ([.ref (mo 0), .int (zI x)]) ++ List.replicate (2 - (lg_sl ([.ref (mo 0), .int (zI x)])).length) Slot.unset).toArray = ls at hl ⊢
  have hl : lv_has ls 2 [(0, .ref (mo 0)), (1, .int (zI x))] := hl
  refine lv_aload_n hx hb dX9_setNoiseLimit_0 rfl (lv_at hl 0 rfl) ?_
  refine x_callv (ws' := modelC ck mo (encZ S) (encZ S) F2 F3 F4 (upS M 8 0 0)) [] (M := modelC ck mo (encZ S) F1 F2 F3 F4 M) (M' := modelC ck mo (encZ S) (encZ S) F2 F3 F4 (upS M 8 0 0)) ([]) (List.append_nil _).symm (List.append_nil _).symm hP hD hS hA (fun hPm hDm => va_runV (As := []) (rest := []) ⟨hx, hb, hml, hown, htg⟩ (m_remembers l dg ck mo S F1 F2 F3 F4 M _ ) (cwV 0 htg (gwV wq_1635 wq_1637 wp_31 wq_15 wq_1638) rfl rfl rfl (by decide +kernel) ⟨Nat.le_of_ble_eq_true rfl, Nat.le_of_ble_eq_true rfl⟩) (wr_preV hK hPm hDm 0 11 rfl rfl) rfl rfl hl.1 rfl (lv_room (Nat.le_of_ble_eq_true rfl)) dX9_setNoiseLimit_1 ⟨Nat.zero_le _, Nat.zero_le _⟩) (fun H locs hP hD hS => ?_)
  refine lv_aload_n hx hb dX9_setNoiseLimit_4 rfl (lv_at hl 0 rfl) ?_
  refine lv_aload_n hx hb dX9_setNoiseLimit_5 rfl (lv_at hl 0 rfl) ?_
  refine lv_iload_n hx hb dX9_setNoiseLimit_6 rfl (lv_at hl 1 rfl) ?_
  refine x_calli (ws' := modelC ck mo (encZ (cmZ S x).2.2) (encZ S) F2 F3 F4 (mAns (upS M 8 0 0) (cmZ S x).1 (cmZ S x).2.1)) [] (M := modelC ck mo (encZ S) (encZ S) F2 F3 F4 (upS M 8 0 0)) (M' := modelC ck mo (encZ (cmZ S x).2.2) (encZ S) F2 F3 F4 (mAns (upS M 8 0 0) (cmZ S x).1 (cmZ S x).2.1)) ([]) (List.append_nil _).symm (List.append_nil _).symm hP hD hS hA (fun hPm hDm => va_runV (As := [.int (zI x)]) (rest := [.ref (mo 0)]) ⟨hx, hb, hml, hown, htg⟩ (m_limits l dg ck mo S (encZ S) F2 F3 F4 (upS M 8 0 0) x _ hV (by omega)) (cwV 1 htg (gwV wq_1725 wq_1727 wp_47 wq_15 wq_1728) rfl rfl rfl (by decide +kernel) ⟨Nat.le_of_ble_eq_true rfl, Nat.le_of_ble_eq_true rfl⟩) (wr_preV hK hPm hDm 0 11 rfl rfl) rfl rfl hl.1 rfl (lv_room (Nat.le_of_ble_eq_true rfl)) dX9_setNoiseLimit_7 ⟨Nat.zero_le _, Nat.zero_le _⟩) (fun r7 H locs hr7 hP hD hS => ?_)
  subst hr7
  refine x_iconst hx hb dX9_setNoiseLimit_10 ?_
  refine x_calli (ws' := modelC ck mo (encZ (cmZ S x).2.2) (encZ S) F2 (endF F3 (encZ S) (mAns (upS M 8 0 0) (cmZ S x).1 (cmZ S x).2.1) (mcd (cmZ S x).1)) F4 (endM (mAns (upS M 8 0 0) (cmZ S x).1 (cmZ S x).2.1) (mcd (cmZ S x).1) 1)) [] (M := modelC ck mo (encZ (cmZ S x).2.2) (encZ S) F2 F3 F4 (mAns (upS M 8 0 0) (cmZ S x).1 (cmZ S x).2.1)) (M' := modelC ck mo (encZ (cmZ S x).2.2) (encZ S) F2 (endF F3 (encZ S) (mAns (upS M 8 0 0) (cmZ S x).1 (cmZ S x).2.1) (mcd (cmZ S x).1)) F4 (endM (mAns (upS M 8 0 0) (cmZ S x).1 (cmZ S x).2.1) (mcd (cmZ S x).1) 1)) ([]) (List.append_nil _).symm (List.append_nil _).symm hP hD hS hA (fun hPm hDm => va_runV (As := [.int (zI (mcd (cmZ S x).1)), .int (zI 1)]) (rest := []) ⟨hx, hb, hml, hown, htg⟩ (m_ends l dg ck mo (cmZ S x).2.2 (encZ S) F2 F3 F4 (mAns (upS M 8 0 0) (cmZ S x).1 (cmZ S x).2.1) (mcd (cmZ S x).1) 1 _ (mcd_r (cmZ_r S x)) (by omega) (by rw [mAns_81]; exact hkp)) (cwV 2 htg (gwV wq_1669 wq_1671 wp_38 wq_15 wq_1672) rfl rfl rfl (by decide +kernel) ⟨Nat.le_of_ble_eq_true rfl, Nat.le_of_ble_eq_true rfl⟩) (wr_preV hK hPm hDm 0 11 rfl rfl) rfl rfl hl.1 rfl (lv_room (Nat.le_of_ble_eq_true rfl)) dX9_setNoiseLimit_11 ⟨Nat.zero_le _, Nat.zero_le _⟩) (fun r11 H locs hr11 hP hD hS => ?_)
  subst hr11
  have hEq : modelC ck mo (encZ (cmZ S x).2.2) (encZ S) F2 (endF F3 (encZ S) (mAns (upS M 8 0 0) (cmZ S x).1 (cmZ S x).2.1) (mcd (cmZ S x).1)) F4 (endM (mAns (upS M 8 0 0) (cmZ S x).1 (cmZ S x).2.1) (mcd (cmZ S x).1) 1) = modelC ck mo (encZ (cmZ S x).2.2) (encZ S) F2 (endF F3 (encZ S) (mAns (upS M 8 0 0) (cmZ S x).1 (cmZ S x).2.1) (mcd (cmZ S x).1)) F4 (endM (mAns (upS M 8 0 0) (cmZ S x).1 (cmZ S x).2.1) (mcd (cmZ S x).1) 1) := rfl
  exact W.iret (v := _) hx hb hr (fun t9 ht9 hW9 => ⟨⟨_, (), rfl, rfl, by rw [ht9, hEq]; exact hP, by rw [hEq, hAe]; exact hD⟩, hS.F ht9⟩) hS.2.2 dX9_setNoiseLimit_14

set_option maxHeartbeats 4000000 in
set_option maxRecDepth 100000 in
/-- BenchBrokerModel.addTenant -/
theorem m_addTenant (l : Launch) (dg : va_G) (ck : Nat → ClassId) (mo : Nat → Nat) (S : St) (F1 F2 F3 F4 : Int → Int) (M : St) (x : Int) (sz : Nat) {Mx : Int} (hV : Inv Mx S) (rg_x : -2147483648 ≤ x ∧ x < 2147483648) (hkp : 0 ≤ M 8 1 ∧ M 8 1 ≤ 8) : Met l yX9_addTenant (.code yX9_addTenant cX9_addTenant 2 (some .int) :: GW) ({ frames := 2, cells := 0, slots := 0, locals := 44 }) (va_Pc [.ref (mo 0), .int (zI x)] (wrP dg ck sz (modelC ck mo (encZ S) F1 F2 F3 F4 M))) (va_Qi (fun r (_ : Unit) => r = zI (endR (mAns (upS M 8 0 0) (teZ S x).1 (teZ S x).2.1) (mcd (teZ S x).1))) (fun _ t9 => wrQ dg sz (modelC ck mo (encZ S) F1 F2 F3 F4 M) (modelC ck mo (encZ (teZ S x).2.2) (encZ S) F2 (endF F3 (encZ S) (mAns (upS M 8 0 0) (teZ S x).1 (teZ S x).2.1) (mcd (teZ S x).1)) F4 (endM (mAns (upS M 8 0 0) (teZ S x).1 (teZ S x).2.1) (mcd (teZ S x).1) 2)) t9) (va_A (modelC ck mo (encZ S) F1 F2 F3 F4 M) sz)) 0 0 (va_A (modelC ck mo (encZ S) F1 F2 F3 F4 M) sz) := by
  refine Met.ofW (cc := cX9_addTenant) (maxL := 2) (ret := (some .int)) (by decide) rfl ?_
  intro p e s m args below meth c s₁ B hml hv
  obtain ⟨rfl, hsz, hP, hK, hD0⟩ := hv
  have hx := B.exec
  have hb := B.bytes
  have hr := B.returns
  have hts := atoms_spec (ws := .code yX9_addTenant cX9_addTenant 2 (some .int) :: GW) B.pre
  have htg : ∀ w ∈ GW, w.before _ s = true := fun w h => hts w (List.mem_cons_of_mem _ h)
  have hown : s.vm.findClass RX9 = some m.cls := findClass_of_methodNamed B.named
  have hlocks := B.notSynchronized
  subst hsz
  have hD := hD0.self (sz := s.heap.size)
  generalize hAe : va_A (modelC ck mo (encZ S) F1 F2 F3 F4 M) s.heap.size = A at hD ⊢
  have hA : ∀ q : Nat, s.heap.size ≤ q → A q := fun q h => by rw [← hAe]; exact Or.inr h
  have hS : va_S A s.heap s.heap [] := va_S.rf
  have hP : va_P dg vwCl (modelC ck mo (encZ S) F1 F2 F3 F4 M) s.heap := hP
  have hl := lv_entry ([.ref (mo 0), .int (zI x)]) (n := 2) (Nat.le_of_ble_eq_true rfl)
  rw [lg_entry_eq]
  generalize (lg_sl ([.ref (mo 0), .int (zI x)]) ++ List.replicate (2 - (lg_sl ([.ref (mo 0), .int (zI x)])).length) Slot.unset).toArray = ls at hl ⊢
  have hl : lv_has ls 2 [(0, .ref (mo 0)), (1, .int (zI x))] := hl
  refine lv_aload_n hx hb dX9_addTenant_0 rfl (lv_at hl 0 rfl) ?_
  refine x_callv (ws' := modelC ck mo (encZ S) (encZ S) F2 F3 F4 (upS M 8 0 0)) [] (M := modelC ck mo (encZ S) F1 F2 F3 F4 M) (M' := modelC ck mo (encZ S) (encZ S) F2 F3 F4 (upS M 8 0 0)) ([]) (List.append_nil _).symm (List.append_nil _).symm hP hD hS hA (fun hPm hDm => va_runV (As := []) (rest := []) ⟨hx, hb, hml, hown, htg⟩ (m_remembers l dg ck mo S F1 F2 F3 F4 M _ ) (cwV 0 htg (gwV wq_1635 wq_1637 wp_31 wq_15 wq_1638) rfl rfl rfl (by decide +kernel) ⟨Nat.le_of_ble_eq_true rfl, Nat.le_of_ble_eq_true rfl⟩) (wr_preV hK hPm hDm 0 11 rfl rfl) rfl rfl hl.1 rfl (lv_room (Nat.le_of_ble_eq_true rfl)) dX9_addTenant_1 ⟨Nat.zero_le _, Nat.zero_le _⟩) (fun H locs hP hD hS => ?_)
  refine lv_aload_n hx hb dX9_addTenant_4 rfl (lv_at hl 0 rfl) ?_
  refine lv_aload_n hx hb dX9_addTenant_5 rfl (lv_at hl 0 rfl) ?_
  refine lv_iload_n hx hb dX9_addTenant_6 rfl (lv_at hl 1 rfl) ?_
  refine x_calli (ws' := modelC ck mo (encZ (teZ S x).2.2) (encZ S) F2 F3 F4 (mAns (upS M 8 0 0) (teZ S x).1 (teZ S x).2.1)) [] (M := modelC ck mo (encZ S) (encZ S) F2 F3 F4 (upS M 8 0 0)) (M' := modelC ck mo (encZ (teZ S x).2.2) (encZ S) F2 F3 F4 (mAns (upS M 8 0 0) (teZ S x).1 (teZ S x).2.1)) ([]) (List.append_nil _).symm (List.append_nil _).symm hP hD hS hA (fun hPm hDm => va_runV (As := [.int (zI x)]) (rest := [.ref (mo 0)]) ⟨hx, hb, hml, hown, htg⟩ (m_addsTenant l dg ck mo S (encZ S) F2 F3 F4 (upS M 8 0 0) x _ hV (by omega)) (cwV 1 htg (gwV wq_1809 wq_1811 wp_53 wq_15 wq_1812) rfl rfl rfl (by decide +kernel) ⟨Nat.le_of_ble_eq_true rfl, Nat.le_of_ble_eq_true rfl⟩) (wr_preV hK hPm hDm 0 11 rfl rfl) rfl rfl hl.1 rfl (lv_room (Nat.le_of_ble_eq_true rfl)) dX9_addTenant_7 ⟨Nat.zero_le _, Nat.zero_le _⟩) (fun r7 H locs hr7 hP hD hS => ?_)
  subst hr7
  refine x_iconst hx hb dX9_addTenant_10 ?_
  refine x_calli (ws' := modelC ck mo (encZ (teZ S x).2.2) (encZ S) F2 (endF F3 (encZ S) (mAns (upS M 8 0 0) (teZ S x).1 (teZ S x).2.1) (mcd (teZ S x).1)) F4 (endM (mAns (upS M 8 0 0) (teZ S x).1 (teZ S x).2.1) (mcd (teZ S x).1) 2)) [] (M := modelC ck mo (encZ (teZ S x).2.2) (encZ S) F2 F3 F4 (mAns (upS M 8 0 0) (teZ S x).1 (teZ S x).2.1)) (M' := modelC ck mo (encZ (teZ S x).2.2) (encZ S) F2 (endF F3 (encZ S) (mAns (upS M 8 0 0) (teZ S x).1 (teZ S x).2.1) (mcd (teZ S x).1)) F4 (endM (mAns (upS M 8 0 0) (teZ S x).1 (teZ S x).2.1) (mcd (teZ S x).1) 2)) ([]) (List.append_nil _).symm (List.append_nil _).symm hP hD hS hA (fun hPm hDm => va_runV (As := [.int (zI (mcd (teZ S x).1)), .int (zI 2)]) (rest := []) ⟨hx, hb, hml, hown, htg⟩ (m_ends l dg ck mo (teZ S x).2.2 (encZ S) F2 F3 F4 (mAns (upS M 8 0 0) (teZ S x).1 (teZ S x).2.1) (mcd (teZ S x).1) 2 _ (mcd_r (teZ_r S x)) (by omega) (by rw [mAns_81]; exact hkp)) (cwV 2 htg (gwV wq_1669 wq_1671 wp_38 wq_15 wq_1672) rfl rfl rfl (by decide +kernel) ⟨Nat.le_of_ble_eq_true rfl, Nat.le_of_ble_eq_true rfl⟩) (wr_preV hK hPm hDm 0 11 rfl rfl) rfl rfl hl.1 rfl (lv_room (Nat.le_of_ble_eq_true rfl)) dX9_addTenant_11 ⟨Nat.zero_le _, Nat.zero_le _⟩) (fun r11 H locs hr11 hP hD hS => ?_)
  subst hr11
  have hEq : modelC ck mo (encZ (teZ S x).2.2) (encZ S) F2 (endF F3 (encZ S) (mAns (upS M 8 0 0) (teZ S x).1 (teZ S x).2.1) (mcd (teZ S x).1)) F4 (endM (mAns (upS M 8 0 0) (teZ S x).1 (teZ S x).2.1) (mcd (teZ S x).1) 2) = modelC ck mo (encZ (teZ S x).2.2) (encZ S) F2 (endF F3 (encZ S) (mAns (upS M 8 0 0) (teZ S x).1 (teZ S x).2.1) (mcd (teZ S x).1)) F4 (endM (mAns (upS M 8 0 0) (teZ S x).1 (teZ S x).2.1) (mcd (teZ S x).1) 2) := rfl
  exact W.iret (v := _) hx hb hr (fun t9 ht9 hW9 => ⟨⟨_, (), rfl, rfl, by rw [ht9, hEq]; exact hP, by rw [hEq, hAe]; exact hD⟩, hS.F ht9⟩) hS.2.2 dX9_addTenant_14

set_option maxHeartbeats 4000000 in
set_option maxRecDepth 100000 in
/-- BenchBrokerModel.giveCoins -/
theorem m_giveCoins (l : Launch) (dg : va_G) (ck : Nat → ClassId) (mo : Nat → Nat) (S : St) (F1 F2 F3 F4 : Int → Int) (M : St) (t x : Int) (sz : Nat) {Mx : Int} (hV : Inv Mx S) (rg_t : -2147483648 ≤ t ∧ t < 2147483648) (rg_x : -2147483648 ≤ x ∧ x < 2147483648) (hkp : 0 ≤ M 8 1 ∧ M 8 1 ≤ 8) : Met l yX9_giveCoins (.code yX9_giveCoins cX9_giveCoins 3 (some .int) :: GW) ({ frames := 3, cells := 0, slots := 0, locals := 65 }) (va_Pc [.ref (mo 0), .int (zI t), .int (zI x)] (wrP dg ck sz (modelC ck mo (encZ S) F1 F2 F3 F4 M))) (va_Qi (fun r (_ : Unit) => r = zI (endR (mAns (upS M 8 0 0) (giZ S t x).1 (giZ S t x).2.1) (giZ S t x).1)) (fun _ t9 => wrQ dg sz (modelC ck mo (encZ S) F1 F2 F3 F4 M) (modelC ck mo (encZ (giZ S t x).2.2) (encZ S) F2 (endF F3 (encZ S) (mAns (upS M 8 0 0) (giZ S t x).1 (giZ S t x).2.1) (giZ S t x).1) F4 (endM (mAns (upS M 8 0 0) (giZ S t x).1 (giZ S t x).2.1) (giZ S t x).1 1)) t9) (va_A (modelC ck mo (encZ S) F1 F2 F3 F4 M) sz)) 0 0 (va_A (modelC ck mo (encZ S) F1 F2 F3 F4 M) sz) := by
  refine Met.ofW (cc := cX9_giveCoins) (maxL := 3) (ret := (some .int)) (by decide) rfl ?_
  intro p e s m args below meth c s₁ B hml hv
  obtain ⟨rfl, hsz, hP, hK, hD0⟩ := hv
  have hx := B.exec
  have hb := B.bytes
  have hr := B.returns
  have hts := atoms_spec (ws := .code yX9_giveCoins cX9_giveCoins 3 (some .int) :: GW) B.pre
  have htg : ∀ w ∈ GW, w.before _ s = true := fun w h => hts w (List.mem_cons_of_mem _ h)
  have hown : s.vm.findClass RX9 = some m.cls := findClass_of_methodNamed B.named
  have hlocks := B.notSynchronized
  subst hsz
  have hD := hD0.self (sz := s.heap.size)
  generalize hAe : va_A (modelC ck mo (encZ S) F1 F2 F3 F4 M) s.heap.size = A at hD ⊢
  have hA : ∀ q : Nat, s.heap.size ≤ q → A q := fun q h => by rw [← hAe]; exact Or.inr h
  have hS : va_S A s.heap s.heap [] := va_S.rf
  have hP : va_P dg vwCl (modelC ck mo (encZ S) F1 F2 F3 F4 M) s.heap := hP
  have hl := lv_entry ([.ref (mo 0), .int (zI t), .int (zI x)]) (n := 3) (Nat.le_of_ble_eq_true rfl)
  rw [lg_entry_eq]
  generalize (lg_sl ([.ref (mo 0), .int (zI t), .int (zI x)]) ++ List.replicate (3 - (lg_sl ([.ref (mo 0), .int (zI t), .int (zI x)])).length) Slot.unset).toArray = ls at hl ⊢
  have hl : lv_has ls 3 [(0, .ref (mo 0)), (1, .int (zI t)), (2, .int (zI x))] := hl
  refine lv_aload_n hx hb dX9_giveCoins_0 rfl (lv_at hl 0 rfl) ?_
  refine x_callv (ws' := modelC ck mo (encZ S) (encZ S) F2 F3 F4 (upS M 8 0 0)) [] (M := modelC ck mo (encZ S) F1 F2 F3 F4 M) (M' := modelC ck mo (encZ S) (encZ S) F2 F3 F4 (upS M 8 0 0)) ([]) (List.append_nil _).symm (List.append_nil _).symm hP hD hS hA (fun hPm hDm => va_runV (As := []) (rest := []) ⟨hx, hb, hml, hown, htg⟩ (m_remembers l dg ck mo S F1 F2 F3 F4 M _ ) (cwV 0 htg (gwV wq_1635 wq_1637 wp_31 wq_15 wq_1638) rfl rfl rfl (by decide +kernel) ⟨Nat.le_of_ble_eq_true rfl, Nat.le_of_ble_eq_true rfl⟩) (wr_preV hK hPm hDm 0 11 rfl rfl) rfl rfl hl.1 rfl (lv_room (Nat.le_of_ble_eq_true rfl)) dX9_giveCoins_1 ⟨Nat.zero_le _, Nat.zero_le _⟩) (fun H locs hP hD hS => ?_)
  refine lv_aload_n hx hb dX9_giveCoins_4 rfl (lv_at hl 0 rfl) ?_
  refine lv_aload_n hx hb dX9_giveCoins_5 rfl (lv_at hl 0 rfl) ?_
  refine lv_iload_n hx hb dX9_giveCoins_6 rfl (lv_at hl 1 rfl) ?_
  refine lv_iload_n hx hb dX9_giveCoins_7 rfl (lv_at hl 2 rfl) ?_
  refine x_calli (ws' := modelC ck mo (encZ (giZ S t x).2.2) (encZ S) F2 F3 F4 (mAns (upS M 8 0 0) (giZ S t x).1 (giZ S t x).2.1)) [] (M := modelC ck mo (encZ S) (encZ S) F2 F3 F4 (upS M 8 0 0)) (M' := modelC ck mo (encZ (giZ S t x).2.2) (encZ S) F2 F3 F4 (mAns (upS M 8 0 0) (giZ S t x).1 (giZ S t x).2.1)) ([]) (List.append_nil _).symm (List.append_nil _).symm hP hD hS hA (fun hPm hDm => va_runV (As := [.int (zI t), .int (zI x)]) (rest := [.ref (mo 0)]) ⟨hx, hb, hml, hown, htg⟩ (m_gives l dg ck mo S (encZ S) F2 F3 F4 (upS M 8 0 0) t x _ hV (by omega) (by omega)) (cwV 2 htg (gwV wq_1817 wq_1819 wp_54 wq_15 wq_1820) rfl rfl rfl (by decide +kernel) ⟨Nat.le_of_ble_eq_true rfl, Nat.le_of_ble_eq_true rfl⟩) (wr_preV hK hPm hDm 0 11 rfl rfl) rfl rfl hl.1 rfl (lv_room (Nat.le_of_ble_eq_true rfl)) dX9_giveCoins_8 ⟨Nat.zero_le _, Nat.zero_le _⟩) (fun r8 H locs hr8 hP hD hS => ?_)
  subst hr8
  refine x_iconst hx hb dX9_giveCoins_11 ?_
  refine x_calli (ws' := modelC ck mo (encZ (giZ S t x).2.2) (encZ S) F2 (endF F3 (encZ S) (mAns (upS M 8 0 0) (giZ S t x).1 (giZ S t x).2.1) (giZ S t x).1) F4 (endM (mAns (upS M 8 0 0) (giZ S t x).1 (giZ S t x).2.1) (giZ S t x).1 1)) [] (M := modelC ck mo (encZ (giZ S t x).2.2) (encZ S) F2 F3 F4 (mAns (upS M 8 0 0) (giZ S t x).1 (giZ S t x).2.1)) (M' := modelC ck mo (encZ (giZ S t x).2.2) (encZ S) F2 (endF F3 (encZ S) (mAns (upS M 8 0 0) (giZ S t x).1 (giZ S t x).2.1) (giZ S t x).1) F4 (endM (mAns (upS M 8 0 0) (giZ S t x).1 (giZ S t x).2.1) (giZ S t x).1 1)) ([]) (List.append_nil _).symm (List.append_nil _).symm hP hD hS hA (fun hPm hDm => va_runV (As := [.int (zI (giZ S t x).1), .int (zI 1)]) (rest := []) ⟨hx, hb, hml, hown, htg⟩ (m_ends l dg ck mo (giZ S t x).2.2 (encZ S) F2 F3 F4 (mAns (upS M 8 0 0) (giZ S t x).1 (giZ S t x).2.1) (giZ S t x).1 1 _ (by have h := giZ_r S t x; omega) (by omega) (by rw [mAns_81]; exact hkp)) (cwV 2 htg (gwV wq_1669 wq_1671 wp_38 wq_15 wq_1672) rfl rfl rfl (by decide +kernel) ⟨Nat.le_of_ble_eq_true rfl, Nat.le_of_ble_eq_true rfl⟩) (wr_preV hK hPm hDm 0 11 rfl rfl) rfl rfl hl.1 rfl (lv_room (Nat.le_of_ble_eq_true rfl)) dX9_giveCoins_12 ⟨Nat.zero_le _, Nat.zero_le _⟩) (fun r12 H locs hr12 hP hD hS => ?_)
  subst hr12
  have hEq : modelC ck mo (encZ (giZ S t x).2.2) (encZ S) F2 (endF F3 (encZ S) (mAns (upS M 8 0 0) (giZ S t x).1 (giZ S t x).2.1) (giZ S t x).1) F4 (endM (mAns (upS M 8 0 0) (giZ S t x).1 (giZ S t x).2.1) (giZ S t x).1 1) = modelC ck mo (encZ (giZ S t x).2.2) (encZ S) F2 (endF F3 (encZ S) (mAns (upS M 8 0 0) (giZ S t x).1 (giZ S t x).2.1) (giZ S t x).1) F4 (endM (mAns (upS M 8 0 0) (giZ S t x).1 (giZ S t x).2.1) (giZ S t x).1 1) := rfl
  exact W.iret (v := _) hx hb hr (fun t9 ht9 hW9 => ⟨⟨_, (), rfl, rfl, by rw [ht9, hEq]; exact hP, by rw [hEq, hAe]; exact hD⟩, hS.F ht9⟩) hS.2.2 dX9_giveCoins_15

set_option maxHeartbeats 4000000 in
set_option maxRecDepth 100000 in
/-- BenchBrokerModel.lease -/
theorem m_lease (l : Launch) (dg : va_G) (ck : Nat → ClassId) (mo : Nat → Nat) (S : St) (F1 F2 F3 F4 : Int → Int) (M : St) (t b k : Int) (sz : Nat) {Mx : Int} (hV : Inv Mx S) (rg_t : -2147483648 ≤ t ∧ t < 2147483648) (rg_b : -2147483648 ≤ b ∧ b < 2147483648) (rg_k : -2147483648 ≤ k ∧ k < 2147483648) (hkp : 0 ≤ M 8 1 ∧ M 8 1 ≤ 8) : Met l yX9_lease (.code yX9_lease cX9_lease 4 (some .int) :: GW) ({ frames := 6, cells := 0, slots := 0, locals := 138 }) (va_Pc [.ref (mo 0), .int (zI t), .int (zI b), .int (zI k)] (wrP dg ck sz (modelC ck mo (encZ S) F1 F2 F3 F4 M))) (va_Qi (fun r (_ : Unit) => r = zI (endR (mAns (upS M 8 0 0) (leZ S t b k).1 (leZ S t b k).2.1) (leZ S t b k).1)) (fun _ t9 => wrQ dg sz (modelC ck mo (encZ S) F1 F2 F3 F4 M) (modelC ck mo (encZ (leZ S t b k).2.2) (encZ S) F2 (endF F3 (encZ S) (mAns (upS M 8 0 0) (leZ S t b k).1 (leZ S t b k).2.1) (leZ S t b k).1) F4 (endM (mAns (upS M 8 0 0) (leZ S t b k).1 (leZ S t b k).2.1) (leZ S t b k).1 3)) t9) (va_A (modelC ck mo (encZ S) F1 F2 F3 F4 M) sz)) 0 0 (va_A (modelC ck mo (encZ S) F1 F2 F3 F4 M) sz) := by
  refine Met.ofW (cc := cX9_lease) (maxL := 4) (ret := (some .int)) (by decide) rfl ?_
  intro p e s m args below meth c s₁ B hml hv
  obtain ⟨rfl, hsz, hP, hK, hD0⟩ := hv
  have hx := B.exec
  have hb := B.bytes
  have hr := B.returns
  have hts := atoms_spec (ws := .code yX9_lease cX9_lease 4 (some .int) :: GW) B.pre
  have htg : ∀ w ∈ GW, w.before _ s = true := fun w h => hts w (List.mem_cons_of_mem _ h)
  have hown : s.vm.findClass RX9 = some m.cls := findClass_of_methodNamed B.named
  have hlocks := B.notSynchronized
  subst hsz
  have hD := hD0.self (sz := s.heap.size)
  generalize hAe : va_A (modelC ck mo (encZ S) F1 F2 F3 F4 M) s.heap.size = A at hD ⊢
  have hA : ∀ q : Nat, s.heap.size ≤ q → A q := fun q h => by rw [← hAe]; exact Or.inr h
  have hS : va_S A s.heap s.heap [] := va_S.rf
  have hP : va_P dg vwCl (modelC ck mo (encZ S) F1 F2 F3 F4 M) s.heap := hP
  have hl := lv_entry ([.ref (mo 0), .int (zI t), .int (zI b), .int (zI k)]) (n := 4) (Nat.le_of_ble_eq_true rfl)
  rw [lg_entry_eq]
  generalize (lg_sl ([.ref (mo 0), .int (zI t), .int (zI b), .int (zI k)]) ++ List.replicate (4 - (lg_sl ([.ref (mo 0), .int (zI t), .int (zI b), .int (zI k)])).length) Slot.unset).toArray = ls at hl ⊢
  have hl : lv_has ls 4 [(0, .ref (mo 0)), (1, .int (zI t)), (2, .int (zI b)), (3, .int (zI k))] := hl
  refine lv_aload_n hx hb dX9_lease_0 rfl (lv_at hl 0 rfl) ?_
  refine x_callv (ws' := modelC ck mo (encZ S) (encZ S) F2 F3 F4 (upS M 8 0 0)) [] (M := modelC ck mo (encZ S) F1 F2 F3 F4 M) (M' := modelC ck mo (encZ S) (encZ S) F2 F3 F4 (upS M 8 0 0)) ([]) (List.append_nil _).symm (List.append_nil _).symm hP hD hS hA (fun hPm hDm => va_runV (As := []) (rest := []) ⟨hx, hb, hml, hown, htg⟩ (m_remembers l dg ck mo S F1 F2 F3 F4 M _ ) (cwV 0 htg (gwV wq_1635 wq_1637 wp_31 wq_15 wq_1638) rfl rfl rfl (by decide +kernel) ⟨Nat.le_of_ble_eq_true rfl, Nat.le_of_ble_eq_true rfl⟩) (wr_preV hK hPm hDm 0 11 rfl rfl) rfl rfl hl.1 rfl (lv_room (Nat.le_of_ble_eq_true rfl)) dX9_lease_1 ⟨Nat.zero_le _, Nat.zero_le _⟩) (fun H locs hP hD hS => ?_)
  refine lv_aload_n hx hb dX9_lease_4 rfl (lv_at hl 0 rfl) ?_
  refine lv_aload_n hx hb dX9_lease_5 rfl (lv_at hl 0 rfl) ?_
  refine lv_iload_n hx hb dX9_lease_6 rfl (lv_at hl 1 rfl) ?_
  refine lv_iload_n hx hb dX9_lease_7 rfl (lv_at hl 2 rfl) ?_
  refine lv_iload_n hx hb dX9_lease_8 rfl (lv_at hl 3 rfl) ?_
  refine x_calli (ws' := modelC ck mo (encZ (leZ S t b k).2.2) (encZ S) F2 F3 F4 (mAns (upS M 8 0 0) (leZ S t b k).1 (leZ S t b k).2.1)) [] (M := modelC ck mo (encZ S) (encZ S) F2 F3 F4 (upS M 8 0 0)) (M' := modelC ck mo (encZ (leZ S t b k).2.2) (encZ S) F2 F3 F4 (mAns (upS M 8 0 0) (leZ S t b k).1 (leZ S t b k).2.1)) ([]) (List.append_nil _).symm (List.append_nil _).symm hP hD hS hA (fun hPm hDm => va_runV (As := [.int (zI t), .int (zI b), .int (zI k)]) (rest := [.ref (mo 0)]) ⟨hx, hb, hml, hown, htg⟩ (m_leases l dg ck mo S (encZ S) F2 F3 F4 (upS M 8 0 0) t b k _ hV (by omega) (by omega) (by omega)) (cwV 3 htg (gwV wq_1873 wq_1875 wp_61 wq_15 wq_1876) rfl rfl rfl (by decide +kernel) ⟨Nat.le_of_ble_eq_true rfl, Nat.le_of_ble_eq_true rfl⟩) (wr_preV hK hPm hDm 0 11 rfl rfl) rfl rfl hl.1 rfl (lv_room (Nat.le_of_ble_eq_true rfl)) dX9_lease_9 ⟨Nat.zero_le _, Nat.zero_le _⟩) (fun r9 H locs hr9 hP hD hS => ?_)
  subst hr9
  refine x_iconst hx hb dX9_lease_12 ?_
  refine x_calli (ws' := modelC ck mo (encZ (leZ S t b k).2.2) (encZ S) F2 (endF F3 (encZ S) (mAns (upS M 8 0 0) (leZ S t b k).1 (leZ S t b k).2.1) (leZ S t b k).1) F4 (endM (mAns (upS M 8 0 0) (leZ S t b k).1 (leZ S t b k).2.1) (leZ S t b k).1 3)) [] (M := modelC ck mo (encZ (leZ S t b k).2.2) (encZ S) F2 F3 F4 (mAns (upS M 8 0 0) (leZ S t b k).1 (leZ S t b k).2.1)) (M' := modelC ck mo (encZ (leZ S t b k).2.2) (encZ S) F2 (endF F3 (encZ S) (mAns (upS M 8 0 0) (leZ S t b k).1 (leZ S t b k).2.1) (leZ S t b k).1) F4 (endM (mAns (upS M 8 0 0) (leZ S t b k).1 (leZ S t b k).2.1) (leZ S t b k).1 3)) ([]) (List.append_nil _).symm (List.append_nil _).symm hP hD hS hA (fun hPm hDm => va_runV (As := [.int (zI (leZ S t b k).1), .int (zI 3)]) (rest := []) ⟨hx, hb, hml, hown, htg⟩ (m_ends l dg ck mo (leZ S t b k).2.2 (encZ S) F2 F3 F4 (mAns (upS M 8 0 0) (leZ S t b k).1 (leZ S t b k).2.1) (leZ S t b k).1 3 _ (by have h := leZ_r S t b k; omega) (by omega) (by rw [mAns_81]; exact hkp)) (cwV 2 htg (gwV wq_1669 wq_1671 wp_38 wq_15 wq_1672) rfl rfl rfl (by decide +kernel) ⟨Nat.le_of_ble_eq_true rfl, Nat.le_of_ble_eq_true rfl⟩) (wr_preV hK hPm hDm 0 11 rfl rfl) rfl rfl hl.1 rfl (lv_room (Nat.le_of_ble_eq_true rfl)) dX9_lease_13 ⟨Nat.zero_le _, Nat.zero_le _⟩) (fun r13 H locs hr13 hP hD hS => ?_)
  subst hr13
  have hEq : modelC ck mo (encZ (leZ S t b k).2.2) (encZ S) F2 (endF F3 (encZ S) (mAns (upS M 8 0 0) (leZ S t b k).1 (leZ S t b k).2.1) (leZ S t b k).1) F4 (endM (mAns (upS M 8 0 0) (leZ S t b k).1 (leZ S t b k).2.1) (leZ S t b k).1 3) = modelC ck mo (encZ (leZ S t b k).2.2) (encZ S) F2 (endF F3 (encZ S) (mAns (upS M 8 0 0) (leZ S t b k).1 (leZ S t b k).2.1) (leZ S t b k).1) F4 (endM (mAns (upS M 8 0 0) (leZ S t b k).1 (leZ S t b k).2.1) (leZ S t b k).1 3) := rfl
  exact W.iret (v := _) hx hb hr (fun t9 ht9 hW9 => ⟨⟨_, (), rfl, rfl, by rw [ht9, hEq]; exact hP, by rw [hEq, hAe]; exact hD⟩, hS.F ht9⟩) hS.2.2 dX9_lease_16

set_option maxHeartbeats 4000000 in
set_option maxRecDepth 100000 in
/-- BenchBrokerModel.endLease -/
theorem m_endLease (l : Launch) (dg : va_G) (ck : Nat → ClassId) (mo : Nat → Nat) (S : St) (F1 F2 F3 F4 : Int → Int) (M : St) (b : Int) (sz : Nat) {Mx : Int} (hV : Inv Mx S) (rg_b : -2147483648 ≤ b ∧ b < 2147483648) (hkp : 0 ≤ M 8 1 ∧ M 8 1 ≤ 8) : Met l yX9_endLease (.code yX9_endLease cX9_endLease 2 (some .int) :: GW) ({ frames := 4, cells := 0, slots := 0, locals := 87 }) (va_Pc [.ref (mo 0), .int (zI b)] (wrP dg ck sz (modelC ck mo (encZ S) F1 F2 F3 F4 M))) (va_Qi (fun r (_ : Unit) => r = zI (endR (mAns (upS M 8 0 0) (enZ S b).1 (enZ S b).2.1) (enZ S b).1)) (fun _ t9 => wrQ dg sz (modelC ck mo (encZ S) F1 F2 F3 F4 M) (modelC ck mo (encZ (enZ S b).2.2) (encZ S) F2 (endF F3 (encZ S) (mAns (upS M 8 0 0) (enZ S b).1 (enZ S b).2.1) (enZ S b).1) F4 (endM (mAns (upS M 8 0 0) (enZ S b).1 (enZ S b).2.1) (enZ S b).1 2)) t9) (va_A (modelC ck mo (encZ S) F1 F2 F3 F4 M) sz)) 0 0 (va_A (modelC ck mo (encZ S) F1 F2 F3 F4 M) sz) := by
  refine Met.ofW (cc := cX9_endLease) (maxL := 2) (ret := (some .int)) (by decide) rfl ?_
  intro p e s m args below meth c s₁ B hml hv
  obtain ⟨rfl, hsz, hP, hK, hD0⟩ := hv
  have hx := B.exec
  have hb := B.bytes
  have hr := B.returns
  have hts := atoms_spec (ws := .code yX9_endLease cX9_endLease 2 (some .int) :: GW) B.pre
  have htg : ∀ w ∈ GW, w.before _ s = true := fun w h => hts w (List.mem_cons_of_mem _ h)
  have hown : s.vm.findClass RX9 = some m.cls := findClass_of_methodNamed B.named
  have hlocks := B.notSynchronized
  subst hsz
  have hD := hD0.self (sz := s.heap.size)
  generalize hAe : va_A (modelC ck mo (encZ S) F1 F2 F3 F4 M) s.heap.size = A at hD ⊢
  have hA : ∀ q : Nat, s.heap.size ≤ q → A q := fun q h => by rw [← hAe]; exact Or.inr h
  have hS : va_S A s.heap s.heap [] := va_S.rf
  have hP : va_P dg vwCl (modelC ck mo (encZ S) F1 F2 F3 F4 M) s.heap := hP
  have hl := lv_entry ([.ref (mo 0), .int (zI b)]) (n := 2) (Nat.le_of_ble_eq_true rfl)
  rw [lg_entry_eq]
  generalize (lg_sl ([.ref (mo 0), .int (zI b)]) ++ List.replicate (2 - (lg_sl ([.ref (mo 0), .int (zI b)])).length) Slot.unset).toArray = ls at hl ⊢
  have hl : lv_has ls 2 [(0, .ref (mo 0)), (1, .int (zI b))] := hl
  refine lv_aload_n hx hb dX9_endLease_0 rfl (lv_at hl 0 rfl) ?_
  refine x_callv (ws' := modelC ck mo (encZ S) (encZ S) F2 F3 F4 (upS M 8 0 0)) [] (M := modelC ck mo (encZ S) F1 F2 F3 F4 M) (M' := modelC ck mo (encZ S) (encZ S) F2 F3 F4 (upS M 8 0 0)) ([]) (List.append_nil _).symm (List.append_nil _).symm hP hD hS hA (fun hPm hDm => va_runV (As := []) (rest := []) ⟨hx, hb, hml, hown, htg⟩ (m_remembers l dg ck mo S F1 F2 F3 F4 M _ ) (cwV 0 htg (gwV wq_1635 wq_1637 wp_31 wq_15 wq_1638) rfl rfl rfl (by decide +kernel) ⟨Nat.le_of_ble_eq_true rfl, Nat.le_of_ble_eq_true rfl⟩) (wr_preV hK hPm hDm 0 11 rfl rfl) rfl rfl hl.1 rfl (lv_room (Nat.le_of_ble_eq_true rfl)) dX9_endLease_1 ⟨Nat.zero_le _, Nat.zero_le _⟩) (fun H locs hP hD hS => ?_)
  refine lv_aload_n hx hb dX9_endLease_4 rfl (lv_at hl 0 rfl) ?_
  refine lv_aload_n hx hb dX9_endLease_5 rfl (lv_at hl 0 rfl) ?_
  refine lv_iload_n hx hb dX9_endLease_6 rfl (lv_at hl 1 rfl) ?_
  refine x_calli (ws' := modelC ck mo (encZ (enZ S b).2.2) (encZ S) F2 F3 F4 (mAns (upS M 8 0 0) (enZ S b).1 (enZ S b).2.1)) [] (M := modelC ck mo (encZ S) (encZ S) F2 F3 F4 (upS M 8 0 0)) (M' := modelC ck mo (encZ (enZ S b).2.2) (encZ S) F2 F3 F4 (mAns (upS M 8 0 0) (enZ S b).1 (enZ S b).2.1)) ([]) (List.append_nil _).symm (List.append_nil _).symm hP hD hS hA (fun hPm hDm => va_runV (As := [.int (zI b)]) (rest := [.ref (mo 0)]) ⟨hx, hb, hml, hown, htg⟩ (m_endsLease l dg ck mo S (encZ S) F2 F3 F4 (upS M 8 0 0) b _ hV (by omega)) (cwV 1 htg (gwV wq_1881 wq_1883 wp_62 wq_15 wq_1884) rfl rfl rfl (by decide +kernel) ⟨Nat.le_of_ble_eq_true rfl, Nat.le_of_ble_eq_true rfl⟩) (wr_preV hK hPm hDm 0 11 rfl rfl) rfl rfl hl.1 rfl (lv_room (Nat.le_of_ble_eq_true rfl)) dX9_endLease_7 ⟨Nat.zero_le _, Nat.zero_le _⟩) (fun r7 H locs hr7 hP hD hS => ?_)
  subst hr7
  refine x_iconst hx hb dX9_endLease_10 ?_
  refine x_calli (ws' := modelC ck mo (encZ (enZ S b).2.2) (encZ S) F2 (endF F3 (encZ S) (mAns (upS M 8 0 0) (enZ S b).1 (enZ S b).2.1) (enZ S b).1) F4 (endM (mAns (upS M 8 0 0) (enZ S b).1 (enZ S b).2.1) (enZ S b).1 2)) [] (M := modelC ck mo (encZ (enZ S b).2.2) (encZ S) F2 F3 F4 (mAns (upS M 8 0 0) (enZ S b).1 (enZ S b).2.1)) (M' := modelC ck mo (encZ (enZ S b).2.2) (encZ S) F2 (endF F3 (encZ S) (mAns (upS M 8 0 0) (enZ S b).1 (enZ S b).2.1) (enZ S b).1) F4 (endM (mAns (upS M 8 0 0) (enZ S b).1 (enZ S b).2.1) (enZ S b).1 2)) ([]) (List.append_nil _).symm (List.append_nil _).symm hP hD hS hA (fun hPm hDm => va_runV (As := [.int (zI (enZ S b).1), .int (zI 2)]) (rest := []) ⟨hx, hb, hml, hown, htg⟩ (m_ends l dg ck mo (enZ S b).2.2 (encZ S) F2 F3 F4 (mAns (upS M 8 0 0) (enZ S b).1 (enZ S b).2.1) (enZ S b).1 2 _ (by have h := enZ_r S b; omega) (by omega) (by rw [mAns_81]; exact hkp)) (cwV 2 htg (gwV wq_1669 wq_1671 wp_38 wq_15 wq_1672) rfl rfl rfl (by decide +kernel) ⟨Nat.le_of_ble_eq_true rfl, Nat.le_of_ble_eq_true rfl⟩) (wr_preV hK hPm hDm 0 11 rfl rfl) rfl rfl hl.1 rfl (lv_room (Nat.le_of_ble_eq_true rfl)) dX9_endLease_11 ⟨Nat.zero_le _, Nat.zero_le _⟩) (fun r11 H locs hr11 hP hD hS => ?_)
  subst hr11
  have hEq : modelC ck mo (encZ (enZ S b).2.2) (encZ S) F2 (endF F3 (encZ S) (mAns (upS M 8 0 0) (enZ S b).1 (enZ S b).2.1) (enZ S b).1) F4 (endM (mAns (upS M 8 0 0) (enZ S b).1 (enZ S b).2.1) (enZ S b).1 2) = modelC ck mo (encZ (enZ S b).2.2) (encZ S) F2 (endF F3 (encZ S) (mAns (upS M 8 0 0) (enZ S b).1 (enZ S b).2.1) (enZ S b).1) F4 (endM (mAns (upS M 8 0 0) (enZ S b).1 (enZ S b).2.1) (enZ S b).1 2) := rfl
  exact W.iret (v := _) hx hb hr (fun t9 ht9 hW9 => ⟨⟨_, (), rfl, rfl, by rw [ht9, hEq]; exact hP, by rw [hEq, hAe]; exact hD⟩, hS.F ht9⟩) hS.2.2 dX9_endLease_14

set_option maxHeartbeats 4000000 in
set_option maxRecDepth 100000 in
/-- BenchBrokerModel.renew -/
theorem m_renew (l : Launch) (dg : va_G) (ck : Nat → ClassId) (mo : Nat → Nat) (S : St) (F1 F2 F3 F4 : Int → Int) (M : St) (b k : Int) (sz : Nat) {Mx : Int} (hV : Inv Mx S) (rg_b : -2147483648 ≤ b ∧ b < 2147483648) (rg_k : -2147483648 ≤ k ∧ k < 2147483648) (hkp : 0 ≤ M 8 1 ∧ M 8 1 ≤ 8) : Met l yX9_renew (.code yX9_renew cX9_renew 3 (some .int) :: GW) ({ frames := 3, cells := 0, slots := 0, locals := 65 }) (va_Pc [.ref (mo 0), .int (zI b), .int (zI k)] (wrP dg ck sz (modelC ck mo (encZ S) F1 F2 F3 F4 M))) (va_Qi (fun r (_ : Unit) => r = zI (endR (mAns (upS M 8 0 0) (reZ S b k).1 (reZ S b k).2.1) (reZ S b k).1)) (fun _ t9 => wrQ dg sz (modelC ck mo (encZ S) F1 F2 F3 F4 M) (modelC ck mo (encZ (reZ S b k).2.2) (encZ S) F2 (endF F3 (encZ S) (mAns (upS M 8 0 0) (reZ S b k).1 (reZ S b k).2.1) (reZ S b k).1) F4 (endM (mAns (upS M 8 0 0) (reZ S b k).1 (reZ S b k).2.1) (reZ S b k).1 3)) t9) (va_A (modelC ck mo (encZ S) F1 F2 F3 F4 M) sz)) 0 0 (va_A (modelC ck mo (encZ S) F1 F2 F3 F4 M) sz) := by
  refine Met.ofW (cc := cX9_renew) (maxL := 3) (ret := (some .int)) (by decide) rfl ?_
  intro p e s m args below meth c s₁ B hml hv
  obtain ⟨rfl, hsz, hP, hK, hD0⟩ := hv
  have hx := B.exec
  have hb := B.bytes
  have hr := B.returns
  have hts := atoms_spec (ws := .code yX9_renew cX9_renew 3 (some .int) :: GW) B.pre
  have htg : ∀ w ∈ GW, w.before _ s = true := fun w h => hts w (List.mem_cons_of_mem _ h)
  have hown : s.vm.findClass RX9 = some m.cls := findClass_of_methodNamed B.named
  have hlocks := B.notSynchronized
  subst hsz
  have hD := hD0.self (sz := s.heap.size)
  generalize hAe : va_A (modelC ck mo (encZ S) F1 F2 F3 F4 M) s.heap.size = A at hD ⊢
  have hA : ∀ q : Nat, s.heap.size ≤ q → A q := fun q h => by rw [← hAe]; exact Or.inr h
  have hS : va_S A s.heap s.heap [] := va_S.rf
  have hP : va_P dg vwCl (modelC ck mo (encZ S) F1 F2 F3 F4 M) s.heap := hP
  have hl := lv_entry ([.ref (mo 0), .int (zI b), .int (zI k)]) (n := 3) (Nat.le_of_ble_eq_true rfl)
  rw [lg_entry_eq]
  generalize (lg_sl ([.ref (mo 0), .int (zI b), .int (zI k)]) ++ List.replicate (3 - (lg_sl ([.ref (mo 0), .int (zI b), .int (zI k)])).length) Slot.unset).toArray = ls at hl ⊢
  have hl : lv_has ls 3 [(0, .ref (mo 0)), (1, .int (zI b)), (2, .int (zI k))] := hl
  refine lv_aload_n hx hb dX9_renew_0 rfl (lv_at hl 0 rfl) ?_
  refine x_callv (ws' := modelC ck mo (encZ S) (encZ S) F2 F3 F4 (upS M 8 0 0)) [] (M := modelC ck mo (encZ S) F1 F2 F3 F4 M) (M' := modelC ck mo (encZ S) (encZ S) F2 F3 F4 (upS M 8 0 0)) ([]) (List.append_nil _).symm (List.append_nil _).symm hP hD hS hA (fun hPm hDm => va_runV (As := []) (rest := []) ⟨hx, hb, hml, hown, htg⟩ (m_remembers l dg ck mo S F1 F2 F3 F4 M _ ) (cwV 0 htg (gwV wq_1635 wq_1637 wp_31 wq_15 wq_1638) rfl rfl rfl (by decide +kernel) ⟨Nat.le_of_ble_eq_true rfl, Nat.le_of_ble_eq_true rfl⟩) (wr_preV hK hPm hDm 0 11 rfl rfl) rfl rfl hl.1 rfl (lv_room (Nat.le_of_ble_eq_true rfl)) dX9_renew_1 ⟨Nat.zero_le _, Nat.zero_le _⟩) (fun H locs hP hD hS => ?_)
  refine lv_aload_n hx hb dX9_renew_4 rfl (lv_at hl 0 rfl) ?_
  refine lv_aload_n hx hb dX9_renew_5 rfl (lv_at hl 0 rfl) ?_
  refine lv_iload_n hx hb dX9_renew_6 rfl (lv_at hl 1 rfl) ?_
  refine lv_iload_n hx hb dX9_renew_7 rfl (lv_at hl 2 rfl) ?_
  refine x_calli (ws' := modelC ck mo (encZ (reZ S b k).2.2) (encZ S) F2 F3 F4 (mAns (upS M 8 0 0) (reZ S b k).1 (reZ S b k).2.1)) [] (M := modelC ck mo (encZ S) (encZ S) F2 F3 F4 (upS M 8 0 0)) (M' := modelC ck mo (encZ (reZ S b k).2.2) (encZ S) F2 F3 F4 (mAns (upS M 8 0 0) (reZ S b k).1 (reZ S b k).2.1)) ([]) (List.append_nil _).symm (List.append_nil _).symm hP hD hS hA (fun hPm hDm => va_runV (As := [.int (zI b), .int (zI k)]) (rest := [.ref (mo 0)]) ⟨hx, hb, hml, hown, htg⟩ (m_renews l dg ck mo S (encZ S) F2 F3 F4 (upS M 8 0 0) b k _ hV (by omega) (by omega)) (cwV 2 htg (gwV wq_1893 wq_1895 wp_64 wq_15 wq_1896) rfl rfl rfl (by decide +kernel) ⟨Nat.le_of_ble_eq_true rfl, Nat.le_of_ble_eq_true rfl⟩) (wr_preV hK hPm hDm 0 11 rfl rfl) rfl rfl hl.1 rfl (lv_room (Nat.le_of_ble_eq_true rfl)) dX9_renew_8 ⟨Nat.zero_le _, Nat.zero_le _⟩) (fun r8 H locs hr8 hP hD hS => ?_)
  subst hr8
  refine x_iconst hx hb dX9_renew_11 ?_
  refine x_calli (ws' := modelC ck mo (encZ (reZ S b k).2.2) (encZ S) F2 (endF F3 (encZ S) (mAns (upS M 8 0 0) (reZ S b k).1 (reZ S b k).2.1) (reZ S b k).1) F4 (endM (mAns (upS M 8 0 0) (reZ S b k).1 (reZ S b k).2.1) (reZ S b k).1 3)) [] (M := modelC ck mo (encZ (reZ S b k).2.2) (encZ S) F2 F3 F4 (mAns (upS M 8 0 0) (reZ S b k).1 (reZ S b k).2.1)) (M' := modelC ck mo (encZ (reZ S b k).2.2) (encZ S) F2 (endF F3 (encZ S) (mAns (upS M 8 0 0) (reZ S b k).1 (reZ S b k).2.1) (reZ S b k).1) F4 (endM (mAns (upS M 8 0 0) (reZ S b k).1 (reZ S b k).2.1) (reZ S b k).1 3)) ([]) (List.append_nil _).symm (List.append_nil _).symm hP hD hS hA (fun hPm hDm => va_runV (As := [.int (zI (reZ S b k).1), .int (zI 3)]) (rest := []) ⟨hx, hb, hml, hown, htg⟩ (m_ends l dg ck mo (reZ S b k).2.2 (encZ S) F2 F3 F4 (mAns (upS M 8 0 0) (reZ S b k).1 (reZ S b k).2.1) (reZ S b k).1 3 _ (by have h := reZ_r S b k; omega) (by omega) (by rw [mAns_81]; exact hkp)) (cwV 2 htg (gwV wq_1669 wq_1671 wp_38 wq_15 wq_1672) rfl rfl rfl (by decide +kernel) ⟨Nat.le_of_ble_eq_true rfl, Nat.le_of_ble_eq_true rfl⟩) (wr_preV hK hPm hDm 0 11 rfl rfl) rfl rfl hl.1 rfl (lv_room (Nat.le_of_ble_eq_true rfl)) dX9_renew_12 ⟨Nat.zero_le _, Nat.zero_le _⟩) (fun r12 H locs hr12 hP hD hS => ?_)
  subst hr12
  have hEq : modelC ck mo (encZ (reZ S b k).2.2) (encZ S) F2 (endF F3 (encZ S) (mAns (upS M 8 0 0) (reZ S b k).1 (reZ S b k).2.1) (reZ S b k).1) F4 (endM (mAns (upS M 8 0 0) (reZ S b k).1 (reZ S b k).2.1) (reZ S b k).1 3) = modelC ck mo (encZ (reZ S b k).2.2) (encZ S) F2 (endF F3 (encZ S) (mAns (upS M 8 0 0) (reZ S b k).1 (reZ S b k).2.1) (reZ S b k).1) F4 (endM (mAns (upS M 8 0 0) (reZ S b k).1 (reZ S b k).2.1) (reZ S b k).1 3) := rfl
  exact W.iret (v := _) hx hb hr (fun t9 ht9 hW9 => ⟨⟨_, (), rfl, rfl, by rw [ht9, hEq]; exact hP, by rw [hEq, hAe]; exact hD⟩, hS.F ht9⟩) hS.2.2 dX9_renew_15

set_option maxHeartbeats 4000000 in
set_option maxRecDepth 100000 in
/-- BenchBrokerModel.passMonths -/
theorem m_passMonths (l : Launch) (dg : va_G) (ck : Nat → ClassId) (mo : Nat → Nat) (S : St) (F1 F2 F3 F4 : Int → Int) (M : St) (x : Int) (sz : Nat) {Mx : Int} (hV : Inv Mx S) (rg_x : -2147483648 ≤ x ∧ x < 2147483648) (hkp : 0 ≤ M 8 1 ∧ M 8 1 ≤ 8) : Met l yX9_passMonths (.code yX9_passMonths cX9_passMonths 2 (some .int) :: GW) ({ frames := 6, cells := 0, slots := 0, locals := 137 }) (va_Pc [.ref (mo 0), .int (zI x)] (wrP dg ck sz (modelC ck mo (encZ S) F1 F2 F3 F4 M))) (va_Qi (fun r (_ : Unit) => r = zI (endR (mAns (upS M 8 0 0) (elZ S x).1 (elZ S x).2.1) (mcd (elZ S x).1))) (fun _ t9 => wrQ dg sz (modelC ck mo (encZ S) F1 F2 F3 F4 M) (modelC ck mo (encZ (elZ S x).2.2) (encZ S) F2 (endF F3 (encZ S) (mAns (upS M 8 0 0) (elZ S x).1 (elZ S x).2.1) (mcd (elZ S x).1)) F4 (endM (mAns (upS M 8 0 0) (elZ S x).1 (elZ S x).2.1) (mcd (elZ S x).1) 1)) t9) (va_A (modelC ck mo (encZ S) F1 F2 F3 F4 M) sz)) 0 0 (va_A (modelC ck mo (encZ S) F1 F2 F3 F4 M) sz) := by
  refine Met.ofW (cc := cX9_passMonths) (maxL := 2) (ret := (some .int)) (by decide) rfl ?_
  intro p e s m args below meth c s₁ B hml hv
  obtain ⟨rfl, hsz, hP, hK, hD0⟩ := hv
  have hx := B.exec
  have hb := B.bytes
  have hr := B.returns
  have hts := atoms_spec (ws := .code yX9_passMonths cX9_passMonths 2 (some .int) :: GW) B.pre
  have htg : ∀ w ∈ GW, w.before _ s = true := fun w h => hts w (List.mem_cons_of_mem _ h)
  have hown : s.vm.findClass RX9 = some m.cls := findClass_of_methodNamed B.named
  have hlocks := B.notSynchronized
  subst hsz
  have hD := hD0.self (sz := s.heap.size)
  generalize hAe : va_A (modelC ck mo (encZ S) F1 F2 F3 F4 M) s.heap.size = A at hD ⊢
  have hA : ∀ q : Nat, s.heap.size ≤ q → A q := fun q h => by rw [← hAe]; exact Or.inr h
  have hS : va_S A s.heap s.heap [] := va_S.rf
  have hP : va_P dg vwCl (modelC ck mo (encZ S) F1 F2 F3 F4 M) s.heap := hP
  have hl := lv_entry ([.ref (mo 0), .int (zI x)]) (n := 2) (Nat.le_of_ble_eq_true rfl)
  rw [lg_entry_eq]
  generalize (lg_sl ([.ref (mo 0), .int (zI x)]) ++ List.replicate (2 - (lg_sl ([.ref (mo 0), .int (zI x)])).length) Slot.unset).toArray = ls at hl ⊢
  have hl : lv_has ls 2 [(0, .ref (mo 0)), (1, .int (zI x))] := hl
  refine lv_aload_n hx hb dX9_passMonths_0 rfl (lv_at hl 0 rfl) ?_
  refine x_callv (ws' := modelC ck mo (encZ S) (encZ S) F2 F3 F4 (upS M 8 0 0)) [] (M := modelC ck mo (encZ S) F1 F2 F3 F4 M) (M' := modelC ck mo (encZ S) (encZ S) F2 F3 F4 (upS M 8 0 0)) ([]) (List.append_nil _).symm (List.append_nil _).symm hP hD hS hA (fun hPm hDm => va_runV (As := []) (rest := []) ⟨hx, hb, hml, hown, htg⟩ (m_remembers l dg ck mo S F1 F2 F3 F4 M _ ) (cwV 0 htg (gwV wq_1635 wq_1637 wp_31 wq_15 wq_1638) rfl rfl rfl (by decide +kernel) ⟨Nat.le_of_ble_eq_true rfl, Nat.le_of_ble_eq_true rfl⟩) (wr_preV hK hPm hDm 0 11 rfl rfl) rfl rfl hl.1 rfl (lv_room (Nat.le_of_ble_eq_true rfl)) dX9_passMonths_1 ⟨Nat.zero_le _, Nat.zero_le _⟩) (fun H locs hP hD hS => ?_)
  refine lv_aload_n hx hb dX9_passMonths_4 rfl (lv_at hl 0 rfl) ?_
  refine lv_aload_n hx hb dX9_passMonths_5 rfl (lv_at hl 0 rfl) ?_
  refine lv_iload_n hx hb dX9_passMonths_6 rfl (lv_at hl 1 rfl) ?_
  refine x_calli (ws' := modelC ck mo (encZ (elZ S x).2.2) (encZ S) F2 F3 F4 (mAns (upS M 8 0 0) (elZ S x).1 (elZ S x).2.1)) [] (M := modelC ck mo (encZ S) (encZ S) F2 F3 F4 (upS M 8 0 0)) (M' := modelC ck mo (encZ (elZ S x).2.2) (encZ S) F2 F3 F4 (mAns (upS M 8 0 0) (elZ S x).1 (elZ S x).2.1)) ([]) (List.append_nil _).symm (List.append_nil _).symm hP hD hS hA (fun hPm hDm => va_runV (As := [.int (zI x)]) (rest := [.ref (mo 0)]) ⟨hx, hb, hml, hown, htg⟩ (m_passes l dg ck mo S (encZ S) F2 F3 F4 (upS M 8 0 0) x _ hV (by omega)) (cwV 1 htg (gwV wq_1925 wq_1927 wp_66 wq_15 wq_1928) rfl rfl rfl (by decide +kernel) ⟨Nat.le_of_ble_eq_true rfl, Nat.le_of_ble_eq_true rfl⟩) (wr_preV hK hPm hDm 0 11 rfl rfl) rfl rfl hl.1 rfl (lv_room (Nat.le_of_ble_eq_true rfl)) dX9_passMonths_7 ⟨Nat.zero_le _, Nat.zero_le _⟩) (fun r7 H locs hr7 hP hD hS => ?_)
  subst hr7
  refine x_iconst hx hb dX9_passMonths_10 ?_
  refine x_calli (ws' := modelC ck mo (encZ (elZ S x).2.2) (encZ S) F2 (endF F3 (encZ S) (mAns (upS M 8 0 0) (elZ S x).1 (elZ S x).2.1) (mcd (elZ S x).1)) F4 (endM (mAns (upS M 8 0 0) (elZ S x).1 (elZ S x).2.1) (mcd (elZ S x).1) 1)) [] (M := modelC ck mo (encZ (elZ S x).2.2) (encZ S) F2 F3 F4 (mAns (upS M 8 0 0) (elZ S x).1 (elZ S x).2.1)) (M' := modelC ck mo (encZ (elZ S x).2.2) (encZ S) F2 (endF F3 (encZ S) (mAns (upS M 8 0 0) (elZ S x).1 (elZ S x).2.1) (mcd (elZ S x).1)) F4 (endM (mAns (upS M 8 0 0) (elZ S x).1 (elZ S x).2.1) (mcd (elZ S x).1) 1)) ([]) (List.append_nil _).symm (List.append_nil _).symm hP hD hS hA (fun hPm hDm => va_runV (As := [.int (zI (mcd (elZ S x).1)), .int (zI 1)]) (rest := []) ⟨hx, hb, hml, hown, htg⟩ (m_ends l dg ck mo (elZ S x).2.2 (encZ S) F2 F3 F4 (mAns (upS M 8 0 0) (elZ S x).1 (elZ S x).2.1) (mcd (elZ S x).1) 1 _ (mcd_r (elZ_r S x)) (by omega) (by rw [mAns_81]; exact hkp)) (cwV 2 htg (gwV wq_1669 wq_1671 wp_38 wq_15 wq_1672) rfl rfl rfl (by decide +kernel) ⟨Nat.le_of_ble_eq_true rfl, Nat.le_of_ble_eq_true rfl⟩) (wr_preV hK hPm hDm 0 11 rfl rfl) rfl rfl hl.1 rfl (lv_room (Nat.le_of_ble_eq_true rfl)) dX9_passMonths_11 ⟨Nat.zero_le _, Nat.zero_le _⟩) (fun r11 H locs hr11 hP hD hS => ?_)
  subst hr11
  have hEq : modelC ck mo (encZ (elZ S x).2.2) (encZ S) F2 (endF F3 (encZ S) (mAns (upS M 8 0 0) (elZ S x).1 (elZ S x).2.1) (mcd (elZ S x).1)) F4 (endM (mAns (upS M 8 0 0) (elZ S x).1 (elZ S x).2.1) (mcd (elZ S x).1) 1) = modelC ck mo (encZ (elZ S x).2.2) (encZ S) F2 (endF F3 (encZ S) (mAns (upS M 8 0 0) (elZ S x).1 (elZ S x).2.1) (mcd (elZ S x).1)) F4 (endM (mAns (upS M 8 0 0) (elZ S x).1 (elZ S x).2.1) (mcd (elZ S x).1) 1) := rfl
  exact W.iret (v := _) hx hb hr (fun t9 ht9 hW9 => ⟨⟨_, (), rfl, rfl, by rw [ht9, hEq]; exact hP, by rw [hEq, hAe]; exact hD⟩, hS.F ht9⟩) hS.2.2 dX9_passMonths_14
