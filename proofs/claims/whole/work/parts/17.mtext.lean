/-! the reference: what it writes -/
def wrL (M : St) : List Int → St
  | [] => M
  | c :: L => wrL (upS (upS M 7 (M 8 4) c) 8 4 (M 8 4 + 1)) L
theorem wrL_app (L2 : List Int) : ∀ (L1 : List Int) (M : St), wrL M (L1 ++ L2) = wrL (wrL M L1) L2
  | [], _ => rfl
  | _ :: L1, _ => wrL_app L2 L1 _
theorem wrL_84 : ∀ (L : List Int) (M : St), wrL M L 8 4 = M 8 4 + (L.length : Int)
  | [], M => (Int.add_zero _).symm
  | c :: L, M => by
    show wrL (upS (upS M 7 (M 8 4) c) 8 4 (M 8 4 + 1)) L 8 4 = _
    rw [wrL_84 L]
    have e : upS (upS M 7 (M 8 4) c) 8 4 (M 8 4 + 1) 8 4 = M 8 4 + 1 := upS_s
    rw [e, List.length_cons]
    omega
/-- what is written lies in the row behind what was there -/
theorem wrL_k {k : Nat} {j : Int} : ∀ (L : List Int) (M : St), ¬ (k = 8 ∧ j = 4) → (k = 7 → j < M 8 4 ∨ M 8 4 + (L.length : Int) ≤ j) → wrL M L k j = M k j
  | [], M, _, _ => rfl
  | c :: L, M, h1, h2 => by
    show wrL (upS (upS M 7 (M 8 4) c) 8 4 (M 8 4 + 1)) L k j = _
    have e : upS (upS M 7 (M 8 4) c) 8 4 (M 8 4 + 1) 8 4 = M 8 4 + 1 := upS_s
    rw [List.length_cons] at h2
    rw [wrL_k L _ h1 (fun q => by rw [e]; have := h2 q; omega), upS_n (by omega)]
    by_cases q : k = 7
    · have := h2 q
      exact upS_n (by omega)
    · exact upS_n (by omega)
theorem wrL_g : ∀ (L : List Int) (M : St) (i : Nat) (h : i < L.length), wrL M L 7 (M 8 4 + (i : Int)) = L[i]
  | [], M, i, h => absurd h (Nat.not_lt_zero _)
  | c :: L, M, i, h => by
    show wrL (upS (upS M 7 (M 8 4) c) 8 4 (M 8 4 + 1)) L 7 _ = _
    have e : upS (upS M 7 (M 8 4) c) 8 4 (M 8 4 + 1) 8 4 = M 8 4 + 1 := upS_s
    match i, h with
    | 0, _ =>
      rw [wrL_k L _ (by omega) (fun _ => by rw [e]; omega), upS_n (by omega)]
      exact (upS_k _ _ _ _ _).trans (if_pos (by omega))
    | i + 1, h =>
      have h2 := wrL_g L (upS (upS M 7 (M 8 4) c) 8 4 (M 8 4 + 1)) i (by rw [List.length_cons] at h; omega)
      rw [e] at h2
      rw [show M 8 4 + ((i + 1 : Nat) : Int) = M 8 4 + 1 + (i : Int) by omega]
      exact h2
def digZ (n : Int) : List Int := if 9 < n then [48 + n / 10, 48 + n % 10] else [48 + n % 10]
theorem digZ_l (n : Int) : 1 ≤ ((digZ n).length : Int) ∧ ((digZ n).length : Int) ≤ 2 := by
  unfold digZ
  split <;> (simp only [List.length_cons, List.length_nil]; omega)
def btx (S : St) (b : Int) : List Int := digZ b ++ ([64] ++ (digZ (S 1 b) ++ ([44] ++ (digZ (S 2 b) ++ ([36] ++ (digZ (rent S b) ++ ([126] ++ (digZ (noiseB S b) ++ (if S 4 b ≠ 0 then [61] ++ (digZ (S 4 b - 1) ++ ([47] ++ digZ (S 6 b))) else [])))))))))
def sgnZ (S : St) (r x : Int) : Int := if holder S r x = -1 then 46 else if holder S r x < 10 then 48 + holder S r x else if S 10 (holder S r x - 10) = 1 then 70 else 102
def rtx (S : St) (r : Int) : Nat → List Int
  | 0 => []
  | n + 1 => rtx S r n ++ [sgnZ S r n]
theorem rtx_s {S : St} {r i : Int} (h : 0 ≤ i) : rtx S r (i + 1).toNat = rtx S r i.toNat ++ [sgnZ S r i] := by
  rw [show (i + 1).toNat = i.toNat + 1 by omega]
  show _ ++ [sgnZ S r (i.toNat : Int)] = _
  rw [Int.toNat_of_nonneg h]
theorem rtx_l (S : St) (r : Int) : ∀ n : Nat, (rtx S r n).length = n
  | 0 => rfl
  | n + 1 => by
    show (rtx S r n ++ [sgnZ S r n]).length = _
    rw [List.length_append, rtx_l S r n]
    rfl

set_option maxHeartbeats 4000000 in
set_option maxRecDepth 100000 in
/-- BenchBrokerModel.writes -/
theorem m_writes (l : Launch) (dg : va_G) (ck : Nat → ClassId) (mo : Nat → Nat) (S : St) (F1 F2 F3 F4 : Int → Int) (M : St) (x : Int) (sz : Nat) (hol : 0 ≤ M 8 4 ∧ M 8 4 < 60) : Met l yX9_writes (.code yX9_writes cX9_writes 2 none :: GW) ({ frames := 0, cells := 0, slots := 0, locals := 0 }) (va_Pc [.ref (mo 0), .int (zI x)] (wrP dg ck sz (modelC ck mo (encZ S) F1 F2 F3 F4 M))) (va_Qv (fun _ : Unit => True) (fun _ t9 => wrQ dg sz (modelC ck mo (encZ S) F1 F2 F3 F4 M) (modelC ck mo (encZ S) F1 F2 F3 F4 (wrL M [x])) t9) (va_A (modelC ck mo (encZ S) F1 F2 F3 F4 M) sz)) 0 0 (va_A (modelC ck mo (encZ S) F1 F2 F3 F4 M) sz) := by
  refine Met.ofW (cc := cX9_writes) (maxL := 2) (ret := none) (by decide) rfl ?_
  intro p e s m args below meth c s₁ B hml hv
  obtain ⟨rfl, hsz, hP, hK, hD0⟩ := hv
  have hx := B.exec
  have hb := B.bytes
  have hr := B.returns
  have hts := atoms_spec (ws := .code yX9_writes cX9_writes 2 none :: GW) B.pre
  have htg : ∀ w ∈ GW, w.before _ s = true := fun w h => hts w (List.mem_cons_of_mem _ h)
  have hown : s.vm.findClass RX9 = some m.cls := findClass_of_methodNamed B.named
  have hlocks := B.notSynchronized
  subst hsz
  have hD := hD0.self (sz := s.heap.size)
  generalize hAe : va_A (modelC ck mo (encZ S) F1 F2 F3 F4 M) s.heap.size = A at hD ⊢
  have hA : ∀ q : Nat, s.heap.size ≤ q → A q := fun q h => by rw [← hAe]; exact Or.inr h
  have hS : va_S A s.heap s.heap [] := va_S.rf
  have hP : va_P dg vwCl (modelC ck mo (encZ S) F1 F2 F3 F4 M) s.heap := hP
  have hl := lv_entry ([.ref (mo 0), .int (zI x)]) (n := 2) (Nat.le_of_ble_eq_true rfl)
  rw [lg_entry_eq]
  generalize (lg_sl ([.ref (mo 0), .int (zI x)]) ++ List.replicate (2 - (lg_sl ([.ref (mo 0), .int (zI x)])).length) Slot.unset).toArray = ls at hl ⊢
  have hl : lv_has ls 2 [(0, .ref (mo 0)), (1, .int (zI x))] := hl
  refine lv_aload_n hx hb dX9_writes_0 rfl (lv_at hl 0 rfl) ?_
  refine va_get (D := dg) (ci := 11) (v := .ref (mo 8)) (C := RX9) (T := TX9) (N := 23) hx hb htg inG_X9 hown hK hP 0 rfl rfl 10 (Nat.le_of_ble_eq_true rfl) (htg _ wq_1567) (fun _ h9 => h9) rfl dX9_writes_1 ?_
  refine lv_aload_n hx hb dX9_writes_4 rfl (lv_at hl 0 rfl) ?_
  refine va_get (D := dg) (ci := 11) (v := .int (zI (M 8 4))) (C := RX9) (T := TX9) (N := 23) hx hb htg inG_X9 hown hK hP 0 rfl rfl 12 (Nat.le_of_ble_eq_true rfl) (htg _ wq_1569) (fun _ h9 => h9) rfl dX9_writes_5 ?_
  refine lv_iload_n hx hb dX9_writes_8 rfl (lv_at hl 1 rfl) ?_
  refine x_iast (ws' := modelC ck mo (encZ S) F1 F2 F3 F4 (upS M 7 (M 8 4) x)) hx hb hK hP hD hS 8 0 rfl rfl (by decide) (by omega) (by rw [zM_up (by omega)]; rfl) dX9_writes_9 (fun H locs hP hD hS => ?_)
  refine lv_aload_n hx hb dX9_writes_10 rfl (lv_at hl 0 rfl) ?_
  refine lv_dup hx hb dX9_writes_11 rfl ?_
  refine va_get (D := dg) (ci := 11) (v := .int (zI (M 8 4))) (C := RX9) (T := TX9) (N := 23) hx hb htg inG_X9 hown hK hP 0 rfl rfl 12 (Nat.le_of_ble_eq_true rfl) (htg _ wq_1569) (fun _ h9 => h9) rfl dX9_writes_12 ?_
  refine x_iconst hx hb dX9_writes_15 ?_
  refine x_iadd hx hb dX9_writes_16 ?_
  refine va_put (D := dg) (ci := 11) (v := .int (zI ((M 8 4) + 1))) (ty := .int) (C := RX9) (T := TX9) (N := 23) hx hb htg inG_X9 tyX9 tyX9_ok nmX9 hown hK hP hD hS 0 rfl rfl 12 (Nat.le_of_ble_eq_true rfl) (htg _ wq_1569) (fun _ h9 => h9) rfl (by decide +kernel) rfl rfl (Nat.le_of_ble_eq_true rfl) dX9_writes_17 (fun H locs hP hD hS => ?_)
  have hP : va_P dg vwCl (modelC ck mo (encZ S) F1 F2 F3 F4 (upS (upS M 7 (M 8 4) x) 8 4 ((M 8 4) + 1))) H := hP
  have hD : va_D A (modelC ck mo (encZ S) F1 F2 F3 F4 (upS (upS M 7 (M 8 4) x) 8 4 ((M 8 4) + 1))) := hD
  have hEq : modelC ck mo (encZ S) F1 F2 F3 F4 (wrL M [x]) = modelC ck mo (encZ S) F1 F2 F3 F4 (upS (upS M 7 (M 8 4) x) 8 4 ((M 8 4) + 1)) := rfl
  exact W.vret hx hb hr (fun t9 ht9 hW9 => ⟨⟨(), rfl, trivial, by rw [ht9, hEq]; exact hP, by rw [hEq, hAe]; exact hD⟩, hS.F ht9⟩) hS.2.2 dX9_writes_20

set_option maxHeartbeats 4000000 in
set_option maxRecDepth 100000 in
/-- BenchBrokerModel.writesNumber -/
theorem m_writesNumber (l : Launch) (dg : va_G) (ck : Nat → ClassId) (mo : Nat → Nat) (S : St) (F1 F2 F3 F4 : Int → Int) (M : St) (x : Int) (sz : Nat) (hx0 : 0 ≤ x ∧ x ≤ 99) (hol : 0 ≤ M 8 4 ∧ M 8 4 < 59) : Met l yX9_writesNumber (.code yX9_writesNumber cX9_writesNumber 2 none :: GW) ({ frames := 1, cells := 0, slots := 0, locals := 21 }) (va_Pc [.ref (mo 0), .int (zI x)] (wrP dg ck sz (modelC ck mo (encZ S) F1 F2 F3 F4 M))) (va_Qv (fun _ : Unit => True) (fun _ t9 => wrQ dg sz (modelC ck mo (encZ S) F1 F2 F3 F4 M) (modelC ck mo (encZ S) F1 F2 F3 F4 (wrL M (digZ x))) t9) (va_A (modelC ck mo (encZ S) F1 F2 F3 F4 M) sz)) 0 0 (va_A (modelC ck mo (encZ S) F1 F2 F3 F4 M) sz) := by
  refine Met.ofW (cc := cX9_writesNumber) (maxL := 2) (ret := none) (by decide) rfl ?_
  intro p e s m args below meth c s₁ B hml hv
  obtain ⟨rfl, hsz, hP, hK, hD0⟩ := hv
  have hx := B.exec
  have hb := B.bytes
  have hr := B.returns
  have hts := atoms_spec (ws := .code yX9_writesNumber cX9_writesNumber 2 none :: GW) B.pre
  have htg : ∀ w ∈ GW, w.before _ s = true := fun w h => hts w (List.mem_cons_of_mem _ h)
  have hown : s.vm.findClass RX9 = some m.cls := findClass_of_methodNamed B.named
  have hlocks := B.notSynchronized
  subst hsz
  have hD := hD0.self (sz := s.heap.size)
  generalize hAe : va_A (modelC ck mo (encZ S) F1 F2 F3 F4 M) s.heap.size = A at hD ⊢
  have hA : ∀ q : Nat, s.heap.size ≤ q → A q := fun q h => by rw [← hAe]; exact Or.inr h
  have hS : va_S A s.heap s.heap [] := va_S.rf
  have hP : va_P dg vwCl (modelC ck mo (encZ S) F1 F2 F3 F4 M) s.heap := hP
  have hl := lv_entry ([.ref (mo 0), .int (zI x)]) (n := 2) (Nat.le_of_ble_eq_true rfl)
  rw [lg_entry_eq]
  generalize (lg_sl ([.ref (mo 0), .int (zI x)]) ++ List.replicate (2 - (lg_sl ([.ref (mo 0), .int (zI x)])).length) Slot.unset).toArray = ls at hl ⊢
  have hl : lv_has ls 2 [(0, .ref (mo 0)), (1, .int (zI x))] := hl
  refine lv_iload_n hx hb dX9_writesNumber_0 rfl (lv_at hl 1 rfl) ?_
  refine x_bipush hx hb dX9_writesNumber_1 (by decide) ?_
  refine x_icmp_le (tgt := 17) hx hb dX9_writesNumber_3 (by decide) (by omega) (by omega) (fun c3 => ?_) (fun c3 => ?_)
  · refine lv_aload_n hx hb dX9_writesNumber_17 rfl (lv_at hl 0 rfl) ?_
    refine x_bipush hx hb dX9_writesNumber_18 (by decide) ?_
    refine lv_iload_n hx hb dX9_writesNumber_20 rfl (lv_at hl 1 rfl) ?_
    refine x_bipush hx hb dX9_writesNumber_21 (by decide) ?_
    refine x_irem hx hb dX9_writesNumber_23 (by omega) (by omega) ?_
    refine x_iadd hx hb dX9_writesNumber_24 ?_
    refine x_callv (ws' := modelC ck mo (encZ S) F1 F2 F3 F4 (wrL M [(48 + (x % 10))])) [] (M := modelC ck mo (encZ S) F1 F2 F3 F4 M) (M' := modelC ck mo (encZ S) F1 F2 F3 F4 (wrL M [(48 + (x % 10))])) ([]) (List.append_nil _).symm (List.append_nil _).symm hP hD hS hA (fun hPm hDm => va_runV (As := [.int (zI (48 + (x % 10)))]) (rest := []) ⟨hx, hb, hml, hown, htg⟩ (m_writes l dg ck mo S F1 F2 F3 F4 M (48 + (x % 10)) _ (by first | omega | (simp only [wrL_84, List.length_cons, List.length_nil]; omega))) (cwV 1 htg (gwV wq_2014 wq_2016 wp_72 wq_15 wq_2017) rfl rfl rfl (by decide +kernel) ⟨Nat.le_of_ble_eq_true rfl, Nat.le_of_ble_eq_true rfl⟩) (wr_preV hK hPm hDm 0 11 rfl rfl) rfl rfl hl.1 rfl (lv_room (Nat.le_of_ble_eq_true rfl)) dX9_writesNumber_25 ⟨Nat.zero_le _, Nat.zero_le _⟩) (fun H locs hP hD hS => ?_)
    have hEq : modelC ck mo (encZ S) F1 F2 F3 F4 (wrL M (digZ x)) = modelC ck mo (encZ S) F1 F2 F3 F4 (wrL M [(48 + (x % 10))]) := (by unfold digZ; first | (rw [if_pos (by omega)] <;> rfl) | (rw [if_neg (by omega)] <;> rfl))
    exact W.vret hx hb hr (fun t9 ht9 hW9 => ⟨⟨(), rfl, trivial, by rw [ht9, hEq]; exact hP, by rw [hEq, hAe]; exact hD⟩, hS.F ht9⟩) hS.2.2 dX9_writesNumber_28
  · refine lv_aload_n hx hb dX9_writesNumber_6 rfl (lv_at hl 0 rfl) ?_
    refine x_bipush hx hb dX9_writesNumber_7 (by decide) ?_
    refine lv_iload_n hx hb dX9_writesNumber_9 rfl (lv_at hl 1 rfl) ?_
    refine x_bipush hx hb dX9_writesNumber_10 (by decide) ?_
    refine x_idiv hx hb dX9_writesNumber_12 (by omega) (by omega) ?_
    refine x_iadd hx hb dX9_writesNumber_13 ?_
    refine x_callv (ws' := modelC ck mo (encZ S) F1 F2 F3 F4 (wrL M [(48 + (x / 10))])) [] (M := modelC ck mo (encZ S) F1 F2 F3 F4 M) (M' := modelC ck mo (encZ S) F1 F2 F3 F4 (wrL M [(48 + (x / 10))])) ([]) (List.append_nil _).symm (List.append_nil _).symm hP hD hS hA (fun hPm hDm => va_runV (As := [.int (zI (48 + (x / 10)))]) (rest := []) ⟨hx, hb, hml, hown, htg⟩ (m_writes l dg ck mo S F1 F2 F3 F4 M (48 + (x / 10)) _ (by omega)) (cwV 1 htg (gwV wq_2014 wq_2016 wp_72 wq_15 wq_2017) rfl rfl rfl (by decide +kernel) ⟨Nat.le_of_ble_eq_true rfl, Nat.le_of_ble_eq_true rfl⟩) (wr_preV hK hPm hDm 0 11 rfl rfl) rfl rfl hl.1 rfl (lv_room (Nat.le_of_ble_eq_true rfl)) dX9_writesNumber_14 ⟨Nat.zero_le _, Nat.zero_le _⟩) (fun H locs hP hD hS => ?_)
    refine lv_aload_n hx hb dX9_writesNumber_17 rfl (lv_at hl 0 rfl) ?_
    refine x_bipush hx hb dX9_writesNumber_18 (by decide) ?_
    refine lv_iload_n hx hb dX9_writesNumber_20 rfl (lv_at hl 1 rfl) ?_
    refine x_bipush hx hb dX9_writesNumber_21 (by decide) ?_
    refine x_irem hx hb dX9_writesNumber_23 (by omega) (by omega) ?_
    refine x_iadd hx hb dX9_writesNumber_24 ?_
    refine x_callv (ws' := modelC ck mo (encZ S) F1 F2 F3 F4 (wrL (wrL M [(48 + (x / 10))]) [(48 + (x % 10))])) [] (M := modelC ck mo (encZ S) F1 F2 F3 F4 (wrL M [(48 + (x / 10))])) (M' := modelC ck mo (encZ S) F1 F2 F3 F4 (wrL (wrL M [(48 + (x / 10))]) [(48 + (x % 10))])) ([]) (List.append_nil _).symm (List.append_nil _).symm hP hD hS hA (fun hPm hDm => va_runV (As := [.int (zI (48 + (x % 10)))]) (rest := []) ⟨hx, hb, hml, hown, htg⟩ (m_writes l dg ck mo S F1 F2 F3 F4 (wrL M [(48 + (x / 10))]) (48 + (x % 10)) _ (by first | omega | (simp only [wrL_84, List.length_cons, List.length_nil]; omega))) (cwV 1 htg (gwV wq_2014 wq_2016 wp_72 wq_15 wq_2017) rfl rfl rfl (by decide +kernel) ⟨Nat.le_of_ble_eq_true rfl, Nat.le_of_ble_eq_true rfl⟩) (wr_preV hK hPm hDm 0 11 rfl rfl) rfl rfl hl.1 rfl (lv_room (Nat.le_of_ble_eq_true rfl)) dX9_writesNumber_25 ⟨Nat.zero_le _, Nat.zero_le _⟩) (fun H locs hP hD hS => ?_)
    have hEq : modelC ck mo (encZ S) F1 F2 F3 F4 (wrL M (digZ x)) = modelC ck mo (encZ S) F1 F2 F3 F4 (wrL (wrL M [(48 + (x / 10))]) [(48 + (x % 10))]) := (by unfold digZ; first | (rw [if_pos (by omega)] <;> rfl) | (rw [if_neg (by omega)] <;> rfl))
    exact W.vret hx hb hr (fun t9 ht9 hW9 => ⟨⟨(), rfl, trivial, by rw [ht9, hEq]; exact hP, by rw [hEq, hAe]; exact hD⟩, hS.F ht9⟩) hS.2.2 dX9_writesNumber_28

set_option maxHeartbeats 4000000 in
set_option maxRecDepth 100000 in
/-- BenchBrokerModel.writeBench -/
theorem m_writeBench (l : Launch) (dg : va_G) (ck : Nat → ClassId) (mo : Nat → Nat) (S : St) (F1 F2 F3 F4 : Int → Int) (M : St) (b : Int) (sz : Nat) (hI : Bd S) (rg_b : -2147483648 ≤ b ∧ b < 2147483648) : Met l yX9_writeBench (.code yX9_writeBench cX9_writeBench 2 (some .int) :: GW) ({ frames := 4, cells := 0, slots := 0, locals := 91 }) (va_Pc [.ref (mo 0), .int (zI b)] (wrP dg ck sz (modelC ck mo (encZ S) F1 F2 F3 F4 M))) (va_Qi (fun r (_ : Unit) => r = zI (itZ (isBench S b) ((btx S b).length : Int))) (fun _ t9 => wrQ dg sz (modelC ck mo (encZ S) F1 F2 F3 F4 M) (modelC ck mo (encZ S) F1 F2 F3 F4 (if isBench S b then wrL (upS (upS M 8 0 0) 8 4 0) (btx S b) else upS M 8 0 1)) t9) (va_A (modelC ck mo (encZ S) F1 F2 F3 F4 M) sz)) 0 0 (va_A (modelC ck mo (encZ S) F1 F2 F3 F4 M) sz) := by
  refine Met.ofW (cc := cX9_writeBench) (maxL := 2) (ret := (some .int)) (by decide) rfl ?_
  intro p e s m args below meth c s₁ B hml hv
  obtain ⟨rfl, hsz, hP, hK, hD0⟩ := hv
  have hx := B.exec
  have hb := B.bytes
  have hr := B.returns
  have hts := atoms_spec (ws := .code yX9_writeBench cX9_writeBench 2 (some .int) :: GW) B.pre
  have htg : ∀ w ∈ GW, w.before _ s = true := fun w h => hts w (List.mem_cons_of_mem _ h)
  have hown : s.vm.findClass RX9 = some m.cls := findClass_of_methodNamed B.named
  have hlocks := B.notSynchronized
  subst hsz
  have hD := hD0.self (sz := s.heap.size)
  generalize hAe : va_A (modelC ck mo (encZ S) F1 F2 F3 F4 M) s.heap.size = A at hD ⊢
  have hA : ∀ q : Nat, s.heap.size ≤ q → A q := fun q h => by rw [← hAe]; exact Or.inr h
  have hS : va_S A s.heap s.heap [] := va_S.rf
  have hP : va_P dg vwCl (modelC ck mo (encZ S) F1 F2 F3 F4 M) s.heap := hP
  have hl := lv_entry ([.ref (mo 0), .int (zI b)]) (n := 2) (Nat.le_of_ble_eq_true rfl)
  rw [lg_entry_eq]
  generalize (lg_sl ([.ref (mo 0), .int (zI b)]) ++ List.replicate (2 - (lg_sl ([.ref (mo 0), .int (zI b)])).length) Slot.unset).toArray = ls at hl ⊢
  have hl : lv_has ls 2 [(0, .ref (mo 0)), (1, .int (zI b))] := hl
  obtain ⟨b00, b01, b02, b03, b1, b2, b3, b4, b5, b6, b7, b8, b9, b10, b11, b12⟩ := id hI
  have hre := rent_r hI b
  have hno := noiseB_r hI b
  have h4b := b4 b
  have h1b := b1 b
  have h2b := b2 b
  have h6b := b6 b
  have z0 := digZ_l b
  have z1 := digZ_l (S 1 b)
  have z2 := digZ_l (S 2 b)
  have z3 := digZ_l (rent S b)
  have z4 := digZ_l (noiseB S b)
  have z5 := digZ_l (S 4 b - 1)
  have z6 := digZ_l (S 6 b)
  have hz0 : (upS (upS M 8 0 0) 8 4 0) 8 4 = 0 := rfl
  refine lv_aload_n hx hb dX9_writeBench_0 rfl (lv_at hl 0 rfl) ?_
  refine lv_aload_n hx hb dX9_writeBench_1 rfl (lv_at hl 0 rfl) ?_
  refine lv_iload_n hx hb dX9_writeBench_2 rfl (lv_at hl 1 rfl) ?_
  refine vp_callSi (W.runV (As := [.int (zI b)]) (rest := [.ref (mo 0)]) ⟨hx, hb, hml, hown, htg⟩ (m_isBench l dg ck mo S F1 F2 F3 F4 M b hI (by omega)) (cwV 1 htg (gwV wq_1689 wq_1691 wp_42 wq_15 wq_1692) rfl rfl rfl (by decide +kernel) ⟨Nat.le_of_ble_eq_true rfl, Nat.le_of_ble_eq_true rfl⟩) (rd_preV hK hP 0 11 rfl rfl) rfl rfl hl.1 rfl (lv_room (Nat.le_of_ble_eq_true rfl)) dX9_writeBench_3 ⟨Nat.zero_le _, Nat.zero_le _⟩) (fun r3 hr3 => ?_)
  subst hr3
  refine x_bz_eq (tgt := 13) hx hb dX9_writeBench_6 (by decide) (fun c6 => ?_) (fun c6 => ?_)
  · refine x_iconst hx hb dX9_writeBench_13 ?_
    refine va_put (D := dg) (ci := 11) (v := .int (zI 1)) (ty := .int) (C := RX9) (T := TX9) (N := 23) hx hb htg inG_X9 tyX9 tyX9_ok nmX9 hown hK hP hD hS 0 rfl rfl 0 (Nat.le_of_ble_eq_true rfl) (htg _ wq_1557) (fun _ h9 => h9) rfl (by decide +kernel) rfl rfl (Nat.le_of_ble_eq_true rfl) dX9_writeBench_14 (fun H locs hP hD hS => ?_)
    have hP : va_P dg vwCl (modelC ck mo (encZ S) F1 F2 F3 F4 (upS M 8 0 1)) H := hP
    have hD : va_D A (modelC ck mo (encZ S) F1 F2 F3 F4 (upS M 8 0 1)) := hD
    refine lv_aload_n hx hb dX9_writeBench_17 rfl (lv_at hl 0 rfl) ?_
    refine va_get (D := dg) (ci := 11) (v := .int (zI 1)) (C := RX9) (T := TX9) (N := 23) hx hb htg inG_X9 hown hK hP 0 rfl rfl 0 (Nat.le_of_ble_eq_true rfl) (htg _ wq_1557) (fun _ h9 => h9) rfl dX9_writeBench_18 ?_
    refine x_if_le (tgt := 26) hx hb dX9_writeBench_21 (by decide) (by omega) (fun c21 => absurd c21 (by decide)) (fun c21 => ?_)
    refine x_iconst hx hb dX9_writeBench_24 ?_
    have hEq : modelC ck mo (encZ S) F1 F2 F3 F4 (if isBench S b then wrL (upS (upS M 8 0 0) 8 4 0) (btx S b) else upS M 8 0 1) = modelC ck mo (encZ S) F1 F2 F3 F4 (upS M 8 0 1) := (by rw [if_neg (show ¬ isBench S b by omega)])
    exact W.iret (v := _) hx hb hr (fun t9 ht9 hW9 => ⟨⟨_, (), rfl, (by rw [itZ_f (show ¬ isBench S b by omega)]), by rw [ht9, hEq]; exact hP, by rw [hEq, hAe]; exact hD⟩, hS.F ht9⟩) hS.2.2 dX9_writeBench_25
  · refine x_iconst hx hb dX9_writeBench_9 ?_
    refine lv_goto (tgt := 14) hx hb dX9_writeBench_10 (by decide) ?_
    refine va_put (D := dg) (ci := 11) (v := .int (zI 0)) (ty := .int) (C := RX9) (T := TX9) (N := 23) hx hb htg inG_X9 tyX9 tyX9_ok nmX9 hown hK hP hD hS 0 rfl rfl 0 (Nat.le_of_ble_eq_true rfl) (htg _ wq_1557) (fun _ h9 => h9) rfl (by decide +kernel) rfl rfl (Nat.le_of_ble_eq_true rfl) dX9_writeBench_14 (fun H locs hP hD hS => ?_)
    have hP : va_P dg vwCl (modelC ck mo (encZ S) F1 F2 F3 F4 (upS M 8 0 0)) H := hP
    have hD : va_D A (modelC ck mo (encZ S) F1 F2 F3 F4 (upS M 8 0 0)) := hD
    refine lv_aload_n hx hb dX9_writeBench_17 rfl (lv_at hl 0 rfl) ?_
    refine va_get (D := dg) (ci := 11) (v := .int (zI 0)) (C := RX9) (T := TX9) (N := 23) hx hb htg inG_X9 hown hK hP 0 rfl rfl 0 (Nat.le_of_ble_eq_true rfl) (htg _ wq_1557) (fun _ h9 => h9) rfl dX9_writeBench_18 ?_
    refine x_if_le (tgt := 26) hx hb dX9_writeBench_21 (by decide) (by omega) (fun c21 => ?_) (fun c21 => absurd c21 (by decide))
    refine lv_aload_n hx hb dX9_writeBench_26 rfl (lv_at hl 0 rfl) ?_
    refine x_iconst hx hb dX9_writeBench_27 ?_
    refine va_put (D := dg) (ci := 11) (v := .int (zI 0)) (ty := .int) (C := RX9) (T := TX9) (N := 23) hx hb htg inG_X9 tyX9 tyX9_ok nmX9 hown hK hP hD hS 0 rfl rfl 12 (Nat.le_of_ble_eq_true rfl) (htg _ wq_1569) (fun _ h9 => h9) rfl (by decide +kernel) rfl rfl (Nat.le_of_ble_eq_true rfl) dX9_writeBench_28 (fun H locs hP hD hS => ?_)
    have hP : va_P dg vwCl (modelC ck mo (encZ S) F1 F2 F3 F4 (upS (upS M 8 0 0) 8 4 0)) H := hP
    have hD : va_D A (modelC ck mo (encZ S) F1 F2 F3 F4 (upS (upS M 8 0 0) 8 4 0)) := hD
    refine lv_aload_n hx hb dX9_writeBench_31 rfl (lv_at hl 0 rfl) ?_
    refine lv_iload_n hx hb dX9_writeBench_32 rfl (lv_at hl 1 rfl) ?_
    refine x_callv (ws' := modelC ck mo (encZ S) F1 F2 F3 F4 (wrL (upS (upS M 8 0 0) 8 4 0) (digZ b))) [] (M := modelC ck mo (encZ S) F1 F2 F3 F4 (upS (upS M 8 0 0) 8 4 0)) (M' := modelC ck mo (encZ S) F1 F2 F3 F4 (wrL (upS (upS M 8 0 0) 8 4 0) (digZ b))) ([]) (List.append_nil _).symm (List.append_nil _).symm hP hD hS hA (fun hPm hDm => va_runV (As := [.int (zI b)]) (rest := []) ⟨hx, hb, hml, hown, htg⟩ (m_writesNumber l dg ck mo S F1 F2 F3 F4 (upS (upS M 8 0 0) 8 4 0) b _ (by omega) (by first | omega | (simp only [wrL_84, List.length_cons, List.length_nil]; omega))) (cwV 1 htg (gwV wq_2010 wq_2012 wp_71 wq_15 wq_2013) rfl rfl rfl (by decide +kernel) ⟨Nat.le_of_ble_eq_true rfl, Nat.le_of_ble_eq_true rfl⟩) (wr_preV hK hPm hDm 0 11 rfl rfl) rfl rfl hl.1 rfl (lv_room (Nat.le_of_ble_eq_true rfl)) dX9_writeBench_33 ⟨Nat.zero_le _, Nat.zero_le _⟩) (fun H locs hP hD hS => ?_)
    refine lv_aload_n hx hb dX9_writeBench_36 rfl (lv_at hl 0 rfl) ?_
    refine x_bipush hx hb dX9_writeBench_37 (by decide) ?_
    refine x_callv (ws' := modelC ck mo (encZ S) F1 F2 F3 F4 (wrL (wrL (upS (upS M 8 0 0) 8 4 0) (digZ b)) [64])) [] (M := modelC ck mo (encZ S) F1 F2 F3 F4 (wrL (upS (upS M 8 0 0) 8 4 0) (digZ b))) (M' := modelC ck mo (encZ S) F1 F2 F3 F4 (wrL (wrL (upS (upS M 8 0 0) 8 4 0) (digZ b)) [64])) ([]) (List.append_nil _).symm (List.append_nil _).symm hP hD hS hA (fun hPm hDm => va_runV (As := [.int (zI 64)]) (rest := []) ⟨hx, hb, hml, hown, htg⟩ (m_writes l dg ck mo S F1 F2 F3 F4 (wrL (upS (upS M 8 0 0) 8 4 0) (digZ b)) 64 _ (by first | omega | (simp only [wrL_84, List.length_cons, List.length_nil]; omega))) (cwV 1 htg (gwV wq_2014 wq_2016 wp_72 wq_15 wq_2017) rfl rfl rfl (by decide +kernel) ⟨Nat.le_of_ble_eq_true rfl, Nat.le_of_ble_eq_true rfl⟩) (wr_preV hK hPm hDm 0 11 rfl rfl) rfl rfl hl.1 rfl (lv_room (Nat.le_of_ble_eq_true rfl)) dX9_writeBench_39 ⟨Nat.zero_le _, Nat.zero_le _⟩) (fun H locs hP hD hS => ?_)
    refine lv_aload_n hx hb dX9_writeBench_42 rfl (lv_at hl 0 rfl) ?_
    refine lv_aload_n hx hb dX9_writeBench_43 rfl (lv_at hl 0 rfl) ?_
    refine lv_iload_n hx hb dX9_writeBench_44 rfl (lv_at hl 1 rfl) ?_
    refine x_iconst hx hb dX9_writeBench_45 ?_
    refine vp_callSi (W.runV (As := [.int (zI b), .int (zI 0)]) (rest := [.ref (mo 0)]) ⟨hx, hb, hml, hown, htg⟩ (m_bench l dg ck mo S F1 F2 F3 F4 (wrL (wrL (upS (upS M 8 0 0) 8 4 0) (digZ b)) [64]) b 0 (by omega) (by decide)) (cwV 2 htg (gwV wq_1657 wq_1659 wp_35 wq_15 wq_1660) rfl rfl rfl (by decide +kernel) ⟨Nat.le_of_ble_eq_true rfl, Nat.le_of_ble_eq_true rfl⟩) (rd_preV hK hP 0 11 rfl rfl) rfl rfl hl.1 rfl (lv_room (Nat.le_of_ble_eq_true rfl)) dX9_writeBench_46 ⟨Nat.zero_le _, Nat.zero_le _⟩) (fun r46 hr46 => ?_)
    subst hr46
    have q46 := b1 b
    refine x_is (show (S (1 + Int.toNat 0) b) = (S 1 b) from rfl) ?_
    refine x_callv (ws' := modelC ck mo (encZ S) F1 F2 F3 F4 (wrL (wrL (wrL (upS (upS M 8 0 0) 8 4 0) (digZ b)) [64]) (digZ (S 1 b)))) [] (M := modelC ck mo (encZ S) F1 F2 F3 F4 (wrL (wrL (upS (upS M 8 0 0) 8 4 0) (digZ b)) [64])) (M' := modelC ck mo (encZ S) F1 F2 F3 F4 (wrL (wrL (wrL (upS (upS M 8 0 0) 8 4 0) (digZ b)) [64]) (digZ (S 1 b)))) ([]) (List.append_nil _).symm (List.append_nil _).symm hP hD hS hA (fun hPm hDm => va_runV (As := [.int (zI (S 1 b))]) (rest := []) ⟨hx, hb, hml, hown, htg⟩ (m_writesNumber l dg ck mo S F1 F2 F3 F4 (wrL (wrL (upS (upS M 8 0 0) 8 4 0) (digZ b)) [64]) (S 1 b) _ (by omega) (by first | omega | (simp only [wrL_84, List.length_cons, List.length_nil]; omega))) (cwV 1 htg (gwV wq_2010 wq_2012 wp_71 wq_15 wq_2013) rfl rfl rfl (by decide +kernel) ⟨Nat.le_of_ble_eq_true rfl, Nat.le_of_ble_eq_true rfl⟩) (wr_preV hK hPm hDm 0 11 rfl rfl) rfl rfl hl.1 rfl (lv_room (Nat.le_of_ble_eq_true rfl)) dX9_writeBench_49 ⟨Nat.zero_le _, Nat.zero_le _⟩) (fun H locs hP hD hS => ?_)
    refine lv_aload_n hx hb dX9_writeBench_52 rfl (lv_at hl 0 rfl) ?_
    refine x_bipush hx hb dX9_writeBench_53 (by decide) ?_
    refine x_callv (ws' := modelC ck mo (encZ S) F1 F2 F3 F4 (wrL (wrL (wrL (wrL (upS (upS M 8 0 0) 8 4 0) (digZ b)) [64]) (digZ (S 1 b))) [44])) [] (M := modelC ck mo (encZ S) F1 F2 F3 F4 (wrL (wrL (wrL (upS (upS M 8 0 0) 8 4 0) (digZ b)) [64]) (digZ (S 1 b)))) (M' := modelC ck mo (encZ S) F1 F2 F3 F4 (wrL (wrL (wrL (wrL (upS (upS M 8 0 0) 8 4 0) (digZ b)) [64]) (digZ (S 1 b))) [44])) ([]) (List.append_nil _).symm (List.append_nil _).symm hP hD hS hA (fun hPm hDm => va_runV (As := [.int (zI 44)]) (rest := []) ⟨hx, hb, hml, hown, htg⟩ (m_writes l dg ck mo S F1 F2 F3 F4 (wrL (wrL (wrL (upS (upS M 8 0 0) 8 4 0) (digZ b)) [64]) (digZ (S 1 b))) 44 _ (by first | omega | (simp only [wrL_84, List.length_cons, List.length_nil]; omega))) (cwV 1 htg (gwV wq_2014 wq_2016 wp_72 wq_15 wq_2017) rfl rfl rfl (by decide +kernel) ⟨Nat.le_of_ble_eq_true rfl, Nat.le_of_ble_eq_true rfl⟩) (wr_preV hK hPm hDm 0 11 rfl rfl) rfl rfl hl.1 rfl (lv_room (Nat.le_of_ble_eq_true rfl)) dX9_writeBench_55 ⟨Nat.zero_le _, Nat.zero_le _⟩) (fun H locs hP hD hS => ?_)
    refine lv_aload_n hx hb dX9_writeBench_58 rfl (lv_at hl 0 rfl) ?_
    refine lv_aload_n hx hb dX9_writeBench_59 rfl (lv_at hl 0 rfl) ?_
    refine lv_iload_n hx hb dX9_writeBench_60 rfl (lv_at hl 1 rfl) ?_
    refine x_iconst hx hb dX9_writeBench_61 ?_
    refine vp_callSi (W.runV (As := [.int (zI b), .int (zI 1)]) (rest := [.ref (mo 0)]) ⟨hx, hb, hml, hown, htg⟩ (m_bench l dg ck mo S F1 F2 F3 F4 (wrL (wrL (wrL (wrL (upS (upS M 8 0 0) 8 4 0) (digZ b)) [64]) (digZ (S 1 b))) [44]) b 1 (by omega) (by decide)) (cwV 2 htg (gwV wq_1657 wq_1659 wp_35 wq_15 wq_1660) rfl rfl rfl (by decide +kernel) ⟨Nat.le_of_ble_eq_true rfl, Nat.le_of_ble_eq_true rfl⟩) (rd_preV hK hP 0 11 rfl rfl) rfl rfl hl.1 rfl (lv_room (Nat.le_of_ble_eq_true rfl)) dX9_writeBench_62 ⟨Nat.zero_le _, Nat.zero_le _⟩) (fun r62 hr62 => ?_)
    subst hr62
    have q62 := b2 b
    refine x_is (show (S (1 + Int.toNat 1) b) = (S 2 b) from rfl) ?_
    refine x_callv (ws' := modelC ck mo (encZ S) F1 F2 F3 F4 (wrL (wrL (wrL (wrL (wrL (upS (upS M 8 0 0) 8 4 0) (digZ b)) [64]) (digZ (S 1 b))) [44]) (digZ (S 2 b)))) [] (M := modelC ck mo (encZ S) F1 F2 F3 F4 (wrL (wrL (wrL (wrL (upS (upS M 8 0 0) 8 4 0) (digZ b)) [64]) (digZ (S 1 b))) [44])) (M' := modelC ck mo (encZ S) F1 F2 F3 F4 (wrL (wrL (wrL (wrL (wrL (upS (upS M 8 0 0) 8 4 0) (digZ b)) [64]) (digZ (S 1 b))) [44]) (digZ (S 2 b)))) ([]) (List.append_nil _).symm (List.append_nil _).symm hP hD hS hA (fun hPm hDm => va_runV (As := [.int (zI (S 2 b))]) (rest := []) ⟨hx, hb, hml, hown, htg⟩ (m_writesNumber l dg ck mo S F1 F2 F3 F4 (wrL (wrL (wrL (wrL (upS (upS M 8 0 0) 8 4 0) (digZ b)) [64]) (digZ (S 1 b))) [44]) (S 2 b) _ (by omega) (by first | omega | (simp only [wrL_84, List.length_cons, List.length_nil]; omega))) (cwV 1 htg (gwV wq_2010 wq_2012 wp_71 wq_15 wq_2013) rfl rfl rfl (by decide +kernel) ⟨Nat.le_of_ble_eq_true rfl, Nat.le_of_ble_eq_true rfl⟩) (wr_preV hK hPm hDm 0 11 rfl rfl) rfl rfl hl.1 rfl (lv_room (Nat.le_of_ble_eq_true rfl)) dX9_writeBench_65 ⟨Nat.zero_le _, Nat.zero_le _⟩) (fun H locs hP hD hS => ?_)
    refine lv_aload_n hx hb dX9_writeBench_68 rfl (lv_at hl 0 rfl) ?_
    refine x_bipush hx hb dX9_writeBench_69 (by decide) ?_
    refine x_callv (ws' := modelC ck mo (encZ S) F1 F2 F3 F4 (wrL (wrL (wrL (wrL (wrL (wrL (upS (upS M 8 0 0) 8 4 0) (digZ b)) [64]) (digZ (S 1 b))) [44]) (digZ (S 2 b))) [36])) [] (M := modelC ck mo (encZ S) F1 F2 F3 F4 (wrL (wrL (wrL (wrL (wrL (upS (upS M 8 0 0) 8 4 0) (digZ b)) [64]) (digZ (S 1 b))) [44]) (digZ (S 2 b)))) (M' := modelC ck mo (encZ S) F1 F2 F3 F4 (wrL (wrL (wrL (wrL (wrL (wrL (upS (upS M 8 0 0) 8 4 0) (digZ b)) [64]) (digZ (S 1 b))) [44]) (digZ (S 2 b))) [36])) ([]) (List.append_nil _).symm (List.append_nil _).symm hP hD hS hA (fun hPm hDm => va_runV (As := [.int (zI 36)]) (rest := []) ⟨hx, hb, hml, hown, htg⟩ (m_writes l dg ck mo S F1 F2 F3 F4 (wrL (wrL (wrL (wrL (wrL (upS (upS M 8 0 0) 8 4 0) (digZ b)) [64]) (digZ (S 1 b))) [44]) (digZ (S 2 b))) 36 _ (by first | omega | (simp only [wrL_84, List.length_cons, List.length_nil]; omega))) (cwV 1 htg (gwV wq_2014 wq_2016 wp_72 wq_15 wq_2017) rfl rfl rfl (by decide +kernel) ⟨Nat.le_of_ble_eq_true rfl, Nat.le_of_ble_eq_true rfl⟩) (wr_preV hK hPm hDm 0 11 rfl rfl) rfl rfl hl.1 rfl (lv_room (Nat.le_of_ble_eq_true rfl)) dX9_writeBench_71 ⟨Nat.zero_le _, Nat.zero_le _⟩) (fun H locs hP hD hS => ?_)
    refine lv_aload_n hx hb dX9_writeBench_74 rfl (lv_at hl 0 rfl) ?_
    refine lv_aload_n hx hb dX9_writeBench_75 rfl (lv_at hl 0 rfl) ?_
    refine lv_iload_n hx hb dX9_writeBench_76 rfl (lv_at hl 1 rfl) ?_
    refine vp_callSi (W.runV (As := [.int (zI b)]) (rest := [.ref (mo 0)]) ⟨hx, hb, hml, hown, htg⟩ (m_rent l dg ck mo S F1 F2 F3 F4 (wrL (wrL (wrL (wrL (wrL (wrL (upS (upS M 8 0 0) 8 4 0) (digZ b)) [64]) (digZ (S 1 b))) [44]) (digZ (S 2 b))) [36]) b hI (by omega)) (cwV 1 htg (gwV wq_1753 wq_1755 wp_49 wq_15 wq_1756) rfl rfl rfl (by decide +kernel) ⟨Nat.le_of_ble_eq_true rfl, Nat.le_of_ble_eq_true rfl⟩) (rd_preV hK hP 0 11 rfl rfl) rfl rfl hl.1 rfl (lv_room (Nat.le_of_ble_eq_true rfl)) dX9_writeBench_77 ⟨Nat.zero_le _, Nat.zero_le _⟩) (fun r77 hr77 => ?_)
    subst hr77
    refine x_callv (ws' := modelC ck mo (encZ S) F1 F2 F3 F4 (wrL (wrL (wrL (wrL (wrL (wrL (wrL (upS (upS M 8 0 0) 8 4 0) (digZ b)) [64]) (digZ (S 1 b))) [44]) (digZ (S 2 b))) [36]) (digZ (rent S b)))) [] (M := modelC ck mo (encZ S) F1 F2 F3 F4 (wrL (wrL (wrL (wrL (wrL (wrL (upS (upS M 8 0 0) 8 4 0) (digZ b)) [64]) (digZ (S 1 b))) [44]) (digZ (S 2 b))) [36])) (M' := modelC ck mo (encZ S) F1 F2 F3 F4 (wrL (wrL (wrL (wrL (wrL (wrL (wrL (upS (upS M 8 0 0) 8 4 0) (digZ b)) [64]) (digZ (S 1 b))) [44]) (digZ (S 2 b))) [36]) (digZ (rent S b)))) ([]) (List.append_nil _).symm (List.append_nil _).symm hP hD hS hA (fun hPm hDm => va_runV (As := [.int (zI (rent S b))]) (rest := []) ⟨hx, hb, hml, hown, htg⟩ (m_writesNumber l dg ck mo S F1 F2 F3 F4 (wrL (wrL (wrL (wrL (wrL (wrL (upS (upS M 8 0 0) 8 4 0) (digZ b)) [64]) (digZ (S 1 b))) [44]) (digZ (S 2 b))) [36]) (rent S b) _ (by omega) (by first | omega | (simp only [wrL_84, List.length_cons, List.length_nil]; omega))) (cwV 1 htg (gwV wq_2010 wq_2012 wp_71 wq_15 wq_2013) rfl rfl rfl (by decide +kernel) ⟨Nat.le_of_ble_eq_true rfl, Nat.le_of_ble_eq_true rfl⟩) (wr_preV hK hPm hDm 0 11 rfl rfl) rfl rfl hl.1 rfl (lv_room (Nat.le_of_ble_eq_true rfl)) dX9_writeBench_80 ⟨Nat.zero_le _, Nat.zero_le _⟩) (fun H locs hP hD hS => ?_)
    refine lv_aload_n hx hb dX9_writeBench_83 rfl (lv_at hl 0 rfl) ?_
    refine x_bipush hx hb dX9_writeBench_84 (by decide) ?_
    refine x_callv (ws' := modelC ck mo (encZ S) F1 F2 F3 F4 (wrL (wrL (wrL (wrL (wrL (wrL (wrL (wrL (upS (upS M 8 0 0) 8 4 0) (digZ b)) [64]) (digZ (S 1 b))) [44]) (digZ (S 2 b))) [36]) (digZ (rent S b))) [126])) [] (M := modelC ck mo (encZ S) F1 F2 F3 F4 (wrL (wrL (wrL (wrL (wrL (wrL (wrL (upS (upS M 8 0 0) 8 4 0) (digZ b)) [64]) (digZ (S 1 b))) [44]) (digZ (S 2 b))) [36]) (digZ (rent S b)))) (M' := modelC ck mo (encZ S) F1 F2 F3 F4 (wrL (wrL (wrL (wrL (wrL (wrL (wrL (wrL (upS (upS M 8 0 0) 8 4 0) (digZ b)) [64]) (digZ (S 1 b))) [44]) (digZ (S 2 b))) [36]) (digZ (rent S b))) [126])) ([]) (List.append_nil _).symm (List.append_nil _).symm hP hD hS hA (fun hPm hDm => va_runV (As := [.int (zI 126)]) (rest := []) ⟨hx, hb, hml, hown, htg⟩ (m_writes l dg ck mo S F1 F2 F3 F4 (wrL (wrL (wrL (wrL (wrL (wrL (wrL (upS (upS M 8 0 0) 8 4 0) (digZ b)) [64]) (digZ (S 1 b))) [44]) (digZ (S 2 b))) [36]) (digZ (rent S b))) 126 _ (by first | omega | (simp only [wrL_84, List.length_cons, List.length_nil]; omega))) (cwV 1 htg (gwV wq_2014 wq_2016 wp_72 wq_15 wq_2017) rfl rfl rfl (by decide +kernel) ⟨Nat.le_of_ble_eq_true rfl, Nat.le_of_ble_eq_true rfl⟩) (wr_preV hK hPm hDm 0 11 rfl rfl) rfl rfl hl.1 rfl (lv_room (Nat.le_of_ble_eq_true rfl)) dX9_writeBench_86 ⟨Nat.zero_le _, Nat.zero_le _⟩) (fun H locs hP hD hS => ?_)
    refine lv_aload_n hx hb dX9_writeBench_89 rfl (lv_at hl 0 rfl) ?_
    refine lv_aload_n hx hb dX9_writeBench_90 rfl (lv_at hl 0 rfl) ?_
    refine lv_iload_n hx hb dX9_writeBench_91 rfl (lv_at hl 1 rfl) ?_
    refine vp_callSi (W.runV (As := [.int (zI b)]) (rest := [.ref (mo 0)]) ⟨hx, hb, hml, hown, htg⟩ (m_noiseOf l dg ck mo S F1 F2 F3 F4 (wrL (wrL (wrL (wrL (wrL (wrL (wrL (wrL (upS (upS M 8 0 0) 8 4 0) (digZ b)) [64]) (digZ (S 1 b))) [44]) (digZ (S 2 b))) [36]) (digZ (rent S b))) [126]) b hI (by omega)) (cwV 1 htg (gwV wq_1757 wq_1759 wp_50 wq_15 wq_1760) rfl rfl rfl (by decide +kernel) ⟨Nat.le_of_ble_eq_true rfl, Nat.le_of_ble_eq_true rfl⟩) (rd_preV hK hP 0 11 rfl rfl) rfl rfl hl.1 rfl (lv_room (Nat.le_of_ble_eq_true rfl)) dX9_writeBench_92 ⟨Nat.zero_le _, Nat.zero_le _⟩) (fun r92 hr92 => ?_)
    subst hr92
    refine x_callv (ws' := modelC ck mo (encZ S) F1 F2 F3 F4 (wrL (wrL (wrL (wrL (wrL (wrL (wrL (wrL (wrL (upS (upS M 8 0 0) 8 4 0) (digZ b)) [64]) (digZ (S 1 b))) [44]) (digZ (S 2 b))) [36]) (digZ (rent S b))) [126]) (digZ (noiseB S b)))) [] (M := modelC ck mo (encZ S) F1 F2 F3 F4 (wrL (wrL (wrL (wrL (wrL (wrL (wrL (wrL (upS (upS M 8 0 0) 8 4 0) (digZ b)) [64]) (digZ (S 1 b))) [44]) (digZ (S 2 b))) [36]) (digZ (rent S b))) [126])) (M' := modelC ck mo (encZ S) F1 F2 F3 F4 (wrL (wrL (wrL (wrL (wrL (wrL (wrL (wrL (wrL (upS (upS M 8 0 0) 8 4 0) (digZ b)) [64]) (digZ (S 1 b))) [44]) (digZ (S 2 b))) [36]) (digZ (rent S b))) [126]) (digZ (noiseB S b)))) ([]) (List.append_nil _).symm (List.append_nil _).symm hP hD hS hA (fun hPm hDm => va_runV (As := [.int (zI (noiseB S b))]) (rest := []) ⟨hx, hb, hml, hown, htg⟩ (m_writesNumber l dg ck mo S F1 F2 F3 F4 (wrL (wrL (wrL (wrL (wrL (wrL (wrL (wrL (upS (upS M 8 0 0) 8 4 0) (digZ b)) [64]) (digZ (S 1 b))) [44]) (digZ (S 2 b))) [36]) (digZ (rent S b))) [126]) (noiseB S b) _ (by omega) (by first | omega | (simp only [wrL_84, List.length_cons, List.length_nil]; omega))) (cwV 1 htg (gwV wq_2010 wq_2012 wp_71 wq_15 wq_2013) rfl rfl rfl (by decide +kernel) ⟨Nat.le_of_ble_eq_true rfl, Nat.le_of_ble_eq_true rfl⟩) (wr_preV hK hPm hDm 0 11 rfl rfl) rfl rfl hl.1 rfl (lv_room (Nat.le_of_ble_eq_true rfl)) dX9_writeBench_95 ⟨Nat.zero_le _, Nat.zero_le _⟩) (fun H locs hP hD hS => ?_)
    refine lv_aload_n hx hb dX9_writeBench_98 rfl (lv_at hl 0 rfl) ?_
    refine lv_iload_n hx hb dX9_writeBench_99 rfl (lv_at hl 1 rfl) ?_
    refine vp_callSi (W.runV (As := [.int (zI b)]) (rest := []) ⟨hx, hb, hml, hown, htg⟩ (m_by l dg ck mo S F1 F2 F3 F4 (wrL (wrL (wrL (wrL (wrL (wrL (wrL (wrL (wrL (upS (upS M 8 0 0) 8 4 0) (digZ b)) [64]) (digZ (S 1 b))) [44]) (digZ (S 2 b))) [36]) (digZ (rent S b))) [126]) (digZ (noiseB S b))) b (by omega)) (cwV 1 htg (gwV wq_1853 wq_1855 wp_59 wq_15 wq_1856) rfl rfl rfl (by decide +kernel) ⟨Nat.le_of_ble_eq_true rfl, Nat.le_of_ble_eq_true rfl⟩) (rd_preV hK hP 0 11 rfl rfl) rfl rfl hl.1 rfl (lv_room (Nat.le_of_ble_eq_true rfl)) dX9_writeBench_100 ⟨Nat.zero_le _, Nat.zero_le _⟩) (fun r100 hr100 => ?_)
    subst hr100
    have q100 := b4 b
    refine x_is (show (S 4 b - 1) = ((S 4 b) - 1) from rfl) ?_
    refine x_iconst hx hb dX9_writeBench_103 ?_
    refine x_icmp_eq (tgt := 138) hx hb dX9_writeBench_104 (by decide) (by omega) (by omega) (fun c104 => ?_) (fun c104 => ?_)
    · refine lv_aload_n hx hb dX9_writeBench_138 rfl (lv_at hl 0 rfl) ?_
      refine va_get (D := dg) (ci := 11) (v := .int (zI ((wrL (wrL (wrL (wrL (wrL (wrL (wrL (wrL (wrL (upS (upS M 8 0 0) 8 4 0) (digZ b)) [64]) (digZ (S 1 b))) [44]) (digZ (S 2 b))) [36]) (digZ (rent S b))) [126]) (digZ (noiseB S b))) 8 4))) (C := RX9) (T := TX9) (N := 23) hx hb htg inG_X9 hown hK hP 0 rfl rfl 12 (Nat.le_of_ble_eq_true rfl) (htg _ wq_1569) (fun _ h9 => h9) rfl dX9_writeBench_139 ?_
      have hw : (wrL (wrL (wrL (wrL (wrL (wrL (wrL (wrL (wrL (upS (upS M 8 0 0) 8 4 0) (digZ b)) [64]) (digZ (S 1 b))) [44]) (digZ (S 2 b))) [36]) (digZ (rent S b))) [126]) (digZ (noiseB S b))) = wrL (upS (upS M 8 0 0) 8 4 0) (btx S b) := by unfold btx; simp only [wrL_app]; first | (rw [if_pos (by omega)]; simp only [wrL_app]) | (rw [if_neg (by omega)] <;> rfl)
      have hEq : modelC ck mo (encZ S) F1 F2 F3 F4 (if isBench S b then wrL (upS (upS M 8 0 0) 8 4 0) (btx S b) else upS M 8 0 1) = modelC ck mo (encZ S) F1 F2 F3 F4 (wrL (wrL (wrL (wrL (wrL (wrL (wrL (wrL (wrL (upS (upS M 8 0 0) 8 4 0) (digZ b)) [64]) (digZ (S 1 b))) [44]) (digZ (S 2 b))) [36]) (digZ (rent S b))) [126]) (digZ (noiseB S b))) := (by rw [if_pos (show isBench S b by omega), hw])
      exact W.iret (v := _) hx hb hr (fun t9 ht9 hW9 => ⟨⟨_, (), rfl, (by rw [itZ_t (show isBench S b by omega), hw, wrL_84, hz0]; congr 1; omega), by rw [ht9, hEq]; exact hP, by rw [hEq, hAe]; exact hD⟩, hS.F ht9⟩) hS.2.2 dX9_writeBench_142
    · refine lv_aload_n hx hb dX9_writeBench_107 rfl (lv_at hl 0 rfl) ?_
      refine x_bipush hx hb dX9_writeBench_108 (by decide) ?_
      refine x_callv (ws' := modelC ck mo (encZ S) F1 F2 F3 F4 (wrL (wrL (wrL (wrL (wrL (wrL (wrL (wrL (wrL (wrL (upS (upS M 8 0 0) 8 4 0) (digZ b)) [64]) (digZ (S 1 b))) [44]) (digZ (S 2 b))) [36]) (digZ (rent S b))) [126]) (digZ (noiseB S b))) [61])) [] (M := modelC ck mo (encZ S) F1 F2 F3 F4 (wrL (wrL (wrL (wrL (wrL (wrL (wrL (wrL (wrL (upS (upS M 8 0 0) 8 4 0) (digZ b)) [64]) (digZ (S 1 b))) [44]) (digZ (S 2 b))) [36]) (digZ (rent S b))) [126]) (digZ (noiseB S b)))) (M' := modelC ck mo (encZ S) F1 F2 F3 F4 (wrL (wrL (wrL (wrL (wrL (wrL (wrL (wrL (wrL (wrL (upS (upS M 8 0 0) 8 4 0) (digZ b)) [64]) (digZ (S 1 b))) [44]) (digZ (S 2 b))) [36]) (digZ (rent S b))) [126]) (digZ (noiseB S b))) [61])) ([]) (List.append_nil _).symm (List.append_nil _).symm hP hD hS hA (fun hPm hDm => va_runV (As := [.int (zI 61)]) (rest := []) ⟨hx, hb, hml, hown, htg⟩ (m_writes l dg ck mo S F1 F2 F3 F4 (wrL (wrL (wrL (wrL (wrL (wrL (wrL (wrL (wrL (upS (upS M 8 0 0) 8 4 0) (digZ b)) [64]) (digZ (S 1 b))) [44]) (digZ (S 2 b))) [36]) (digZ (rent S b))) [126]) (digZ (noiseB S b))) 61 _ (by first | omega | (simp only [wrL_84, List.length_cons, List.length_nil]; omega))) (cwV 1 htg (gwV wq_2014 wq_2016 wp_72 wq_15 wq_2017) rfl rfl rfl (by decide +kernel) ⟨Nat.le_of_ble_eq_true rfl, Nat.le_of_ble_eq_true rfl⟩) (wr_preV hK hPm hDm 0 11 rfl rfl) rfl rfl hl.1 rfl (lv_room (Nat.le_of_ble_eq_true rfl)) dX9_writeBench_110 ⟨Nat.zero_le _, Nat.zero_le _⟩) (fun H locs hP hD hS => ?_)
      refine lv_aload_n hx hb dX9_writeBench_113 rfl (lv_at hl 0 rfl) ?_
      refine lv_aload_n hx hb dX9_writeBench_114 rfl (lv_at hl 0 rfl) ?_
      refine lv_iload_n hx hb dX9_writeBench_115 rfl (lv_at hl 1 rfl) ?_
      refine vp_callSi (W.runV (As := [.int (zI b)]) (rest := [.ref (mo 0)]) ⟨hx, hb, hml, hown, htg⟩ (m_by l dg ck mo S F1 F2 F3 F4 (wrL (wrL (wrL (wrL (wrL (wrL (wrL (wrL (wrL (wrL (upS (upS M 8 0 0) 8 4 0) (digZ b)) [64]) (digZ (S 1 b))) [44]) (digZ (S 2 b))) [36]) (digZ (rent S b))) [126]) (digZ (noiseB S b))) [61]) b (by omega)) (cwV 1 htg (gwV wq_1853 wq_1855 wp_59 wq_15 wq_1856) rfl rfl rfl (by decide +kernel) ⟨Nat.le_of_ble_eq_true rfl, Nat.le_of_ble_eq_true rfl⟩) (rd_preV hK hP 0 11 rfl rfl) rfl rfl hl.1 rfl (lv_room (Nat.le_of_ble_eq_true rfl)) dX9_writeBench_116 ⟨Nat.zero_le _, Nat.zero_le _⟩) (fun r116 hr116 => ?_)
      subst hr116
      have q116 := b4 b
      refine x_is (show (S 4 b - 1) = ((S 4 b) - 1) from rfl) ?_
      refine x_callv (ws' := modelC ck mo (encZ S) F1 F2 F3 F4 (wrL (wrL (wrL (wrL (wrL (wrL (wrL (wrL (wrL (wrL (wrL (upS (upS M 8 0 0) 8 4 0) (digZ b)) [64]) (digZ (S 1 b))) [44]) (digZ (S 2 b))) [36]) (digZ (rent S b))) [126]) (digZ (noiseB S b))) [61]) (digZ ((S 4 b) - 1)))) [] (M := modelC ck mo (encZ S) F1 F2 F3 F4 (wrL (wrL (wrL (wrL (wrL (wrL (wrL (wrL (wrL (wrL (upS (upS M 8 0 0) 8 4 0) (digZ b)) [64]) (digZ (S 1 b))) [44]) (digZ (S 2 b))) [36]) (digZ (rent S b))) [126]) (digZ (noiseB S b))) [61])) (M' := modelC ck mo (encZ S) F1 F2 F3 F4 (wrL (wrL (wrL (wrL (wrL (wrL (wrL (wrL (wrL (wrL (wrL (upS (upS M 8 0 0) 8 4 0) (digZ b)) [64]) (digZ (S 1 b))) [44]) (digZ (S 2 b))) [36]) (digZ (rent S b))) [126]) (digZ (noiseB S b))) [61]) (digZ ((S 4 b) - 1)))) ([]) (List.append_nil _).symm (List.append_nil _).symm hP hD hS hA (fun hPm hDm => va_runV (As := [.int (zI ((S 4 b) - 1))]) (rest := []) ⟨hx, hb, hml, hown, htg⟩ (m_writesNumber l dg ck mo S F1 F2 F3 F4 (wrL (wrL (wrL (wrL (wrL (wrL (wrL (wrL (wrL (wrL (upS (upS M 8 0 0) 8 4 0) (digZ b)) [64]) (digZ (S 1 b))) [44]) (digZ (S 2 b))) [36]) (digZ (rent S b))) [126]) (digZ (noiseB S b))) [61]) ((S 4 b) - 1) _ (by omega) (by first | omega | (simp only [wrL_84, List.length_cons, List.length_nil]; omega))) (cwV 1 htg (gwV wq_2010 wq_2012 wp_71 wq_15 wq_2013) rfl rfl rfl (by decide +kernel) ⟨Nat.le_of_ble_eq_true rfl, Nat.le_of_ble_eq_true rfl⟩) (wr_preV hK hPm hDm 0 11 rfl rfl) rfl rfl hl.1 rfl (lv_room (Nat.le_of_ble_eq_true rfl)) dX9_writeBench_119 ⟨Nat.zero_le _, Nat.zero_le _⟩) (fun H locs hP hD hS => ?_)
      refine lv_aload_n hx hb dX9_writeBench_122 rfl (lv_at hl 0 rfl) ?_
      refine x_bipush hx hb dX9_writeBench_123 (by decide) ?_
      refine x_callv (ws' := modelC ck mo (encZ S) F1 F2 F3 F4 (wrL (wrL (wrL (wrL (wrL (wrL (wrL (wrL (wrL (wrL (wrL (wrL (upS (upS M 8 0 0) 8 4 0) (digZ b)) [64]) (digZ (S 1 b))) [44]) (digZ (S 2 b))) [36]) (digZ (rent S b))) [126]) (digZ (noiseB S b))) [61]) (digZ ((S 4 b) - 1))) [47])) [] (M := modelC ck mo (encZ S) F1 F2 F3 F4 (wrL (wrL (wrL (wrL (wrL (wrL (wrL (wrL (wrL (wrL (wrL (upS (upS M 8 0 0) 8 4 0) (digZ b)) [64]) (digZ (S 1 b))) [44]) (digZ (S 2 b))) [36]) (digZ (rent S b))) [126]) (digZ (noiseB S b))) [61]) (digZ ((S 4 b) - 1)))) (M' := modelC ck mo (encZ S) F1 F2 F3 F4 (wrL (wrL (wrL (wrL (wrL (wrL (wrL (wrL (wrL (wrL (wrL (wrL (upS (upS M 8 0 0) 8 4 0) (digZ b)) [64]) (digZ (S 1 b))) [44]) (digZ (S 2 b))) [36]) (digZ (rent S b))) [126]) (digZ (noiseB S b))) [61]) (digZ ((S 4 b) - 1))) [47])) ([]) (List.append_nil _).symm (List.append_nil _).symm hP hD hS hA (fun hPm hDm => va_runV (As := [.int (zI 47)]) (rest := []) ⟨hx, hb, hml, hown, htg⟩ (m_writes l dg ck mo S F1 F2 F3 F4 (wrL (wrL (wrL (wrL (wrL (wrL (wrL (wrL (wrL (wrL (wrL (upS (upS M 8 0 0) 8 4 0) (digZ b)) [64]) (digZ (S 1 b))) [44]) (digZ (S 2 b))) [36]) (digZ (rent S b))) [126]) (digZ (noiseB S b))) [61]) (digZ ((S 4 b) - 1))) 47 _ (by first | omega | (simp only [wrL_84, List.length_cons, List.length_nil]; omega))) (cwV 1 htg (gwV wq_2014 wq_2016 wp_72 wq_15 wq_2017) rfl rfl rfl (by decide +kernel) ⟨Nat.le_of_ble_eq_true rfl, Nat.le_of_ble_eq_true rfl⟩) (wr_preV hK hPm hDm 0 11 rfl rfl) rfl rfl hl.1 rfl (lv_room (Nat.le_of_ble_eq_true rfl)) dX9_writeBench_125 ⟨Nat.zero_le _, Nat.zero_le _⟩) (fun H locs hP hD hS => ?_)
      refine lv_aload_n hx hb dX9_writeBench_128 rfl (lv_at hl 0 rfl) ?_
      refine lv_aload_n hx hb dX9_writeBench_129 rfl (lv_at hl 0 rfl) ?_
      refine lv_iload_n hx hb dX9_writeBench_130 rfl (lv_at hl 1 rfl) ?_
      refine x_iconst hx hb dX9_writeBench_131 ?_
      refine vp_callSi (W.runV (As := [.int (zI b), .int (zI 5)]) (rest := [.ref (mo 0)]) ⟨hx, hb, hml, hown, htg⟩ (m_bench l dg ck mo S F1 F2 F3 F4 (wrL (wrL (wrL (wrL (wrL (wrL (wrL (wrL (wrL (wrL (wrL (wrL (upS (upS M 8 0 0) 8 4 0) (digZ b)) [64]) (digZ (S 1 b))) [44]) (digZ (S 2 b))) [36]) (digZ (rent S b))) [126]) (digZ (noiseB S b))) [61]) (digZ ((S 4 b) - 1))) [47]) b 5 (by omega) (by decide)) (cwV 2 htg (gwV wq_1657 wq_1659 wp_35 wq_15 wq_1660) rfl rfl rfl (by decide +kernel) ⟨Nat.le_of_ble_eq_true rfl, Nat.le_of_ble_eq_true rfl⟩) (rd_preV hK hP 0 11 rfl rfl) rfl rfl hl.1 rfl (lv_room (Nat.le_of_ble_eq_true rfl)) dX9_writeBench_132 ⟨Nat.zero_le _, Nat.zero_le _⟩) (fun r132 hr132 => ?_)
      subst hr132
      have q132 := b6 b
      refine x_is (show (S (1 + Int.toNat 5) b) = (S 6 b) from rfl) ?_
      refine x_callv (ws' := modelC ck mo (encZ S) F1 F2 F3 F4 (wrL (wrL (wrL (wrL (wrL (wrL (wrL (wrL (wrL (wrL (wrL (wrL (wrL (upS (upS M 8 0 0) 8 4 0) (digZ b)) [64]) (digZ (S 1 b))) [44]) (digZ (S 2 b))) [36]) (digZ (rent S b))) [126]) (digZ (noiseB S b))) [61]) (digZ ((S 4 b) - 1))) [47]) (digZ (S 6 b)))) [] (M := modelC ck mo (encZ S) F1 F2 F3 F4 (wrL (wrL (wrL (wrL (wrL (wrL (wrL (wrL (wrL (wrL (wrL (wrL (upS (upS M 8 0 0) 8 4 0) (digZ b)) [64]) (digZ (S 1 b))) [44]) (digZ (S 2 b))) [36]) (digZ (rent S b))) [126]) (digZ (noiseB S b))) [61]) (digZ ((S 4 b) - 1))) [47])) (M' := modelC ck mo (encZ S) F1 F2 F3 F4 (wrL (wrL (wrL (wrL (wrL (wrL (wrL (wrL (wrL (wrL (wrL (wrL (wrL (upS (upS M 8 0 0) 8 4 0) (digZ b)) [64]) (digZ (S 1 b))) [44]) (digZ (S 2 b))) [36]) (digZ (rent S b))) [126]) (digZ (noiseB S b))) [61]) (digZ ((S 4 b) - 1))) [47]) (digZ (S 6 b)))) ([]) (List.append_nil _).symm (List.append_nil _).symm hP hD hS hA (fun hPm hDm => va_runV (As := [.int (zI (S 6 b))]) (rest := []) ⟨hx, hb, hml, hown, htg⟩ (m_writesNumber l dg ck mo S F1 F2 F3 F4 (wrL (wrL (wrL (wrL (wrL (wrL (wrL (wrL (wrL (wrL (wrL (wrL (upS (upS M 8 0 0) 8 4 0) (digZ b)) [64]) (digZ (S 1 b))) [44]) (digZ (S 2 b))) [36]) (digZ (rent S b))) [126]) (digZ (noiseB S b))) [61]) (digZ ((S 4 b) - 1))) [47]) (S 6 b) _ (by omega) (by first | omega | (simp only [wrL_84, List.length_cons, List.length_nil]; omega))) (cwV 1 htg (gwV wq_2010 wq_2012 wp_71 wq_15 wq_2013) rfl rfl rfl (by decide +kernel) ⟨Nat.le_of_ble_eq_true rfl, Nat.le_of_ble_eq_true rfl⟩) (wr_preV hK hPm hDm 0 11 rfl rfl) rfl rfl hl.1 rfl (lv_room (Nat.le_of_ble_eq_true rfl)) dX9_writeBench_135 ⟨Nat.zero_le _, Nat.zero_le _⟩) (fun H locs hP hD hS => ?_)
      refine lv_aload_n hx hb dX9_writeBench_138 rfl (lv_at hl 0 rfl) ?_
      refine va_get (D := dg) (ci := 11) (v := .int (zI ((wrL (wrL (wrL (wrL (wrL (wrL (wrL (wrL (wrL (wrL (wrL (wrL (wrL (upS (upS M 8 0 0) 8 4 0) (digZ b)) [64]) (digZ (S 1 b))) [44]) (digZ (S 2 b))) [36]) (digZ (rent S b))) [126]) (digZ (noiseB S b))) [61]) (digZ ((S 4 b) - 1))) [47]) (digZ (S 6 b))) 8 4))) (C := RX9) (T := TX9) (N := 23) hx hb htg inG_X9 hown hK hP 0 rfl rfl 12 (Nat.le_of_ble_eq_true rfl) (htg _ wq_1569) (fun _ h9 => h9) rfl dX9_writeBench_139 ?_
      have hw : (wrL (wrL (wrL (wrL (wrL (wrL (wrL (wrL (wrL (wrL (wrL (wrL (wrL (upS (upS M 8 0 0) 8 4 0) (digZ b)) [64]) (digZ (S 1 b))) [44]) (digZ (S 2 b))) [36]) (digZ (rent S b))) [126]) (digZ (noiseB S b))) [61]) (digZ ((S 4 b) - 1))) [47]) (digZ (S 6 b))) = wrL (upS (upS M 8 0 0) 8 4 0) (btx S b) := by unfold btx; simp only [wrL_app]; first | (rw [if_pos (by omega)]; simp only [wrL_app]) | (rw [if_neg (by omega)] <;> rfl)
      have hEq : modelC ck mo (encZ S) F1 F2 F3 F4 (if isBench S b then wrL (upS (upS M 8 0 0) 8 4 0) (btx S b) else upS M 8 0 1) = modelC ck mo (encZ S) F1 F2 F3 F4 (wrL (wrL (wrL (wrL (wrL (wrL (wrL (wrL (wrL (wrL (wrL (wrL (wrL (upS (upS M 8 0 0) 8 4 0) (digZ b)) [64]) (digZ (S 1 b))) [44]) (digZ (S 2 b))) [36]) (digZ (rent S b))) [126]) (digZ (noiseB S b))) [61]) (digZ ((S 4 b) - 1))) [47]) (digZ (S 6 b))) := (by rw [if_pos (show isBench S b by omega), hw])
      exact W.iret (v := _) hx hb hr (fun t9 ht9 hW9 => ⟨⟨_, (), rfl, (by rw [itZ_t (show isBench S b by omega), hw, wrL_84, hz0]; congr 1; omega), by rw [ht9, hEq]; exact hP, by rw [hEq, hAe]; exact hD⟩, hS.F ht9⟩) hS.2.2 dX9_writeBench_142

set_option maxHeartbeats 4000000 in
set_option maxRecDepth 100000 in
/-- BenchBrokerModel.writeRow -/
theorem m_writeRow (l : Launch) (dg : va_G) (ck : Nat → ClassId) (mo : Nat → Nat) (S : St) (F1 F2 F3 F4 : Int → Int) (M : St) (x : Int) (sz : Nat) (hI : Bd S) (rg_x : -2147483648 ≤ x ∧ x < 2147483648) : Met l yX9_writeRow (.code yX9_writeRow cX9_writeRow 4 (some .int) :: GW) ({ frames := 2, cells := 0, slots := 0, locals := 45 }) (va_Pc [.ref (mo 0), .int (zI x)] (wrP dg ck sz (modelC ck mo (encZ S) F1 F2 F3 F4 M))) (va_Qi (fun r (_ : Unit) => r = zI (itZ (0 ≤ x ∧ x ≤ 5) 6)) (fun _ t9 => wrQ dg sz (modelC ck mo (encZ S) F1 F2 F3 F4 M) (modelC ck mo (encZ S) F1 F2 F3 F4 (if 0 ≤ x ∧ x ≤ 5 then wrL (upS (upS M 8 0 0) 8 4 0) (rtx S x 6) else upS M 8 0 1)) t9) (va_A (modelC ck mo (encZ S) F1 F2 F3 F4 M) sz)) 0 0 (va_A (modelC ck mo (encZ S) F1 F2 F3 F4 M) sz) := by
  refine Met.ofW (cc := cX9_writeRow) (maxL := 4) (ret := (some .int)) (by decide) rfl ?_
  intro p e s m args below meth c s₁ B hml hv
  obtain ⟨rfl, hsz, hP, hK, hD0⟩ := hv
  have hx := B.exec
  have hb := B.bytes
  have hr := B.returns
  have hts := atoms_spec (ws := .code yX9_writeRow cX9_writeRow 4 (some .int) :: GW) B.pre
  have htg : ∀ w ∈ GW, w.before _ s = true := fun w h => hts w (List.mem_cons_of_mem _ h)
  have hown : s.vm.findClass RX9 = some m.cls := findClass_of_methodNamed B.named
  have hlocks := B.notSynchronized
  subst hsz
  have hD := hD0.self (sz := s.heap.size)
  generalize hAe : va_A (modelC ck mo (encZ S) F1 F2 F3 F4 M) s.heap.size = A at hD ⊢
  have hA : ∀ q : Nat, s.heap.size ≤ q → A q := fun q h => by rw [← hAe]; exact Or.inr h
  have hS : va_S A s.heap s.heap [] := va_S.rf
  have hP : va_P dg vwCl (modelC ck mo (encZ S) F1 F2 F3 F4 M) s.heap := hP
  have hl := lv_entry ([.ref (mo 0), .int (zI x)]) (n := 4) (Nat.le_of_ble_eq_true rfl)
  rw [lg_entry_eq]
  generalize (lg_sl ([.ref (mo 0), .int (zI x)]) ++ List.replicate (4 - (lg_sl ([.ref (mo 0), .int (zI x)])).length) Slot.unset).toArray = ls at hl ⊢
  have hl : lv_has ls 4 [(0, .ref (mo 0)), (1, .int (zI x))] := hl
  obtain ⟨b00, b01, b02, b03, b1, b2, b3, b4, b5, b6, b7, b8, b9, b10, b11, b12⟩ := id hI
  have hz0 : (upS (upS M 8 0 0) 8 4 0) 8 4 = 0 := rfl
  refine lv_aload_n hx hb dX9_writeRow_0 rfl (lv_at hl 0 rfl) ?_
  refine lv_iload_n hx hb dX9_writeRow_1 rfl (lv_at hl 1 rfl) ?_
  refine x_iconst hx hb dX9_writeRow_2 ?_
  refine x_iconst hx hb dX9_writeRow_3 ?_
  refine vp_callSi (W.runS (As := [.int (zI x), .int (zI 0), .int (zI 5)]) (rest := [.ref (mo 0)]) ⟨hx, hb, hml, hown, htg⟩ (m_in l dg ck x 0 5 (by omega) (by omega) (by omega)) (cwS 3 htg (gwS wq_1646 wq_1647 wq_15 wq_1648) rfl rfl rfl (by decide +kernel) ⟨Nat.le_of_ble_eq_true rfl, Nat.le_of_ble_eq_true rfl⟩) (rd_preS hK va_P_nil) rfl rfl hl.1 rfl (lv_room (Nat.le_of_ble_eq_true rfl)) dX9_writeRow_4 ⟨Nat.zero_le _, Nat.zero_le _⟩) (fun r4 hr4 => ?_)
  subst hr4
  refine x_bz_eq (tgt := 14) hx hb dX9_writeRow_7 (by decide) (fun c7 => ?_) (fun c7 => ?_)
  · refine x_iconst hx hb dX9_writeRow_14 ?_
    refine va_put (D := dg) (ci := 11) (v := .int (zI 1)) (ty := .int) (C := RX9) (T := TX9) (N := 23) hx hb htg inG_X9 tyX9 tyX9_ok nmX9 hown hK hP hD hS 0 rfl rfl 0 (Nat.le_of_ble_eq_true rfl) (htg _ wq_1557) (fun _ h9 => h9) rfl (by decide +kernel) rfl rfl (Nat.le_of_ble_eq_true rfl) dX9_writeRow_15 (fun H locs hP hD hS => ?_)
    have hP : va_P dg vwCl (modelC ck mo (encZ S) F1 F2 F3 F4 (upS M 8 0 1)) H := hP
    have hD : va_D A (modelC ck mo (encZ S) F1 F2 F3 F4 (upS M 8 0 1)) := hD
    refine lv_aload_n hx hb dX9_writeRow_18 rfl (lv_at hl 0 rfl) ?_
    refine va_get (D := dg) (ci := 11) (v := .int (zI 1)) (C := RX9) (T := TX9) (N := 23) hx hb htg inG_X9 hown hK hP 0 rfl rfl 0 (Nat.le_of_ble_eq_true rfl) (htg _ wq_1557) (fun _ h9 => h9) rfl dX9_writeRow_19 ?_
    refine x_if_le (tgt := 27) hx hb dX9_writeRow_22 (by decide) (by omega) (fun c22 => absurd c22 (by decide)) (fun c22 => ?_)
    refine x_iconst hx hb dX9_writeRow_25 ?_
    have hEq : modelC ck mo (encZ S) F1 F2 F3 F4 (if 0 ≤ x ∧ x ≤ 5 then wrL (upS (upS M 8 0 0) 8 4 0) (rtx S x 6) else upS M 8 0 1) = modelC ck mo (encZ S) F1 F2 F3 F4 (upS M 8 0 1) := (by rw [if_neg (by omega)])
    exact W.iret (v := _) hx hb hr (fun t9 ht9 hW9 => ⟨⟨_, (), rfl, (by rw [itZ_f (by omega)]), by rw [ht9, hEq]; exact hP, by rw [hEq, hAe]; exact hD⟩, hS.F ht9⟩) hS.2.2 dX9_writeRow_26
  · refine x_iconst hx hb dX9_writeRow_10 ?_
    refine lv_goto (tgt := 15) hx hb dX9_writeRow_11 (by decide) ?_
    refine va_put (D := dg) (ci := 11) (v := .int (zI 0)) (ty := .int) (C := RX9) (T := TX9) (N := 23) hx hb htg inG_X9 tyX9 tyX9_ok nmX9 hown hK hP hD hS 0 rfl rfl 0 (Nat.le_of_ble_eq_true rfl) (htg _ wq_1557) (fun _ h9 => h9) rfl (by decide +kernel) rfl rfl (Nat.le_of_ble_eq_true rfl) dX9_writeRow_15 (fun H locs hP hD hS => ?_)
    have hP : va_P dg vwCl (modelC ck mo (encZ S) F1 F2 F3 F4 (upS M 8 0 0)) H := hP
    have hD : va_D A (modelC ck mo (encZ S) F1 F2 F3 F4 (upS M 8 0 0)) := hD
    refine lv_aload_n hx hb dX9_writeRow_18 rfl (lv_at hl 0 rfl) ?_
    refine va_get (D := dg) (ci := 11) (v := .int (zI 0)) (C := RX9) (T := TX9) (N := 23) hx hb htg inG_X9 hown hK hP 0 rfl rfl 0 (Nat.le_of_ble_eq_true rfl) (htg _ wq_1557) (fun _ h9 => h9) rfl dX9_writeRow_19 ?_
    refine x_if_le (tgt := 27) hx hb dX9_writeRow_22 (by decide) (by omega) (fun c22 => ?_) (fun c22 => absurd c22 (by decide))
    refine lv_aload_n hx hb dX9_writeRow_27 rfl (lv_at hl 0 rfl) ?_
    refine x_iconst hx hb dX9_writeRow_28 ?_
    refine va_put (D := dg) (ci := 11) (v := .int (zI 0)) (ty := .int) (C := RX9) (T := TX9) (N := 23) hx hb htg inG_X9 tyX9 tyX9_ok nmX9 hown hK hP hD hS 0 rfl rfl 12 (Nat.le_of_ble_eq_true rfl) (htg _ wq_1569) (fun _ h9 => h9) rfl (by decide +kernel) rfl rfl (Nat.le_of_ble_eq_true rfl) dX9_writeRow_29 (fun H locs hP hD hS => ?_)
    have hP : va_P dg vwCl (modelC ck mo (encZ S) F1 F2 F3 F4 (upS (upS M 8 0 0) 8 4 0)) H := hP
    have hD : va_D A (modelC ck mo (encZ S) F1 F2 F3 F4 (upS (upS M 8 0 0) 8 4 0)) := hD
    refine x_iconst hx hb dX9_writeRow_32 ?_
    refine lv_istore_n (lv' := [(2, .int (zI 0)), (0, .ref (mo 0)), (1, .int (zI x))]) hx hb dX9_writeRow_33 rfl hl (by decide) rfl (fun ls hl => ?_)
    refine x_loopW (ι := Int) (fun v => 0 ≤ v ∧ v ≤ 6) (fun v => (6 - v).toNat) (fun v => [(0, .ref (mo 0)), (1, .int (zI x)), (2, .int (zI v))]) (fun v => modelC ck mo (encZ S) F1 F2 F3 F4 (wrL (upS (upS M 8 0 0) 8 4 0) (rtx S x v.toNat))) (0) (show 0 ≤ (0 : Int) ∧ (0 : Int) ≤ 6 from (by omega)) (lv_sub hl [1, 2, 0] rfl) hP hD hS ?_
    intro v hv ih_34 ls H locs hl hP hD hS
    obtain ⟨k, rfl⟩ : ∃ z : Int, z = v := ⟨_, rfl⟩
    have hl : lv_has ls 4 [(0, .ref (mo 0)), (1, .int (zI x)), (2, .int (zI k))] := hl
    have hv : 0 ≤ k ∧ k ≤ 6 := hv
    have hP : va_P dg vwCl (modelC ck mo (encZ S) F1 F2 F3 F4 (wrL (upS (upS M 8 0 0) 8 4 0) (rtx S x k.toNat))) H := hP
    have hD : va_D A (modelC ck mo (encZ S) F1 F2 F3 F4 (wrL (upS (upS M 8 0 0) 8 4 0) (rtx S x k.toNat))) := hD
    obtain ⟨hk0, hk9⟩ := hv
    refine lv_iload_n hx hb dX9_writeRow_34 rfl (lv_at hl 2 rfl) ?_
    refine x_bipush hx hb dX9_writeRow_35 (by decide) ?_
    refine x_icmp_ge (tgt := 100) hx hb dX9_writeRow_37 (by decide) (by omega) (by omega) (fun c37 => ?_) (fun c37 => ?_)
    · refine lv_aload_n hx hb dX9_writeRow_100 rfl (lv_at hl 0 rfl) ?_
      refine va_get (D := dg) (ci := 11) (v := .int (zI ((wrL (upS (upS M 8 0 0) 8 4 0) (rtx S x k.toNat)) 8 4))) (C := RX9) (T := TX9) (N := 23) hx hb htg inG_X9 hown hK hP 0 rfl rfl 12 (Nat.le_of_ble_eq_true rfl) (htg _ wq_1569) (fun _ h9 => h9) rfl dX9_writeRow_101 ?_
      have hEq : modelC ck mo (encZ S) F1 F2 F3 F4 (if 0 ≤ x ∧ x ≤ 5 then wrL (upS (upS M 8 0 0) 8 4 0) (rtx S x 6) else upS M 8 0 1) = modelC ck mo (encZ S) F1 F2 F3 F4 (wrL (upS (upS M 8 0 0) 8 4 0) (rtx S x k.toNat)) := (by rw [if_pos (by omega), show k.toNat = 6 by omega])
      exact W.iret (v := _) hx hb hr (fun t9 ht9 hW9 => ⟨⟨_, (), rfl, (by rw [itZ_t (by omega), wrL_84, hz0, rtx_l]; congr 1; omega), by rw [ht9, hEq]; exact hP, by rw [hEq, hAe]; exact hD⟩, hS.F ht9⟩) hS.2.2 dX9_writeRow_104
    · have hhr := holder_r hI x k
      refine lv_aload_n hx hb dX9_writeRow_40 rfl (lv_at hl 0 rfl) ?_
      refine lv_iload_n hx hb dX9_writeRow_41 rfl (lv_at hl 1 rfl) ?_
      refine lv_iload_n hx hb dX9_writeRow_42 rfl (lv_at hl 2 rfl) ?_
      refine vp_callSi (W.runV (As := [.int (zI x), .int (zI k)]) (rest := []) ⟨hx, hb, hml, hown, htg⟩ (m_holder l dg ck mo S F1 F2 F3 F4 (wrL (upS (upS M 8 0 0) 8 4 0) (rtx S x k.toNat)) x k hI (by omega) (by omega)) (cwV 2 htg (gwV wq_1653 wq_1655 wp_34 wq_15 wq_1656) rfl rfl rfl (by decide +kernel) ⟨Nat.le_of_ble_eq_true rfl, Nat.le_of_ble_eq_true rfl⟩) (rd_preV hK hP 0 11 rfl rfl) rfl rfl hl.1 rfl (lv_room (Nat.le_of_ble_eq_true rfl)) dX9_writeRow_43 ⟨Nat.zero_le _, Nat.zero_le _⟩) (fun r43 hr43 => ?_)
      subst hr43
      refine lv_istore_n (lv' := [(3, .int (zI (holder S x k))), (0, .ref (mo 0)), (1, .int (zI x)), (2, .int (zI k))]) hx hb dX9_writeRow_46 rfl hl (by decide) rfl (fun ls hl => ?_)
      refine lv_aload_n hx hb dX9_writeRow_47 rfl (lv_at hl 1 rfl) ?_
      refine lv_iload_n hx hb dX9_writeRow_48 rfl (lv_at hl 0 rfl) ?_
      refine x_iconst hx hb dX9_writeRow_49 ?_
      refine x_icmp_ne (tgt := 58) hx hb dX9_writeRow_50 (by decide) (by omega) (by omega) (fun c50 => ?_) (fun c50 => ?_)
      · refine lv_iload_n hx hb dX9_writeRow_58 rfl (lv_at hl 0 rfl) ?_
        refine x_bipush hx hb dX9_writeRow_59 (by decide) ?_
        refine x_icmp_ge (tgt := 71) hx hb dX9_writeRow_61 (by decide) (by omega) (by omega) (fun c61 => ?_) (fun c61 => ?_)
        · refine lv_aload_n hx hb dX9_writeRow_71 rfl (lv_at hl 1 rfl) ?_
          refine lv_iload_n hx hb dX9_writeRow_72 rfl (lv_at hl 0 rfl) ?_
          refine x_bipush hx hb dX9_writeRow_73 (by decide) ?_
          refine x_isub hx hb dX9_writeRow_75 ?_
          refine x_iconst hx hb dX9_writeRow_76 ?_
          refine vp_callSi (W.runV (As := [.int (zI ((holder S x k) - 10)), .int (zI 3)]) (rest := [.ref (mo 0)]) ⟨hx, hb, hml, hown, htg⟩ (m_fountain l dg ck mo S F1 F2 F3 F4 (wrL (upS (upS M 8 0 0) 8 4 0) (rtx S x k.toNat)) ((holder S x k) - 10) 3 (by omega) (by decide)) (cwV 2 htg (gwV wq_1661 wq_1663 wp_36 wq_15 wq_1664) rfl rfl rfl (by decide +kernel) ⟨Nat.le_of_ble_eq_true rfl, Nat.le_of_ble_eq_true rfl⟩) (rd_preV hK hP 0 11 rfl rfl) rfl rfl hl.1 rfl (lv_room (Nat.le_of_ble_eq_true rfl)) dX9_writeRow_77 ⟨Nat.zero_le _, Nat.zero_le _⟩) (fun r77 hr77 => ?_)
          subst hr77
          have q77 := b10 ((holder S x k) - 10)
          refine x_is (show (S (7 + Int.toNat 3) ((holder S x k) - 10)) = (S 10 ((holder S x k) - 10)) from rfl) ?_
          refine x_iconst hx hb dX9_writeRow_80 ?_
          refine x_icmp_ne (tgt := 89) hx hb dX9_writeRow_81 (by decide) (by omega) (by omega) (fun c81 => ?_) (fun c81 => ?_)
          · refine x_bipush hx hb dX9_writeRow_89 (by decide) ?_
            refine x_callv (ws' := modelC ck mo (encZ S) F1 F2 F3 F4 (wrL (wrL (upS (upS M 8 0 0) 8 4 0) (rtx S x k.toNat)) [102])) [] (M := modelC ck mo (encZ S) F1 F2 F3 F4 (wrL (upS (upS M 8 0 0) 8 4 0) (rtx S x k.toNat))) (M' := modelC ck mo (encZ S) F1 F2 F3 F4 (wrL (wrL (upS (upS M 8 0 0) 8 4 0) (rtx S x k.toNat)) [102])) ([]) (List.append_nil _).symm (List.append_nil _).symm hP hD hS hA (fun hPm hDm => va_runV (As := [.int (zI 102)]) (rest := []) ⟨hx, hb, hml, hown, htg⟩ (m_writes l dg ck mo S F1 F2 F3 F4 (wrL (upS (upS M 8 0 0) 8 4 0) (rtx S x k.toNat)) 102 _ (by rw [wrL_84, hz0, rtx_l]; omega)) (cwV 1 htg (gwV wq_2014 wq_2016 wp_72 wq_15 wq_2017) rfl rfl rfl (by decide +kernel) ⟨Nat.le_of_ble_eq_true rfl, Nat.le_of_ble_eq_true rfl⟩) (wr_preV hK hPm hDm 0 11 rfl rfl) rfl rfl hl.1 rfl (lv_room (Nat.le_of_ble_eq_true rfl)) dX9_writeRow_91 ⟨Nat.zero_le _, Nat.zero_le _⟩) (fun H locs hP hD hS => ?_)
            have hCe : (wrL (upS (upS M 8 0 0) 8 4 0) (rtx S x (k + 1).toNat)) = (wrL (wrL (upS (upS M 8 0 0) 8 4 0) (rtx S x k.toNat)) [102]) := (by rw [rtx_s hk0, wrL_app]; congr 2; unfold sgnZ; (repeat (first | rw [if_pos (by omega)] | rw [if_neg (by omega)])))
            have hP : va_P dg vwCl (modelC ck mo (encZ S) F1 F2 F3 F4 (wrL (upS (upS M 8 0 0) 8 4 0) (rtx S x (k + 1).toNat))) _ := va_P_eq (by rw [hCe]) hP
            have hD : va_D A (modelC ck mo (encZ S) F1 F2 F3 F4 (wrL (upS (upS M 8 0 0) 8 4 0) (rtx S x (k + 1).toNat))) := va_D_eq (by rw [hCe]) hD
            refine lv_iinc (v := zI (k + 1)) (lv' := [(2, .int (zI (k + 1))), (3, .int (zI (holder S x k))), (0, .ref (mo 0)), (1, .int (zI x))]) hx hb dX9_writeRow_94 hl (k := 3) rfl (zI_add _ _) (by decide) rfl (fun ls hl => ?_)
            refine lv_goto (tgt := 34) hx hb dX9_writeRow_97 (by decide) ?_
            exact ih_34 ((k + 1)) (show 0 ≤ (k + 1) ∧ (k + 1) ≤ 6 from (by omega)) (show (6 - (k + 1)).toNat < (6 - k).toNat from by omega) ls H locs (lv_sub hl [2, 3, 0] rfl) hP hD hS
          · refine x_bipush hx hb dX9_writeRow_84 (by decide) ?_
            refine lv_goto (tgt := 91) hx hb dX9_writeRow_86 (by decide) ?_
            refine x_callv (ws' := modelC ck mo (encZ S) F1 F2 F3 F4 (wrL (wrL (upS (upS M 8 0 0) 8 4 0) (rtx S x k.toNat)) [70])) [] (M := modelC ck mo (encZ S) F1 F2 F3 F4 (wrL (upS (upS M 8 0 0) 8 4 0) (rtx S x k.toNat))) (M' := modelC ck mo (encZ S) F1 F2 F3 F4 (wrL (wrL (upS (upS M 8 0 0) 8 4 0) (rtx S x k.toNat)) [70])) ([]) (List.append_nil _).symm (List.append_nil _).symm hP hD hS hA (fun hPm hDm => va_runV (As := [.int (zI 70)]) (rest := []) ⟨hx, hb, hml, hown, htg⟩ (m_writes l dg ck mo S F1 F2 F3 F4 (wrL (upS (upS M 8 0 0) 8 4 0) (rtx S x k.toNat)) 70 _ (by rw [wrL_84, hz0, rtx_l]; omega)) (cwV 1 htg (gwV wq_2014 wq_2016 wp_72 wq_15 wq_2017) rfl rfl rfl (by decide +kernel) ⟨Nat.le_of_ble_eq_true rfl, Nat.le_of_ble_eq_true rfl⟩) (wr_preV hK hPm hDm 0 11 rfl rfl) rfl rfl hl.1 rfl (lv_room (Nat.le_of_ble_eq_true rfl)) dX9_writeRow_91 ⟨Nat.zero_le _, Nat.zero_le _⟩) (fun H locs hP hD hS => ?_)
            have hCe : (wrL (upS (upS M 8 0 0) 8 4 0) (rtx S x (k + 1).toNat)) = (wrL (wrL (upS (upS M 8 0 0) 8 4 0) (rtx S x k.toNat)) [70]) := (by rw [rtx_s hk0, wrL_app]; congr 2; unfold sgnZ; (repeat (first | rw [if_pos (by omega)] | rw [if_neg (by omega)])))
            have hP : va_P dg vwCl (modelC ck mo (encZ S) F1 F2 F3 F4 (wrL (upS (upS M 8 0 0) 8 4 0) (rtx S x (k + 1).toNat))) _ := va_P_eq (by rw [hCe]) hP
            have hD : va_D A (modelC ck mo (encZ S) F1 F2 F3 F4 (wrL (upS (upS M 8 0 0) 8 4 0) (rtx S x (k + 1).toNat))) := va_D_eq (by rw [hCe]) hD
            refine lv_iinc (v := zI (k + 1)) (lv' := [(2, .int (zI (k + 1))), (3, .int (zI (holder S x k))), (0, .ref (mo 0)), (1, .int (zI x))]) hx hb dX9_writeRow_94 hl (k := 3) rfl (zI_add _ _) (by decide) rfl (fun ls hl => ?_)
            refine lv_goto (tgt := 34) hx hb dX9_writeRow_97 (by decide) ?_
            exact ih_34 ((k + 1)) (show 0 ≤ (k + 1) ∧ (k + 1) ≤ 6 from (by omega)) (show (6 - (k + 1)).toNat < (6 - k).toNat from by omega) ls H locs (lv_sub hl [2, 3, 0] rfl) hP hD hS
        · refine x_bipush hx hb dX9_writeRow_64 (by decide) ?_
          refine lv_iload_n hx hb dX9_writeRow_66 rfl (lv_at hl 0 rfl) ?_
          refine x_iadd hx hb dX9_writeRow_67 ?_
          refine lv_goto (tgt := 91) hx hb dX9_writeRow_68 (by decide) ?_
          refine x_callv (ws' := modelC ck mo (encZ S) F1 F2 F3 F4 (wrL (wrL (upS (upS M 8 0 0) 8 4 0) (rtx S x k.toNat)) [(48 + (holder S x k))])) [] (M := modelC ck mo (encZ S) F1 F2 F3 F4 (wrL (upS (upS M 8 0 0) 8 4 0) (rtx S x k.toNat))) (M' := modelC ck mo (encZ S) F1 F2 F3 F4 (wrL (wrL (upS (upS M 8 0 0) 8 4 0) (rtx S x k.toNat)) [(48 + (holder S x k))])) ([]) (List.append_nil _).symm (List.append_nil _).symm hP hD hS hA (fun hPm hDm => va_runV (As := [.int (zI (48 + (holder S x k)))]) (rest := []) ⟨hx, hb, hml, hown, htg⟩ (m_writes l dg ck mo S F1 F2 F3 F4 (wrL (upS (upS M 8 0 0) 8 4 0) (rtx S x k.toNat)) (48 + (holder S x k)) _ (by rw [wrL_84, hz0, rtx_l]; omega)) (cwV 1 htg (gwV wq_2014 wq_2016 wp_72 wq_15 wq_2017) rfl rfl rfl (by decide +kernel) ⟨Nat.le_of_ble_eq_true rfl, Nat.le_of_ble_eq_true rfl⟩) (wr_preV hK hPm hDm 0 11 rfl rfl) rfl rfl hl.1 rfl (lv_room (Nat.le_of_ble_eq_true rfl)) dX9_writeRow_91 ⟨Nat.zero_le _, Nat.zero_le _⟩) (fun H locs hP hD hS => ?_)
          have hCe : (wrL (upS (upS M 8 0 0) 8 4 0) (rtx S x (k + 1).toNat)) = (wrL (wrL (upS (upS M 8 0 0) 8 4 0) (rtx S x k.toNat)) [(48 + (holder S x k))]) := (by rw [rtx_s hk0, wrL_app]; congr 2; unfold sgnZ; (repeat (first | rw [if_pos (by omega)] | rw [if_neg (by omega)])))
          have hP : va_P dg vwCl (modelC ck mo (encZ S) F1 F2 F3 F4 (wrL (upS (upS M 8 0 0) 8 4 0) (rtx S x (k + 1).toNat))) _ := va_P_eq (by rw [hCe]) hP
          have hD : va_D A (modelC ck mo (encZ S) F1 F2 F3 F4 (wrL (upS (upS M 8 0 0) 8 4 0) (rtx S x (k + 1).toNat))) := va_D_eq (by rw [hCe]) hD
          refine lv_iinc (v := zI (k + 1)) (lv' := [(2, .int (zI (k + 1))), (3, .int (zI (holder S x k))), (0, .ref (mo 0)), (1, .int (zI x))]) hx hb dX9_writeRow_94 hl (k := 3) rfl (zI_add _ _) (by decide) rfl (fun ls hl => ?_)
          refine lv_goto (tgt := 34) hx hb dX9_writeRow_97 (by decide) ?_
          exact ih_34 ((k + 1)) (show 0 ≤ (k + 1) ∧ (k + 1) ≤ 6 from (by omega)) (show (6 - (k + 1)).toNat < (6 - k).toNat from by omega) ls H locs (lv_sub hl [2, 3, 0] rfl) hP hD hS
      · refine x_bipush hx hb dX9_writeRow_53 (by decide) ?_
        refine lv_goto (tgt := 91) hx hb dX9_writeRow_55 (by decide) ?_
        refine x_callv (ws' := modelC ck mo (encZ S) F1 F2 F3 F4 (wrL (wrL (upS (upS M 8 0 0) 8 4 0) (rtx S x k.toNat)) [46])) [] (M := modelC ck mo (encZ S) F1 F2 F3 F4 (wrL (upS (upS M 8 0 0) 8 4 0) (rtx S x k.toNat))) (M' := modelC ck mo (encZ S) F1 F2 F3 F4 (wrL (wrL (upS (upS M 8 0 0) 8 4 0) (rtx S x k.toNat)) [46])) ([]) (List.append_nil _).symm (List.append_nil _).symm hP hD hS hA (fun hPm hDm => va_runV (As := [.int (zI 46)]) (rest := []) ⟨hx, hb, hml, hown, htg⟩ (m_writes l dg ck mo S F1 F2 F3 F4 (wrL (upS (upS M 8 0 0) 8 4 0) (rtx S x k.toNat)) 46 _ (by rw [wrL_84, hz0, rtx_l]; omega)) (cwV 1 htg (gwV wq_2014 wq_2016 wp_72 wq_15 wq_2017) rfl rfl rfl (by decide +kernel) ⟨Nat.le_of_ble_eq_true rfl, Nat.le_of_ble_eq_true rfl⟩) (wr_preV hK hPm hDm 0 11 rfl rfl) rfl rfl hl.1 rfl (lv_room (Nat.le_of_ble_eq_true rfl)) dX9_writeRow_91 ⟨Nat.zero_le _, Nat.zero_le _⟩) (fun H locs hP hD hS => ?_)
        have hCe : (wrL (upS (upS M 8 0 0) 8 4 0) (rtx S x (k + 1).toNat)) = (wrL (wrL (upS (upS M 8 0 0) 8 4 0) (rtx S x k.toNat)) [46]) := (by rw [rtx_s hk0, wrL_app]; congr 2; unfold sgnZ; (repeat (first | rw [if_pos (by omega)] | rw [if_neg (by omega)])))
        have hP : va_P dg vwCl (modelC ck mo (encZ S) F1 F2 F3 F4 (wrL (upS (upS M 8 0 0) 8 4 0) (rtx S x (k + 1).toNat))) _ := va_P_eq (by rw [hCe]) hP
        have hD : va_D A (modelC ck mo (encZ S) F1 F2 F3 F4 (wrL (upS (upS M 8 0 0) 8 4 0) (rtx S x (k + 1).toNat))) := va_D_eq (by rw [hCe]) hD
        refine lv_iinc (v := zI (k + 1)) (lv' := [(2, .int (zI (k + 1))), (3, .int (zI (holder S x k))), (0, .ref (mo 0)), (1, .int (zI x))]) hx hb dX9_writeRow_94 hl (k := 3) rfl (zI_add _ _) (by decide) rfl (fun ls hl => ?_)
        refine lv_goto (tgt := 34) hx hb dX9_writeRow_97 (by decide) ?_
        exact ih_34 ((k + 1)) (show 0 ≤ (k + 1) ∧ (k + 1) ≤ 6 from (by omega)) (show (6 - (k + 1)).toNat < (6 - k).toNat from by omega) ls H locs (lv_sub hl [2, 3, 0] rfl) hP hD hS

set_option maxHeartbeats 4000000 in
set_option maxRecDepth 100000 in
/-- BenchBrokerModel.outputAt -/
theorem m_outputAt (l : Launch) (dg : va_G) (ck : Nat → ClassId) (mo : Nat → Nat) (S : St) (F1 F2 F3 F4 : Int → Int) (M : St) (x : Int) (sz : Nat) (rg_x : -2147483648 ≤ x ∧ x < 2147483648) (hol : 0 ≤ M 8 4 ∧ M 8 4 ≤ 60) (hot : ∀ i, 0 ≤ i → i < M 8 4 → 0 ≤ M 7 i ∧ M 7 i < 65536) : Met l yX9_outputAt (.code yX9_outputAt cX9_outputAt 2 (some .char) :: GW) ({ frames := 1, cells := 0, slots := 0, locals := 22 }) (va_Pc [.ref (mo 0), .int (zI x)] (wrP dg ck sz (modelC ck mo (encZ S) F1 F2 F3 F4 M))) (va_Qi (fun r (_ : Unit) => r = zI (itZ (0 ≤ x ∧ x ≤ M 8 4 - 1) (M 7 x))) (fun _ t9 => wrQ dg sz (modelC ck mo (encZ S) F1 F2 F3 F4 M) (modelC ck mo (encZ S) F1 F2 F3 F4 (upS M 8 0 (1 - bI (0 ≤ x ∧ x ≤ M 8 4 - 1)))) t9) (va_A (modelC ck mo (encZ S) F1 F2 F3 F4 M) sz)) 0 0 (va_A (modelC ck mo (encZ S) F1 F2 F3 F4 M) sz) := by
  refine Met.ofW (cc := cX9_outputAt) (maxL := 2) (ret := (some .char)) (by decide) rfl ?_
  intro p e s m args below meth c s₁ B hml hv
  obtain ⟨rfl, hsz, hP, hK, hD0⟩ := hv
  have hx := B.exec
  have hb := B.bytes
  have hr := B.returns
  have hts := atoms_spec (ws := .code yX9_outputAt cX9_outputAt 2 (some .char) :: GW) B.pre
  have htg : ∀ w ∈ GW, w.before _ s = true := fun w h => hts w (List.mem_cons_of_mem _ h)
  have hown : s.vm.findClass RX9 = some m.cls := findClass_of_methodNamed B.named
  have hlocks := B.notSynchronized
  subst hsz
  have hD := hD0.self (sz := s.heap.size)
  generalize hAe : va_A (modelC ck mo (encZ S) F1 F2 F3 F4 M) s.heap.size = A at hD ⊢
  have hA : ∀ q : Nat, s.heap.size ≤ q → A q := fun q h => by rw [← hAe]; exact Or.inr h
  have hS : va_S A s.heap s.heap [] := va_S.rf
  have hP : va_P dg vwCl (modelC ck mo (encZ S) F1 F2 F3 F4 M) s.heap := hP
  have hl := lv_entry ([.ref (mo 0), .int (zI x)]) (n := 2) (Nat.le_of_ble_eq_true rfl)
  rw [lg_entry_eq]
  generalize (lg_sl ([.ref (mo 0), .int (zI x)]) ++ List.replicate (2 - (lg_sl ([.ref (mo 0), .int (zI x)])).length) Slot.unset).toArray = ls at hl ⊢
  have hl : lv_has ls 2 [(0, .ref (mo 0)), (1, .int (zI x))] := hl
  refine lv_aload_n hx hb dX9_outputAt_0 rfl (lv_at hl 0 rfl) ?_
  refine lv_iload_n hx hb dX9_outputAt_1 rfl (lv_at hl 1 rfl) ?_
  refine x_iconst hx hb dX9_outputAt_2 ?_
  refine lv_aload_n hx hb dX9_outputAt_3 rfl (lv_at hl 0 rfl) ?_
  refine va_get (D := dg) (ci := 11) (v := .int (zI (M 8 4))) (C := RX9) (T := TX9) (N := 23) hx hb htg inG_X9 hown hK hP 0 rfl rfl 12 (Nat.le_of_ble_eq_true rfl) (htg _ wq_1569) (fun _ h9 => h9) rfl dX9_outputAt_4 ?_
  refine x_iconst hx hb dX9_outputAt_7 ?_
  refine x_isub hx hb dX9_outputAt_8 ?_
  refine vp_callSi (W.runS (As := [.int (zI x), .int (zI 0), .int (zI ((M 8 4) - 1))]) (rest := [.ref (mo 0)]) ⟨hx, hb, hml, hown, htg⟩ (m_in l dg ck x 0 ((M 8 4) - 1) (by omega) (by omega) (by omega)) (cwS 3 htg (gwS wq_1646 wq_1647 wq_15 wq_1648) rfl rfl rfl (by decide +kernel) ⟨Nat.le_of_ble_eq_true rfl, Nat.le_of_ble_eq_true rfl⟩) (rd_preS hK va_P_nil) rfl rfl hl.1 rfl (lv_room (Nat.le_of_ble_eq_true rfl)) dX9_outputAt_9 ⟨Nat.zero_le _, Nat.zero_le _⟩) (fun r9 hr9 => ?_)
  subst hr9
  refine x_bz_eq (tgt := 19) hx hb dX9_outputAt_12 (by decide) (fun c12 => ?_) (fun c12 => ?_)
  · refine x_iconst hx hb dX9_outputAt_19 ?_
    refine va_put (D := dg) (ci := 11) (v := .int (zI 1)) (ty := .int) (C := RX9) (T := TX9) (N := 23) hx hb htg inG_X9 tyX9 tyX9_ok nmX9 hown hK hP hD hS 0 rfl rfl 0 (Nat.le_of_ble_eq_true rfl) (htg _ wq_1557) (fun _ h9 => h9) rfl (by decide +kernel) rfl rfl (Nat.le_of_ble_eq_true rfl) dX9_outputAt_20 (fun H locs hP hD hS => ?_)
    have hP : va_P dg vwCl (modelC ck mo (encZ S) F1 F2 F3 F4 (upS M 8 0 1)) H := hP
    have hD : va_D A (modelC ck mo (encZ S) F1 F2 F3 F4 (upS M 8 0 1)) := hD
    refine lv_aload_n hx hb dX9_outputAt_23 rfl (lv_at hl 0 rfl) ?_
    refine va_get (D := dg) (ci := 11) (v := .int (zI 1)) (C := RX9) (T := TX9) (N := 23) hx hb htg inG_X9 hown hK hP 0 rfl rfl 0 (Nat.le_of_ble_eq_true rfl) (htg _ wq_1557) (fun _ h9 => h9) rfl dX9_outputAt_24 ?_
    refine x_if_le (tgt := 34) hx hb dX9_outputAt_27 (by decide) (by omega) (fun c27 => absurd c27 (by decide)) (fun c27 => ?_)
    refine x_iconst hx hb dX9_outputAt_30 ?_
    refine lv_goto (tgt := 41) hx hb dX9_outputAt_31 (by decide) ?_
    have hEq : modelC ck mo (encZ S) F1 F2 F3 F4 (upS M 8 0 (1 - bI (0 ≤ x ∧ x ≤ M 8 4 - 1))) = modelC ck mo (encZ S) F1 F2 F3 F4 (upS M 8 0 1) := (by first | (rw [bI_t (by omega)] <;> rfl) | (rw [bI_f (by omega)] <;> rfl))
    exact W.zret (v := _) hx hb hr (by first | rfl | exact narC (by omega)) (fun t9 ht9 hW9 => ⟨⟨_, (), rfl, (by first | (rw [itZ_t (by omega)] <;> rfl) | (rw [itZ_f (by omega)] <;> rfl)), by rw [ht9, hEq]; exact hP, by rw [hEq, hAe]; exact hD⟩, hS.F ht9⟩) hS.2.2 dX9_outputAt_41
  · refine x_iconst hx hb dX9_outputAt_15 ?_
    refine lv_goto (tgt := 20) hx hb dX9_outputAt_16 (by decide) ?_
    refine va_put (D := dg) (ci := 11) (v := .int (zI 0)) (ty := .int) (C := RX9) (T := TX9) (N := 23) hx hb htg inG_X9 tyX9 tyX9_ok nmX9 hown hK hP hD hS 0 rfl rfl 0 (Nat.le_of_ble_eq_true rfl) (htg _ wq_1557) (fun _ h9 => h9) rfl (by decide +kernel) rfl rfl (Nat.le_of_ble_eq_true rfl) dX9_outputAt_20 (fun H locs hP hD hS => ?_)
    have hP : va_P dg vwCl (modelC ck mo (encZ S) F1 F2 F3 F4 (upS M 8 0 0)) H := hP
    have hD : va_D A (modelC ck mo (encZ S) F1 F2 F3 F4 (upS M 8 0 0)) := hD
    refine lv_aload_n hx hb dX9_outputAt_23 rfl (lv_at hl 0 rfl) ?_
    refine va_get (D := dg) (ci := 11) (v := .int (zI 0)) (C := RX9) (T := TX9) (N := 23) hx hb htg inG_X9 hown hK hP 0 rfl rfl 0 (Nat.le_of_ble_eq_true rfl) (htg _ wq_1557) (fun _ h9 => h9) rfl dX9_outputAt_24 ?_
    refine x_if_le (tgt := 34) hx hb dX9_outputAt_27 (by decide) (by omega) (fun c27 => ?_) (fun c27 => absurd c27 (by decide))
    refine lv_aload_n hx hb dX9_outputAt_34 rfl (lv_at hl 0 rfl) ?_
    refine va_get (D := dg) (ci := 11) (v := .ref (mo 8)) (C := RX9) (T := TX9) (N := 23) hx hb htg inG_X9 hown hK hP 0 rfl rfl 10 (Nat.le_of_ble_eq_true rfl) (htg _ wq_1567) (fun _ h9 => h9) rfl dX9_outputAt_35 ?_
    refine lv_iload_n hx hb dX9_outputAt_38 rfl (lv_at hl 1 rfl) ?_
    refine x_iald hx hb hK hP 8 0 (M 7) rfl rfl (fun _ => rfl) (P := fun y => True) (fun _ => trivial) (by decide) (by omega) dX9_outputAt_39 (fun g39 => ?_)
    have hox := hot x (by omega) (by omega)
    refine x_i2c hx hb dX9_outputAt_40 (by omega) ?_
    have hEq : modelC ck mo (encZ S) F1 F2 F3 F4 (upS M 8 0 (1 - bI (0 ≤ x ∧ x ≤ M 8 4 - 1))) = modelC ck mo (encZ S) F1 F2 F3 F4 (upS M 8 0 0) := (by first | (rw [bI_t (by omega)] <;> rfl) | (rw [bI_f (by omega)] <;> rfl))
    exact W.zret (v := _) hx hb hr (by first | rfl | exact narC (by omega)) (fun t9 ht9 hW9 => ⟨⟨_, (), rfl, (by first | (rw [itZ_t (by omega)] <;> rfl) | (rw [itZ_f (by omega)] <;> rfl)), by rw [ht9, hEq]; exact hP, by rw [hEq, hAe]; exact hD⟩, hS.F ht9⟩) hS.2.2 dX9_outputAt_41

set_option maxHeartbeats 4000000 in
set_option maxRecDepth 100000 in
/-- BenchBrokerModel.appendInput -/
theorem m_appendInput (l : Launch) (dg : va_G) (ck : Nat → ClassId) (mo : Nat → Nat) (S : St) (F1 F2 F3 F4 : Int → Int) (M : St) (x : Int) (sz : Nat) (rg_x : -2147483648 ≤ x ∧ x < 2147483648) (hln : 0 ≤ M 8 3 ∧ M 8 3 ≤ 60) : Met l yX9_appendInput (.code yX9_appendInput cX9_appendInput 2 (some .int) :: GW) ({ frames := 1, cells := 0, slots := 0, locals := 22 }) (va_Pc [.ref (mo 0), .int (zI x)] (wrP dg ck sz (modelC ck mo (encZ S) F1 F2 F3 F4 M))) (va_Qi (fun r (_ : Unit) => r = zI (itZ (32 ≤ x ∧ x ≤ 126 ∧ M 8 3 ≠ 60) (M 8 3 + 1))) (fun _ t9 => wrQ dg sz (modelC ck mo (encZ S) F1 F2 F3 F4 M) (modelC ck mo (encZ S) F1 F2 F3 F4 (if ¬ (32 ≤ x ∧ x ≤ 126) then upS M 8 0 1 else if M 8 3 = 60 then upS M 8 0 2 else upS (upS (upS M 8 0 0) 5 (M 8 3) x) 8 3 (M 8 3 + 1))) t9) (va_A (modelC ck mo (encZ S) F1 F2 F3 F4 M) sz)) 0 0 (va_A (modelC ck mo (encZ S) F1 F2 F3 F4 M) sz) := by
  refine Met.ofW (cc := cX9_appendInput) (maxL := 2) (ret := (some .int)) (by decide) rfl ?_
  intro p e s m args below meth c s₁ B hml hv
  obtain ⟨rfl, hsz, hP, hK, hD0⟩ := hv
  have hx := B.exec
  have hb := B.bytes
  have hr := B.returns
  have hts := atoms_spec (ws := .code yX9_appendInput cX9_appendInput 2 (some .int) :: GW) B.pre
  have htg : ∀ w ∈ GW, w.before _ s = true := fun w h => hts w (List.mem_cons_of_mem _ h)
  have hown : s.vm.findClass RX9 = some m.cls := findClass_of_methodNamed B.named
  have hlocks := B.notSynchronized
  subst hsz
  have hD := hD0.self (sz := s.heap.size)
  generalize hAe : va_A (modelC ck mo (encZ S) F1 F2 F3 F4 M) s.heap.size = A at hD ⊢
  have hA : ∀ q : Nat, s.heap.size ≤ q → A q := fun q h => by rw [← hAe]; exact Or.inr h
  have hS : va_S A s.heap s.heap [] := va_S.rf
  have hP : va_P dg vwCl (modelC ck mo (encZ S) F1 F2 F3 F4 M) s.heap := hP
  have hl := lv_entry ([.ref (mo 0), .int (zI x)]) (n := 2) (Nat.le_of_ble_eq_true rfl)
  rw [lg_entry_eq]
  generalize (lg_sl ([.ref (mo 0), .int (zI x)]) ++ List.replicate (2 - (lg_sl ([.ref (mo 0), .int (zI x)])).length) Slot.unset).toArray = ls at hl ⊢
  have hl : lv_has ls 2 [(0, .ref (mo 0)), (1, .int (zI x))] := hl
  refine lv_aload_n hx hb dX9_appendInput_0 rfl (lv_at hl 0 rfl) ?_
  refine lv_iload_n hx hb dX9_appendInput_1 rfl (lv_at hl 1 rfl) ?_
  refine x_bipush hx hb dX9_appendInput_2 (by decide) ?_
  refine x_bipush hx hb dX9_appendInput_4 (by decide) ?_
  refine vp_callSi (W.runS (As := [.int (zI x), .int (zI 32), .int (zI 126)]) (rest := [.ref (mo 0)]) ⟨hx, hb, hml, hown, htg⟩ (m_in l dg ck x 32 126 (by omega) (by omega) (by omega)) (cwS 3 htg (gwS wq_1646 wq_1647 wq_15 wq_1648) rfl rfl rfl (by decide +kernel) ⟨Nat.le_of_ble_eq_true rfl, Nat.le_of_ble_eq_true rfl⟩) (rd_preS hK va_P_nil) rfl rfl hl.1 rfl (lv_room (Nat.le_of_ble_eq_true rfl)) dX9_appendInput_6 ⟨Nat.zero_le _, Nat.zero_le _⟩) (fun r6 hr6 => ?_)
  subst hr6
  refine x_bz_ne (tgt := 16) hx hb dX9_appendInput_9 (by decide) (fun c9 => ?_) (fun c9 => ?_)
  · refine lv_aload_n hx hb dX9_appendInput_16 rfl (lv_at hl 0 rfl) ?_
    refine va_get (D := dg) (ci := 11) (v := .int (zI (M 8 3))) (C := RX9) (T := TX9) (N := 23) hx hb htg inG_X9 hown hK hP 0 rfl rfl 11 (Nat.le_of_ble_eq_true rfl) (htg _ wq_1568) (fun _ h9 => h9) rfl dX9_appendInput_17 ?_
    refine x_bipush hx hb dX9_appendInput_20 (by decide) ?_
    refine x_icmp_ne (tgt := 29) hx hb dX9_appendInput_22 (by decide) (by omega) (by omega) (fun c22 => ?_) (fun c22 => ?_)
    · refine x_iconst hx hb dX9_appendInput_29 ?_
      refine va_put (D := dg) (ci := 11) (v := .int (zI 0)) (ty := .int) (C := RX9) (T := TX9) (N := 23) hx hb htg inG_X9 tyX9 tyX9_ok nmX9 hown hK hP hD hS 0 rfl rfl 0 (Nat.le_of_ble_eq_true rfl) (htg _ wq_1557) (fun _ h9 => h9) rfl (by decide +kernel) rfl rfl (Nat.le_of_ble_eq_true rfl) dX9_appendInput_30 (fun H locs hP hD hS => ?_)
      have hP : va_P dg vwCl (modelC ck mo (encZ S) F1 F2 F3 F4 (upS M 8 0 0)) H := hP
      have hD : va_D A (modelC ck mo (encZ S) F1 F2 F3 F4 (upS M 8 0 0)) := hD
      refine lv_aload_n hx hb dX9_appendInput_33 rfl (lv_at hl 0 rfl) ?_
      refine va_get (D := dg) (ci := 11) (v := .int (zI 0)) (C := RX9) (T := TX9) (N := 23) hx hb htg inG_X9 hown hK hP 0 rfl rfl 0 (Nat.le_of_ble_eq_true rfl) (htg _ wq_1557) (fun _ h9 => h9) rfl dX9_appendInput_34 ?_
      refine x_if_le (tgt := 42) hx hb dX9_appendInput_37 (by decide) (by omega) (fun c37 => ?_) (fun c37 => absurd c37 (by decide))
      refine lv_aload_n hx hb dX9_appendInput_42 rfl (lv_at hl 0 rfl) ?_
      refine va_get (D := dg) (ci := 11) (v := .ref (mo 6)) (C := RX9) (T := TX9) (N := 23) hx hb htg inG_X9 hown hK hP 0 rfl rfl 8 (Nat.le_of_ble_eq_true rfl) (htg _ wq_1565) (fun _ h9 => h9) rfl dX9_appendInput_43 ?_
      refine lv_aload_n hx hb dX9_appendInput_46 rfl (lv_at hl 0 rfl) ?_
      refine va_get (D := dg) (ci := 11) (v := .int (zI (M 8 3))) (C := RX9) (T := TX9) (N := 23) hx hb htg inG_X9 hown hK hP 0 rfl rfl 11 (Nat.le_of_ble_eq_true rfl) (htg _ wq_1568) (fun _ h9 => h9) rfl dX9_appendInput_47 ?_
      refine lv_iload_n hx hb dX9_appendInput_50 rfl (lv_at hl 1 rfl) ?_
      refine x_iast (ws' := modelC ck mo (encZ S) F1 F2 F3 F4 (upS (upS M 8 0 0) 5 (M 8 3) x)) hx hb hK hP hD hS 6 0 rfl rfl (by decide) (by omega) (by rw [zM_up (by omega)]; rfl) dX9_appendInput_51 (fun H locs hP hD hS => ?_)
      refine lv_aload_n hx hb dX9_appendInput_52 rfl (lv_at hl 0 rfl) ?_
      refine lv_dup hx hb dX9_appendInput_53 rfl ?_
      refine va_get (D := dg) (ci := 11) (v := .int (zI (M 8 3))) (C := RX9) (T := TX9) (N := 23) hx hb htg inG_X9 hown hK hP 0 rfl rfl 11 (Nat.le_of_ble_eq_true rfl) (htg _ wq_1568) (fun _ h9 => h9) rfl dX9_appendInput_54 ?_
      refine x_iconst hx hb dX9_appendInput_57 ?_
      refine x_iadd hx hb dX9_appendInput_58 ?_
      refine va_put (D := dg) (ci := 11) (v := .int (zI ((M 8 3) + 1))) (ty := .int) (C := RX9) (T := TX9) (N := 23) hx hb htg inG_X9 tyX9 tyX9_ok nmX9 hown hK hP hD hS 0 rfl rfl 11 (Nat.le_of_ble_eq_true rfl) (htg _ wq_1568) (fun _ h9 => h9) rfl (by decide +kernel) rfl rfl (Nat.le_of_ble_eq_true rfl) dX9_appendInput_59 (fun H locs hP hD hS => ?_)
      have hP : va_P dg vwCl (modelC ck mo (encZ S) F1 F2 F3 F4 (upS (upS (upS M 8 0 0) 5 (M 8 3) x) 8 3 ((M 8 3) + 1))) H := hP
      have hD : va_D A (modelC ck mo (encZ S) F1 F2 F3 F4 (upS (upS (upS M 8 0 0) 5 (M 8 3) x) 8 3 ((M 8 3) + 1))) := hD
      refine lv_aload_n hx hb dX9_appendInput_62 rfl (lv_at hl 0 rfl) ?_
      refine va_get (D := dg) (ci := 11) (v := .int (zI ((M 8 3) + 1))) (C := RX9) (T := TX9) (N := 23) hx hb htg inG_X9 hown hK hP 0 rfl rfl 11 (Nat.le_of_ble_eq_true rfl) (htg _ wq_1568) (fun _ h9 => h9) rfl dX9_appendInput_63 ?_
      have hEq : modelC ck mo (encZ S) F1 F2 F3 F4 (if ¬ (32 ≤ x ∧ x ≤ 126) then upS M 8 0 1 else if M 8 3 = 60 then upS M 8 0 2 else upS (upS (upS M 8 0 0) 5 (M 8 3) x) 8 3 (M 8 3 + 1)) = modelC ck mo (encZ S) F1 F2 F3 F4 (upS (upS (upS M 8 0 0) 5 (M 8 3) x) 8 3 ((M 8 3) + 1)) := (by repeat (first | rw [if_pos (by omega)] | rw [if_neg (by omega)]))
      exact W.iret (v := _) hx hb hr (fun t9 ht9 hW9 => ⟨⟨_, (), rfl, (by first | (rw [itZ_t (by omega)] <;> rfl) | (rw [itZ_f (by omega)] <;> rfl)), by rw [ht9, hEq]; exact hP, by rw [hEq, hAe]; exact hD⟩, hS.F ht9⟩) hS.2.2 dX9_appendInput_66
    · refine x_iconst hx hb dX9_appendInput_25 ?_
      refine lv_goto (tgt := 30) hx hb dX9_appendInput_26 (by decide) ?_
      refine va_put (D := dg) (ci := 11) (v := .int (zI 2)) (ty := .int) (C := RX9) (T := TX9) (N := 23) hx hb htg inG_X9 tyX9 tyX9_ok nmX9 hown hK hP hD hS 0 rfl rfl 0 (Nat.le_of_ble_eq_true rfl) (htg _ wq_1557) (fun _ h9 => h9) rfl (by decide +kernel) rfl rfl (Nat.le_of_ble_eq_true rfl) dX9_appendInput_30 (fun H locs hP hD hS => ?_)
      have hP : va_P dg vwCl (modelC ck mo (encZ S) F1 F2 F3 F4 (upS M 8 0 2)) H := hP
      have hD : va_D A (modelC ck mo (encZ S) F1 F2 F3 F4 (upS M 8 0 2)) := hD
      refine lv_aload_n hx hb dX9_appendInput_33 rfl (lv_at hl 0 rfl) ?_
      refine va_get (D := dg) (ci := 11) (v := .int (zI 2)) (C := RX9) (T := TX9) (N := 23) hx hb htg inG_X9 hown hK hP 0 rfl rfl 0 (Nat.le_of_ble_eq_true rfl) (htg _ wq_1557) (fun _ h9 => h9) rfl dX9_appendInput_34 ?_
      refine x_if_le (tgt := 42) hx hb dX9_appendInput_37 (by decide) (by omega) (fun c37 => absurd c37 (by decide)) (fun c37 => ?_)
      refine x_iconst hx hb dX9_appendInput_40 ?_
      have hEq : modelC ck mo (encZ S) F1 F2 F3 F4 (if ¬ (32 ≤ x ∧ x ≤ 126) then upS M 8 0 1 else if M 8 3 = 60 then upS M 8 0 2 else upS (upS (upS M 8 0 0) 5 (M 8 3) x) 8 3 (M 8 3 + 1)) = modelC ck mo (encZ S) F1 F2 F3 F4 (upS M 8 0 2) := (by repeat (first | rw [if_pos (by omega)] | rw [if_neg (by omega)]))
      exact W.iret (v := _) hx hb hr (fun t9 ht9 hW9 => ⟨⟨_, (), rfl, (by first | (rw [itZ_t (by omega)] <;> rfl) | (rw [itZ_f (by omega)] <;> rfl)), by rw [ht9, hEq]; exact hP, by rw [hEq, hAe]; exact hD⟩, hS.F ht9⟩) hS.2.2 dX9_appendInput_41
  · refine x_iconst hx hb dX9_appendInput_12 ?_
    refine lv_goto (tgt := 30) hx hb dX9_appendInput_13 (by decide) ?_
    refine va_put (D := dg) (ci := 11) (v := .int (zI 1)) (ty := .int) (C := RX9) (T := TX9) (N := 23) hx hb htg inG_X9 tyX9 tyX9_ok nmX9 hown hK hP hD hS 0 rfl rfl 0 (Nat.le_of_ble_eq_true rfl) (htg _ wq_1557) (fun _ h9 => h9) rfl (by decide +kernel) rfl rfl (Nat.le_of_ble_eq_true rfl) dX9_appendInput_30 (fun H locs hP hD hS => ?_)
    have hP : va_P dg vwCl (modelC ck mo (encZ S) F1 F2 F3 F4 (upS M 8 0 1)) H := hP
    have hD : va_D A (modelC ck mo (encZ S) F1 F2 F3 F4 (upS M 8 0 1)) := hD
    refine lv_aload_n hx hb dX9_appendInput_33 rfl (lv_at hl 0 rfl) ?_
    refine va_get (D := dg) (ci := 11) (v := .int (zI 1)) (C := RX9) (T := TX9) (N := 23) hx hb htg inG_X9 hown hK hP 0 rfl rfl 0 (Nat.le_of_ble_eq_true rfl) (htg _ wq_1557) (fun _ h9 => h9) rfl dX9_appendInput_34 ?_
    refine x_if_le (tgt := 42) hx hb dX9_appendInput_37 (by decide) (by omega) (fun c37 => absurd c37 (by decide)) (fun c37 => ?_)
    refine x_iconst hx hb dX9_appendInput_40 ?_
    have hEq : modelC ck mo (encZ S) F1 F2 F3 F4 (if ¬ (32 ≤ x ∧ x ≤ 126) then upS M 8 0 1 else if M 8 3 = 60 then upS M 8 0 2 else upS (upS (upS M 8 0 0) 5 (M 8 3) x) 8 3 (M 8 3 + 1)) = modelC ck mo (encZ S) F1 F2 F3 F4 (upS M 8 0 1) := (by repeat (first | rw [if_pos (by omega)] | rw [if_neg (by omega)]))
    exact W.iret (v := _) hx hb hr (fun t9 ht9 hW9 => ⟨⟨_, (), rfl, (by first | (rw [itZ_t (by omega)] <;> rfl) | (rw [itZ_f (by omega)] <;> rfl)), by rw [ht9, hEq]; exact hP, by rw [hEq, hAe]; exact hD⟩, hS.F ht9⟩) hS.2.2 dX9_appendInput_41
