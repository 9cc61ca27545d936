/-! Park: what it answers -/
abbrev isCell (r c : Int) : Prop := (0 ≤ r ∧ r < 6) ∧ (0 ≤ c ∧ c < 6)
def nzT (S : St) (r c f : Int) : Int := if S 10 f = 1 ∧ 0 < S 9 f - 2 * ((if 0 ≤ S 7 f - r then S 7 f - r else -(S 7 f - r)) + (if 0 ≤ S 8 f - c then S 8 f - c else -(S 8 f - c))) then S 9 f - 2 * ((if 0 ≤ S 7 f - r then S 7 f - r else -(S 7 f - r)) + (if 0 ≤ S 8 f - c then S 8 f - c else -(S 8 f - c))) else 0
def nzN (S : St) (r c : Int) : Nat → Int
  | 0 => 0
  | n + 1 => nzN S r c n + nzT S r c n
def noise (S : St) (r c : Int) : Int := nzN S r c (S 0 1).toNat
theorem nzT_eq {S : St} {r c f x y d v : Int} (hx : 0 ≤ S 7 f - r ∧ x = S 7 f - r ∨ S 7 f - r < 0 ∧ x = -(S 7 f - r)) (hy : 0 ≤ S 8 f - c ∧ y = S 8 f - c ∨ S 8 f - c < 0 ∧ y = -(S 8 f - c)) (hd : d = x + y) (hv : v = S 9 f - 2 * d) : nzT S r c f = if S 10 f = 1 ∧ 0 < v then v else 0 := by
  have e1 : (if 0 ≤ S 7 f - r then S 7 f - r else -(S 7 f - r)) = x := by split <;> omega
  have e2 : (if 0 ≤ S 8 f - c then S 8 f - c else -(S 8 f - c)) = y := by split <;> omega
  unfold nzT
  rw [e1, e2, ← hd, ← hv]
theorem nzT_r {S : St} (hI : Bd S) (r c f : Int) : 0 ≤ nzT S r c f ∧ nzT S r c f ≤ 9 := by
  obtain ⟨b00, b01, b02, b03, b1, b2, b3, b4, b5, b6, b7, b8, b9, b10, b11, b12⟩ := hI
  have h9 := b9 f
  unfold nzT
  split <;> (try split) <;> (try split) <;> omega
theorem nzN_s {S : St} {r c i : Int} (h : 0 ≤ i) : nzN S r c (i + 1).toNat = nzN S r c i.toNat + nzT S r c i := by
  rw [show (i + 1).toNat = i.toNat + 1 by omega]
  show _ + nzT S r c (i.toNat : Int) = _
  rw [Int.toNat_of_nonneg h]
theorem nzN_r {S : St} (hI : Bd S) (r c : Int) (n : Nat) : 0 ≤ nzN S r c n ∧ nzN S r c n ≤ 9 * n := by
  induction n with
  | zero => exact ⟨Int.le_refl _, by show (0 : Int) ≤ _; omega⟩
  | succ n ih =>
    have h := nzT_r hI r c n
    show 0 ≤ nzN S r c n + nzT S r c n ∧ nzN S r c n + nzT S r c n ≤ _
    omega
theorem noise_r {S : St} (hI : Bd S) (r c : Int) : 0 ≤ noise S r c ∧ noise S r c ≤ 36 := by
  have h := nzN_r hI r c (S 0 1).toNat
  have h2 := hI.2.1
  unfold noise
  omega
abbrev isBench (S : St) (b : Int) : Prop := 0 ≤ b ∧ b < S 0 0
abbrev isFount (S : St) (f : Int) : Prop := 0 ≤ f ∧ f < S 0 1
def noiseB (S : St) (b : Int) : Int := noise S (S 1 b) (S 2 b)
def rent (S : St) (b : Int) : Int := if S 3 b - noiseB S b < 1 then 1 else S 3 b - noiseB S b
abbrev quietB (S : St) (b : Int) : Prop := noiseB S b ≤ S 0 3
theorem rent_r {S : St} (hI : Bd S) (b : Int) : 1 ≤ rent S b ∧ rent S b ≤ 20 := by
  have h := noise_r hI (S 1 b) (S 2 b)
  obtain ⟨b00, b01, b02, b03, b1, b2, b3, b4, b5, b6, b7, b8, b9, b10, b11, b12⟩ := hI
  have h3 := b3 b
  unfold rent noiseB
  split <;> omega
theorem noiseB_r {S : St} (hI : Bd S) (b : Int) : 0 ≤ noiseB S b ∧ noiseB S b ≤ 36 := noise_r hI _ _

set_option maxHeartbeats 4000000 in
set_option maxRecDepth 100000 in
/-- BenchBroker$Park.hasCell -/
theorem c_hasCell (l : Launch) (dg : va_G) (ck : Nat → ClassId) (x y : Int) (rg_x : -2147483648 ≤ x ∧ x < 2147483648) (rg_y : -2147483648 ≤ y ∧ y < 2147483648) : Met l yX6_hasCell (.code yX6_hasCell cX6_hasCell 2 (some .boolean) :: GW) ({ frames := 0, cells := 0, slots := 0, locals := 0 }) (va_Pc [.int (zI x), .int (zI y)] (rdP dg ck ([]))) (vp_Si (fun r => r = zI (bI (isCell x y)))) 0 0 (fun _ => False) := by
  refine Met.ofW (cc := cX6_hasCell) (maxL := 2) (ret := (some .boolean)) (by decide) rfl ?_
  intro p e s m args below meth c s₁ B hml hv
  obtain ⟨rfl, hP, hK⟩ := hv
  have hx := B.exec
  have hb := B.bytes
  have hr := B.returns
  have hts := atoms_spec (ws := .code yX6_hasCell cX6_hasCell 2 (some .boolean) :: GW) B.pre
  have htg : ∀ w ∈ GW, w.before _ s = true := fun w h => hts w (List.mem_cons_of_mem _ h)
  have hown : s.vm.findClass RX6 = some m.cls := findClass_of_methodNamed B.named
  have hlocks := B.notSynchronized
  have hl := lv_entry ([.int (zI x), .int (zI y)]) (n := 2) (Nat.le_of_ble_eq_true rfl)
  rw [lg_entry_eq]
  generalize (lg_sl ([.int (zI x), .int (zI y)]) ++ List.replicate (2 - (lg_sl ([.int (zI x), .int (zI y)])).length) Slot.unset).toArray = ls at hl ⊢
  have hl : lv_has ls 2 [(0, .int (zI x)), (1, .int (zI y))] := hl
  refine lv_iload_n hx hb dX6_hasCell_0 rfl (lv_at hl 0 rfl) ?_
  refine x_if_lt (tgt := 24) hx hb dX6_hasCell_1 (by decide) (by omega) (fun c1 => ?_) (fun c1 => ?_)
  · refine x_iconst hx hb dX6_hasCell_24 ?_
    exact W.zret (v := _) hx hb hr (by first | rfl | rfl) (fun t9 ht9 hW9 => ⟨_, rfl, (congrArg zI (by first | exact (bI_t (by omega)).symm | exact (bI_f (by omega)).symm)), ht9⟩) (fun _ h => by cases h) dX6_hasCell_25
  · refine lv_iload_n hx hb dX6_hasCell_4 rfl (lv_at hl 0 rfl) ?_
    refine x_bipush hx hb dX6_hasCell_5 (by decide) ?_
    refine x_icmp_ge (tgt := 24) hx hb dX6_hasCell_7 (by decide) (by omega) (by omega) (fun c7 => ?_) (fun c7 => ?_)
    · refine x_iconst hx hb dX6_hasCell_24 ?_
      exact W.zret (v := _) hx hb hr (by first | rfl | rfl) (fun t9 ht9 hW9 => ⟨_, rfl, (congrArg zI (by first | exact (bI_t (by omega)).symm | exact (bI_f (by omega)).symm)), ht9⟩) (fun _ h => by cases h) dX6_hasCell_25
    · refine lv_iload_n hx hb dX6_hasCell_10 rfl (lv_at hl 1 rfl) ?_
      refine x_if_lt (tgt := 24) hx hb dX6_hasCell_11 (by decide) (by omega) (fun c11 => ?_) (fun c11 => ?_)
      · refine x_iconst hx hb dX6_hasCell_24 ?_
        exact W.zret (v := _) hx hb hr (by first | rfl | rfl) (fun t9 ht9 hW9 => ⟨_, rfl, (congrArg zI (by first | exact (bI_t (by omega)).symm | exact (bI_f (by omega)).symm)), ht9⟩) (fun _ h => by cases h) dX6_hasCell_25
      · refine lv_iload_n hx hb dX6_hasCell_14 rfl (lv_at hl 1 rfl) ?_
        refine x_bipush hx hb dX6_hasCell_15 (by decide) ?_
        refine x_icmp_ge (tgt := 24) hx hb dX6_hasCell_17 (by decide) (by omega) (by omega) (fun c17 => ?_) (fun c17 => ?_)
        · refine x_iconst hx hb dX6_hasCell_24 ?_
          exact W.zret (v := _) hx hb hr (by first | rfl | rfl) (fun t9 ht9 hW9 => ⟨_, rfl, (congrArg zI (by first | exact (bI_t (by omega)).symm | exact (bI_f (by omega)).symm)), ht9⟩) (fun _ h => by cases h) dX6_hasCell_25
        · refine x_iconst hx hb dX6_hasCell_20 ?_
          refine lv_goto (tgt := 25) hx hb dX6_hasCell_21 (by decide) ?_
          exact W.zret (v := _) hx hb hr (by first | rfl | rfl) (fun t9 ht9 hW9 => ⟨_, rfl, (congrArg zI (by first | exact (bI_t (by omega)).symm | exact (bI_f (by omega)).symm)), ht9⟩) (fun _ h => by cases h) dX6_hasCell_25

set_option maxHeartbeats 4000000 in
set_option maxRecDepth 100000 in
/-- BenchBroker$Park.hasBench -/
theorem c_hasBench (l : Launch) (dg : va_G) (ck : Nat → ClassId) (a : Nat → Nat) (S : St) (x : Int) (hI : Bd S) (rg_x : -2147483648 ≤ x ∧ x < 2147483648) : Met l yX6_hasBench (.code yX6_hasBench cX6_hasBench 2 (some .boolean) :: GW) ({ frames := 0, cells := 0, slots := 0, locals := 0 }) (va_Pc [.ref (a 0), .int (zI x)] (rdP dg ck (parkC ck a S))) (vp_Si (fun r => r = zI (bI (isBench S x)))) 0 0 (fun _ => False) := by
  refine Met.ofW (cc := cX6_hasBench) (maxL := 2) (ret := (some .boolean)) (by decide) rfl ?_
  intro p e s m args below meth c s₁ B hml hv
  obtain ⟨rfl, hP, hK⟩ := hv
  have hx := B.exec
  have hb := B.bytes
  have hr := B.returns
  have hts := atoms_spec (ws := .code yX6_hasBench cX6_hasBench 2 (some .boolean) :: GW) B.pre
  have htg : ∀ w ∈ GW, w.before _ s = true := fun w h => hts w (List.mem_cons_of_mem _ h)
  have hown : s.vm.findClass RX6 = some m.cls := findClass_of_methodNamed B.named
  have hlocks := B.notSynchronized
  have hl := lv_entry ([.ref (a 0), .int (zI x)]) (n := 2) (Nat.le_of_ble_eq_true rfl)
  rw [lg_entry_eq]
  generalize (lg_sl ([.ref (a 0), .int (zI x)]) ++ List.replicate (2 - (lg_sl ([.ref (a 0), .int (zI x)])).length) Slot.unset).toArray = ls at hl ⊢
  have hl : lv_has ls 2 [(0, .ref (a 0)), (1, .int (zI x))] := hl
  obtain ⟨b00, b01, b02, b03, b1, b2, b3, b4, b5, b6, b7, b8, b9, b10, b11, b12⟩ := id hI
  refine lv_iload_n hx hb dX6_hasBench_0 rfl (lv_at hl 1 rfl) ?_
  refine x_if_lt (tgt := 16) hx hb dX6_hasBench_1 (by decide) (by omega) (fun c1 => ?_) (fun c1 => ?_)
  · refine x_iconst hx hb dX6_hasBench_16 ?_
    exact W.zret (v := _) hx hb hr (by first | rfl | rfl) (fun t9 ht9 hW9 => ⟨_, rfl, (congrArg zI (by first | exact (bI_t (by omega)).symm | exact (bI_f (by omega)).symm)), ht9⟩) (fun _ h => by cases h) dX6_hasBench_17
  · refine lv_iload_n hx hb dX6_hasBench_4 rfl (lv_at hl 1 rfl) ?_
    refine lv_aload_n hx hb dX6_hasBench_5 rfl (lv_at hl 0 rfl) ?_
    refine va_get (D := dg) (ci := 9) (v := .int (zI (S 0 0))) (C := RX6) (T := TX6) (N := 10) hx hb htg inG_X6 hown hK hP 0 rfl rfl 0 (Nat.le_of_ble_eq_true rfl) (htg _ wq_54) (fun _ h9 => h9) rfl dX6_hasBench_6 ?_
    refine x_icmp_ge (tgt := 16) hx hb dX6_hasBench_9 (by decide) (by omega) (by omega) (fun c9 => ?_) (fun c9 => ?_)
    · refine x_iconst hx hb dX6_hasBench_16 ?_
      exact W.zret (v := _) hx hb hr (by first | rfl | rfl) (fun t9 ht9 hW9 => ⟨_, rfl, (congrArg zI (by first | exact (bI_t (by omega)).symm | exact (bI_f (by omega)).symm)), ht9⟩) (fun _ h => by cases h) dX6_hasBench_17
    · refine x_iconst hx hb dX6_hasBench_12 ?_
      refine lv_goto (tgt := 17) hx hb dX6_hasBench_13 (by decide) ?_
      exact W.zret (v := _) hx hb hr (by first | rfl | rfl) (fun t9 ht9 hW9 => ⟨_, rfl, (congrArg zI (by first | exact (bI_t (by omega)).symm | exact (bI_f (by omega)).symm)), ht9⟩) (fun _ h => by cases h) dX6_hasBench_17

set_option maxHeartbeats 4000000 in
set_option maxRecDepth 100000 in
/-- BenchBroker$Park.hasFountain -/
theorem c_hasFountain (l : Launch) (dg : va_G) (ck : Nat → ClassId) (a : Nat → Nat) (S : St) (x : Int) (hI : Bd S) (rg_x : -2147483648 ≤ x ∧ x < 2147483648) : Met l yX6_hasFountain (.code yX6_hasFountain cX6_hasFountain 2 (some .boolean) :: GW) ({ frames := 0, cells := 0, slots := 0, locals := 0 }) (va_Pc [.ref (a 0), .int (zI x)] (rdP dg ck (parkC ck a S))) (vp_Si (fun r => r = zI (bI (isFount S x)))) 0 0 (fun _ => False) := by
  refine Met.ofW (cc := cX6_hasFountain) (maxL := 2) (ret := (some .boolean)) (by decide) rfl ?_
  intro p e s m args below meth c s₁ B hml hv
  obtain ⟨rfl, hP, hK⟩ := hv
  have hx := B.exec
  have hb := B.bytes
  have hr := B.returns
  have hts := atoms_spec (ws := .code yX6_hasFountain cX6_hasFountain 2 (some .boolean) :: GW) B.pre
  have htg : ∀ w ∈ GW, w.before _ s = true := fun w h => hts w (List.mem_cons_of_mem _ h)
  have hown : s.vm.findClass RX6 = some m.cls := findClass_of_methodNamed B.named
  have hlocks := B.notSynchronized
  have hl := lv_entry ([.ref (a 0), .int (zI x)]) (n := 2) (Nat.le_of_ble_eq_true rfl)
  rw [lg_entry_eq]
  generalize (lg_sl ([.ref (a 0), .int (zI x)]) ++ List.replicate (2 - (lg_sl ([.ref (a 0), .int (zI x)])).length) Slot.unset).toArray = ls at hl ⊢
  have hl : lv_has ls 2 [(0, .ref (a 0)), (1, .int (zI x))] := hl
  obtain ⟨b00, b01, b02, b03, b1, b2, b3, b4, b5, b6, b7, b8, b9, b10, b11, b12⟩ := id hI
  refine lv_iload_n hx hb dX6_hasFountain_0 rfl (lv_at hl 1 rfl) ?_
  refine x_if_lt (tgt := 16) hx hb dX6_hasFountain_1 (by decide) (by omega) (fun c1 => ?_) (fun c1 => ?_)
  · refine x_iconst hx hb dX6_hasFountain_16 ?_
    exact W.zret (v := _) hx hb hr (by first | rfl | rfl) (fun t9 ht9 hW9 => ⟨_, rfl, (congrArg zI (by first | exact (bI_t (by omega)).symm | exact (bI_f (by omega)).symm)), ht9⟩) (fun _ h => by cases h) dX6_hasFountain_17
  · refine lv_iload_n hx hb dX6_hasFountain_4 rfl (lv_at hl 1 rfl) ?_
    refine lv_aload_n hx hb dX6_hasFountain_5 rfl (lv_at hl 0 rfl) ?_
    refine va_get (D := dg) (ci := 9) (v := .int (zI (S 0 1))) (C := RX6) (T := TX6) (N := 10) hx hb htg inG_X6 hown hK hP 0 rfl rfl 4 (Nat.le_of_ble_eq_true rfl) (htg _ wq_65) (fun _ h9 => h9) rfl dX6_hasFountain_6 ?_
    refine x_icmp_ge (tgt := 16) hx hb dX6_hasFountain_9 (by decide) (by omega) (by omega) (fun c9 => ?_) (fun c9 => ?_)
    · refine x_iconst hx hb dX6_hasFountain_16 ?_
      exact W.zret (v := _) hx hb hr (by first | rfl | rfl) (fun t9 ht9 hW9 => ⟨_, rfl, (congrArg zI (by first | exact (bI_t (by omega)).symm | exact (bI_f (by omega)).symm)), ht9⟩) (fun _ h => by cases h) dX6_hasFountain_17
    · refine x_iconst hx hb dX6_hasFountain_12 ?_
      refine lv_goto (tgt := 17) hx hb dX6_hasFountain_13 (by decide) ?_
      exact W.zret (v := _) hx hb hr (by first | rfl | rfl) (fun t9 ht9 hW9 => ⟨_, rfl, (congrArg zI (by first | exact (bI_t (by omega)).symm | exact (bI_f (by omega)).symm)), ht9⟩) (fun _ h => by cases h) dX6_hasFountain_17

set_option maxHeartbeats 4000000 in
set_option maxRecDepth 100000 in
/-- BenchBroker$Park.noise -/
theorem c_noise (l : Launch) (dg : va_G) (ck : Nat → ClassId) (a : Nat → Nat) (S : St) (x y : Int) (hI : Bd S) (hx : 0 ≤ x ∧ x ≤ 5) (hy : 0 ≤ y ∧ y ≤ 5) : Met l yX6_noise (.code yX6_noise cX6_noise 7 (some .int) :: GW) ({ frames := 1, cells := 0, slots := 0, locals := 21 }) (va_Pc [.ref (a 0), .int (zI x), .int (zI y)] (rdP dg ck (parkC ck a S))) (vp_Si (fun r => r = zI (noise S x y))) 0 0 (fun _ => False) := by
  refine Met.ofW (cc := cX6_noise) (maxL := 7) (ret := (some .int)) (by decide) rfl ?_
  intro p e s m args below meth c s₁ B hml hv
  obtain ⟨rfl, hP, hK⟩ := hv
  have hx := B.exec
  have hb := B.bytes
  have hr := B.returns
  have hts := atoms_spec (ws := .code yX6_noise cX6_noise 7 (some .int) :: GW) B.pre
  have htg : ∀ w ∈ GW, w.before _ s = true := fun w h => hts w (List.mem_cons_of_mem _ h)
  have hown : s.vm.findClass RX6 = some m.cls := findClass_of_methodNamed B.named
  have hlocks := B.notSynchronized
  have hl := lv_entry ([.ref (a 0), .int (zI x), .int (zI y)]) (n := 7) (Nat.le_of_ble_eq_true rfl)
  rw [lg_entry_eq]
  generalize (lg_sl ([.ref (a 0), .int (zI x), .int (zI y)]) ++ List.replicate (7 - (lg_sl ([.ref (a 0), .int (zI x), .int (zI y)])).length) Slot.unset).toArray = ls at hl ⊢
  have hl : lv_has ls 7 [(0, .ref (a 0)), (1, .int (zI x)), (2, .int (zI y))] := hl
  obtain ⟨b00, b01, b02, b03, b1, b2, b3, b4, b5, b6, b7, b8, b9, b10, b11, b12⟩ := id hI
  refine x_iconst hx hb dX6_noise_0 ?_
  refine lv_istore_n (lv' := [(3, .int (zI 0)), (0, .ref (a 0)), (1, .int (zI x)), (2, .int (zI y))]) hx hb dX6_noise_1 rfl hl (by decide) rfl (fun ls hl => ?_)
  refine x_iconst hx hb dX6_noise_2 ?_
  refine lv_istore (lv' := [(4, .int (zI 0)), (3, .int (zI 0)), (0, .ref (a 0)), (1, .int (zI x)), (2, .int (zI y))]) hx hb dX6_noise_3 hl (by decide) rfl (fun ls hl => ?_)
  refine x_loop (ι := Int × Int) (fun v => (0 ≤ v.2 ∧ v.2 ≤ S 0 1) ∧ v.1 = nzN S x y v.2.toNat) (fun v => (S 0 1 - v.2).toNat) (fun v => [(0, .ref (a 0)), (1, .int (zI x)), (2, .int (zI y)), (3, .int (zI v.1)), (4, .int (zI v.2))]) (0, 0) (show (0 ≤ (0 : Int) ∧ (0 : Int) ≤ S 0 1) ∧ (0 : Int) = nzN S x y (0 : Int).toNat from ⟨by omega, rfl⟩) (lv_sub hl [2, 3, 4, 1, 0] rfl) ?_
  intro v hv ih_5 ls hl
  obtain ⟨u, i⟩ := v
  have hl : lv_has ls 7 [(0, .ref (a 0)), (1, .int (zI x)), (2, .int (zI y)), (3, .int (zI u)), (4, .int (zI i))] := hl
  have hv : (0 ≤ i ∧ i ≤ S 0 1) ∧ u = nzN S x y i.toNat := hv
  obtain ⟨hi, hu⟩ := hv
  refine lv_iload hx hb dX6_noise_5 (lv_at hl 4 rfl) ?_
  refine lv_aload_n hx hb dX6_noise_7 rfl (lv_at hl 0 rfl) ?_
  refine va_get (D := dg) (ci := 9) (v := .int (zI (S 0 1))) (C := RX6) (T := TX6) (N := 10) hx hb htg inG_X6 hown hK hP 0 rfl rfl 4 (Nat.le_of_ble_eq_true rfl) (htg _ wq_65) (fun _ h9 => h9) rfl dX6_noise_8 ?_
  refine x_icmp_ge (tgt := 81) hx hb dX6_noise_11 (by decide) (by omega) (by omega) (fun c11 => ?_) (fun c11 => ?_)
  · refine lv_iload_n hx hb dX6_noise_81 rfl (lv_at hl 3 rfl) ?_
    exact W.iret (v := _) hx hb hr (fun t9 ht9 hW9 => ⟨_, rfl, (by rw [hu, show i = S 0 1 by omega]; rfl), ht9⟩) (fun _ h => by cases h) dX6_noise_82
  · refine lv_aload_n hx hb dX6_noise_14 rfl (lv_at hl 0 rfl) ?_
    refine va_get (D := dg) (ci := 9) (v := .ref (a 4)) (C := RX6) (T := TX6) (N := 10) hx hb htg inG_X6 hown hK hP 0 rfl rfl 5 (Nat.le_of_ble_eq_true rfl) (htg _ wq_68) (fun _ h9 => h9) rfl dX6_noise_15 ?_
    refine lv_iload hx hb dX6_noise_18 (lv_at hl 4 rfl) ?_
    refine x_iald hx hb hK hP 4 0 (S 7) rfl rfl (fun _ => rfl) (P := fun y => 0 ≤ y ∧ y ≤ 5) b7 (by decide) (by omega) dX6_noise_20 (fun g20 => ?_)
    refine lv_iload_n hx hb dX6_noise_21 rfl (lv_at hl 1 rfl) ?_
    refine x_isub hx hb dX6_noise_22 ?_
    refine x_mabs hx hb (hml.trans hl.1.symm) hown (htg _ wq_462) (htg _ wq_463) (htg _ wq_23) (htg _ wq_464) (Nat.le_of_ble_eq_true rfl) (Nat.le_of_ble_eq_true rfl) (Nat.zero_le _) (Nat.zero_le _) (by omega) dX6_noise_23 (fun m23 hm23 => ?_)
    refine lv_aload_n hx hb dX6_noise_26 rfl (lv_at hl 0 rfl) ?_
    refine va_get (D := dg) (ci := 9) (v := .ref (a 5)) (C := RX6) (T := TX6) (N := 10) hx hb htg inG_X6 hown hK hP 0 rfl rfl 6 (Nat.le_of_ble_eq_true rfl) (htg _ wq_70) (fun _ h9 => h9) rfl dX6_noise_27 ?_
    refine lv_iload hx hb dX6_noise_30 (lv_at hl 4 rfl) ?_
    refine x_iald hx hb hK hP 5 0 (S 8) rfl rfl (fun _ => rfl) (P := fun y => 0 ≤ y ∧ y ≤ 5) b8 (by decide) (by omega) dX6_noise_32 (fun g32 => ?_)
    refine lv_iload_n hx hb dX6_noise_33 rfl (lv_at hl 2 rfl) ?_
    refine x_isub hx hb dX6_noise_34 ?_
    refine x_mabs hx hb (hml.trans hl.1.symm) hown (htg _ wq_462) (htg _ wq_463) (htg _ wq_23) (htg _ wq_464) (Nat.le_of_ble_eq_true rfl) (Nat.le_of_ble_eq_true rfl) (Nat.zero_le _) (Nat.zero_le _) (by omega) dX6_noise_35 (fun m35 hm35 => ?_)
    refine x_iadd hx hb dX6_noise_38 ?_
    refine x_top _ (fun v39 e_v39 => ?_)
    refine lv_istore (lv' := [(5, .int (zI v39)), (0, .ref (a 0)), (1, .int (zI x)), (2, .int (zI y)), (3, .int (zI u)), (4, .int (zI i))]) hx hb dX6_noise_39 hl (by decide) rfl (fun ls hl => ?_)
    refine lv_aload_n hx hb dX6_noise_41 rfl (lv_at hl 1 rfl) ?_
    refine va_get (D := dg) (ci := 9) (v := .ref (a 6)) (C := RX6) (T := TX6) (N := 10) hx hb htg inG_X6 hown hK hP 0 rfl rfl 7 (Nat.le_of_ble_eq_true rfl) (htg _ wq_72) (fun _ h9 => h9) rfl dX6_noise_42 ?_
    refine lv_iload hx hb dX6_noise_45 (lv_at hl 5 rfl) ?_
    refine x_iald hx hb hK hP 6 0 (S 9) rfl rfl (fun _ => rfl) (P := fun y => 0 ≤ y ∧ y ≤ 9) b9 (by decide) (by omega) dX6_noise_47 (fun g47 => ?_)
    refine x_iconst hx hb dX6_noise_48 ?_
    refine lv_iload hx hb dX6_noise_49 (lv_at hl 0 rfl) ?_
    refine x_imul hx hb dX6_noise_51 ?_
    refine x_isub hx hb dX6_noise_52 ?_
    refine x_top _ (fun v53 e_v53 => ?_)
    refine lv_istore (lv' := [(6, .int (zI v53)), (5, .int (zI v39)), (0, .ref (a 0)), (1, .int (zI x)), (2, .int (zI y)), (3, .int (zI u)), (4, .int (zI i))]) hx hb dX6_noise_53 hl (by decide) rfl (fun ls hl => ?_)
    refine lv_aload_n hx hb dX6_noise_55 rfl (lv_at hl 2 rfl) ?_
    refine va_get (D := dg) (ci := 9) (v := .ref (a 7)) (C := RX6) (T := TX6) (N := 10) hx hb htg inG_X6 hown hK hP 0 rfl rfl 8 (Nat.le_of_ble_eq_true rfl) (htg _ wq_75) (fun _ h9 => h9) rfl dX6_noise_56 ?_
    refine lv_iload hx hb dX6_noise_59 (lv_at hl 6 rfl) ?_
    refine x_zald hx hb hK hP 7 1 (S 10) rfl rfl (fun _ => rfl) (P := fun y => 0 ≤ y ∧ y ≤ 1) b10 (by decide) (by omega) dX6_noise_61 (fun g61 => ?_)
    have hT := nzT_eq (r := x) (c := y) hm23 hm35 e_v39 e_v53
    have hur := nzN_r hI x y i.toNat
    refine x_if_eq (tgt := 75) hx hb dX6_noise_62 (by decide) (by omega) (fun c62 => ?_) (fun c62 => ?_)
    · obtain ⟨v75, e_v75⟩ : ∃ y : Int, y = i + 1 := ⟨_, rfl⟩
      refine lv_iinc (v := zI v75) (lv' := [(4, .int (zI v75)), (6, .int (zI v53)), (5, .int (zI v39)), (0, .ref (a 0)), (1, .int (zI x)), (2, .int (zI y)), (3, .int (zI u))]) hx hb dX6_noise_75 hl (k := 6) rfl (by rw [e_v75]; exact zI_add _ _) (by decide) rfl (fun ls hl => ?_)
      refine lv_goto (tgt := 5) hx hb dX6_noise_78 (by decide) ?_
      exact ih_5 (u, v75) (show (0 ≤ v75 ∧ v75 ≤ S 0 1) ∧ u = nzN S x y v75.toNat from ⟨by omega, by rw [e_v75, nzN_s hi.1, hT]; split <;> omega⟩) (show (S 0 1 - v75).toNat < (S 0 1 - i).toNat from by omega) ls (lv_sub hl [3, 4, 5, 6, 0] rfl)
    · refine lv_iload hx hb dX6_noise_65 (lv_at hl 0 rfl) ?_
      refine x_if_le (tgt := 75) hx hb dX6_noise_67 (by decide) (by omega) (fun c67 => ?_) (fun c67 => ?_)
      · obtain ⟨v75, e_v75⟩ : ∃ y : Int, y = i + 1 := ⟨_, rfl⟩
        refine lv_iinc (v := zI v75) (lv' := [(4, .int (zI v75)), (6, .int (zI v53)), (5, .int (zI v39)), (0, .ref (a 0)), (1, .int (zI x)), (2, .int (zI y)), (3, .int (zI u))]) hx hb dX6_noise_75 hl (k := 6) rfl (by rw [e_v75]; exact zI_add _ _) (by decide) rfl (fun ls hl => ?_)
        refine lv_goto (tgt := 5) hx hb dX6_noise_78 (by decide) ?_
        exact ih_5 (u, v75) (show (0 ≤ v75 ∧ v75 ≤ S 0 1) ∧ u = nzN S x y v75.toNat from ⟨by omega, by rw [e_v75, nzN_s hi.1, hT]; split <;> omega⟩) (show (S 0 1 - v75).toNat < (S 0 1 - i).toNat from by omega) ls (lv_sub hl [3, 4, 5, 6, 0] rfl)
      · refine lv_iload_n hx hb dX6_noise_70 rfl (lv_at hl 5 rfl) ?_
        refine lv_iload hx hb dX6_noise_71 (lv_at hl 0 rfl) ?_
        refine x_iadd hx hb dX6_noise_73 ?_
        refine x_top _ (fun v74 e_v74 => ?_)
        refine lv_istore_n (lv' := [(3, .int (zI v74)), (6, .int (zI v53)), (5, .int (zI v39)), (0, .ref (a 0)), (1, .int (zI x)), (2, .int (zI y)), (4, .int (zI i))]) hx hb dX6_noise_74 rfl hl (by decide) rfl (fun ls hl => ?_)
        obtain ⟨v75, e_v75⟩ : ∃ y : Int, y = i + 1 := ⟨_, rfl⟩
        refine lv_iinc (v := zI v75) (lv' := [(4, .int (zI v75)), (3, .int (zI v74)), (6, .int (zI v53)), (5, .int (zI v39)), (0, .ref (a 0)), (1, .int (zI x)), (2, .int (zI y))]) hx hb dX6_noise_75 hl (k := 6) rfl (by rw [e_v75]; exact zI_add _ _) (by decide) rfl (fun ls hl => ?_)
        refine lv_goto (tgt := 5) hx hb dX6_noise_78 (by decide) ?_
        exact ih_5 (v74, v75) (show (0 ≤ v75 ∧ v75 ≤ S 0 1) ∧ v74 = nzN S x y v75.toNat from ⟨by omega, by rw [e_v75, nzN_s hi.1, hT]; split <;> omega⟩) (show (S 0 1 - v75).toNat < (S 0 1 - i).toNat from by omega) ls (lv_sub hl [4, 5, 6, 1, 0] rfl)

set_option maxHeartbeats 4000000 in
set_option maxRecDepth 100000 in
/-- BenchBroker$Park.rent -/
theorem c_rent (l : Launch) (dg : va_G) (ck : Nat → ClassId) (a : Nat → Nat) (S : St) (b : Int) (hI : Bd S) (hb0 : 0 ≤ b ∧ b < 10) : Met l yX6_rent (.code yX6_rent cX6_rent 2 (some .int) :: GW) ({ frames := 2, cells := 0, slots := 0, locals := 47 }) (va_Pc [.ref (a 0), .int (zI b)] (rdP dg ck (parkC ck a S))) (vp_Si (fun r => r = zI (rent S b))) 0 0 (fun _ => False) := by
  refine Met.ofW (cc := cX6_rent) (maxL := 2) (ret := (some .int)) (by decide) rfl ?_
  intro p e s m args below meth c s₁ B hml hv
  obtain ⟨rfl, hP, hK⟩ := hv
  have hx := B.exec
  have hb := B.bytes
  have hr := B.returns
  have hts := atoms_spec (ws := .code yX6_rent cX6_rent 2 (some .int) :: GW) B.pre
  have htg : ∀ w ∈ GW, w.before _ s = true := fun w h => hts w (List.mem_cons_of_mem _ h)
  have hown : s.vm.findClass RX6 = some m.cls := findClass_of_methodNamed B.named
  have hlocks := B.notSynchronized
  have hl := lv_entry ([.ref (a 0), .int (zI b)]) (n := 2) (Nat.le_of_ble_eq_true rfl)
  rw [lg_entry_eq]
  generalize (lg_sl ([.ref (a 0), .int (zI b)]) ++ List.replicate (2 - (lg_sl ([.ref (a 0), .int (zI b)])).length) Slot.unset).toArray = ls at hl ⊢
  have hl : lv_has ls 2 [(0, .ref (a 0)), (1, .int (zI b))] := hl
  obtain ⟨b00, b01, b02, b03, b1, b2, b3, b4, b5, b6, b7, b8, b9, b10, b11, b12⟩ := id hI
  have hno := noise_r hI (S 1 b) (S 2 b)
  refine x_iconst hx hb dX6_rent_0 ?_
  refine lv_aload_n hx hb dX6_rent_1 rfl (lv_at hl 0 rfl) ?_
  refine va_get (D := dg) (ci := 9) (v := .ref (a 3)) (C := RX6) (T := TX6) (N := 10) hx hb htg inG_X6 hown hK hP 0 rfl rfl 3 (Nat.le_of_ble_eq_true rfl) (htg _ wq_63) (fun _ h9 => h9) rfl dX6_rent_2 ?_
  refine lv_iload_n hx hb dX6_rent_5 rfl (lv_at hl 1 rfl) ?_
  refine x_iald hx hb hK hP 3 0 (S 3) rfl rfl (fun _ => rfl) (P := fun y => 0 ≤ y ∧ y ≤ 20) b3 (by decide) (by omega) dX6_rent_6 (fun g6 => ?_)
  refine lv_aload_n hx hb dX6_rent_7 rfl (lv_at hl 0 rfl) ?_
  refine lv_aload_n hx hb dX6_rent_8 rfl (lv_at hl 0 rfl) ?_
  refine va_get (D := dg) (ci := 9) (v := .ref (a 1)) (C := RX6) (T := TX6) (N := 10) hx hb htg inG_X6 hown hK hP 0 rfl rfl 1 (Nat.le_of_ble_eq_true rfl) (htg _ wq_57) (fun _ h9 => h9) rfl dX6_rent_9 ?_
  refine lv_iload_n hx hb dX6_rent_12 rfl (lv_at hl 1 rfl) ?_
  refine x_iald hx hb hK hP 1 0 (S 1) rfl rfl (fun _ => rfl) (P := fun y => 0 ≤ y ∧ y ≤ 5) b1 (by decide) (by omega) dX6_rent_13 (fun g13 => ?_)
  refine lv_aload_n hx hb dX6_rent_14 rfl (lv_at hl 0 rfl) ?_
  refine va_get (D := dg) (ci := 9) (v := .ref (a 2)) (C := RX6) (T := TX6) (N := 10) hx hb htg inG_X6 hown hK hP 0 rfl rfl 2 (Nat.le_of_ble_eq_true rfl) (htg _ wq_60) (fun _ h9 => h9) rfl dX6_rent_15 ?_
  refine lv_iload_n hx hb dX6_rent_18 rfl (lv_at hl 1 rfl) ?_
  refine x_iald hx hb hK hP 2 0 (S 2) rfl rfl (fun _ => rfl) (P := fun y => 0 ≤ y ∧ y ≤ 5) b2 (by decide) (by omega) dX6_rent_19 (fun g19 => ?_)
  refine vp_callSi (W.runV (As := [.int (zI (S 1 b)), .int (zI (S 2 b))]) (rest := [.int (zI (S 3 b)), .int (zI 1)]) ⟨hx, hb, hml, hown, htg⟩ (c_noise l dg ck a S (S 1 b) (S 2 b) hI (by omega) (by omega)) (cwV 2 htg (gwV wq_458 wq_459 wq_460 wq_3 wq_461) rfl rfl rfl (by decide +kernel) ⟨Nat.le_of_ble_eq_true rfl, Nat.le_of_ble_eq_true rfl⟩) (rd_preV hK hP 0 9 rfl rfl) rfl rfl hl.1 rfl (lv_room (Nat.le_of_ble_eq_true rfl)) dX6_rent_20 ⟨Nat.zero_le _, Nat.zero_le _⟩) (fun r20 hr20 => ?_)
  subst hr20
  refine x_isub hx hb dX6_rent_23 ?_
  refine x_mmax hx hb (hml.trans hl.1.symm) hown (htg _ wq_465) (htg _ wq_466) (htg _ wq_23) (htg _ wq_467) (Nat.le_of_ble_eq_true rfl) (Nat.le_of_ble_eq_true rfl) (Nat.zero_le _) (Nat.zero_le _) (by omega) (by omega) dX6_rent_24 (fun m24 hm24 => ?_)
  exact W.iret (v := _) hx hb hr (fun t9 ht9 hW9 => ⟨_, rfl, (congrArg zI (by unfold rent noiseB; split <;> omega)), ht9⟩) (fun _ h => by cases h) dX6_rent_27

set_option maxHeartbeats 4000000 in
set_option maxRecDepth 100000 in
/-- BenchBroker$Park.quiet -/
theorem c_quiet (l : Launch) (dg : va_G) (ck : Nat → ClassId) (a : Nat → Nat) (S : St) (b : Int) (hI : Bd S) (hb0 : 0 ≤ b ∧ b < 10) : Met l yX6_quiet (.code yX6_quiet cX6_quiet 2 (some .boolean) :: GW) ({ frames := 2, cells := 0, slots := 0, locals := 47 }) (va_Pc [.ref (a 0), .int (zI b)] (rdP dg ck (parkC ck a S))) (vp_Si (fun r => r = zI (bI (quietB S b)))) 0 0 (fun _ => False) := by
  refine Met.ofW (cc := cX6_quiet) (maxL := 2) (ret := (some .boolean)) (by decide) rfl ?_
  intro p e s m args below meth c s₁ B hml hv
  obtain ⟨rfl, hP, hK⟩ := hv
  have hx := B.exec
  have hb := B.bytes
  have hr := B.returns
  have hts := atoms_spec (ws := .code yX6_quiet cX6_quiet 2 (some .boolean) :: GW) B.pre
  have htg : ∀ w ∈ GW, w.before _ s = true := fun w h => hts w (List.mem_cons_of_mem _ h)
  have hown : s.vm.findClass RX6 = some m.cls := findClass_of_methodNamed B.named
  have hlocks := B.notSynchronized
  have hl := lv_entry ([.ref (a 0), .int (zI b)]) (n := 2) (Nat.le_of_ble_eq_true rfl)
  rw [lg_entry_eq]
  generalize (lg_sl ([.ref (a 0), .int (zI b)]) ++ List.replicate (2 - (lg_sl ([.ref (a 0), .int (zI b)])).length) Slot.unset).toArray = ls at hl ⊢
  have hl : lv_has ls 2 [(0, .ref (a 0)), (1, .int (zI b))] := hl
  obtain ⟨b00, b01, b02, b03, b1, b2, b3, b4, b5, b6, b7, b8, b9, b10, b11, b12⟩ := id hI
  have hno := noise_r hI (S 1 b) (S 2 b)
  refine lv_aload_n hx hb dX6_quiet_0 rfl (lv_at hl 0 rfl) ?_
  refine lv_aload_n hx hb dX6_quiet_1 rfl (lv_at hl 0 rfl) ?_
  refine va_get (D := dg) (ci := 9) (v := .ref (a 1)) (C := RX6) (T := TX6) (N := 10) hx hb htg inG_X6 hown hK hP 0 rfl rfl 1 (Nat.le_of_ble_eq_true rfl) (htg _ wq_57) (fun _ h9 => h9) rfl dX6_quiet_2 ?_
  refine lv_iload_n hx hb dX6_quiet_5 rfl (lv_at hl 1 rfl) ?_
  refine x_iald hx hb hK hP 1 0 (S 1) rfl rfl (fun _ => rfl) (P := fun y => 0 ≤ y ∧ y ≤ 5) b1 (by decide) (by omega) dX6_quiet_6 (fun g6 => ?_)
  refine lv_aload_n hx hb dX6_quiet_7 rfl (lv_at hl 0 rfl) ?_
  refine va_get (D := dg) (ci := 9) (v := .ref (a 2)) (C := RX6) (T := TX6) (N := 10) hx hb htg inG_X6 hown hK hP 0 rfl rfl 2 (Nat.le_of_ble_eq_true rfl) (htg _ wq_60) (fun _ h9 => h9) rfl dX6_quiet_8 ?_
  refine lv_iload_n hx hb dX6_quiet_11 rfl (lv_at hl 1 rfl) ?_
  refine x_iald hx hb hK hP 2 0 (S 2) rfl rfl (fun _ => rfl) (P := fun y => 0 ≤ y ∧ y ≤ 5) b2 (by decide) (by omega) dX6_quiet_12 (fun g12 => ?_)
  refine vp_callSi (W.runV (As := [.int (zI (S 1 b)), .int (zI (S 2 b))]) (rest := []) ⟨hx, hb, hml, hown, htg⟩ (c_noise l dg ck a S (S 1 b) (S 2 b) hI (by omega) (by omega)) (cwV 2 htg (gwV wq_458 wq_459 wq_460 wq_3 wq_461) rfl rfl rfl (by decide +kernel) ⟨Nat.le_of_ble_eq_true rfl, Nat.le_of_ble_eq_true rfl⟩) (rd_preV hK hP 0 9 rfl rfl) rfl rfl hl.1 rfl (lv_room (Nat.le_of_ble_eq_true rfl)) dX6_quiet_13 ⟨Nat.zero_le _, Nat.zero_le _⟩) (fun r13 hr13 => ?_)
  subst hr13
  refine lv_aload_n hx hb dX6_quiet_16 rfl (lv_at hl 0 rfl) ?_
  refine va_get (D := dg) (ci := 9) (v := .int (zI (S 0 3))) (C := RX6) (T := TX6) (N := 10) hx hb htg inG_X6 hown hK hP 0 rfl rfl 9 (Nat.le_of_ble_eq_true rfl) (htg _ wq_78) (fun _ h9 => h9) rfl dX6_quiet_17 ?_
  refine x_icmp_gt (tgt := 27) hx hb dX6_quiet_20 (by decide) (by omega) (by omega) (fun c20 => ?_) (fun c20 => ?_)
  · refine x_iconst hx hb dX6_quiet_27 ?_
    exact W.zret (v := _) hx hb hr (by first | rfl | rfl) (fun t9 ht9 hW9 => ⟨_, rfl, (congrArg zI (by first | exact (bI_t (show noise S (S 1 b) (S 2 b) ≤ S 0 3 by omega)).symm | exact (bI_f (show ¬ noise S (S 1 b) (S 2 b) ≤ S 0 3 by omega)).symm)), ht9⟩) (fun _ h => by cases h) dX6_quiet_28
  · refine x_iconst hx hb dX6_quiet_23 ?_
    refine lv_goto (tgt := 28) hx hb dX6_quiet_24 (by decide) ?_
    exact W.zret (v := _) hx hb hr (by first | rfl | rfl) (fun t9 ht9 hW9 => ⟨_, rfl, (congrArg zI (by first | exact (bI_t (show noise S (S 1 b) (S 2 b) ≤ S 0 3 by omega)).symm | exact (bI_f (show ¬ noise S (S 1 b) (S 2 b) ≤ S 0 3 by omega)).symm)), ht9⟩) (fun _ h => by cases h) dX6_quiet_28

/-- the first of n places from i on that p holds of, or -1 -/
def scan (p : Int → Prop) [DecidablePred p] : Nat → Int → Int
  | 0, _ => -1
  | n + 1, i => if p i then i else scan p n (i + 1)
theorem scan_s {p : Int → Prop} [DecidablePred p] {n i : Int} (h : i < n) : scan p (n - i).toNat i = if p i then i else scan p (n - (i + 1)).toNat (i + 1) := by
  rw [show (n - i).toNat = (n - (i + 1)).toNat + 1 by omega]
  rfl
theorem scan_e {p : Int → Prop} [DecidablePred p] {n i : Int} (h : n ≤ i) : scan p (n - i).toNat i = -1 := by
  rw [show (n - i).toNat = 0 by omega]
  rfl
theorem scan_r {p : Int → Prop} [DecidablePred p] : ∀ (n : Nat) (i : Int), 0 ≤ i → scan p n i = -1 ∨ (i ≤ scan p n i ∧ scan p n i < i + n ∧ p (scan p n i))
  | 0, _, _ => Or.inl rfl
  | n + 1, i, hi => by
    unfold scan
    split
    · rename_i h; exact Or.inr ⟨Int.le_refl _, by omega, h⟩
    · rcases scan_r (p := p) n (i + 1) (by omega) with h | ⟨h1, h2, h3⟩
      · exact Or.inl h
      · exact Or.inr ⟨by omega, by omega, h3⟩
def hBench (S : St) (r c : Int) : Int := scan (fun i => S 1 i = r ∧ S 2 i = c) (S 0 0 - 0).toNat 0
def hFount (S : St) (r c : Int) : Int := scan (fun i => S 7 i = r ∧ S 8 i = c) (S 0 1 - 0).toNat 0
def holder (S : St) (r c : Int) : Int := if hBench S r c ≠ -1 then hBench S r c else if hFount S r c ≠ -1 then 10 + hFount S r c else -1
theorem hBench_r {S : St} (hI : Bd S) (r c : Int) : -1 ≤ hBench S r c ∧ hBench S r c < S 0 0 ∧ hBench S r c ≤ 9 := by
  have h0 := hI.1
  rcases scan_r (p := fun i => S 1 i = r ∧ S 2 i = c) (S 0 0 - 0).toNat 0 (by omega) with h | h <;> unfold hBench <;> omega
theorem hFount_r {S : St} (hI : Bd S) (r c : Int) : -1 ≤ hFount S r c ∧ hFount S r c < S 0 1 ∧ hFount S r c ≤ 3 := by
  have h0 := hI.2.1
  rcases scan_r (p := fun i => S 7 i = r ∧ S 8 i = c) (S 0 1 - 0).toNat 0 (by omega) with h | h <;> unfold hFount <;> omega
theorem holder_r {S : St} (hI : Bd S) (r c : Int) : -1 ≤ holder S r c ∧ holder S r c ≤ 13 := by
  have h1 := hBench_r hI r c
  have h2 := hFount_r hI r c
  unfold holder
  split
  · omega
  · split <;> omega

set_option maxHeartbeats 4000000 in
set_option maxRecDepth 100000 in
/-- BenchBroker$Park.holder -/
theorem c_holder (l : Launch) (dg : va_G) (ck : Nat → ClassId) (a : Nat → Nat) (S : St) (x y : Int) (hI : Bd S) (rg_x : -2147483648 ≤ x ∧ x < 2147483648) (rg_y : -2147483648 ≤ y ∧ y < 2147483648) : Met l yX6_holder (.code yX6_holder cX6_holder 4 (some .int) :: GW) ({ frames := 0, cells := 0, slots := 0, locals := 0 }) (va_Pc [.ref (a 0), .int (zI x), .int (zI y)] (rdP dg ck (parkC ck a S))) (vp_Si (fun r => r = zI (holder S x y))) 0 0 (fun _ => False) := by
  refine Met.ofW (cc := cX6_holder) (maxL := 4) (ret := (some .int)) (by decide) rfl ?_
  intro p e s m args below meth c s₁ B hml hv
  obtain ⟨rfl, hP, hK⟩ := hv
  have hx := B.exec
  have hb := B.bytes
  have hr := B.returns
  have hts := atoms_spec (ws := .code yX6_holder cX6_holder 4 (some .int) :: GW) B.pre
  have htg : ∀ w ∈ GW, w.before _ s = true := fun w h => hts w (List.mem_cons_of_mem _ h)
  have hown : s.vm.findClass RX6 = some m.cls := findClass_of_methodNamed B.named
  have hlocks := B.notSynchronized
  have hl := lv_entry ([.ref (a 0), .int (zI x), .int (zI y)]) (n := 4) (Nat.le_of_ble_eq_true rfl)
  rw [lg_entry_eq]
  generalize (lg_sl ([.ref (a 0), .int (zI x), .int (zI y)]) ++ List.replicate (4 - (lg_sl ([.ref (a 0), .int (zI x), .int (zI y)])).length) Slot.unset).toArray = ls at hl ⊢
  have hl : lv_has ls 4 [(0, .ref (a 0)), (1, .int (zI x)), (2, .int (zI y))] := hl
  obtain ⟨b00, b01, b02, b03, b1, b2, b3, b4, b5, b6, b7, b8, b9, b10, b11, b12⟩ := id hI
  refine x_iconst hx hb dX6_holder_0 ?_
  refine lv_istore_n (lv' := [(3, .int (zI 0)), (0, .ref (a 0)), (1, .int (zI x)), (2, .int (zI y))]) hx hb dX6_holder_1 rfl hl (by decide) rfl (fun ls hl => ?_)
  refine x_loop (ι := Int) (fun v => (0 ≤ v ∧ v ≤ S 0 0) ∧ hBench S x y = scan (fun j => S 1 j = x ∧ S 2 j = y) (S 0 0 - v).toNat v) (fun v => (S 0 0 - v).toNat) (fun v => [(0, .ref (a 0)), (1, .int (zI x)), (2, .int (zI y)), (3, .int (zI v))]) (0) (show (0 ≤ (0 : Int) ∧ (0 : Int) ≤ S 0 0) ∧ hBench S x y = scan (fun j => S 1 j = x ∧ S 2 j = y) (S 0 0 - (0 : Int)).toNat (0 : Int) from ⟨by omega, rfl⟩) (lv_sub hl [1, 2, 3, 0] rfl) ?_
  intro v hv ih_2 ls hl
  obtain ⟨i, rfl⟩ : ∃ z : Int, z = v := ⟨_, rfl⟩
  have hl : lv_has ls 4 [(0, .ref (a 0)), (1, .int (zI x)), (2, .int (zI y)), (3, .int (zI i))] := hl
  have hv : (0 ≤ i ∧ i ≤ S 0 0) ∧ hBench S x y = scan (fun j => S 1 j = x ∧ S 2 j = y) (S 0 0 - i).toNat i := hv
  obtain ⟨hi, hB⟩ := hv
  refine lv_iload_n hx hb dX6_holder_2 rfl (lv_at hl 3 rfl) ?_
  refine lv_aload_n hx hb dX6_holder_3 rfl (lv_at hl 0 rfl) ?_
  refine va_get (D := dg) (ci := 9) (v := .int (zI (S 0 0))) (C := RX6) (T := TX6) (N := 10) hx hb htg inG_X6 hown hK hP 0 rfl rfl 0 (Nat.le_of_ble_eq_true rfl) (htg _ wq_54) (fun _ h9 => h9) rfl dX6_holder_4 ?_
  refine x_icmp_ge (tgt := 38) hx hb dX6_holder_7 (by decide) (by omega) (by omega) (fun c7 => ?_) (fun c7 => ?_)
  · have hBm : hBench S x y = -1 := by rw [hB]; exact scan_e (by omega)
    refine x_iconst hx hb dX6_holder_38 ?_
    refine lv_istore_n (lv' := [(3, .int (zI 0)), (0, .ref (a 0)), (1, .int (zI x)), (2, .int (zI y))]) hx hb dX6_holder_39 rfl hl (by decide) rfl (fun ls hl => ?_)
    refine x_loop (ι := Int) (fun v => (0 ≤ v ∧ v ≤ S 0 1) ∧ hFount S x y = scan (fun j => S 7 j = x ∧ S 8 j = y) (S 0 1 - v).toNat v) (fun v => (S 0 1 - v).toNat) (fun v => [(0, .ref (a 0)), (1, .int (zI x)), (2, .int (zI y)), (3, .int (zI v))]) (0) (show (0 ≤ (0 : Int) ∧ (0 : Int) ≤ S 0 1) ∧ hFount S x y = scan (fun j => S 7 j = x ∧ S 8 j = y) (S 0 1 - (0 : Int)).toNat (0 : Int) from ⟨by omega, rfl⟩) (lv_sub hl [1, 2, 3, 0] rfl) ?_
    intro v hv ih_40 ls hl
    obtain ⟨i, rfl⟩ : ∃ z : Int, z = v := ⟨_, rfl⟩
    have hl : lv_has ls 4 [(0, .ref (a 0)), (1, .int (zI x)), (2, .int (zI y)), (3, .int (zI i))] := hl
    have hv : (0 ≤ i ∧ i ≤ S 0 1) ∧ hFount S x y = scan (fun j => S 7 j = x ∧ S 8 j = y) (S 0 1 - i).toNat i := hv
    obtain ⟨hi2, hF⟩ := hv
    refine lv_iload_n hx hb dX6_holder_40 rfl (lv_at hl 3 rfl) ?_
    refine lv_aload_n hx hb dX6_holder_41 rfl (lv_at hl 0 rfl) ?_
    refine va_get (D := dg) (ci := 9) (v := .int (zI (S 0 1))) (C := RX6) (T := TX6) (N := 10) hx hb htg inG_X6 hown hK hP 0 rfl rfl 4 (Nat.le_of_ble_eq_true rfl) (htg _ wq_65) (fun _ h9 => h9) rfl dX6_holder_42 ?_
    refine x_icmp_ge (tgt := 79) hx hb dX6_holder_45 (by decide) (by omega) (by omega) (fun c45 => ?_) (fun c45 => ?_)
    · refine x_iconst hx hb dX6_holder_79 ?_
      exact W.iret (v := _) hx hb hr (fun t9 ht9 hW9 => ⟨_, rfl, (congrArg zI (by first | (have h1 : hBench S x y = i := (by rw [hB, scan_s (by omega), if_pos (by omega)]); unfold holder; rw [h1, if_pos (by omega)]) | (have h1 : hFount S x y = i := (by rw [hF, scan_s (by omega), if_pos (by omega)]); unfold holder; rw [hBm, h1, if_neg (by omega), if_pos (by omega)]) | (have h1 : hFount S x y = -1 := (by rw [hF]; exact scan_e (by omega)); unfold holder; rw [hBm, h1, if_neg (by omega), if_neg (by omega)]))), ht9⟩) (fun _ h => by cases h) dX6_holder_80
    · refine lv_aload_n hx hb dX6_holder_48 rfl (lv_at hl 0 rfl) ?_
      refine va_get (D := dg) (ci := 9) (v := .ref (a 4)) (C := RX6) (T := TX6) (N := 10) hx hb htg inG_X6 hown hK hP 0 rfl rfl 5 (Nat.le_of_ble_eq_true rfl) (htg _ wq_68) (fun _ h9 => h9) rfl dX6_holder_49 ?_
      refine lv_iload_n hx hb dX6_holder_52 rfl (lv_at hl 3 rfl) ?_
      refine x_iald hx hb hK hP 4 0 (S 7) rfl rfl (fun _ => rfl) (P := fun y => 0 ≤ y ∧ y ≤ 5) b7 (by decide) (by omega) dX6_holder_53 (fun g53 => ?_)
      refine lv_iload_n hx hb dX6_holder_54 rfl (lv_at hl 1 rfl) ?_
      refine x_icmp_ne (tgt := 73) hx hb dX6_holder_55 (by decide) (by omega) (by omega) (fun c55 => ?_) (fun c55 => ?_)
      · obtain ⟨v73, e_v73⟩ : ∃ y : Int, y = i + 1 := ⟨_, rfl⟩
        refine lv_iinc (v := zI v73) (lv' := [(3, .int (zI v73)), (0, .ref (a 0)), (1, .int (zI x)), (2, .int (zI y))]) hx hb dX6_holder_73 hl (k := 3) rfl (by rw [e_v73]; exact zI_add _ _) (by decide) rfl (fun ls hl => ?_)
        refine lv_goto (tgt := 40) hx hb dX6_holder_76 (by decide) ?_
        exact ih_40 (v73) (show (0 ≤ v73 ∧ v73 ≤ S 0 1) ∧ hFount S x y = scan (fun j => S 7 j = x ∧ S 8 j = y) (S 0 1 - v73).toNat v73 from ⟨by omega, by rw [hF, scan_s (by omega), if_neg (by omega), e_v73]⟩) (show (S 0 1 - v73).toNat < (S 0 1 - i).toNat from by omega) ls (lv_sub hl [1, 2, 3, 0] rfl)
      · refine lv_aload_n hx hb dX6_holder_58 rfl (lv_at hl 0 rfl) ?_
        refine va_get (D := dg) (ci := 9) (v := .ref (a 5)) (C := RX6) (T := TX6) (N := 10) hx hb htg inG_X6 hown hK hP 0 rfl rfl 6 (Nat.le_of_ble_eq_true rfl) (htg _ wq_70) (fun _ h9 => h9) rfl dX6_holder_59 ?_
        refine lv_iload_n hx hb dX6_holder_62 rfl (lv_at hl 3 rfl) ?_
        refine x_iald hx hb hK hP 5 0 (S 8) rfl rfl (fun _ => rfl) (P := fun y => 0 ≤ y ∧ y ≤ 5) b8 (by decide) (by omega) dX6_holder_63 (fun g63 => ?_)
        refine lv_iload_n hx hb dX6_holder_64 rfl (lv_at hl 2 rfl) ?_
        refine x_icmp_ne (tgt := 73) hx hb dX6_holder_65 (by decide) (by omega) (by omega) (fun c65 => ?_) (fun c65 => ?_)
        · obtain ⟨v73, e_v73⟩ : ∃ y : Int, y = i + 1 := ⟨_, rfl⟩
          refine lv_iinc (v := zI v73) (lv' := [(3, .int (zI v73)), (0, .ref (a 0)), (1, .int (zI x)), (2, .int (zI y))]) hx hb dX6_holder_73 hl (k := 3) rfl (by rw [e_v73]; exact zI_add _ _) (by decide) rfl (fun ls hl => ?_)
          refine lv_goto (tgt := 40) hx hb dX6_holder_76 (by decide) ?_
          exact ih_40 (v73) (show (0 ≤ v73 ∧ v73 ≤ S 0 1) ∧ hFount S x y = scan (fun j => S 7 j = x ∧ S 8 j = y) (S 0 1 - v73).toNat v73 from ⟨by omega, by rw [hF, scan_s (by omega), if_neg (by omega), e_v73]⟩) (show (S 0 1 - v73).toNat < (S 0 1 - i).toNat from by omega) ls (lv_sub hl [1, 2, 3, 0] rfl)
        · refine x_bipush hx hb dX6_holder_68 (by decide) ?_
          refine lv_iload_n hx hb dX6_holder_70 rfl (lv_at hl 3 rfl) ?_
          refine x_iadd hx hb dX6_holder_71 ?_
          exact W.iret (v := _) hx hb hr (fun t9 ht9 hW9 => ⟨_, rfl, (congrArg zI (by first | (have h1 : hBench S x y = i := (by rw [hB, scan_s (by omega), if_pos (by omega)]); unfold holder; rw [h1, if_pos (by omega)]) | (have h1 : hFount S x y = i := (by rw [hF, scan_s (by omega), if_pos (by omega)]); unfold holder; rw [hBm, h1, if_neg (by omega), if_pos (by omega)]) | (have h1 : hFount S x y = -1 := (by rw [hF]; exact scan_e (by omega)); unfold holder; rw [hBm, h1, if_neg (by omega), if_neg (by omega)]))), ht9⟩) (fun _ h => by cases h) dX6_holder_72
  · refine lv_aload_n hx hb dX6_holder_10 rfl (lv_at hl 0 rfl) ?_
    refine va_get (D := dg) (ci := 9) (v := .ref (a 1)) (C := RX6) (T := TX6) (N := 10) hx hb htg inG_X6 hown hK hP 0 rfl rfl 1 (Nat.le_of_ble_eq_true rfl) (htg _ wq_57) (fun _ h9 => h9) rfl dX6_holder_11 ?_
    refine lv_iload_n hx hb dX6_holder_14 rfl (lv_at hl 3 rfl) ?_
    refine x_iald hx hb hK hP 1 0 (S 1) rfl rfl (fun _ => rfl) (P := fun y => 0 ≤ y ∧ y ≤ 5) b1 (by decide) (by omega) dX6_holder_15 (fun g15 => ?_)
    refine lv_iload_n hx hb dX6_holder_16 rfl (lv_at hl 1 rfl) ?_
    refine x_icmp_ne (tgt := 32) hx hb dX6_holder_17 (by decide) (by omega) (by omega) (fun c17 => ?_) (fun c17 => ?_)
    · obtain ⟨v32, e_v32⟩ : ∃ y : Int, y = i + 1 := ⟨_, rfl⟩
      refine lv_iinc (v := zI v32) (lv' := [(3, .int (zI v32)), (0, .ref (a 0)), (1, .int (zI x)), (2, .int (zI y))]) hx hb dX6_holder_32 hl (k := 3) rfl (by rw [e_v32]; exact zI_add _ _) (by decide) rfl (fun ls hl => ?_)
      refine lv_goto (tgt := 2) hx hb dX6_holder_35 (by decide) ?_
      exact ih_2 (v32) (show (0 ≤ v32 ∧ v32 ≤ S 0 0) ∧ hBench S x y = scan (fun j => S 1 j = x ∧ S 2 j = y) (S 0 0 - v32).toNat v32 from ⟨by omega, by rw [hB, scan_s (by omega), if_neg (by omega), e_v32]⟩) (show (S 0 0 - v32).toNat < (S 0 0 - i).toNat from by omega) ls (lv_sub hl [1, 2, 3, 0] rfl)
    · refine lv_aload_n hx hb dX6_holder_20 rfl (lv_at hl 0 rfl) ?_
      refine va_get (D := dg) (ci := 9) (v := .ref (a 2)) (C := RX6) (T := TX6) (N := 10) hx hb htg inG_X6 hown hK hP 0 rfl rfl 2 (Nat.le_of_ble_eq_true rfl) (htg _ wq_60) (fun _ h9 => h9) rfl dX6_holder_21 ?_
      refine lv_iload_n hx hb dX6_holder_24 rfl (lv_at hl 3 rfl) ?_
      refine x_iald hx hb hK hP 2 0 (S 2) rfl rfl (fun _ => rfl) (P := fun y => 0 ≤ y ∧ y ≤ 5) b2 (by decide) (by omega) dX6_holder_25 (fun g25 => ?_)
      refine lv_iload_n hx hb dX6_holder_26 rfl (lv_at hl 2 rfl) ?_
      refine x_icmp_ne (tgt := 32) hx hb dX6_holder_27 (by decide) (by omega) (by omega) (fun c27 => ?_) (fun c27 => ?_)
      · obtain ⟨v32, e_v32⟩ : ∃ y : Int, y = i + 1 := ⟨_, rfl⟩
        refine lv_iinc (v := zI v32) (lv' := [(3, .int (zI v32)), (0, .ref (a 0)), (1, .int (zI x)), (2, .int (zI y))]) hx hb dX6_holder_32 hl (k := 3) rfl (by rw [e_v32]; exact zI_add _ _) (by decide) rfl (fun ls hl => ?_)
        refine lv_goto (tgt := 2) hx hb dX6_holder_35 (by decide) ?_
        exact ih_2 (v32) (show (0 ≤ v32 ∧ v32 ≤ S 0 0) ∧ hBench S x y = scan (fun j => S 1 j = x ∧ S 2 j = y) (S 0 0 - v32).toNat v32 from ⟨by omega, by rw [hB, scan_s (by omega), if_neg (by omega), e_v32]⟩) (show (S 0 0 - v32).toNat < (S 0 0 - i).toNat from by omega) ls (lv_sub hl [1, 2, 3, 0] rfl)
      · refine lv_iload_n hx hb dX6_holder_30 rfl (lv_at hl 3 rfl) ?_
        exact W.iret (v := _) hx hb hr (fun t9 ht9 hW9 => ⟨_, rfl, (congrArg zI (by first | (have h1 : hBench S x y = i := (by rw [hB, scan_s (by omega), if_pos (by omega)]); unfold holder; rw [h1, if_pos (by omega)]) | (have h1 : hFount S x y = i := (by rw [hF, scan_s (by omega), if_pos (by omega)]); unfold holder; rw [hBm, h1, if_neg (by omega), if_pos (by omega)]) | (have h1 : hFount S x y = -1 := (by rw [hF]; exact scan_e (by omega)); unfold holder; rw [hBm, h1, if_neg (by omega), if_neg (by omega)]))), ht9⟩) (fun _ h => by cases h) dX6_holder_31
