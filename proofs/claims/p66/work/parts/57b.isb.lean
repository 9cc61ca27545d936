/-! the law: what holds of each bench and tenant -/
theorem bI_le {P Q : Prop} [Decidable P] [Decidable Q] (h : P → Q) : bI P ≤ bI Q := by
  by_cases c : P
  · rw [bI_t c, bI_t (h c)]; exact Int.le_refl 1
  · rw [bI_f c]; exact (bI_r _).1

set_option maxHeartbeats 4000000 in
set_option maxRecDepth 100000 in
/-- the law: isBench -/
theorem lf_isBench (l : Launch) (dg : va_G) (ck : Nat → ClassId) (ka : Nat → Nat) (ad ra : Nat → Nat → Nat) (S : St) (X : Nat → Int) (Q : Nat → St) (P : St) (z : Int) (b : BU) (x : Int) (sz : Nat) {n : Int} (hκ : KI n S X Q P z) (hR : RO S X Q P z b) (hbx : isBench S x) (hst : l.stackTraces = false) : Met l yL_isBench (.code yL_isBench cL_isBench 10 (some .boolean) :: GW) ({ frames := 10, cells := 30, slots := 180, locals := 181 }) (va_Pc [.ref ((ad 7) 0), .int (zI x)] (wrK dg ck ka sz (brkU ck ka ad ra b))) (va_Qi (fun r (u : BU) => r = zI 1 ∧ RO S X Q P z u) (fun u t9 => wrQ dg sz (brkU ck ka ad ra b) (brkU ck ka ad ra u) t9) (va_A (brkU ck ka ad ra b) sz)) 30 180 (va_A (brkU ck ka ad ra b) sz) := by
  obtain ⟨⟨hV, hV2⟩, ⟨hn, hz⟩, hq10, hhist, hz0, hp10, hsn⟩ := id hκ
  have hI := hV.bd
  refine Met.ofW (cc := cL_isBench) (maxL := 10) (ret := (some .boolean)) (by decide) rfl ?_
  intro p e s m args below meth c s₁ B hml hv
  obtain ⟨rfl, ⟨hsz, hP, hK, hD0⟩, hC⟩ := hv
  have hx := B.exec
  have hb := B.bytes
  have hr := B.returns
  have hts := atoms_spec (ws := .code yL_isBench cL_isBench 10 (some .boolean) :: GW) B.pre
  have htg : ∀ w ∈ GW, w.before _ s = true := fun w h => hts w (List.mem_cons_of_mem _ h)
  have hown : s.vm.findClass RL = some m.cls := findClass_of_methodNamed B.named
  have hlocks := B.notSynchronized
  subst hsz
  have hD := hD0.self (sz := s.heap.size)
  generalize hAe : va_A (brkU ck ka ad ra b) s.heap.size = A at hD hC ⊢
  have hA : ∀ q : Nat, s.heap.size ≤ q → A q := fun q h => by rw [← hAe]; exact Or.inr h
  have hS : va_S A s.heap s.heap [] := va_S.rf
  have hP : va_P dg vwCl (brkU ck ka ad ra b) s.heap := hP
  have hl := lv_entry ([.ref ((ad 7) 0), .int (zI x)]) (n := 10) (Nat.le_of_ble_eq_true rfl)
  rw [lg_entry_eq]
  generalize (lg_sl ([.ref ((ad 7) 0), .int (zI x)]) ++ List.replicate (10 - (lg_sl ([.ref ((ad 7) 0), .int (zI x)])).length) Slot.unset).toArray = ls at hl ⊢
  have hl : lv_has ls 10 [(0, .ref ((ad 7) 0)), (1, .int (zI x))] := hl
  obtain ⟨b00, b01, b02, b03, b1, b2, b3, b4, b5, b6, b7, b8, b9, b10, b11, b12⟩ := id hI
  have q1 := b1 x
  have q2 := b2 x
  have q3 := b3 x
  have q5 := b5 x
  have q6 := b6 x
  have hno := noiseB_r hI x
  have hre : (S 3 x - noiseB S x < 1 ∧ rent S x = 1) ∨ (¬ S 3 x - noiseB S x < 1 ∧ rent S x = S 3 x - noiseB S x) := (Classical.em (S 3 x - noiseB S x < 1)).elim (fun h9 => Or.inl ⟨h9, if_pos h9⟩) (fun h9 => Or.inr ⟨h9, if_neg h9⟩)
  have hrr := rent_r hI x
  have hpb := pay_b hI x
  have hpl := pay_le hI x (S 6 x)
  have hp1 : S 11 (S 4 x - 1) < rent S x * (payable S x + 1) := by rw [Int.mul_comm]; exact hpb.2.2
  have hp2 : rent S x * ((payable S x + 1) - 1) ≤ S 11 (S 4 x - 1) := by rw [Int.mul_comm, Int.add_sub_cancel]; exact hpb.2.1
  have hp3 : rent S x * (payable S x + 1) = rent S x * payable S x + rent S x := by rw [Int.mul_add, Int.mul_one]
  have hp4 : payable S x * rent S x = rent S x * payable S x := Int.mul_comm _ _
  have hp5 := Int.mul_nonneg (show 0 ≤ rent S x by omega) hpb.1
  have hp6 : rent S x * ((payable S x + 1) - 1) = rent S x * payable S x := by rw [Int.add_sub_cancel]
  have hl1 := Int.mul_nonneg (show 0 ≤ rent S x by omega) q6.1
  have hl2 := Int.mul_le_mul hrr.2 q6.2 q6.1 (show (0 : Int) ≤ 20 by decide)
  have hb11 := b11 (S 4 x - 1)
  have hqd : quietB S x ↔ noiseB S x ≤ S 0 3 := Iff.rfl
  have hcase : (S 4 x = 0 ∧ quietB S x) ∨ (S 4 x = 0 ∧ ¬ quietB S x) ∨ (S 4 x ≠ 0 ∧ ¬ quietB S x) ∨ (S 4 x ≠ 0 ∧ quietB S x ∧ payable S x < S 6 x) ∨ (S 4 x ≠ 0 ∧ quietB S x ∧ ¬ payable S x < S 6 x) := by unfold quietB; omega
  rcases hcase with ⟨h4, hq⟩ | ⟨h4, hq⟩ | ⟨h4, hq⟩ | ⟨h4, hq, hd⟩ | ⟨h4, hq, hd⟩
  · have hd : ¬ (S 4 x ≠ 0 ∧ quietB S x ∧ payable S x < S 6 x) := fun q9 => q9.1 h4
    have hqn := hqd.mp hq
    refine lv_aload_n hx hb dL_isBench_0 rfl (lv_at hl 0 rfl) ?_
    refine lv_aload_n hx hb dL_isBench_1 rfl (lv_at hl 0 rfl) ?_
    refine lv_iload_n hx hb dL_isBench_2 rfl (lv_at hl 1 rfl) ?_
    refine x_calliU hP hD hS hA (vx_runSW (As := [.ref ((ad 7) 0), .int (zI x)]) (rest := [.ref ((ad 7) 0)]) ⟨hx, hb, hml, hown, htg⟩ (w_rowOf l dg ck ka ad ra S X Q P z b x _ hκ hR  (by omega) hst) (vx_cwSW 2 htg (gwSW wq_1204 wq_1205 wq_0 wqL_rowOf) rfl rfl rfl (by decide +kernel) ⟨Nat.le_of_ble_eq_true rfl, Nat.le_of_ble_eq_true rfl⟩) (wrK_preS hK hP hD hC hS hA) rfl rfl hl.1 rfl (lv_room (Nat.le_of_ble_eq_true rfl)) dL_isBench_3 ⟨by show _ ≤ 30; omega, by show _ ≤ 180; omega⟩) (fun r3 b3 H locs hw3 hP hD hS => ?_)
    have hP : va_P dg vwCl (brkU ck ka ad ra b3) H := hP
    have hD : va_D A (brkU ck ka ad ra b3) := hD
    obtain ⟨rfl, hR⟩ := hw3
    refine x_is (show (vRow S x) = (S 1 x) from if_pos hbx) ?_
    refine lv_aload_n hx hb dL_isBench_6 rfl (lv_at hl 0 rfl) ?_
    refine lv_iload_n hx hb dL_isBench_7 rfl (lv_at hl 1 rfl) ?_
    refine x_calliU hP hD hS hA (vx_runSW (As := [.ref ((ad 7) 0), .int (zI x)]) (rest := [.int (zI (S 1 x)), .ref ((ad 7) 0)]) ⟨hx, hb, hml, hown, htg⟩ (w_columnOf l dg ck ka ad ra S X Q P z b3 x _ hκ hR  (by omega) hst) (vx_cwSW 2 htg (gwSW wq_1211 wq_1212 wq_0 wqL_columnOf) rfl rfl rfl (by decide +kernel) ⟨Nat.le_of_ble_eq_true rfl, Nat.le_of_ble_eq_true rfl⟩) (wrK_preS hK hP hD hC hS hA) rfl rfl hl.1 rfl (lv_room (Nat.le_of_ble_eq_true rfl)) dL_isBench_8 ⟨by show _ ≤ 30; omega, by show _ ≤ 180; omega⟩) (fun r8 b8 H locs hw8 hP hD hS => ?_)
    have hP : va_P dg vwCl (brkU ck ka ad ra b8) H := hP
    have hD : va_D A (brkU ck ka ad ra b8) := hD
    obtain ⟨rfl, hR⟩ := hw8
    refine x_is (show (vCol S x) = (S 2 x) from if_pos hbx) ?_
    refine x_calliU hP hD hS hA (vx_runSW (As := [.ref ((ad 7) 0), .int (zI (S 1 x)), .int (zI (S 2 x))]) (rest := []) ⟨hx, hb, hml, hown, htg⟩ (w_noiseAt l dg ck ka ad ra S X Q P z b8 (S 1 x) (S 2 x) _ hκ hR  (by omega) (by omega) hst) (vx_cwSW 3 htg (gwSW wq_1363 wq_1364 wq_0 wqL_noiseAt) rfl rfl rfl (by decide +kernel) ⟨Nat.le_of_ble_eq_true rfl, Nat.le_of_ble_eq_true rfl⟩) (wrK_preS hK hP hD hC hS hA) rfl rfl hl.1 rfl (lv_room (Nat.le_of_ble_eq_true rfl)) dL_isBench_11 ⟨by show _ ≤ 30; omega, by show _ ≤ 180; omega⟩) (fun r11 b11 H locs hw11 hP hD hS => ?_)
    have hP : va_P dg vwCl (brkU ck ka ad ra b11) H := hP
    have hD : va_D A (brkU ck ka ad ra b11) := hD
    obtain ⟨rfl, hR⟩ := hw11
    refine x_is (show (vNoise S (S 1 x) (S 2 x)) = (noiseB S x) from if_pos ⟨⟨by omega, by omega⟩, by omega, by omega⟩) ?_
    refine lv_istore_n (lv' := [(2, .int (zI (noiseB S x))), (0, .ref ((ad 7) 0)), (1, .int (zI x))]) hx hb dL_isBench_14 rfl hl (by decide) rfl (fun ls hl => ?_)
    refine lv_aload_n hx hb dL_isBench_15 rfl (lv_at hl 1 rfl) ?_
    refine lv_iload_n hx hb dL_isBench_16 rfl (lv_at hl 2 rfl) ?_
    refine x_calliU hP hD hS hA (vx_runSW (As := [.ref ((ad 7) 0), .int (zI x)]) (rest := []) ⟨hx, hb, hml, hown, htg⟩ (w_isQuiet l dg ck ka ad ra S X Q P z b11 x _ hκ hR  (by omega) hst) (vx_cwSW 2 htg (gwSW wq_1371 wq_1372 wq_0 wqL_isQuiet) rfl rfl rfl (by decide +kernel) ⟨Nat.le_of_ble_eq_true rfl, Nat.le_of_ble_eq_true rfl⟩) (wrK_preS hK hP hD hC hS hA) rfl rfl hl.1 rfl (lv_room (Nat.le_of_ble_eq_true rfl)) dL_isBench_17 ⟨by show _ ≤ 30; omega, by show _ ≤ 180; omega⟩) (fun r17 b17 H locs hw17 hP hD hS => ?_)
    have hP : va_P dg vwCl (brkU ck ka ad ra b17) H := hP
    have hD : va_D A (brkU ck ka ad ra b17) := hD
    obtain ⟨rfl, hR⟩ := hw17
    refine x_is (show (vQuiet S x) = 1 from (if_pos hbx).trans (bI_t hq)) ?_
    refine x_iconst hx hb dL_isBench_20 ?_
    refine x_icmp_ne (tgt := 28) hx hb dL_isBench_21 (by decide) (by omega) (by omega) (fun c21 => absurd c21 (by decide)) (fun c21 => ?_)
    refine x_iconst hx hb dL_isBench_24 ?_
    refine lv_goto (tgt := 29) hx hb dL_isBench_25 (by decide) ?_
    refine lv_istore_n (lv' := [(3, .int (zI 1)), (2, .int (zI (noiseB S x))), (0, .ref ((ad 7) 0)), (1, .int (zI x))]) hx hb dL_isBench_29 rfl hl (by decide) rfl (fun ls hl => ?_)
    refine lv_aload_n hx hb dL_isBench_30 rfl (lv_at hl 2 rfl) ?_
    refine lv_iload_n hx hb dL_isBench_31 rfl (lv_at hl 3 rfl) ?_
    refine x_calliU hP hD hS hA (vx_runSW (As := [.ref ((ad 7) 0), .int (zI x)]) (rest := []) ⟨hx, hb, hml, hown, htg⟩ (w_rentOf l dg ck ka ad ra S X Q P z b17 x _ hκ hR  (by omega) hst) (vx_cwSW 2 htg (gwSW wq_338 wq_339 wq_0 wqL_rentOf) rfl rfl rfl (by decide +kernel) ⟨Nat.le_of_ble_eq_true rfl, Nat.le_of_ble_eq_true rfl⟩) (wrK_preS hK hP hD hC hS hA) rfl rfl hl.1 rfl (lv_room (Nat.le_of_ble_eq_true rfl)) dL_isBench_32 ⟨by show _ ≤ 30; omega, by show _ ≤ 180; omega⟩) (fun r32 b32 H locs hw32 hP hD hS => ?_)
    have hP : va_P dg vwCl (brkU ck ka ad ra b32) H := hP
    have hD : va_D A (brkU ck ka ad ra b32) := hD
    obtain ⟨rfl, hR⟩ := hw32
    refine x_is (show (vRent S x) = (rent S x) from if_pos hbx) ?_
    refine x_iconst hx hb dL_isBench_35 ?_
    refine lv_aload_n hx hb dL_isBench_36 rfl (lv_at hl 2 rfl) ?_
    refine lv_iload_n hx hb dL_isBench_37 rfl (lv_at hl 3 rfl) ?_
    refine x_calliU hP hD hS hA (vx_runSW (As := [.ref ((ad 7) 0), .int (zI x)]) (rest := [.int (zI 1), .int (zI (rent S x))]) ⟨hx, hb, hml, hown, htg⟩ (w_baseRent l dg ck ka ad ra S X Q P z b32 x _ hκ hR  (by omega) hst) (vx_cwSW 2 htg (gwSW wq_1197 wq_1198 wq_0 wqL_baseRent) rfl rfl rfl (by decide +kernel) ⟨Nat.le_of_ble_eq_true rfl, Nat.le_of_ble_eq_true rfl⟩) (wrK_preS hK hP hD hC hS hA) rfl rfl hl.1 rfl (lv_room (Nat.le_of_ble_eq_true rfl)) dL_isBench_38 ⟨by show _ ≤ 30; omega, by show _ ≤ 180; omega⟩) (fun r38 b38 H locs hw38 hP hD hS => ?_)
    have hP : va_P dg vwCl (brkU ck ka ad ra b38) H := hP
    have hD : va_D A (brkU ck ka ad ra b38) := hD
    obtain ⟨rfl, hR⟩ := hw38
    refine x_is (show (vBase S x) = (S 3 x) from if_pos hbx) ?_
    refine lv_iload_n hx hb dL_isBench_41 rfl (lv_at hl 1 rfl) ?_
    refine x_isub hx hb dL_isBench_42 ?_
    refine x_mmax hx hb (hml.trans hl.1.symm) hown (htg _ wq_1378) (htg _ wq_466) (htg _ wq_23) (htg _ wq_467) (Nat.le_of_ble_eq_true rfl) (Nat.le_of_ble_eq_true rfl) (by show _ ≤ 30; omega) (by show _ ≤ 180; omega) (by omega) (by omega) dL_isBench_43 (fun m43 hm43 => ?_)
    refine x_icmp_ne (tgt := 70) hx hb dL_isBench_46 (by decide) (by omega) (by omega) (fun c46 => False.elim (by omega)) (fun c46 => ?_)
    refine lv_iload_n hx hb dL_isBench_49 rfl (lv_at hl 0 rfl) ?_
    refine lv_iload_n hx hb dL_isBench_50 rfl (lv_at hl 1 rfl) ?_
    refine lv_aload_n hx hb dL_isBench_51 rfl (lv_at hl 2 rfl) ?_
    refine x_calliU hP hD hS hA (va_runV (As := []) (rest := [.int (zI (noiseB S x)), .int (zI 1)]) ⟨hx, hb, hml, hown, htg⟩ (g_noiseLimit l dg ck ka ad ra S X Q P z b38 _ hκ hR) (cwV 0 htg (gwV wq_1182 wq_1183 wq_1184 wq_1 wq_1185) rfl rfl rfl (by decide +kernel) ⟨Nat.le_of_ble_eq_true rfl, Nat.le_of_ble_eq_true rfl⟩) (wrK_preV hK hP hD hC hS hA 0 10 rfl rfl) rfl rfl hl.1 rfl (lv_room (Nat.le_of_ble_eq_true rfl)) dL_isBench_52 ⟨by show _ ≤ 30; omega, by show _ ≤ 180; omega⟩) (fun r52 b52 H locs hw52 hP hD hS => ?_)
    have hP : va_P dg vwCl (brkU ck ka ad ra b52) H := hP
    have hD : va_D A (brkU ck ka ad ra b52) := hD
    obtain ⟨rfl, hR⟩ := hw52
    refine x_icmp_gt (tgt := 62) hx hb dL_isBench_55 (by decide) (by omega) (by omega) (fun c55 => False.elim (by omega)) (fun c55 => ?_)
    refine x_iconst hx hb dL_isBench_58 ?_
    refine lv_goto (tgt := 63) hx hb dL_isBench_59 (by decide) ?_
    refine x_icmp_ne (tgt := 70) hx hb dL_isBench_63 (by decide) (by omega) (by omega) (fun c63 => absurd c63 (by decide)) (fun c63 => ?_)
    refine x_iconst hx hb dL_isBench_66 ?_
    refine lv_goto (tgt := 71) hx hb dL_isBench_67 (by decide) ?_
    refine lv_istore (lv' := [(4, .int (zI 1)), (3, .int (zI 1)), (2, .int (zI (noiseB S x))), (0, .ref ((ad 7) 0)), (1, .int (zI x))]) hx hb dL_isBench_71 hl (by decide) rfl (fun ls hl => ?_)
    refine lv_aload_n hx hb dL_isBench_73 rfl (lv_at hl 3 rfl) ?_
    refine lv_iload_n hx hb dL_isBench_74 rfl (lv_at hl 4 rfl) ?_
    refine x_calliU hP hD hS hA (vx_runSW (As := [.ref ((ad 7) 0), .int (zI x)]) (rest := []) ⟨hx, hb, hml, hown, htg⟩ (w_tenantOf l dg ck ka ad ra S X Q P z b52 x _ hκ hR  (by omega) hst) (vx_cwSW 2 htg (gwSW wq_533 wq_534 wq_0 wqL_tenantOf) rfl rfl rfl (by decide +kernel) ⟨Nat.le_of_ble_eq_true rfl, Nat.le_of_ble_eq_true rfl⟩) (wrK_preS hK hP hD hC hS hA) rfl rfl hl.1 rfl (lv_room (Nat.le_of_ble_eq_true rfl)) dL_isBench_75 ⟨by show _ ≤ 30; omega, by show _ ≤ 180; omega⟩) (fun r75 b75 H locs hw75 hP hD hS => ?_)
    have hP : va_P dg vwCl (brkU ck ka ad ra b75) H := hP
    have hD : va_D A (brkU ck ka ad ra b75) := hD
    obtain ⟨rfl, hR⟩ := hw75
    refine x_is (show (vTen S x) = (-75) from (if_pos hbx).trans (if_pos h4)) ?_
    refine lv_istore (lv' := [(5, .int (zI (-75))), (4, .int (zI 1)), (3, .int (zI 1)), (2, .int (zI (noiseB S x))), (0, .ref ((ad 7) 0)), (1, .int (zI x))]) hx hb dL_isBench_78 hl (by decide) rfl (fun ls hl => ?_)
    refine lv_aload_n hx hb dL_isBench_80 rfl (lv_at hl 4 rfl) ?_
    refine lv_iload_n hx hb dL_isBench_81 rfl (lv_at hl 5 rfl) ?_
    refine x_calliU hP hD hS hA (vx_runSW (As := [.ref ((ad 7) 0), .int (zI x)]) (rest := []) ⟨hx, hb, hml, hown, htg⟩ (w_defaultMonth l dg ck ka ad ra S X Q P z b75 x _ hκ hR  (by omega) hst) (vx_cwSW 2 htg (gwSW wq_551 wq_552 wq_0 wqL_defaultMonth) rfl rfl rfl (by decide +kernel) ⟨Nat.le_of_ble_eq_true rfl, Nat.le_of_ble_eq_true rfl⟩) (wrK_preS hK hP hD hC hS hA) rfl rfl hl.1 rfl (lv_room (Nat.le_of_ble_eq_true rfl)) dL_isBench_82 ⟨by show _ ≤ 30; omega, by show _ ≤ 180; omega⟩) (fun r82 b82 H locs hw82 hP hD hS => ?_)
    have hP : va_P dg vwCl (brkU ck ka ad ra b82) H := hP
    have hD : va_D A (brkU ck ka ad ra b82) := hD
    obtain ⟨rfl, hR⟩ := hw82
    refine x_is (show (vDefM S x) = (-75) from (if_pos hbx).trans (if_neg hd)) ?_
    refine lv_istore (lv' := [(6, .int (zI (-75))), (5, .int (zI (-75))), (4, .int (zI 1)), (3, .int (zI 1)), (2, .int (zI (noiseB S x))), (0, .ref ((ad 7) 0)), (1, .int (zI x))]) hx hb dL_isBench_85 hl (by decide) rfl (fun ls hl => ?_)
    refine lv_aload_n hx hb dL_isBench_87 rfl (lv_at hl 5 rfl) ?_
    refine lv_iload_n hx hb dL_isBench_88 rfl (lv_at hl 6 rfl) ?_
    refine x_calliU hP hD hS hA (vx_runSW (As := [.ref ((ad 7) 0), .int (zI x)]) (rest := []) ⟨hx, hb, hml, hown, htg⟩ (w_isLet l dg ck ka ad ra S X Q P z b82 x _ hκ hR  (by omega) hst) (vx_cwSW 2 htg (gwSW wq_525 wq_526 wq_0 wqL_isLet) rfl rfl rfl (by decide +kernel) ⟨Nat.le_of_ble_eq_true rfl, Nat.le_of_ble_eq_true rfl⟩) (wrK_preS hK hP hD hC hS hA) rfl rfl hl.1 rfl (lv_room (Nat.le_of_ble_eq_true rfl)) dL_isBench_89 ⟨by show _ ≤ 30; omega, by show _ ≤ 180; omega⟩) (fun r89 b89 H locs hw89 hP hD hS => ?_)
    have hP : va_P dg vwCl (brkU ck ka ad ra b89) H := hP
    have hD : va_D A (brkU ck ka ad ra b89) := hD
    obtain ⟨rfl, hR⟩ := hw89
    refine x_is (show (vLet S x) = 0 from (if_pos hbx).trans (bI_f (fun q9 => q9 h4))) ?_
    refine x_if_ne (tgt := 140) hx hb dL_isBench_92 (by decide) (by omega) (fun c92 => absurd c92 (by decide)) (fun c92 => ?_)
    refine lv_iload hx hb dL_isBench_95 (lv_at hl 2 rfl) ?_
    refine x_if_eq (tgt := 138) hx hb dL_isBench_97 (by decide) (by omega) (fun c97 => absurd c97 (by decide)) (fun c97 => ?_)
    refine lv_iload hx hb dL_isBench_100 (lv_at hl 1 rfl) ?_
    refine x_bipush hx hb dL_isBench_102 (by decide) ?_
    refine x_icmp_ne (tgt := 138) hx hb dL_isBench_104 (by decide) (by omega) (by omega) (fun c104 => absurd c104 (by decide)) (fun c104 => ?_)
    refine lv_aload_n hx hb dL_isBench_107 rfl (lv_at hl 5 rfl) ?_
    refine lv_iload_n hx hb dL_isBench_108 rfl (lv_at hl 6 rfl) ?_
    refine x_calliU hP hD hS hA (vx_runSW (As := [.ref ((ad 7) 0), .int (zI x)]) (rest := []) ⟨hx, hb, hml, hown, htg⟩ (w_depositOf l dg ck ka ad ra S X Q P z b89 x _ hκ hR  (by omega) hst) (vx_cwSW 2 htg (gwSW wq_1218 wq_1219 wq_0 wqL_depositOf) rfl rfl rfl (by decide +kernel) ⟨Nat.le_of_ble_eq_true rfl, Nat.le_of_ble_eq_true rfl⟩) (wrK_preS hK hP hD hC hS hA) rfl rfl hl.1 rfl (lv_room (Nat.le_of_ble_eq_true rfl)) dL_isBench_109 ⟨by show _ ≤ 30; omega, by show _ ≤ 180; omega⟩) (fun r109 b109 H locs hw109 hP hD hS => ?_)
    have hP : va_P dg vwCl (brkU ck ka ad ra b109) H := hP
    have hD : va_D A (brkU ck ka ad ra b109) := hD
    obtain ⟨rfl, hR⟩ := hw109
    refine x_is (show (vDep S x) = (-75) from (if_pos hbx).trans (if_pos h4)) ?_
    refine x_bipush hx hb dL_isBench_112 (by decide) ?_
    refine x_icmp_ne (tgt := 138) hx hb dL_isBench_114 (by decide) (by omega) (by omega) (fun c114 => absurd c114 (by decide)) (fun c114 => ?_)
    refine lv_aload_n hx hb dL_isBench_117 rfl (lv_at hl 5 rfl) ?_
    refine lv_iload_n hx hb dL_isBench_118 rfl (lv_at hl 6 rfl) ?_
    refine x_calliU hP hD hS hA (vx_runSW (As := [.ref ((ad 7) 0), .int (zI x)]) (rest := []) ⟨hx, hb, hml, hown, htg⟩ (w_monthsLeft l dg ck ka ad ra S X Q P z b109 x _ hκ hR  (by omega) hst) (vx_cwSW 2 htg (gwSW wq_544 wq_545 wq_0 wqL_monthsLeft) rfl rfl rfl (by decide +kernel) ⟨Nat.le_of_ble_eq_true rfl, Nat.le_of_ble_eq_true rfl⟩) (wrK_preS hK hP hD hC hS hA) rfl rfl hl.1 rfl (lv_room (Nat.le_of_ble_eq_true rfl)) dL_isBench_119 ⟨by show _ ≤ 30; omega, by show _ ≤ 180; omega⟩) (fun r119 b119 H locs hw119 hP hD hS => ?_)
    have hP : va_P dg vwCl (brkU ck ka ad ra b119) H := hP
    have hD : va_D A (brkU ck ka ad ra b119) := hD
    obtain ⟨rfl, hR⟩ := hw119
    refine x_is (show (vLeft S x) = (-75) from (if_pos hbx).trans (if_pos h4)) ?_
    refine x_bipush hx hb dL_isBench_122 (by decide) ?_
    refine x_icmp_ne (tgt := 138) hx hb dL_isBench_124 (by decide) (by omega) (by omega) (fun c124 => absurd c124 (by decide)) (fun c124 => ?_)
    refine lv_iload hx hb dL_isBench_127 (lv_at hl 0 rfl) ?_
    refine x_bipush hx hb dL_isBench_129 (by decide) ?_
    refine x_icmp_ne (tgt := 138) hx hb dL_isBench_131 (by decide) (by omega) (by omega) (fun c131 => absurd c131 (by decide)) (fun c131 => ?_)
    refine x_iconst hx hb dL_isBench_134 ?_
    refine lv_goto (tgt := 139) hx hb dL_isBench_135 (by decide) ?_
    exact W.widen (k := 30) (n := 180) (by omega) (by omega) (W.zret (v := _) hx hb hr (by first | rfl | exact nar_z (by omega)) (fun t9 ht9 hW9 => ⟨⟨_, b119, rfl, ⟨rfl, hR⟩, by rw [ht9]; exact hP, by rw [hAe]; exact hD⟩, hS.F ht9⟩) hS.2.2 dL_isBench_139)
  · have hd : ¬ (S 4 x ≠ 0 ∧ quietB S x ∧ payable S x < S 6 x) := fun q9 => q9.1 h4
    have hqn : ¬ noiseB S x ≤ S 0 3 := hq
    refine lv_aload_n hx hb dL_isBench_0 rfl (lv_at hl 0 rfl) ?_
    refine lv_aload_n hx hb dL_isBench_1 rfl (lv_at hl 0 rfl) ?_
    refine lv_iload_n hx hb dL_isBench_2 rfl (lv_at hl 1 rfl) ?_
    refine x_calliU hP hD hS hA (vx_runSW (As := [.ref ((ad 7) 0), .int (zI x)]) (rest := [.ref ((ad 7) 0)]) ⟨hx, hb, hml, hown, htg⟩ (w_rowOf l dg ck ka ad ra S X Q P z b x _ hκ hR  (by omega) hst) (vx_cwSW 2 htg (gwSW wq_1204 wq_1205 wq_0 wqL_rowOf) rfl rfl rfl (by decide +kernel) ⟨Nat.le_of_ble_eq_true rfl, Nat.le_of_ble_eq_true rfl⟩) (wrK_preS hK hP hD hC hS hA) rfl rfl hl.1 rfl (lv_room (Nat.le_of_ble_eq_true rfl)) dL_isBench_3 ⟨by show _ ≤ 30; omega, by show _ ≤ 180; omega⟩) (fun r3 b3 H locs hw3 hP hD hS => ?_)
    have hP : va_P dg vwCl (brkU ck ka ad ra b3) H := hP
    have hD : va_D A (brkU ck ka ad ra b3) := hD
    obtain ⟨rfl, hR⟩ := hw3
    refine x_is (show (vRow S x) = (S 1 x) from if_pos hbx) ?_
    refine lv_aload_n hx hb dL_isBench_6 rfl (lv_at hl 0 rfl) ?_
    refine lv_iload_n hx hb dL_isBench_7 rfl (lv_at hl 1 rfl) ?_
    refine x_calliU hP hD hS hA (vx_runSW (As := [.ref ((ad 7) 0), .int (zI x)]) (rest := [.int (zI (S 1 x)), .ref ((ad 7) 0)]) ⟨hx, hb, hml, hown, htg⟩ (w_columnOf l dg ck ka ad ra S X Q P z b3 x _ hκ hR  (by omega) hst) (vx_cwSW 2 htg (gwSW wq_1211 wq_1212 wq_0 wqL_columnOf) rfl rfl rfl (by decide +kernel) ⟨Nat.le_of_ble_eq_true rfl, Nat.le_of_ble_eq_true rfl⟩) (wrK_preS hK hP hD hC hS hA) rfl rfl hl.1 rfl (lv_room (Nat.le_of_ble_eq_true rfl)) dL_isBench_8 ⟨by show _ ≤ 30; omega, by show _ ≤ 180; omega⟩) (fun r8 b8 H locs hw8 hP hD hS => ?_)
    have hP : va_P dg vwCl (brkU ck ka ad ra b8) H := hP
    have hD : va_D A (brkU ck ka ad ra b8) := hD
    obtain ⟨rfl, hR⟩ := hw8
    refine x_is (show (vCol S x) = (S 2 x) from if_pos hbx) ?_
    refine x_calliU hP hD hS hA (vx_runSW (As := [.ref ((ad 7) 0), .int (zI (S 1 x)), .int (zI (S 2 x))]) (rest := []) ⟨hx, hb, hml, hown, htg⟩ (w_noiseAt l dg ck ka ad ra S X Q P z b8 (S 1 x) (S 2 x) _ hκ hR  (by omega) (by omega) hst) (vx_cwSW 3 htg (gwSW wq_1363 wq_1364 wq_0 wqL_noiseAt) rfl rfl rfl (by decide +kernel) ⟨Nat.le_of_ble_eq_true rfl, Nat.le_of_ble_eq_true rfl⟩) (wrK_preS hK hP hD hC hS hA) rfl rfl hl.1 rfl (lv_room (Nat.le_of_ble_eq_true rfl)) dL_isBench_11 ⟨by show _ ≤ 30; omega, by show _ ≤ 180; omega⟩) (fun r11 b11 H locs hw11 hP hD hS => ?_)
    have hP : va_P dg vwCl (brkU ck ka ad ra b11) H := hP
    have hD : va_D A (brkU ck ka ad ra b11) := hD
    obtain ⟨rfl, hR⟩ := hw11
    refine x_is (show (vNoise S (S 1 x) (S 2 x)) = (noiseB S x) from if_pos ⟨⟨by omega, by omega⟩, by omega, by omega⟩) ?_
    refine lv_istore_n (lv' := [(2, .int (zI (noiseB S x))), (0, .ref ((ad 7) 0)), (1, .int (zI x))]) hx hb dL_isBench_14 rfl hl (by decide) rfl (fun ls hl => ?_)
    refine lv_aload_n hx hb dL_isBench_15 rfl (lv_at hl 1 rfl) ?_
    refine lv_iload_n hx hb dL_isBench_16 rfl (lv_at hl 2 rfl) ?_
    refine x_calliU hP hD hS hA (vx_runSW (As := [.ref ((ad 7) 0), .int (zI x)]) (rest := []) ⟨hx, hb, hml, hown, htg⟩ (w_isQuiet l dg ck ka ad ra S X Q P z b11 x _ hκ hR  (by omega) hst) (vx_cwSW 2 htg (gwSW wq_1371 wq_1372 wq_0 wqL_isQuiet) rfl rfl rfl (by decide +kernel) ⟨Nat.le_of_ble_eq_true rfl, Nat.le_of_ble_eq_true rfl⟩) (wrK_preS hK hP hD hC hS hA) rfl rfl hl.1 rfl (lv_room (Nat.le_of_ble_eq_true rfl)) dL_isBench_17 ⟨by show _ ≤ 30; omega, by show _ ≤ 180; omega⟩) (fun r17 b17 H locs hw17 hP hD hS => ?_)
    have hP : va_P dg vwCl (brkU ck ka ad ra b17) H := hP
    have hD : va_D A (brkU ck ka ad ra b17) := hD
    obtain ⟨rfl, hR⟩ := hw17
    refine x_is (show (vQuiet S x) = 0 from (if_pos hbx).trans (bI_f hq)) ?_
    refine x_iconst hx hb dL_isBench_20 ?_
    refine x_icmp_ne (tgt := 28) hx hb dL_isBench_21 (by decide) (by omega) (by omega) (fun c21 => ?_) (fun c21 => absurd c21 (by decide))
    refine x_iconst hx hb dL_isBench_28 ?_
    refine lv_istore_n (lv' := [(3, .int (zI 0)), (2, .int (zI (noiseB S x))), (0, .ref ((ad 7) 0)), (1, .int (zI x))]) hx hb dL_isBench_29 rfl hl (by decide) rfl (fun ls hl => ?_)
    refine lv_aload_n hx hb dL_isBench_30 rfl (lv_at hl 2 rfl) ?_
    refine lv_iload_n hx hb dL_isBench_31 rfl (lv_at hl 3 rfl) ?_
    refine x_calliU hP hD hS hA (vx_runSW (As := [.ref ((ad 7) 0), .int (zI x)]) (rest := []) ⟨hx, hb, hml, hown, htg⟩ (w_rentOf l dg ck ka ad ra S X Q P z b17 x _ hκ hR  (by omega) hst) (vx_cwSW 2 htg (gwSW wq_338 wq_339 wq_0 wqL_rentOf) rfl rfl rfl (by decide +kernel) ⟨Nat.le_of_ble_eq_true rfl, Nat.le_of_ble_eq_true rfl⟩) (wrK_preS hK hP hD hC hS hA) rfl rfl hl.1 rfl (lv_room (Nat.le_of_ble_eq_true rfl)) dL_isBench_32 ⟨by show _ ≤ 30; omega, by show _ ≤ 180; omega⟩) (fun r32 b32 H locs hw32 hP hD hS => ?_)
    have hP : va_P dg vwCl (brkU ck ka ad ra b32) H := hP
    have hD : va_D A (brkU ck ka ad ra b32) := hD
    obtain ⟨rfl, hR⟩ := hw32
    refine x_is (show (vRent S x) = (rent S x) from if_pos hbx) ?_
    refine x_iconst hx hb dL_isBench_35 ?_
    refine lv_aload_n hx hb dL_isBench_36 rfl (lv_at hl 2 rfl) ?_
    refine lv_iload_n hx hb dL_isBench_37 rfl (lv_at hl 3 rfl) ?_
    refine x_calliU hP hD hS hA (vx_runSW (As := [.ref ((ad 7) 0), .int (zI x)]) (rest := [.int (zI 1), .int (zI (rent S x))]) ⟨hx, hb, hml, hown, htg⟩ (w_baseRent l dg ck ka ad ra S X Q P z b32 x _ hκ hR  (by omega) hst) (vx_cwSW 2 htg (gwSW wq_1197 wq_1198 wq_0 wqL_baseRent) rfl rfl rfl (by decide +kernel) ⟨Nat.le_of_ble_eq_true rfl, Nat.le_of_ble_eq_true rfl⟩) (wrK_preS hK hP hD hC hS hA) rfl rfl hl.1 rfl (lv_room (Nat.le_of_ble_eq_true rfl)) dL_isBench_38 ⟨by show _ ≤ 30; omega, by show _ ≤ 180; omega⟩) (fun r38 b38 H locs hw38 hP hD hS => ?_)
    have hP : va_P dg vwCl (brkU ck ka ad ra b38) H := hP
    have hD : va_D A (brkU ck ka ad ra b38) := hD
    obtain ⟨rfl, hR⟩ := hw38
    refine x_is (show (vBase S x) = (S 3 x) from if_pos hbx) ?_
    refine lv_iload_n hx hb dL_isBench_41 rfl (lv_at hl 1 rfl) ?_
    refine x_isub hx hb dL_isBench_42 ?_
    refine x_mmax hx hb (hml.trans hl.1.symm) hown (htg _ wq_1378) (htg _ wq_466) (htg _ wq_23) (htg _ wq_467) (Nat.le_of_ble_eq_true rfl) (Nat.le_of_ble_eq_true rfl) (by show _ ≤ 30; omega) (by show _ ≤ 180; omega) (by omega) (by omega) dL_isBench_43 (fun m43 hm43 => ?_)
    refine x_icmp_ne (tgt := 70) hx hb dL_isBench_46 (by decide) (by omega) (by omega) (fun c46 => False.elim (by omega)) (fun c46 => ?_)
    refine lv_iload_n hx hb dL_isBench_49 rfl (lv_at hl 0 rfl) ?_
    refine lv_iload_n hx hb dL_isBench_50 rfl (lv_at hl 1 rfl) ?_
    refine lv_aload_n hx hb dL_isBench_51 rfl (lv_at hl 2 rfl) ?_
    refine x_calliU hP hD hS hA (va_runV (As := []) (rest := [.int (zI (noiseB S x)), .int (zI 0)]) ⟨hx, hb, hml, hown, htg⟩ (g_noiseLimit l dg ck ka ad ra S X Q P z b38 _ hκ hR) (cwV 0 htg (gwV wq_1182 wq_1183 wq_1184 wq_1 wq_1185) rfl rfl rfl (by decide +kernel) ⟨Nat.le_of_ble_eq_true rfl, Nat.le_of_ble_eq_true rfl⟩) (wrK_preV hK hP hD hC hS hA 0 10 rfl rfl) rfl rfl hl.1 rfl (lv_room (Nat.le_of_ble_eq_true rfl)) dL_isBench_52 ⟨by show _ ≤ 30; omega, by show _ ≤ 180; omega⟩) (fun r52 b52 H locs hw52 hP hD hS => ?_)
    have hP : va_P dg vwCl (brkU ck ka ad ra b52) H := hP
    have hD : va_D A (brkU ck ka ad ra b52) := hD
    obtain ⟨rfl, hR⟩ := hw52
    refine x_icmp_gt (tgt := 62) hx hb dL_isBench_55 (by decide) (by omega) (by omega) (fun c55 => ?_) (fun c55 => False.elim (by omega))
    refine x_iconst hx hb dL_isBench_62 ?_
    refine x_icmp_ne (tgt := 70) hx hb dL_isBench_63 (by decide) (by omega) (by omega) (fun c63 => absurd c63 (by decide)) (fun c63 => ?_)
    refine x_iconst hx hb dL_isBench_66 ?_
    refine lv_goto (tgt := 71) hx hb dL_isBench_67 (by decide) ?_
    refine lv_istore (lv' := [(4, .int (zI 1)), (3, .int (zI 0)), (2, .int (zI (noiseB S x))), (0, .ref ((ad 7) 0)), (1, .int (zI x))]) hx hb dL_isBench_71 hl (by decide) rfl (fun ls hl => ?_)
    refine lv_aload_n hx hb dL_isBench_73 rfl (lv_at hl 3 rfl) ?_
    refine lv_iload_n hx hb dL_isBench_74 rfl (lv_at hl 4 rfl) ?_
    refine x_calliU hP hD hS hA (vx_runSW (As := [.ref ((ad 7) 0), .int (zI x)]) (rest := []) ⟨hx, hb, hml, hown, htg⟩ (w_tenantOf l dg ck ka ad ra S X Q P z b52 x _ hκ hR  (by omega) hst) (vx_cwSW 2 htg (gwSW wq_533 wq_534 wq_0 wqL_tenantOf) rfl rfl rfl (by decide +kernel) ⟨Nat.le_of_ble_eq_true rfl, Nat.le_of_ble_eq_true rfl⟩) (wrK_preS hK hP hD hC hS hA) rfl rfl hl.1 rfl (lv_room (Nat.le_of_ble_eq_true rfl)) dL_isBench_75 ⟨by show _ ≤ 30; omega, by show _ ≤ 180; omega⟩) (fun r75 b75 H locs hw75 hP hD hS => ?_)
    have hP : va_P dg vwCl (brkU ck ka ad ra b75) H := hP
    have hD : va_D A (brkU ck ka ad ra b75) := hD
    obtain ⟨rfl, hR⟩ := hw75
    refine x_is (show (vTen S x) = (-75) from (if_pos hbx).trans (if_pos h4)) ?_
    refine lv_istore (lv' := [(5, .int (zI (-75))), (4, .int (zI 1)), (3, .int (zI 0)), (2, .int (zI (noiseB S x))), (0, .ref ((ad 7) 0)), (1, .int (zI x))]) hx hb dL_isBench_78 hl (by decide) rfl (fun ls hl => ?_)
    refine lv_aload_n hx hb dL_isBench_80 rfl (lv_at hl 4 rfl) ?_
    refine lv_iload_n hx hb dL_isBench_81 rfl (lv_at hl 5 rfl) ?_
    refine x_calliU hP hD hS hA (vx_runSW (As := [.ref ((ad 7) 0), .int (zI x)]) (rest := []) ⟨hx, hb, hml, hown, htg⟩ (w_defaultMonth l dg ck ka ad ra S X Q P z b75 x _ hκ hR  (by omega) hst) (vx_cwSW 2 htg (gwSW wq_551 wq_552 wq_0 wqL_defaultMonth) rfl rfl rfl (by decide +kernel) ⟨Nat.le_of_ble_eq_true rfl, Nat.le_of_ble_eq_true rfl⟩) (wrK_preS hK hP hD hC hS hA) rfl rfl hl.1 rfl (lv_room (Nat.le_of_ble_eq_true rfl)) dL_isBench_82 ⟨by show _ ≤ 30; omega, by show _ ≤ 180; omega⟩) (fun r82 b82 H locs hw82 hP hD hS => ?_)
    have hP : va_P dg vwCl (brkU ck ka ad ra b82) H := hP
    have hD : va_D A (brkU ck ka ad ra b82) := hD
    obtain ⟨rfl, hR⟩ := hw82
    refine x_is (show (vDefM S x) = (-75) from (if_pos hbx).trans (if_neg hd)) ?_
    refine lv_istore (lv' := [(6, .int (zI (-75))), (5, .int (zI (-75))), (4, .int (zI 1)), (3, .int (zI 0)), (2, .int (zI (noiseB S x))), (0, .ref ((ad 7) 0)), (1, .int (zI x))]) hx hb dL_isBench_85 hl (by decide) rfl (fun ls hl => ?_)
    refine lv_aload_n hx hb dL_isBench_87 rfl (lv_at hl 5 rfl) ?_
    refine lv_iload_n hx hb dL_isBench_88 rfl (lv_at hl 6 rfl) ?_
    refine x_calliU hP hD hS hA (vx_runSW (As := [.ref ((ad 7) 0), .int (zI x)]) (rest := []) ⟨hx, hb, hml, hown, htg⟩ (w_isLet l dg ck ka ad ra S X Q P z b82 x _ hκ hR  (by omega) hst) (vx_cwSW 2 htg (gwSW wq_525 wq_526 wq_0 wqL_isLet) rfl rfl rfl (by decide +kernel) ⟨Nat.le_of_ble_eq_true rfl, Nat.le_of_ble_eq_true rfl⟩) (wrK_preS hK hP hD hC hS hA) rfl rfl hl.1 rfl (lv_room (Nat.le_of_ble_eq_true rfl)) dL_isBench_89 ⟨by show _ ≤ 30; omega, by show _ ≤ 180; omega⟩) (fun r89 b89 H locs hw89 hP hD hS => ?_)
    have hP : va_P dg vwCl (brkU ck ka ad ra b89) H := hP
    have hD : va_D A (brkU ck ka ad ra b89) := hD
    obtain ⟨rfl, hR⟩ := hw89
    refine x_is (show (vLet S x) = 0 from (if_pos hbx).trans (bI_f (fun q9 => q9 h4))) ?_
    refine x_if_ne (tgt := 140) hx hb dL_isBench_92 (by decide) (by omega) (fun c92 => absurd c92 (by decide)) (fun c92 => ?_)
    refine lv_iload hx hb dL_isBench_95 (lv_at hl 2 rfl) ?_
    refine x_if_eq (tgt := 138) hx hb dL_isBench_97 (by decide) (by omega) (fun c97 => absurd c97 (by decide)) (fun c97 => ?_)
    refine lv_iload hx hb dL_isBench_100 (lv_at hl 1 rfl) ?_
    refine x_bipush hx hb dL_isBench_102 (by decide) ?_
    refine x_icmp_ne (tgt := 138) hx hb dL_isBench_104 (by decide) (by omega) (by omega) (fun c104 => absurd c104 (by decide)) (fun c104 => ?_)
    refine lv_aload_n hx hb dL_isBench_107 rfl (lv_at hl 5 rfl) ?_
    refine lv_iload_n hx hb dL_isBench_108 rfl (lv_at hl 6 rfl) ?_
    refine x_calliU hP hD hS hA (vx_runSW (As := [.ref ((ad 7) 0), .int (zI x)]) (rest := []) ⟨hx, hb, hml, hown, htg⟩ (w_depositOf l dg ck ka ad ra S X Q P z b89 x _ hκ hR  (by omega) hst) (vx_cwSW 2 htg (gwSW wq_1218 wq_1219 wq_0 wqL_depositOf) rfl rfl rfl (by decide +kernel) ⟨Nat.le_of_ble_eq_true rfl, Nat.le_of_ble_eq_true rfl⟩) (wrK_preS hK hP hD hC hS hA) rfl rfl hl.1 rfl (lv_room (Nat.le_of_ble_eq_true rfl)) dL_isBench_109 ⟨by show _ ≤ 30; omega, by show _ ≤ 180; omega⟩) (fun r109 b109 H locs hw109 hP hD hS => ?_)
    have hP : va_P dg vwCl (brkU ck ka ad ra b109) H := hP
    have hD : va_D A (brkU ck ka ad ra b109) := hD
    obtain ⟨rfl, hR⟩ := hw109
    refine x_is (show (vDep S x) = (-75) from (if_pos hbx).trans (if_pos h4)) ?_
    refine x_bipush hx hb dL_isBench_112 (by decide) ?_
    refine x_icmp_ne (tgt := 138) hx hb dL_isBench_114 (by decide) (by omega) (by omega) (fun c114 => absurd c114 (by decide)) (fun c114 => ?_)
    refine lv_aload_n hx hb dL_isBench_117 rfl (lv_at hl 5 rfl) ?_
    refine lv_iload_n hx hb dL_isBench_118 rfl (lv_at hl 6 rfl) ?_
    refine x_calliU hP hD hS hA (vx_runSW (As := [.ref ((ad 7) 0), .int (zI x)]) (rest := []) ⟨hx, hb, hml, hown, htg⟩ (w_monthsLeft l dg ck ka ad ra S X Q P z b109 x _ hκ hR  (by omega) hst) (vx_cwSW 2 htg (gwSW wq_544 wq_545 wq_0 wqL_monthsLeft) rfl rfl rfl (by decide +kernel) ⟨Nat.le_of_ble_eq_true rfl, Nat.le_of_ble_eq_true rfl⟩) (wrK_preS hK hP hD hC hS hA) rfl rfl hl.1 rfl (lv_room (Nat.le_of_ble_eq_true rfl)) dL_isBench_119 ⟨by show _ ≤ 30; omega, by show _ ≤ 180; omega⟩) (fun r119 b119 H locs hw119 hP hD hS => ?_)
    have hP : va_P dg vwCl (brkU ck ka ad ra b119) H := hP
    have hD : va_D A (brkU ck ka ad ra b119) := hD
    obtain ⟨rfl, hR⟩ := hw119
    refine x_is (show (vLeft S x) = (-75) from (if_pos hbx).trans (if_pos h4)) ?_
    refine x_bipush hx hb dL_isBench_122 (by decide) ?_
    refine x_icmp_ne (tgt := 138) hx hb dL_isBench_124 (by decide) (by omega) (by omega) (fun c124 => absurd c124 (by decide)) (fun c124 => ?_)
    refine lv_iload hx hb dL_isBench_127 (lv_at hl 0 rfl) ?_
    refine x_bipush hx hb dL_isBench_129 (by decide) ?_
    refine x_icmp_ne (tgt := 138) hx hb dL_isBench_131 (by decide) (by omega) (by omega) (fun c131 => absurd c131 (by decide)) (fun c131 => ?_)
    refine x_iconst hx hb dL_isBench_134 ?_
    refine lv_goto (tgt := 139) hx hb dL_isBench_135 (by decide) ?_
    exact W.widen (k := 30) (n := 180) (by omega) (by omega) (W.zret (v := _) hx hb hr (by first | rfl | exact nar_z (by omega)) (fun t9 ht9 hW9 => ⟨⟨_, b119, rfl, ⟨rfl, hR⟩, by rw [ht9]; exact hP, by rw [hAe]; exact hD⟩, hS.F ht9⟩) hS.2.2 dL_isBench_139)
  · have hh4 := b4 x
    have hten : isTen S (S 4 x - 1) := ⟨by omega, by omega⟩
    have hbof : lb S (S 4 x - 1) = x := lb_of hV.uniq hbx h4
    have hlc := hV.2.2.2.2.2.2.2.2.2.1 x h4 (by omega)
    have hdp := hV2.2 x h4
    have hb11 := b11 (S 4 x - 1)
    have hb12 := b12 (S 4 x - 1)
    have hd : ¬ (S 4 x ≠ 0 ∧ quietB S x ∧ payable S x < S 6 x) := fun q9 => hq q9.2.1
    have hqn : ¬ noiseB S x ≤ S 0 3 := hq
    refine lv_aload_n hx hb dL_isBench_0 rfl (lv_at hl 0 rfl) ?_
    refine lv_aload_n hx hb dL_isBench_1 rfl (lv_at hl 0 rfl) ?_
    refine lv_iload_n hx hb dL_isBench_2 rfl (lv_at hl 1 rfl) ?_
    refine x_calliU hP hD hS hA (vx_runSW (As := [.ref ((ad 7) 0), .int (zI x)]) (rest := [.ref ((ad 7) 0)]) ⟨hx, hb, hml, hown, htg⟩ (w_rowOf l dg ck ka ad ra S X Q P z b x _ hκ hR  (by omega) hst) (vx_cwSW 2 htg (gwSW wq_1204 wq_1205 wq_0 wqL_rowOf) rfl rfl rfl (by decide +kernel) ⟨Nat.le_of_ble_eq_true rfl, Nat.le_of_ble_eq_true rfl⟩) (wrK_preS hK hP hD hC hS hA) rfl rfl hl.1 rfl (lv_room (Nat.le_of_ble_eq_true rfl)) dL_isBench_3 ⟨by show _ ≤ 30; omega, by show _ ≤ 180; omega⟩) (fun r3 b3 H locs hw3 hP hD hS => ?_)
    have hP : va_P dg vwCl (brkU ck ka ad ra b3) H := hP
    have hD : va_D A (brkU ck ka ad ra b3) := hD
    obtain ⟨rfl, hR⟩ := hw3
    refine x_is (show (vRow S x) = (S 1 x) from if_pos hbx) ?_
    refine lv_aload_n hx hb dL_isBench_6 rfl (lv_at hl 0 rfl) ?_
    refine lv_iload_n hx hb dL_isBench_7 rfl (lv_at hl 1 rfl) ?_
    refine x_calliU hP hD hS hA (vx_runSW (As := [.ref ((ad 7) 0), .int (zI x)]) (rest := [.int (zI (S 1 x)), .ref ((ad 7) 0)]) ⟨hx, hb, hml, hown, htg⟩ (w_columnOf l dg ck ka ad ra S X Q P z b3 x _ hκ hR  (by omega) hst) (vx_cwSW 2 htg (gwSW wq_1211 wq_1212 wq_0 wqL_columnOf) rfl rfl rfl (by decide +kernel) ⟨Nat.le_of_ble_eq_true rfl, Nat.le_of_ble_eq_true rfl⟩) (wrK_preS hK hP hD hC hS hA) rfl rfl hl.1 rfl (lv_room (Nat.le_of_ble_eq_true rfl)) dL_isBench_8 ⟨by show _ ≤ 30; omega, by show _ ≤ 180; omega⟩) (fun r8 b8 H locs hw8 hP hD hS => ?_)
    have hP : va_P dg vwCl (brkU ck ka ad ra b8) H := hP
    have hD : va_D A (brkU ck ka ad ra b8) := hD
    obtain ⟨rfl, hR⟩ := hw8
    refine x_is (show (vCol S x) = (S 2 x) from if_pos hbx) ?_
    refine x_calliU hP hD hS hA (vx_runSW (As := [.ref ((ad 7) 0), .int (zI (S 1 x)), .int (zI (S 2 x))]) (rest := []) ⟨hx, hb, hml, hown, htg⟩ (w_noiseAt l dg ck ka ad ra S X Q P z b8 (S 1 x) (S 2 x) _ hκ hR  (by omega) (by omega) hst) (vx_cwSW 3 htg (gwSW wq_1363 wq_1364 wq_0 wqL_noiseAt) rfl rfl rfl (by decide +kernel) ⟨Nat.le_of_ble_eq_true rfl, Nat.le_of_ble_eq_true rfl⟩) (wrK_preS hK hP hD hC hS hA) rfl rfl hl.1 rfl (lv_room (Nat.le_of_ble_eq_true rfl)) dL_isBench_11 ⟨by show _ ≤ 30; omega, by show _ ≤ 180; omega⟩) (fun r11 b11 H locs hw11 hP hD hS => ?_)
    have hP : va_P dg vwCl (brkU ck ka ad ra b11) H := hP
    have hD : va_D A (brkU ck ka ad ra b11) := hD
    obtain ⟨rfl, hR⟩ := hw11
    refine x_is (show (vNoise S (S 1 x) (S 2 x)) = (noiseB S x) from if_pos ⟨⟨by omega, by omega⟩, by omega, by omega⟩) ?_
    refine lv_istore_n (lv' := [(2, .int (zI (noiseB S x))), (0, .ref ((ad 7) 0)), (1, .int (zI x))]) hx hb dL_isBench_14 rfl hl (by decide) rfl (fun ls hl => ?_)
    refine lv_aload_n hx hb dL_isBench_15 rfl (lv_at hl 1 rfl) ?_
    refine lv_iload_n hx hb dL_isBench_16 rfl (lv_at hl 2 rfl) ?_
    refine x_calliU hP hD hS hA (vx_runSW (As := [.ref ((ad 7) 0), .int (zI x)]) (rest := []) ⟨hx, hb, hml, hown, htg⟩ (w_isQuiet l dg ck ka ad ra S X Q P z b11 x _ hκ hR  (by omega) hst) (vx_cwSW 2 htg (gwSW wq_1371 wq_1372 wq_0 wqL_isQuiet) rfl rfl rfl (by decide +kernel) ⟨Nat.le_of_ble_eq_true rfl, Nat.le_of_ble_eq_true rfl⟩) (wrK_preS hK hP hD hC hS hA) rfl rfl hl.1 rfl (lv_room (Nat.le_of_ble_eq_true rfl)) dL_isBench_17 ⟨by show _ ≤ 30; omega, by show _ ≤ 180; omega⟩) (fun r17 b17 H locs hw17 hP hD hS => ?_)
    have hP : va_P dg vwCl (brkU ck ka ad ra b17) H := hP
    have hD : va_D A (brkU ck ka ad ra b17) := hD
    obtain ⟨rfl, hR⟩ := hw17
    refine x_is (show (vQuiet S x) = 0 from (if_pos hbx).trans (bI_f hq)) ?_
    refine x_iconst hx hb dL_isBench_20 ?_
    refine x_icmp_ne (tgt := 28) hx hb dL_isBench_21 (by decide) (by omega) (by omega) (fun c21 => ?_) (fun c21 => absurd c21 (by decide))
    refine x_iconst hx hb dL_isBench_28 ?_
    refine lv_istore_n (lv' := [(3, .int (zI 0)), (2, .int (zI (noiseB S x))), (0, .ref ((ad 7) 0)), (1, .int (zI x))]) hx hb dL_isBench_29 rfl hl (by decide) rfl (fun ls hl => ?_)
    refine lv_aload_n hx hb dL_isBench_30 rfl (lv_at hl 2 rfl) ?_
    refine lv_iload_n hx hb dL_isBench_31 rfl (lv_at hl 3 rfl) ?_
    refine x_calliU hP hD hS hA (vx_runSW (As := [.ref ((ad 7) 0), .int (zI x)]) (rest := []) ⟨hx, hb, hml, hown, htg⟩ (w_rentOf l dg ck ka ad ra S X Q P z b17 x _ hκ hR  (by omega) hst) (vx_cwSW 2 htg (gwSW wq_338 wq_339 wq_0 wqL_rentOf) rfl rfl rfl (by decide +kernel) ⟨Nat.le_of_ble_eq_true rfl, Nat.le_of_ble_eq_true rfl⟩) (wrK_preS hK hP hD hC hS hA) rfl rfl hl.1 rfl (lv_room (Nat.le_of_ble_eq_true rfl)) dL_isBench_32 ⟨by show _ ≤ 30; omega, by show _ ≤ 180; omega⟩) (fun r32 b32 H locs hw32 hP hD hS => ?_)
    have hP : va_P dg vwCl (brkU ck ka ad ra b32) H := hP
    have hD : va_D A (brkU ck ka ad ra b32) := hD
    obtain ⟨rfl, hR⟩ := hw32
    refine x_is (show (vRent S x) = (rent S x) from if_pos hbx) ?_
    refine x_iconst hx hb dL_isBench_35 ?_
    refine lv_aload_n hx hb dL_isBench_36 rfl (lv_at hl 2 rfl) ?_
    refine lv_iload_n hx hb dL_isBench_37 rfl (lv_at hl 3 rfl) ?_
    refine x_calliU hP hD hS hA (vx_runSW (As := [.ref ((ad 7) 0), .int (zI x)]) (rest := [.int (zI 1), .int (zI (rent S x))]) ⟨hx, hb, hml, hown, htg⟩ (w_baseRent l dg ck ka ad ra S X Q P z b32 x _ hκ hR  (by omega) hst) (vx_cwSW 2 htg (gwSW wq_1197 wq_1198 wq_0 wqL_baseRent) rfl rfl rfl (by decide +kernel) ⟨Nat.le_of_ble_eq_true rfl, Nat.le_of_ble_eq_true rfl⟩) (wrK_preS hK hP hD hC hS hA) rfl rfl hl.1 rfl (lv_room (Nat.le_of_ble_eq_true rfl)) dL_isBench_38 ⟨by show _ ≤ 30; omega, by show _ ≤ 180; omega⟩) (fun r38 b38 H locs hw38 hP hD hS => ?_)
    have hP : va_P dg vwCl (brkU ck ka ad ra b38) H := hP
    have hD : va_D A (brkU ck ka ad ra b38) := hD
    obtain ⟨rfl, hR⟩ := hw38
    refine x_is (show (vBase S x) = (S 3 x) from if_pos hbx) ?_
    refine lv_iload_n hx hb dL_isBench_41 rfl (lv_at hl 1 rfl) ?_
    refine x_isub hx hb dL_isBench_42 ?_
    refine x_mmax hx hb (hml.trans hl.1.symm) hown (htg _ wq_1378) (htg _ wq_466) (htg _ wq_23) (htg _ wq_467) (Nat.le_of_ble_eq_true rfl) (Nat.le_of_ble_eq_true rfl) (by show _ ≤ 30; omega) (by show _ ≤ 180; omega) (by omega) (by omega) dL_isBench_43 (fun m43 hm43 => ?_)
    refine x_icmp_ne (tgt := 70) hx hb dL_isBench_46 (by decide) (by omega) (by omega) (fun c46 => False.elim (by omega)) (fun c46 => ?_)
    refine lv_iload_n hx hb dL_isBench_49 rfl (lv_at hl 0 rfl) ?_
    refine lv_iload_n hx hb dL_isBench_50 rfl (lv_at hl 1 rfl) ?_
    refine lv_aload_n hx hb dL_isBench_51 rfl (lv_at hl 2 rfl) ?_
    refine x_calliU hP hD hS hA (va_runV (As := []) (rest := [.int (zI (noiseB S x)), .int (zI 0)]) ⟨hx, hb, hml, hown, htg⟩ (g_noiseLimit l dg ck ka ad ra S X Q P z b38 _ hκ hR) (cwV 0 htg (gwV wq_1182 wq_1183 wq_1184 wq_1 wq_1185) rfl rfl rfl (by decide +kernel) ⟨Nat.le_of_ble_eq_true rfl, Nat.le_of_ble_eq_true rfl⟩) (wrK_preV hK hP hD hC hS hA 0 10 rfl rfl) rfl rfl hl.1 rfl (lv_room (Nat.le_of_ble_eq_true rfl)) dL_isBench_52 ⟨by show _ ≤ 30; omega, by show _ ≤ 180; omega⟩) (fun r52 b52 H locs hw52 hP hD hS => ?_)
    have hP : va_P dg vwCl (brkU ck ka ad ra b52) H := hP
    have hD : va_D A (brkU ck ka ad ra b52) := hD
    obtain ⟨rfl, hR⟩ := hw52
    refine x_icmp_gt (tgt := 62) hx hb dL_isBench_55 (by decide) (by omega) (by omega) (fun c55 => ?_) (fun c55 => False.elim (by omega))
    refine x_iconst hx hb dL_isBench_62 ?_
    refine x_icmp_ne (tgt := 70) hx hb dL_isBench_63 (by decide) (by omega) (by omega) (fun c63 => absurd c63 (by decide)) (fun c63 => ?_)
    refine x_iconst hx hb dL_isBench_66 ?_
    refine lv_goto (tgt := 71) hx hb dL_isBench_67 (by decide) ?_
    refine lv_istore (lv' := [(4, .int (zI 1)), (3, .int (zI 0)), (2, .int (zI (noiseB S x))), (0, .ref ((ad 7) 0)), (1, .int (zI x))]) hx hb dL_isBench_71 hl (by decide) rfl (fun ls hl => ?_)
    refine lv_aload_n hx hb dL_isBench_73 rfl (lv_at hl 3 rfl) ?_
    refine lv_iload_n hx hb dL_isBench_74 rfl (lv_at hl 4 rfl) ?_
    refine x_calliU hP hD hS hA (vx_runSW (As := [.ref ((ad 7) 0), .int (zI x)]) (rest := []) ⟨hx, hb, hml, hown, htg⟩ (w_tenantOf l dg ck ka ad ra S X Q P z b52 x _ hκ hR  (by omega) hst) (vx_cwSW 2 htg (gwSW wq_533 wq_534 wq_0 wqL_tenantOf) rfl rfl rfl (by decide +kernel) ⟨Nat.le_of_ble_eq_true rfl, Nat.le_of_ble_eq_true rfl⟩) (wrK_preS hK hP hD hC hS hA) rfl rfl hl.1 rfl (lv_room (Nat.le_of_ble_eq_true rfl)) dL_isBench_75 ⟨by show _ ≤ 30; omega, by show _ ≤ 180; omega⟩) (fun r75 b75 H locs hw75 hP hD hS => ?_)
    have hP : va_P dg vwCl (brkU ck ka ad ra b75) H := hP
    have hD : va_D A (brkU ck ka ad ra b75) := hD
    obtain ⟨rfl, hR⟩ := hw75
    refine x_is (show (vTen S x) = (S 4 x - 1) from (if_pos hbx).trans (if_neg h4)) ?_
    refine lv_istore (lv' := [(5, .int (zI (S 4 x - 1))), (4, .int (zI 1)), (3, .int (zI 0)), (2, .int (zI (noiseB S x))), (0, .ref ((ad 7) 0)), (1, .int (zI x))]) hx hb dL_isBench_78 hl (by decide) rfl (fun ls hl => ?_)
    refine lv_aload_n hx hb dL_isBench_80 rfl (lv_at hl 4 rfl) ?_
    refine lv_iload_n hx hb dL_isBench_81 rfl (lv_at hl 5 rfl) ?_
    refine x_calliU hP hD hS hA (vx_runSW (As := [.ref ((ad 7) 0), .int (zI x)]) (rest := []) ⟨hx, hb, hml, hown, htg⟩ (w_defaultMonth l dg ck ka ad ra S X Q P z b75 x _ hκ hR  (by omega) hst) (vx_cwSW 2 htg (gwSW wq_551 wq_552 wq_0 wqL_defaultMonth) rfl rfl rfl (by decide +kernel) ⟨Nat.le_of_ble_eq_true rfl, Nat.le_of_ble_eq_true rfl⟩) (wrK_preS hK hP hD hC hS hA) rfl rfl hl.1 rfl (lv_room (Nat.le_of_ble_eq_true rfl)) dL_isBench_82 ⟨by show _ ≤ 30; omega, by show _ ≤ 180; omega⟩) (fun r82 b82 H locs hw82 hP hD hS => ?_)
    have hP : va_P dg vwCl (brkU ck ka ad ra b82) H := hP
    have hD : va_D A (brkU ck ka ad ra b82) := hD
    obtain ⟨rfl, hR⟩ := hw82
    refine x_is (show (vDefM S x) = (-75) from (if_pos hbx).trans (if_neg hd)) ?_
    refine lv_istore (lv' := [(6, .int (zI (-75))), (5, .int (zI (S 4 x - 1))), (4, .int (zI 1)), (3, .int (zI 0)), (2, .int (zI (noiseB S x))), (0, .ref ((ad 7) 0)), (1, .int (zI x))]) hx hb dL_isBench_85 hl (by decide) rfl (fun ls hl => ?_)
    refine lv_aload_n hx hb dL_isBench_87 rfl (lv_at hl 5 rfl) ?_
    refine lv_iload_n hx hb dL_isBench_88 rfl (lv_at hl 6 rfl) ?_
    refine x_calliU hP hD hS hA (vx_runSW (As := [.ref ((ad 7) 0), .int (zI x)]) (rest := []) ⟨hx, hb, hml, hown, htg⟩ (w_isLet l dg ck ka ad ra S X Q P z b82 x _ hκ hR  (by omega) hst) (vx_cwSW 2 htg (gwSW wq_525 wq_526 wq_0 wqL_isLet) rfl rfl rfl (by decide +kernel) ⟨Nat.le_of_ble_eq_true rfl, Nat.le_of_ble_eq_true rfl⟩) (wrK_preS hK hP hD hC hS hA) rfl rfl hl.1 rfl (lv_room (Nat.le_of_ble_eq_true rfl)) dL_isBench_89 ⟨by show _ ≤ 30; omega, by show _ ≤ 180; omega⟩) (fun r89 b89 H locs hw89 hP hD hS => ?_)
    have hP : va_P dg vwCl (brkU ck ka ad ra b89) H := hP
    have hD : va_D A (brkU ck ka ad ra b89) := hD
    obtain ⟨rfl, hR⟩ := hw89
    refine x_is (show (vLet S x) = 1 from (if_pos hbx).trans (bI_t h4)) ?_
    refine x_if_ne (tgt := 140) hx hb dL_isBench_92 (by decide) (by omega) (fun c92 => ?_) (fun c92 => absurd c92 (by decide))
    refine lv_aload_n hx hb dL_isBench_140 rfl (lv_at hl 5 rfl) ?_
    refine lv_iload_n hx hb dL_isBench_141 rfl (lv_at hl 6 rfl) ?_
    refine x_calliU hP hD hS hA (vx_runSW (As := [.ref ((ad 7) 0), .int (zI x)]) (rest := []) ⟨hx, hb, hml, hown, htg⟩ (w_monthsLeft l dg ck ka ad ra S X Q P z b89 x _ hκ hR  (by omega) hst) (vx_cwSW 2 htg (gwSW wq_544 wq_545 wq_0 wqL_monthsLeft) rfl rfl rfl (by decide +kernel) ⟨Nat.le_of_ble_eq_true rfl, Nat.le_of_ble_eq_true rfl⟩) (wrK_preS hK hP hD hC hS hA) rfl rfl hl.1 rfl (lv_room (Nat.le_of_ble_eq_true rfl)) dL_isBench_142 ⟨by show _ ≤ 30; omega, by show _ ≤ 180; omega⟩) (fun r142 b142 H locs hw142 hP hD hS => ?_)
    have hP : va_P dg vwCl (brkU ck ka ad ra b142) H := hP
    have hD : va_D A (brkU ck ka ad ra b142) := hD
    obtain ⟨rfl, hR⟩ := hw142
    refine x_is (show (vLeft S x) = (S 6 x) from (if_pos hbx).trans (if_neg h4)) ?_
    refine lv_istore (lv' := [(7, .int (zI (S 6 x))), (6, .int (zI (-75))), (5, .int (zI (S 4 x - 1))), (4, .int (zI 1)), (3, .int (zI 0)), (2, .int (zI (noiseB S x))), (0, .ref ((ad 7) 0)), (1, .int (zI x))]) hx hb dL_isBench_145 hl (by decide) rfl (fun ls hl => ?_)
    refine lv_aload_n hx hb dL_isBench_147 rfl (lv_at hl 6 rfl) ?_
    refine lv_iload_n hx hb dL_isBench_148 rfl (lv_at hl 7 rfl) ?_
    refine x_calliU hP hD hS hA (vx_runSW (As := [.ref ((ad 7) 0), .int (zI x)]) (rest := []) ⟨hx, hb, hml, hown, htg⟩ (w_rentOf l dg ck ka ad ra S X Q P z b142 x _ hκ hR  (by omega) hst) (vx_cwSW 2 htg (gwSW wq_338 wq_339 wq_0 wqL_rentOf) rfl rfl rfl (by decide +kernel) ⟨Nat.le_of_ble_eq_true rfl, Nat.le_of_ble_eq_true rfl⟩) (wrK_preS hK hP hD hC hS hA) rfl rfl hl.1 rfl (lv_room (Nat.le_of_ble_eq_true rfl)) dL_isBench_149 ⟨by show _ ≤ 30; omega, by show _ ≤ 180; omega⟩) (fun r149 b149 H locs hw149 hP hD hS => ?_)
    have hP : va_P dg vwCl (brkU ck ka ad ra b149) H := hP
    have hD : va_D A (brkU ck ka ad ra b149) := hD
    obtain ⟨rfl, hR⟩ := hw149
    refine x_is (show (vRent S x) = (rent S x) from if_pos hbx) ?_
    refine lv_iload hx hb dL_isBench_152 (lv_at hl 0 rfl) ?_
    refine x_imul hx hb dL_isBench_154 ?_
    refine lv_istore (lv' := [(8, .int (zI ((rent S x) * (S 6 x)))), (7, .int (zI (S 6 x))), (6, .int (zI (-75))), (5, .int (zI (S 4 x - 1))), (4, .int (zI 1)), (3, .int (zI 0)), (2, .int (zI (noiseB S x))), (0, .ref ((ad 7) 0)), (1, .int (zI x))]) hx hb dL_isBench_155 hl (by decide) rfl (fun ls hl => ?_)
    refine lv_iload hx hb dL_isBench_157 (lv_at hl 2 rfl) ?_
    refine x_bipush hx hb dL_isBench_159 (by decide) ?_
    refine x_icmp_ne (tgt := 187) hx hb dL_isBench_161 (by decide) (by omega) (by omega) (fun c161 => absurd c161 (by decide)) (fun c161 => ?_)
    refine lv_iload_n hx hb dL_isBench_164 rfl (lv_at hl 5 rfl) ?_
    refine x_if_eq (tgt := 179) hx hb dL_isBench_165 (by decide) (by omega) (fun c165 => ?_) (fun c165 => absurd c165 (by decide))
    refine x_iconst hx hb dL_isBench_179 ?_
    refine lv_goto (tgt := 245) hx hb dL_isBench_180 (by decide) ?_
    refine lv_istore (lv' := [(9, .int (zI 1)), (8, .int (zI ((rent S x) * (S 6 x)))), (7, .int (zI (S 6 x))), (6, .int (zI (-75))), (5, .int (zI (S 4 x - 1))), (4, .int (zI 1)), (3, .int (zI 0)), (2, .int (zI (noiseB S x))), (0, .ref ((ad 7) 0)), (1, .int (zI x))]) hx hb dL_isBench_245 hl (by decide) rfl (fun ls hl => ?_)
    refine lv_iload hx hb dL_isBench_247 (lv_at hl 5 rfl) ?_
    refine x_if_eq (tgt := 303) hx hb dL_isBench_249 (by decide) (by omega) (fun c249 => absurd c249 (by decide)) (fun c249 => ?_)
    refine lv_iload hx hb dL_isBench_252 (lv_at hl 0 rfl) ?_
    refine x_if_eq (tgt := 303) hx hb dL_isBench_254 (by decide) (by omega) (fun c254 => absurd c254 (by decide)) (fun c254 => ?_)
    refine lv_aload_n hx hb dL_isBench_257 rfl (lv_at hl 8 rfl) ?_
    refine lv_iload hx hb dL_isBench_258 (lv_at hl 4 rfl) ?_
    refine x_calliU hP hD hS hA (vx_runSW (As := [.ref ((ad 7) 0), .int (zI (S 4 x - 1))]) (rest := []) ⟨hx, hb, hml, hown, htg⟩ (w_benchOf l dg ck ka ad ra S X Q P z b149 (S 4 x - 1) _ hκ hR  (by omega) hst) (vx_cwSW 2 htg (gwSW wq_468 wq_469 wq_0 wqL_benchOf) rfl rfl rfl (by decide +kernel) ⟨Nat.le_of_ble_eq_true rfl, Nat.le_of_ble_eq_true rfl⟩) (wrK_preS hK hP hD hC hS hA) rfl rfl hl.1 rfl (lv_room (Nat.le_of_ble_eq_true rfl)) dL_isBench_260 ⟨by show _ ≤ 30; omega, by show _ ≤ 180; omega⟩) (fun r260 b260 H locs hw260 hP hD hS => ?_)
    have hP : va_P dg vwCl (brkU ck ka ad ra b260) H := hP
    have hD : va_D A (brkU ck ka ad ra b260) := hD
    obtain ⟨rfl, hR⟩ := hw260
    refine x_is (show (vBof S (S 4 x - 1)) = x from (if_pos hten).trans ((if_neg (by rw [hbof]; omega)).trans hbof)) ?_
    refine lv_iload_n hx hb dL_isBench_263 rfl (lv_at hl 9 rfl) ?_
    refine lv_icmp_ne (tgt := 303) hx hb dL_isBench_264 (by decide) (fun c264 => absurd rfl c264) (fun c264 => ?_)
    refine lv_iload hx hb dL_isBench_267 (lv_at hl 2 rfl) ?_
    refine x_iconst hx hb dL_isBench_269 ?_
    refine x_icmp_lt (tgt := 303) hx hb dL_isBench_270 (by decide) (by omega) (by omega) (fun c270 => False.elim (by omega)) (fun c270 => ?_)
    refine lv_iload hx hb dL_isBench_273 (lv_at hl 2 rfl) ?_
    refine x_bipush hx hb dL_isBench_275 (by decide) ?_
    refine x_icmp_gt (tgt := 303) hx hb dL_isBench_277 (by decide) (by omega) (by omega) (fun c277 => False.elim (by omega)) (fun c277 => ?_)
    refine lv_aload_n hx hb dL_isBench_280 rfl (lv_at hl 8 rfl) ?_
    refine lv_iload_n hx hb dL_isBench_281 rfl (lv_at hl 9 rfl) ?_
    refine x_calliU hP hD hS hA (vx_runSW (As := [.ref ((ad 7) 0), .int (zI x)]) (rest := []) ⟨hx, hb, hml, hown, htg⟩ (w_depositOf l dg ck ka ad ra S X Q P z b260 x _ hκ hR  (by omega) hst) (vx_cwSW 2 htg (gwSW wq_1218 wq_1219 wq_0 wqL_depositOf) rfl rfl rfl (by decide +kernel) ⟨Nat.le_of_ble_eq_true rfl, Nat.le_of_ble_eq_true rfl⟩) (wrK_preS hK hP hD hC hS hA) rfl rfl hl.1 rfl (lv_room (Nat.le_of_ble_eq_true rfl)) dL_isBench_282 ⟨by show _ ≤ 30; omega, by show _ ≤ 180; omega⟩) (fun r282 b282 H locs hw282 hP hD hS => ?_)
    have hP : va_P dg vwCl (brkU ck ka ad ra b282) H := hP
    have hD : va_D A (brkU ck ka ad ra b282) := hD
    obtain ⟨rfl, hR⟩ := hw282
    refine x_is (show (vDep S x) = (S 5 x) from (if_pos hbx).trans (if_neg h4)) ?_
    refine x_iconst hx hb dL_isBench_285 ?_
    refine x_icmp_lt (tgt := 303) hx hb dL_isBench_286 (by decide) (by omega) (by omega) (fun c286 => False.elim (by omega)) (fun c286 => ?_)
    refine lv_aload_n hx hb dL_isBench_289 rfl (lv_at hl 8 rfl) ?_
    refine lv_iload hx hb dL_isBench_290 (lv_at hl 4 rfl) ?_
    refine x_calliU hP hD hS hA (vx_runSW (As := [.ref ((ad 7) 0), .int (zI (S 4 x - 1))]) (rest := []) ⟨hx, hb, hml, hown, htg⟩ (w_defaultsOf l dg ck ka ad ra S X Q P z b282 (S 4 x - 1) _ hκ hR  (by omega) hst) (vx_cwSW 2 htg (gwSW wq_1251 wq_1252 wq_0 wqL_defaultsOf) rfl rfl rfl (by decide +kernel) ⟨Nat.le_of_ble_eq_true rfl, Nat.le_of_ble_eq_true rfl⟩) (wrK_preS hK hP hD hC hS hA) rfl rfl hl.1 rfl (lv_room (Nat.le_of_ble_eq_true rfl)) dL_isBench_292 ⟨by show _ ≤ 30; omega, by show _ ≤ 180; omega⟩) (fun r292 b292 H locs hw292 hP hD hS => ?_)
    have hP : va_P dg vwCl (brkU ck ka ad ra b292) H := hP
    have hD : va_D A (brkU ck ka ad ra b292) := hD
    obtain ⟨rfl, hR⟩ := hw292
    refine x_is (show (vDefs S (S 4 x - 1)) = (S 12 (S 4 x - 1)) from if_pos hten) ?_
    refine x_iconst hx hb dL_isBench_295 ?_
    refine x_icmp_ge (tgt := 303) hx hb dL_isBench_296 (by decide) (by omega) (by omega) (fun c296 => False.elim (by omega)) (fun c296 => ?_)
    refine x_iconst hx hb dL_isBench_299 ?_
    refine lv_goto (tgt := 304) hx hb dL_isBench_300 (by decide) ?_
    exact W.widen (k := 30) (n := 180) (by omega) (by omega) (W.zret (v := _) hx hb hr (by first | rfl | exact nar_z (by omega)) (fun t9 ht9 hW9 => ⟨⟨_, b292, rfl, ⟨rfl, hR⟩, by rw [ht9]; exact hP, by rw [hAe]; exact hD⟩, hS.F ht9⟩) hS.2.2 dL_isBench_304)
  · have hh4 := b4 x
    have hten : isTen S (S 4 x - 1) := ⟨by omega, by omega⟩
    have hbof : lb S (S 4 x - 1) = x := lb_of hV.uniq hbx h4
    have hlc := hV.2.2.2.2.2.2.2.2.2.1 x h4 (by omega)
    have hdp := hV2.2 x h4
    have hb11 := b11 (S 4 x - 1)
    have hb12 := b12 (S 4 x - 1)
    have hqn := hqd.mp hq
    refine lv_aload_n hx hb dL_isBench_0 rfl (lv_at hl 0 rfl) ?_
    refine lv_aload_n hx hb dL_isBench_1 rfl (lv_at hl 0 rfl) ?_
    refine lv_iload_n hx hb dL_isBench_2 rfl (lv_at hl 1 rfl) ?_
    refine x_calliU hP hD hS hA (vx_runSW (As := [.ref ((ad 7) 0), .int (zI x)]) (rest := [.ref ((ad 7) 0)]) ⟨hx, hb, hml, hown, htg⟩ (w_rowOf l dg ck ka ad ra S X Q P z b x _ hκ hR  (by omega) hst) (vx_cwSW 2 htg (gwSW wq_1204 wq_1205 wq_0 wqL_rowOf) rfl rfl rfl (by decide +kernel) ⟨Nat.le_of_ble_eq_true rfl, Nat.le_of_ble_eq_true rfl⟩) (wrK_preS hK hP hD hC hS hA) rfl rfl hl.1 rfl (lv_room (Nat.le_of_ble_eq_true rfl)) dL_isBench_3 ⟨by show _ ≤ 30; omega, by show _ ≤ 180; omega⟩) (fun r3 b3 H locs hw3 hP hD hS => ?_)
    have hP : va_P dg vwCl (brkU ck ka ad ra b3) H := hP
    have hD : va_D A (brkU ck ka ad ra b3) := hD
    obtain ⟨rfl, hR⟩ := hw3
    refine x_is (show (vRow S x) = (S 1 x) from if_pos hbx) ?_
    refine lv_aload_n hx hb dL_isBench_6 rfl (lv_at hl 0 rfl) ?_
    refine lv_iload_n hx hb dL_isBench_7 rfl (lv_at hl 1 rfl) ?_
    refine x_calliU hP hD hS hA (vx_runSW (As := [.ref ((ad 7) 0), .int (zI x)]) (rest := [.int (zI (S 1 x)), .ref ((ad 7) 0)]) ⟨hx, hb, hml, hown, htg⟩ (w_columnOf l dg ck ka ad ra S X Q P z b3 x _ hκ hR  (by omega) hst) (vx_cwSW 2 htg (gwSW wq_1211 wq_1212 wq_0 wqL_columnOf) rfl rfl rfl (by decide +kernel) ⟨Nat.le_of_ble_eq_true rfl, Nat.le_of_ble_eq_true rfl⟩) (wrK_preS hK hP hD hC hS hA) rfl rfl hl.1 rfl (lv_room (Nat.le_of_ble_eq_true rfl)) dL_isBench_8 ⟨by show _ ≤ 30; omega, by show _ ≤ 180; omega⟩) (fun r8 b8 H locs hw8 hP hD hS => ?_)
    have hP : va_P dg vwCl (brkU ck ka ad ra b8) H := hP
    have hD : va_D A (brkU ck ka ad ra b8) := hD
    obtain ⟨rfl, hR⟩ := hw8
    refine x_is (show (vCol S x) = (S 2 x) from if_pos hbx) ?_
    refine x_calliU hP hD hS hA (vx_runSW (As := [.ref ((ad 7) 0), .int (zI (S 1 x)), .int (zI (S 2 x))]) (rest := []) ⟨hx, hb, hml, hown, htg⟩ (w_noiseAt l dg ck ka ad ra S X Q P z b8 (S 1 x) (S 2 x) _ hκ hR  (by omega) (by omega) hst) (vx_cwSW 3 htg (gwSW wq_1363 wq_1364 wq_0 wqL_noiseAt) rfl rfl rfl (by decide +kernel) ⟨Nat.le_of_ble_eq_true rfl, Nat.le_of_ble_eq_true rfl⟩) (wrK_preS hK hP hD hC hS hA) rfl rfl hl.1 rfl (lv_room (Nat.le_of_ble_eq_true rfl)) dL_isBench_11 ⟨by show _ ≤ 30; omega, by show _ ≤ 180; omega⟩) (fun r11 b11 H locs hw11 hP hD hS => ?_)
    have hP : va_P dg vwCl (brkU ck ka ad ra b11) H := hP
    have hD : va_D A (brkU ck ka ad ra b11) := hD
    obtain ⟨rfl, hR⟩ := hw11
    refine x_is (show (vNoise S (S 1 x) (S 2 x)) = (noiseB S x) from if_pos ⟨⟨by omega, by omega⟩, by omega, by omega⟩) ?_
    refine lv_istore_n (lv' := [(2, .int (zI (noiseB S x))), (0, .ref ((ad 7) 0)), (1, .int (zI x))]) hx hb dL_isBench_14 rfl hl (by decide) rfl (fun ls hl => ?_)
    refine lv_aload_n hx hb dL_isBench_15 rfl (lv_at hl 1 rfl) ?_
    refine lv_iload_n hx hb dL_isBench_16 rfl (lv_at hl 2 rfl) ?_
    refine x_calliU hP hD hS hA (vx_runSW (As := [.ref ((ad 7) 0), .int (zI x)]) (rest := []) ⟨hx, hb, hml, hown, htg⟩ (w_isQuiet l dg ck ka ad ra S X Q P z b11 x _ hκ hR  (by omega) hst) (vx_cwSW 2 htg (gwSW wq_1371 wq_1372 wq_0 wqL_isQuiet) rfl rfl rfl (by decide +kernel) ⟨Nat.le_of_ble_eq_true rfl, Nat.le_of_ble_eq_true rfl⟩) (wrK_preS hK hP hD hC hS hA) rfl rfl hl.1 rfl (lv_room (Nat.le_of_ble_eq_true rfl)) dL_isBench_17 ⟨by show _ ≤ 30; omega, by show _ ≤ 180; omega⟩) (fun r17 b17 H locs hw17 hP hD hS => ?_)
    have hP : va_P dg vwCl (brkU ck ka ad ra b17) H := hP
    have hD : va_D A (brkU ck ka ad ra b17) := hD
    obtain ⟨rfl, hR⟩ := hw17
    refine x_is (show (vQuiet S x) = 1 from (if_pos hbx).trans (bI_t hq)) ?_
    refine x_iconst hx hb dL_isBench_20 ?_
    refine x_icmp_ne (tgt := 28) hx hb dL_isBench_21 (by decide) (by omega) (by omega) (fun c21 => absurd c21 (by decide)) (fun c21 => ?_)
    refine x_iconst hx hb dL_isBench_24 ?_
    refine lv_goto (tgt := 29) hx hb dL_isBench_25 (by decide) ?_
    refine lv_istore_n (lv' := [(3, .int (zI 1)), (2, .int (zI (noiseB S x))), (0, .ref ((ad 7) 0)), (1, .int (zI x))]) hx hb dL_isBench_29 rfl hl (by decide) rfl (fun ls hl => ?_)
    refine lv_aload_n hx hb dL_isBench_30 rfl (lv_at hl 2 rfl) ?_
    refine lv_iload_n hx hb dL_isBench_31 rfl (lv_at hl 3 rfl) ?_
    refine x_calliU hP hD hS hA (vx_runSW (As := [.ref ((ad 7) 0), .int (zI x)]) (rest := []) ⟨hx, hb, hml, hown, htg⟩ (w_rentOf l dg ck ka ad ra S X Q P z b17 x _ hκ hR  (by omega) hst) (vx_cwSW 2 htg (gwSW wq_338 wq_339 wq_0 wqL_rentOf) rfl rfl rfl (by decide +kernel) ⟨Nat.le_of_ble_eq_true rfl, Nat.le_of_ble_eq_true rfl⟩) (wrK_preS hK hP hD hC hS hA) rfl rfl hl.1 rfl (lv_room (Nat.le_of_ble_eq_true rfl)) dL_isBench_32 ⟨by show _ ≤ 30; omega, by show _ ≤ 180; omega⟩) (fun r32 b32 H locs hw32 hP hD hS => ?_)
    have hP : va_P dg vwCl (brkU ck ka ad ra b32) H := hP
    have hD : va_D A (brkU ck ka ad ra b32) := hD
    obtain ⟨rfl, hR⟩ := hw32
    refine x_is (show (vRent S x) = (rent S x) from if_pos hbx) ?_
    refine x_iconst hx hb dL_isBench_35 ?_
    refine lv_aload_n hx hb dL_isBench_36 rfl (lv_at hl 2 rfl) ?_
    refine lv_iload_n hx hb dL_isBench_37 rfl (lv_at hl 3 rfl) ?_
    refine x_calliU hP hD hS hA (vx_runSW (As := [.ref ((ad 7) 0), .int (zI x)]) (rest := [.int (zI 1), .int (zI (rent S x))]) ⟨hx, hb, hml, hown, htg⟩ (w_baseRent l dg ck ka ad ra S X Q P z b32 x _ hκ hR  (by omega) hst) (vx_cwSW 2 htg (gwSW wq_1197 wq_1198 wq_0 wqL_baseRent) rfl rfl rfl (by decide +kernel) ⟨Nat.le_of_ble_eq_true rfl, Nat.le_of_ble_eq_true rfl⟩) (wrK_preS hK hP hD hC hS hA) rfl rfl hl.1 rfl (lv_room (Nat.le_of_ble_eq_true rfl)) dL_isBench_38 ⟨by show _ ≤ 30; omega, by show _ ≤ 180; omega⟩) (fun r38 b38 H locs hw38 hP hD hS => ?_)
    have hP : va_P dg vwCl (brkU ck ka ad ra b38) H := hP
    have hD : va_D A (brkU ck ka ad ra b38) := hD
    obtain ⟨rfl, hR⟩ := hw38
    refine x_is (show (vBase S x) = (S 3 x) from if_pos hbx) ?_
    refine lv_iload_n hx hb dL_isBench_41 rfl (lv_at hl 1 rfl) ?_
    refine x_isub hx hb dL_isBench_42 ?_
    refine x_mmax hx hb (hml.trans hl.1.symm) hown (htg _ wq_1378) (htg _ wq_466) (htg _ wq_23) (htg _ wq_467) (Nat.le_of_ble_eq_true rfl) (Nat.le_of_ble_eq_true rfl) (by show _ ≤ 30; omega) (by show _ ≤ 180; omega) (by omega) (by omega) dL_isBench_43 (fun m43 hm43 => ?_)
    refine x_icmp_ne (tgt := 70) hx hb dL_isBench_46 (by decide) (by omega) (by omega) (fun c46 => False.elim (by omega)) (fun c46 => ?_)
    refine lv_iload_n hx hb dL_isBench_49 rfl (lv_at hl 0 rfl) ?_
    refine lv_iload_n hx hb dL_isBench_50 rfl (lv_at hl 1 rfl) ?_
    refine lv_aload_n hx hb dL_isBench_51 rfl (lv_at hl 2 rfl) ?_
    refine x_calliU hP hD hS hA (va_runV (As := []) (rest := [.int (zI (noiseB S x)), .int (zI 1)]) ⟨hx, hb, hml, hown, htg⟩ (g_noiseLimit l dg ck ka ad ra S X Q P z b38 _ hκ hR) (cwV 0 htg (gwV wq_1182 wq_1183 wq_1184 wq_1 wq_1185) rfl rfl rfl (by decide +kernel) ⟨Nat.le_of_ble_eq_true rfl, Nat.le_of_ble_eq_true rfl⟩) (wrK_preV hK hP hD hC hS hA 0 10 rfl rfl) rfl rfl hl.1 rfl (lv_room (Nat.le_of_ble_eq_true rfl)) dL_isBench_52 ⟨by show _ ≤ 30; omega, by show _ ≤ 180; omega⟩) (fun r52 b52 H locs hw52 hP hD hS => ?_)
    have hP : va_P dg vwCl (brkU ck ka ad ra b52) H := hP
    have hD : va_D A (brkU ck ka ad ra b52) := hD
    obtain ⟨rfl, hR⟩ := hw52
    refine x_icmp_gt (tgt := 62) hx hb dL_isBench_55 (by decide) (by omega) (by omega) (fun c55 => False.elim (by omega)) (fun c55 => ?_)
    refine x_iconst hx hb dL_isBench_58 ?_
    refine lv_goto (tgt := 63) hx hb dL_isBench_59 (by decide) ?_
    refine x_icmp_ne (tgt := 70) hx hb dL_isBench_63 (by decide) (by omega) (by omega) (fun c63 => absurd c63 (by decide)) (fun c63 => ?_)
    refine x_iconst hx hb dL_isBench_66 ?_
    refine lv_goto (tgt := 71) hx hb dL_isBench_67 (by decide) ?_
    refine lv_istore (lv' := [(4, .int (zI 1)), (3, .int (zI 1)), (2, .int (zI (noiseB S x))), (0, .ref ((ad 7) 0)), (1, .int (zI x))]) hx hb dL_isBench_71 hl (by decide) rfl (fun ls hl => ?_)
    refine lv_aload_n hx hb dL_isBench_73 rfl (lv_at hl 3 rfl) ?_
    refine lv_iload_n hx hb dL_isBench_74 rfl (lv_at hl 4 rfl) ?_
    refine x_calliU hP hD hS hA (vx_runSW (As := [.ref ((ad 7) 0), .int (zI x)]) (rest := []) ⟨hx, hb, hml, hown, htg⟩ (w_tenantOf l dg ck ka ad ra S X Q P z b52 x _ hκ hR  (by omega) hst) (vx_cwSW 2 htg (gwSW wq_533 wq_534 wq_0 wqL_tenantOf) rfl rfl rfl (by decide +kernel) ⟨Nat.le_of_ble_eq_true rfl, Nat.le_of_ble_eq_true rfl⟩) (wrK_preS hK hP hD hC hS hA) rfl rfl hl.1 rfl (lv_room (Nat.le_of_ble_eq_true rfl)) dL_isBench_75 ⟨by show _ ≤ 30; omega, by show _ ≤ 180; omega⟩) (fun r75 b75 H locs hw75 hP hD hS => ?_)
    have hP : va_P dg vwCl (brkU ck ka ad ra b75) H := hP
    have hD : va_D A (brkU ck ka ad ra b75) := hD
    obtain ⟨rfl, hR⟩ := hw75
    refine x_is (show (vTen S x) = (S 4 x - 1) from (if_pos hbx).trans (if_neg h4)) ?_
    refine lv_istore (lv' := [(5, .int (zI (S 4 x - 1))), (4, .int (zI 1)), (3, .int (zI 1)), (2, .int (zI (noiseB S x))), (0, .ref ((ad 7) 0)), (1, .int (zI x))]) hx hb dL_isBench_78 hl (by decide) rfl (fun ls hl => ?_)
    refine lv_aload_n hx hb dL_isBench_80 rfl (lv_at hl 4 rfl) ?_
    refine lv_iload_n hx hb dL_isBench_81 rfl (lv_at hl 5 rfl) ?_
    refine x_calliU hP hD hS hA (vx_runSW (As := [.ref ((ad 7) 0), .int (zI x)]) (rest := []) ⟨hx, hb, hml, hown, htg⟩ (w_defaultMonth l dg ck ka ad ra S X Q P z b75 x _ hκ hR  (by omega) hst) (vx_cwSW 2 htg (gwSW wq_551 wq_552 wq_0 wqL_defaultMonth) rfl rfl rfl (by decide +kernel) ⟨Nat.le_of_ble_eq_true rfl, Nat.le_of_ble_eq_true rfl⟩) (wrK_preS hK hP hD hC hS hA) rfl rfl hl.1 rfl (lv_room (Nat.le_of_ble_eq_true rfl)) dL_isBench_82 ⟨by show _ ≤ 30; omega, by show _ ≤ 180; omega⟩) (fun r82 b82 H locs hw82 hP hD hS => ?_)
    have hP : va_P dg vwCl (brkU ck ka ad ra b82) H := hP
    have hD : va_D A (brkU ck ka ad ra b82) := hD
    obtain ⟨rfl, hR⟩ := hw82
    refine x_is (show (vDefM S x) = (payable S x + 1) from (if_pos hbx).trans (if_pos ⟨h4, hq, hd⟩)) ?_
    refine lv_istore (lv' := [(6, .int (zI (payable S x + 1))), (5, .int (zI (S 4 x - 1))), (4, .int (zI 1)), (3, .int (zI 1)), (2, .int (zI (noiseB S x))), (0, .ref ((ad 7) 0)), (1, .int (zI x))]) hx hb dL_isBench_85 hl (by decide) rfl (fun ls hl => ?_)
    refine lv_aload_n hx hb dL_isBench_87 rfl (lv_at hl 5 rfl) ?_
    refine lv_iload_n hx hb dL_isBench_88 rfl (lv_at hl 6 rfl) ?_
    refine x_calliU hP hD hS hA (vx_runSW (As := [.ref ((ad 7) 0), .int (zI x)]) (rest := []) ⟨hx, hb, hml, hown, htg⟩ (w_isLet l dg ck ka ad ra S X Q P z b82 x _ hκ hR  (by omega) hst) (vx_cwSW 2 htg (gwSW wq_525 wq_526 wq_0 wqL_isLet) rfl rfl rfl (by decide +kernel) ⟨Nat.le_of_ble_eq_true rfl, Nat.le_of_ble_eq_true rfl⟩) (wrK_preS hK hP hD hC hS hA) rfl rfl hl.1 rfl (lv_room (Nat.le_of_ble_eq_true rfl)) dL_isBench_89 ⟨by show _ ≤ 30; omega, by show _ ≤ 180; omega⟩) (fun r89 b89 H locs hw89 hP hD hS => ?_)
    have hP : va_P dg vwCl (brkU ck ka ad ra b89) H := hP
    have hD : va_D A (brkU ck ka ad ra b89) := hD
    obtain ⟨rfl, hR⟩ := hw89
    refine x_is (show (vLet S x) = 1 from (if_pos hbx).trans (bI_t h4)) ?_
    refine x_if_ne (tgt := 140) hx hb dL_isBench_92 (by decide) (by omega) (fun c92 => ?_) (fun c92 => absurd c92 (by decide))
    refine lv_aload_n hx hb dL_isBench_140 rfl (lv_at hl 5 rfl) ?_
    refine lv_iload_n hx hb dL_isBench_141 rfl (lv_at hl 6 rfl) ?_
    refine x_calliU hP hD hS hA (vx_runSW (As := [.ref ((ad 7) 0), .int (zI x)]) (rest := []) ⟨hx, hb, hml, hown, htg⟩ (w_monthsLeft l dg ck ka ad ra S X Q P z b89 x _ hκ hR  (by omega) hst) (vx_cwSW 2 htg (gwSW wq_544 wq_545 wq_0 wqL_monthsLeft) rfl rfl rfl (by decide +kernel) ⟨Nat.le_of_ble_eq_true rfl, Nat.le_of_ble_eq_true rfl⟩) (wrK_preS hK hP hD hC hS hA) rfl rfl hl.1 rfl (lv_room (Nat.le_of_ble_eq_true rfl)) dL_isBench_142 ⟨by show _ ≤ 30; omega, by show _ ≤ 180; omega⟩) (fun r142 b142 H locs hw142 hP hD hS => ?_)
    have hP : va_P dg vwCl (brkU ck ka ad ra b142) H := hP
    have hD : va_D A (brkU ck ka ad ra b142) := hD
    obtain ⟨rfl, hR⟩ := hw142
    refine x_is (show (vLeft S x) = (S 6 x) from (if_pos hbx).trans (if_neg h4)) ?_
    refine lv_istore (lv' := [(7, .int (zI (S 6 x))), (6, .int (zI (payable S x + 1))), (5, .int (zI (S 4 x - 1))), (4, .int (zI 1)), (3, .int (zI 1)), (2, .int (zI (noiseB S x))), (0, .ref ((ad 7) 0)), (1, .int (zI x))]) hx hb dL_isBench_145 hl (by decide) rfl (fun ls hl => ?_)
    refine lv_aload_n hx hb dL_isBench_147 rfl (lv_at hl 6 rfl) ?_
    refine lv_iload_n hx hb dL_isBench_148 rfl (lv_at hl 7 rfl) ?_
    refine x_calliU hP hD hS hA (vx_runSW (As := [.ref ((ad 7) 0), .int (zI x)]) (rest := []) ⟨hx, hb, hml, hown, htg⟩ (w_rentOf l dg ck ka ad ra S X Q P z b142 x _ hκ hR  (by omega) hst) (vx_cwSW 2 htg (gwSW wq_338 wq_339 wq_0 wqL_rentOf) rfl rfl rfl (by decide +kernel) ⟨Nat.le_of_ble_eq_true rfl, Nat.le_of_ble_eq_true rfl⟩) (wrK_preS hK hP hD hC hS hA) rfl rfl hl.1 rfl (lv_room (Nat.le_of_ble_eq_true rfl)) dL_isBench_149 ⟨by show _ ≤ 30; omega, by show _ ≤ 180; omega⟩) (fun r149 b149 H locs hw149 hP hD hS => ?_)
    have hP : va_P dg vwCl (brkU ck ka ad ra b149) H := hP
    have hD : va_D A (brkU ck ka ad ra b149) := hD
    obtain ⟨rfl, hR⟩ := hw149
    refine x_is (show (vRent S x) = (rent S x) from if_pos hbx) ?_
    refine lv_iload hx hb dL_isBench_152 (lv_at hl 0 rfl) ?_
    refine x_imul hx hb dL_isBench_154 ?_
    refine lv_istore (lv' := [(8, .int (zI ((rent S x) * (S 6 x)))), (7, .int (zI (S 6 x))), (6, .int (zI (payable S x + 1))), (5, .int (zI (S 4 x - 1))), (4, .int (zI 1)), (3, .int (zI 1)), (2, .int (zI (noiseB S x))), (0, .ref ((ad 7) 0)), (1, .int (zI x))]) hx hb dL_isBench_155 hl (by decide) rfl (fun ls hl => ?_)
    refine lv_iload hx hb dL_isBench_157 (lv_at hl 2 rfl) ?_
    refine x_bipush hx hb dL_isBench_159 (by decide) ?_
    refine x_icmp_ne (tgt := 187) hx hb dL_isBench_161 (by decide) (by omega) (by omega) (fun c161 => ?_) (fun c161 => False.elim (by omega))
    refine lv_iload_n hx hb dL_isBench_187 rfl (lv_at hl 5 rfl) ?_
    refine x_if_eq (tgt := 244) hx hb dL_isBench_188 (by decide) (by omega) (fun c188 => absurd c188 (by decide)) (fun c188 => ?_)
    refine lv_iload hx hb dL_isBench_191 (lv_at hl 2 rfl) ?_
    refine x_iconst hx hb dL_isBench_193 ?_
    refine x_icmp_lt (tgt := 244) hx hb dL_isBench_194 (by decide) (by omega) (by omega) (fun c194 => False.elim (by omega)) (fun c194 => ?_)
    refine lv_iload hx hb dL_isBench_197 (lv_at hl 2 rfl) ?_
    refine lv_iload hx hb dL_isBench_199 (lv_at hl 1 rfl) ?_
    refine x_icmp_gt (tgt := 244) hx hb dL_isBench_201 (by decide) (by omega) (by omega) (fun c201 => False.elim (by omega)) (fun c201 => ?_)
    refine lv_aload_n hx hb dL_isBench_204 rfl (lv_at hl 7 rfl) ?_
    refine lv_iload hx hb dL_isBench_205 (lv_at hl 3 rfl) ?_
    refine x_calliU hP hD hS hA (vx_runSW (As := [.ref ((ad 7) 0), .int (zI (S 4 x - 1))]) (rest := []) ⟨hx, hb, hml, hown, htg⟩ (w_coinsOf l dg ck ka ad ra S X Q P z b149 (S 4 x - 1) _ hκ hR  (by omega) hst) (vx_cwSW 2 htg (gwSW wq_1244 wq_1245 wq_0 wqL_coinsOf) rfl rfl rfl (by decide +kernel) ⟨Nat.le_of_ble_eq_true rfl, Nat.le_of_ble_eq_true rfl⟩) (wrK_preS hK hP hD hC hS hA) rfl rfl hl.1 rfl (lv_room (Nat.le_of_ble_eq_true rfl)) dL_isBench_207 ⟨by show _ ≤ 30; omega, by show _ ≤ 180; omega⟩) (fun r207 b207 H locs hw207 hP hD hS => ?_)
    have hP : va_P dg vwCl (brkU ck ka ad ra b207) H := hP
    have hD : va_D A (brkU ck ka ad ra b207) := hD
    obtain ⟨rfl, hR⟩ := hw207
    refine x_is (show (vCoins S (S 4 x - 1)) = (S 11 (S 4 x - 1)) from if_pos hten) ?_
    refine lv_aload_n hx hb dL_isBench_210 rfl (lv_at hl 7 rfl) ?_
    refine lv_iload_n hx hb dL_isBench_211 rfl (lv_at hl 8 rfl) ?_
    refine x_calliU hP hD hS hA (vx_runSW (As := [.ref ((ad 7) 0), .int (zI x)]) (rest := [.int (zI (S 11 (S 4 x - 1)))]) ⟨hx, hb, hml, hown, htg⟩ (w_rentOf l dg ck ka ad ra S X Q P z b207 x _ hκ hR  (by omega) hst) (vx_cwSW 2 htg (gwSW wq_338 wq_339 wq_0 wqL_rentOf) rfl rfl rfl (by decide +kernel) ⟨Nat.le_of_ble_eq_true rfl, Nat.le_of_ble_eq_true rfl⟩) (wrK_preS hK hP hD hC hS hA) rfl rfl hl.1 rfl (lv_room (Nat.le_of_ble_eq_true rfl)) dL_isBench_212 ⟨by show _ ≤ 30; omega, by show _ ≤ 180; omega⟩) (fun r212 b212 H locs hw212 hP hD hS => ?_)
    have hP : va_P dg vwCl (brkU ck ka ad ra b212) H := hP
    have hD : va_D A (brkU ck ka ad ra b212) := hD
    obtain ⟨rfl, hR⟩ := hw212
    refine x_is (show (vRent S x) = (rent S x) from if_pos hbx) ?_
    refine lv_iload hx hb dL_isBench_215 (lv_at hl 2 rfl) ?_
    refine x_imul hx hb dL_isBench_217 ?_
    refine x_icmp_ge (tgt := 244) hx hb dL_isBench_218 (by decide) (by omega) (by omega) (fun c218 => False.elim (by omega)) (fun c218 => ?_)
    refine lv_aload_n hx hb dL_isBench_221 rfl (lv_at hl 7 rfl) ?_
    refine lv_iload hx hb dL_isBench_222 (lv_at hl 3 rfl) ?_
    refine x_calliU hP hD hS hA (vx_runSW (As := [.ref ((ad 7) 0), .int (zI (S 4 x - 1))]) (rest := []) ⟨hx, hb, hml, hown, htg⟩ (w_coinsOf l dg ck ka ad ra S X Q P z b212 (S 4 x - 1) _ hκ hR  (by omega) hst) (vx_cwSW 2 htg (gwSW wq_1244 wq_1245 wq_0 wqL_coinsOf) rfl rfl rfl (by decide +kernel) ⟨Nat.le_of_ble_eq_true rfl, Nat.le_of_ble_eq_true rfl⟩) (wrK_preS hK hP hD hC hS hA) rfl rfl hl.1 rfl (lv_room (Nat.le_of_ble_eq_true rfl)) dL_isBench_224 ⟨by show _ ≤ 30; omega, by show _ ≤ 180; omega⟩) (fun r224 b224 H locs hw224 hP hD hS => ?_)
    have hP : va_P dg vwCl (brkU ck ka ad ra b224) H := hP
    have hD : va_D A (brkU ck ka ad ra b224) := hD
    obtain ⟨rfl, hR⟩ := hw224
    refine x_is (show (vCoins S (S 4 x - 1)) = (S 11 (S 4 x - 1)) from if_pos hten) ?_
    refine lv_aload_n hx hb dL_isBench_227 rfl (lv_at hl 7 rfl) ?_
    refine lv_iload_n hx hb dL_isBench_228 rfl (lv_at hl 8 rfl) ?_
    refine x_calliU hP hD hS hA (vx_runSW (As := [.ref ((ad 7) 0), .int (zI x)]) (rest := [.int (zI (S 11 (S 4 x - 1)))]) ⟨hx, hb, hml, hown, htg⟩ (w_rentOf l dg ck ka ad ra S X Q P z b224 x _ hκ hR  (by omega) hst) (vx_cwSW 2 htg (gwSW wq_338 wq_339 wq_0 wqL_rentOf) rfl rfl rfl (by decide +kernel) ⟨Nat.le_of_ble_eq_true rfl, Nat.le_of_ble_eq_true rfl⟩) (wrK_preS hK hP hD hC hS hA) rfl rfl hl.1 rfl (lv_room (Nat.le_of_ble_eq_true rfl)) dL_isBench_229 ⟨by show _ ≤ 30; omega, by show _ ≤ 180; omega⟩) (fun r229 b229 H locs hw229 hP hD hS => ?_)
    have hP : va_P dg vwCl (brkU ck ka ad ra b229) H := hP
    have hD : va_D A (brkU ck ka ad ra b229) := hD
    obtain ⟨rfl, hR⟩ := hw229
    refine x_is (show (vRent S x) = (rent S x) from if_pos hbx) ?_
    refine lv_iload hx hb dL_isBench_232 (lv_at hl 2 rfl) ?_
    refine x_iconst hx hb dL_isBench_234 ?_
    refine x_isub hx hb dL_isBench_235 ?_
    refine x_imul hx hb dL_isBench_236 ?_
    refine x_icmp_lt (tgt := 244) hx hb dL_isBench_237 (by decide) (by omega) (by omega) (fun c237 => False.elim (by omega)) (fun c237 => ?_)
    refine x_iconst hx hb dL_isBench_240 ?_
    refine lv_goto (tgt := 245) hx hb dL_isBench_241 (by decide) ?_
    refine lv_istore (lv' := [(9, .int (zI 1)), (8, .int (zI ((rent S x) * (S 6 x)))), (7, .int (zI (S 6 x))), (6, .int (zI (payable S x + 1))), (5, .int (zI (S 4 x - 1))), (4, .int (zI 1)), (3, .int (zI 1)), (2, .int (zI (noiseB S x))), (0, .ref ((ad 7) 0)), (1, .int (zI x))]) hx hb dL_isBench_245 hl (by decide) rfl (fun ls hl => ?_)
    refine lv_iload hx hb dL_isBench_247 (lv_at hl 5 rfl) ?_
    refine x_if_eq (tgt := 303) hx hb dL_isBench_249 (by decide) (by omega) (fun c249 => absurd c249 (by decide)) (fun c249 => ?_)
    refine lv_iload hx hb dL_isBench_252 (lv_at hl 0 rfl) ?_
    refine x_if_eq (tgt := 303) hx hb dL_isBench_254 (by decide) (by omega) (fun c254 => absurd c254 (by decide)) (fun c254 => ?_)
    refine lv_aload_n hx hb dL_isBench_257 rfl (lv_at hl 8 rfl) ?_
    refine lv_iload hx hb dL_isBench_258 (lv_at hl 4 rfl) ?_
    refine x_calliU hP hD hS hA (vx_runSW (As := [.ref ((ad 7) 0), .int (zI (S 4 x - 1))]) (rest := []) ⟨hx, hb, hml, hown, htg⟩ (w_benchOf l dg ck ka ad ra S X Q P z b229 (S 4 x - 1) _ hκ hR  (by omega) hst) (vx_cwSW 2 htg (gwSW wq_468 wq_469 wq_0 wqL_benchOf) rfl rfl rfl (by decide +kernel) ⟨Nat.le_of_ble_eq_true rfl, Nat.le_of_ble_eq_true rfl⟩) (wrK_preS hK hP hD hC hS hA) rfl rfl hl.1 rfl (lv_room (Nat.le_of_ble_eq_true rfl)) dL_isBench_260 ⟨by show _ ≤ 30; omega, by show _ ≤ 180; omega⟩) (fun r260 b260 H locs hw260 hP hD hS => ?_)
    have hP : va_P dg vwCl (brkU ck ka ad ra b260) H := hP
    have hD : va_D A (brkU ck ka ad ra b260) := hD
    obtain ⟨rfl, hR⟩ := hw260
    refine x_is (show (vBof S (S 4 x - 1)) = x from (if_pos hten).trans ((if_neg (by rw [hbof]; omega)).trans hbof)) ?_
    refine lv_iload_n hx hb dL_isBench_263 rfl (lv_at hl 9 rfl) ?_
    refine lv_icmp_ne (tgt := 303) hx hb dL_isBench_264 (by decide) (fun c264 => absurd rfl c264) (fun c264 => ?_)
    refine lv_iload hx hb dL_isBench_267 (lv_at hl 2 rfl) ?_
    refine x_iconst hx hb dL_isBench_269 ?_
    refine x_icmp_lt (tgt := 303) hx hb dL_isBench_270 (by decide) (by omega) (by omega) (fun c270 => False.elim (by omega)) (fun c270 => ?_)
    refine lv_iload hx hb dL_isBench_273 (lv_at hl 2 rfl) ?_
    refine x_bipush hx hb dL_isBench_275 (by decide) ?_
    refine x_icmp_gt (tgt := 303) hx hb dL_isBench_277 (by decide) (by omega) (by omega) (fun c277 => False.elim (by omega)) (fun c277 => ?_)
    refine lv_aload_n hx hb dL_isBench_280 rfl (lv_at hl 8 rfl) ?_
    refine lv_iload_n hx hb dL_isBench_281 rfl (lv_at hl 9 rfl) ?_
    refine x_calliU hP hD hS hA (vx_runSW (As := [.ref ((ad 7) 0), .int (zI x)]) (rest := []) ⟨hx, hb, hml, hown, htg⟩ (w_depositOf l dg ck ka ad ra S X Q P z b260 x _ hκ hR  (by omega) hst) (vx_cwSW 2 htg (gwSW wq_1218 wq_1219 wq_0 wqL_depositOf) rfl rfl rfl (by decide +kernel) ⟨Nat.le_of_ble_eq_true rfl, Nat.le_of_ble_eq_true rfl⟩) (wrK_preS hK hP hD hC hS hA) rfl rfl hl.1 rfl (lv_room (Nat.le_of_ble_eq_true rfl)) dL_isBench_282 ⟨by show _ ≤ 30; omega, by show _ ≤ 180; omega⟩) (fun r282 b282 H locs hw282 hP hD hS => ?_)
    have hP : va_P dg vwCl (brkU ck ka ad ra b282) H := hP
    have hD : va_D A (brkU ck ka ad ra b282) := hD
    obtain ⟨rfl, hR⟩ := hw282
    refine x_is (show (vDep S x) = (S 5 x) from (if_pos hbx).trans (if_neg h4)) ?_
    refine x_iconst hx hb dL_isBench_285 ?_
    refine x_icmp_lt (tgt := 303) hx hb dL_isBench_286 (by decide) (by omega) (by omega) (fun c286 => False.elim (by omega)) (fun c286 => ?_)
    refine lv_aload_n hx hb dL_isBench_289 rfl (lv_at hl 8 rfl) ?_
    refine lv_iload hx hb dL_isBench_290 (lv_at hl 4 rfl) ?_
    refine x_calliU hP hD hS hA (vx_runSW (As := [.ref ((ad 7) 0), .int (zI (S 4 x - 1))]) (rest := []) ⟨hx, hb, hml, hown, htg⟩ (w_defaultsOf l dg ck ka ad ra S X Q P z b282 (S 4 x - 1) _ hκ hR  (by omega) hst) (vx_cwSW 2 htg (gwSW wq_1251 wq_1252 wq_0 wqL_defaultsOf) rfl rfl rfl (by decide +kernel) ⟨Nat.le_of_ble_eq_true rfl, Nat.le_of_ble_eq_true rfl⟩) (wrK_preS hK hP hD hC hS hA) rfl rfl hl.1 rfl (lv_room (Nat.le_of_ble_eq_true rfl)) dL_isBench_292 ⟨by show _ ≤ 30; omega, by show _ ≤ 180; omega⟩) (fun r292 b292 H locs hw292 hP hD hS => ?_)
    have hP : va_P dg vwCl (brkU ck ka ad ra b292) H := hP
    have hD : va_D A (brkU ck ka ad ra b292) := hD
    obtain ⟨rfl, hR⟩ := hw292
    refine x_is (show (vDefs S (S 4 x - 1)) = (S 12 (S 4 x - 1)) from if_pos hten) ?_
    refine x_iconst hx hb dL_isBench_295 ?_
    refine x_icmp_ge (tgt := 303) hx hb dL_isBench_296 (by decide) (by omega) (by omega) (fun c296 => False.elim (by omega)) (fun c296 => ?_)
    refine x_iconst hx hb dL_isBench_299 ?_
    refine lv_goto (tgt := 304) hx hb dL_isBench_300 (by decide) ?_
    exact W.widen (k := 30) (n := 180) (by omega) (by omega) (W.zret (v := _) hx hb hr (by first | rfl | exact nar_z (by omega)) (fun t9 ht9 hW9 => ⟨⟨_, b292, rfl, ⟨rfl, hR⟩, by rw [ht9]; exact hP, by rw [hAe]; exact hD⟩, hS.F ht9⟩) hS.2.2 dL_isBench_304)
  · have hh4 := b4 x
    have hten : isTen S (S 4 x - 1) := ⟨by omega, by omega⟩
    have hbof : lb S (S 4 x - 1) = x := lb_of hV.uniq hbx h4
    have hlc := hV.2.2.2.2.2.2.2.2.2.1 x h4 (by omega)
    have hdp := hV2.2 x h4
    have hb11 := b11 (S 4 x - 1)
    have hb12 := b12 (S 4 x - 1)
    have hfull : rent S x * S 6 x ≤ S 11 (S 4 x - 1) := by rw [Int.mul_comm]; exact hpl.mp (by omega)
    have hd0 := hd
    have hd : ¬ (S 4 x ≠ 0 ∧ quietB S x ∧ payable S x < S 6 x) := fun q9 => hd0 q9.2.2
    have hqn := hqd.mp hq
    refine lv_aload_n hx hb dL_isBench_0 rfl (lv_at hl 0 rfl) ?_
    refine lv_aload_n hx hb dL_isBench_1 rfl (lv_at hl 0 rfl) ?_
    refine lv_iload_n hx hb dL_isBench_2 rfl (lv_at hl 1 rfl) ?_
    refine x_calliU hP hD hS hA (vx_runSW (As := [.ref ((ad 7) 0), .int (zI x)]) (rest := [.ref ((ad 7) 0)]) ⟨hx, hb, hml, hown, htg⟩ (w_rowOf l dg ck ka ad ra S X Q P z b x _ hκ hR  (by omega) hst) (vx_cwSW 2 htg (gwSW wq_1204 wq_1205 wq_0 wqL_rowOf) rfl rfl rfl (by decide +kernel) ⟨Nat.le_of_ble_eq_true rfl, Nat.le_of_ble_eq_true rfl⟩) (wrK_preS hK hP hD hC hS hA) rfl rfl hl.1 rfl (lv_room (Nat.le_of_ble_eq_true rfl)) dL_isBench_3 ⟨by show _ ≤ 30; omega, by show _ ≤ 180; omega⟩) (fun r3 b3 H locs hw3 hP hD hS => ?_)
    have hP : va_P dg vwCl (brkU ck ka ad ra b3) H := hP
    have hD : va_D A (brkU ck ka ad ra b3) := hD
    obtain ⟨rfl, hR⟩ := hw3
    refine x_is (show (vRow S x) = (S 1 x) from if_pos hbx) ?_
    refine lv_aload_n hx hb dL_isBench_6 rfl (lv_at hl 0 rfl) ?_
    refine lv_iload_n hx hb dL_isBench_7 rfl (lv_at hl 1 rfl) ?_
    refine x_calliU hP hD hS hA (vx_runSW (As := [.ref ((ad 7) 0), .int (zI x)]) (rest := [.int (zI (S 1 x)), .ref ((ad 7) 0)]) ⟨hx, hb, hml, hown, htg⟩ (w_columnOf l dg ck ka ad ra S X Q P z b3 x _ hκ hR  (by omega) hst) (vx_cwSW 2 htg (gwSW wq_1211 wq_1212 wq_0 wqL_columnOf) rfl rfl rfl (by decide +kernel) ⟨Nat.le_of_ble_eq_true rfl, Nat.le_of_ble_eq_true rfl⟩) (wrK_preS hK hP hD hC hS hA) rfl rfl hl.1 rfl (lv_room (Nat.le_of_ble_eq_true rfl)) dL_isBench_8 ⟨by show _ ≤ 30; omega, by show _ ≤ 180; omega⟩) (fun r8 b8 H locs hw8 hP hD hS => ?_)
    have hP : va_P dg vwCl (brkU ck ka ad ra b8) H := hP
    have hD : va_D A (brkU ck ka ad ra b8) := hD
    obtain ⟨rfl, hR⟩ := hw8
    refine x_is (show (vCol S x) = (S 2 x) from if_pos hbx) ?_
    refine x_calliU hP hD hS hA (vx_runSW (As := [.ref ((ad 7) 0), .int (zI (S 1 x)), .int (zI (S 2 x))]) (rest := []) ⟨hx, hb, hml, hown, htg⟩ (w_noiseAt l dg ck ka ad ra S X Q P z b8 (S 1 x) (S 2 x) _ hκ hR  (by omega) (by omega) hst) (vx_cwSW 3 htg (gwSW wq_1363 wq_1364 wq_0 wqL_noiseAt) rfl rfl rfl (by decide +kernel) ⟨Nat.le_of_ble_eq_true rfl, Nat.le_of_ble_eq_true rfl⟩) (wrK_preS hK hP hD hC hS hA) rfl rfl hl.1 rfl (lv_room (Nat.le_of_ble_eq_true rfl)) dL_isBench_11 ⟨by show _ ≤ 30; omega, by show _ ≤ 180; omega⟩) (fun r11 b11 H locs hw11 hP hD hS => ?_)
    have hP : va_P dg vwCl (brkU ck ka ad ra b11) H := hP
    have hD : va_D A (brkU ck ka ad ra b11) := hD
    obtain ⟨rfl, hR⟩ := hw11
    refine x_is (show (vNoise S (S 1 x) (S 2 x)) = (noiseB S x) from if_pos ⟨⟨by omega, by omega⟩, by omega, by omega⟩) ?_
    refine lv_istore_n (lv' := [(2, .int (zI (noiseB S x))), (0, .ref ((ad 7) 0)), (1, .int (zI x))]) hx hb dL_isBench_14 rfl hl (by decide) rfl (fun ls hl => ?_)
    refine lv_aload_n hx hb dL_isBench_15 rfl (lv_at hl 1 rfl) ?_
    refine lv_iload_n hx hb dL_isBench_16 rfl (lv_at hl 2 rfl) ?_
    refine x_calliU hP hD hS hA (vx_runSW (As := [.ref ((ad 7) 0), .int (zI x)]) (rest := []) ⟨hx, hb, hml, hown, htg⟩ (w_isQuiet l dg ck ka ad ra S X Q P z b11 x _ hκ hR  (by omega) hst) (vx_cwSW 2 htg (gwSW wq_1371 wq_1372 wq_0 wqL_isQuiet) rfl rfl rfl (by decide +kernel) ⟨Nat.le_of_ble_eq_true rfl, Nat.le_of_ble_eq_true rfl⟩) (wrK_preS hK hP hD hC hS hA) rfl rfl hl.1 rfl (lv_room (Nat.le_of_ble_eq_true rfl)) dL_isBench_17 ⟨by show _ ≤ 30; omega, by show _ ≤ 180; omega⟩) (fun r17 b17 H locs hw17 hP hD hS => ?_)
    have hP : va_P dg vwCl (brkU ck ka ad ra b17) H := hP
    have hD : va_D A (brkU ck ka ad ra b17) := hD
    obtain ⟨rfl, hR⟩ := hw17
    refine x_is (show (vQuiet S x) = 1 from (if_pos hbx).trans (bI_t hq)) ?_
    refine x_iconst hx hb dL_isBench_20 ?_
    refine x_icmp_ne (tgt := 28) hx hb dL_isBench_21 (by decide) (by omega) (by omega) (fun c21 => absurd c21 (by decide)) (fun c21 => ?_)
    refine x_iconst hx hb dL_isBench_24 ?_
    refine lv_goto (tgt := 29) hx hb dL_isBench_25 (by decide) ?_
    refine lv_istore_n (lv' := [(3, .int (zI 1)), (2, .int (zI (noiseB S x))), (0, .ref ((ad 7) 0)), (1, .int (zI x))]) hx hb dL_isBench_29 rfl hl (by decide) rfl (fun ls hl => ?_)
    refine lv_aload_n hx hb dL_isBench_30 rfl (lv_at hl 2 rfl) ?_
    refine lv_iload_n hx hb dL_isBench_31 rfl (lv_at hl 3 rfl) ?_
    refine x_calliU hP hD hS hA (vx_runSW (As := [.ref ((ad 7) 0), .int (zI x)]) (rest := []) ⟨hx, hb, hml, hown, htg⟩ (w_rentOf l dg ck ka ad ra S X Q P z b17 x _ hκ hR  (by omega) hst) (vx_cwSW 2 htg (gwSW wq_338 wq_339 wq_0 wqL_rentOf) rfl rfl rfl (by decide +kernel) ⟨Nat.le_of_ble_eq_true rfl, Nat.le_of_ble_eq_true rfl⟩) (wrK_preS hK hP hD hC hS hA) rfl rfl hl.1 rfl (lv_room (Nat.le_of_ble_eq_true rfl)) dL_isBench_32 ⟨by show _ ≤ 30; omega, by show _ ≤ 180; omega⟩) (fun r32 b32 H locs hw32 hP hD hS => ?_)
    have hP : va_P dg vwCl (brkU ck ka ad ra b32) H := hP
    have hD : va_D A (brkU ck ka ad ra b32) := hD
    obtain ⟨rfl, hR⟩ := hw32
    refine x_is (show (vRent S x) = (rent S x) from if_pos hbx) ?_
    refine x_iconst hx hb dL_isBench_35 ?_
    refine lv_aload_n hx hb dL_isBench_36 rfl (lv_at hl 2 rfl) ?_
    refine lv_iload_n hx hb dL_isBench_37 rfl (lv_at hl 3 rfl) ?_
    refine x_calliU hP hD hS hA (vx_runSW (As := [.ref ((ad 7) 0), .int (zI x)]) (rest := [.int (zI 1), .int (zI (rent S x))]) ⟨hx, hb, hml, hown, htg⟩ (w_baseRent l dg ck ka ad ra S X Q P z b32 x _ hκ hR  (by omega) hst) (vx_cwSW 2 htg (gwSW wq_1197 wq_1198 wq_0 wqL_baseRent) rfl rfl rfl (by decide +kernel) ⟨Nat.le_of_ble_eq_true rfl, Nat.le_of_ble_eq_true rfl⟩) (wrK_preS hK hP hD hC hS hA) rfl rfl hl.1 rfl (lv_room (Nat.le_of_ble_eq_true rfl)) dL_isBench_38 ⟨by show _ ≤ 30; omega, by show _ ≤ 180; omega⟩) (fun r38 b38 H locs hw38 hP hD hS => ?_)
    have hP : va_P dg vwCl (brkU ck ka ad ra b38) H := hP
    have hD : va_D A (brkU ck ka ad ra b38) := hD
    obtain ⟨rfl, hR⟩ := hw38
    refine x_is (show (vBase S x) = (S 3 x) from if_pos hbx) ?_
    refine lv_iload_n hx hb dL_isBench_41 rfl (lv_at hl 1 rfl) ?_
    refine x_isub hx hb dL_isBench_42 ?_
    refine x_mmax hx hb (hml.trans hl.1.symm) hown (htg _ wq_1378) (htg _ wq_466) (htg _ wq_23) (htg _ wq_467) (Nat.le_of_ble_eq_true rfl) (Nat.le_of_ble_eq_true rfl) (by show _ ≤ 30; omega) (by show _ ≤ 180; omega) (by omega) (by omega) dL_isBench_43 (fun m43 hm43 => ?_)
    refine x_icmp_ne (tgt := 70) hx hb dL_isBench_46 (by decide) (by omega) (by omega) (fun c46 => False.elim (by omega)) (fun c46 => ?_)
    refine lv_iload_n hx hb dL_isBench_49 rfl (lv_at hl 0 rfl) ?_
    refine lv_iload_n hx hb dL_isBench_50 rfl (lv_at hl 1 rfl) ?_
    refine lv_aload_n hx hb dL_isBench_51 rfl (lv_at hl 2 rfl) ?_
    refine x_calliU hP hD hS hA (va_runV (As := []) (rest := [.int (zI (noiseB S x)), .int (zI 1)]) ⟨hx, hb, hml, hown, htg⟩ (g_noiseLimit l dg ck ka ad ra S X Q P z b38 _ hκ hR) (cwV 0 htg (gwV wq_1182 wq_1183 wq_1184 wq_1 wq_1185) rfl rfl rfl (by decide +kernel) ⟨Nat.le_of_ble_eq_true rfl, Nat.le_of_ble_eq_true rfl⟩) (wrK_preV hK hP hD hC hS hA 0 10 rfl rfl) rfl rfl hl.1 rfl (lv_room (Nat.le_of_ble_eq_true rfl)) dL_isBench_52 ⟨by show _ ≤ 30; omega, by show _ ≤ 180; omega⟩) (fun r52 b52 H locs hw52 hP hD hS => ?_)
    have hP : va_P dg vwCl (brkU ck ka ad ra b52) H := hP
    have hD : va_D A (brkU ck ka ad ra b52) := hD
    obtain ⟨rfl, hR⟩ := hw52
    refine x_icmp_gt (tgt := 62) hx hb dL_isBench_55 (by decide) (by omega) (by omega) (fun c55 => False.elim (by omega)) (fun c55 => ?_)
    refine x_iconst hx hb dL_isBench_58 ?_
    refine lv_goto (tgt := 63) hx hb dL_isBench_59 (by decide) ?_
    refine x_icmp_ne (tgt := 70) hx hb dL_isBench_63 (by decide) (by omega) (by omega) (fun c63 => absurd c63 (by decide)) (fun c63 => ?_)
    refine x_iconst hx hb dL_isBench_66 ?_
    refine lv_goto (tgt := 71) hx hb dL_isBench_67 (by decide) ?_
    refine lv_istore (lv' := [(4, .int (zI 1)), (3, .int (zI 1)), (2, .int (zI (noiseB S x))), (0, .ref ((ad 7) 0)), (1, .int (zI x))]) hx hb dL_isBench_71 hl (by decide) rfl (fun ls hl => ?_)
    refine lv_aload_n hx hb dL_isBench_73 rfl (lv_at hl 3 rfl) ?_
    refine lv_iload_n hx hb dL_isBench_74 rfl (lv_at hl 4 rfl) ?_
    refine x_calliU hP hD hS hA (vx_runSW (As := [.ref ((ad 7) 0), .int (zI x)]) (rest := []) ⟨hx, hb, hml, hown, htg⟩ (w_tenantOf l dg ck ka ad ra S X Q P z b52 x _ hκ hR  (by omega) hst) (vx_cwSW 2 htg (gwSW wq_533 wq_534 wq_0 wqL_tenantOf) rfl rfl rfl (by decide +kernel) ⟨Nat.le_of_ble_eq_true rfl, Nat.le_of_ble_eq_true rfl⟩) (wrK_preS hK hP hD hC hS hA) rfl rfl hl.1 rfl (lv_room (Nat.le_of_ble_eq_true rfl)) dL_isBench_75 ⟨by show _ ≤ 30; omega, by show _ ≤ 180; omega⟩) (fun r75 b75 H locs hw75 hP hD hS => ?_)
    have hP : va_P dg vwCl (brkU ck ka ad ra b75) H := hP
    have hD : va_D A (brkU ck ka ad ra b75) := hD
    obtain ⟨rfl, hR⟩ := hw75
    refine x_is (show (vTen S x) = (S 4 x - 1) from (if_pos hbx).trans (if_neg h4)) ?_
    refine lv_istore (lv' := [(5, .int (zI (S 4 x - 1))), (4, .int (zI 1)), (3, .int (zI 1)), (2, .int (zI (noiseB S x))), (0, .ref ((ad 7) 0)), (1, .int (zI x))]) hx hb dL_isBench_78 hl (by decide) rfl (fun ls hl => ?_)
    refine lv_aload_n hx hb dL_isBench_80 rfl (lv_at hl 4 rfl) ?_
    refine lv_iload_n hx hb dL_isBench_81 rfl (lv_at hl 5 rfl) ?_
    refine x_calliU hP hD hS hA (vx_runSW (As := [.ref ((ad 7) 0), .int (zI x)]) (rest := []) ⟨hx, hb, hml, hown, htg⟩ (w_defaultMonth l dg ck ka ad ra S X Q P z b75 x _ hκ hR  (by omega) hst) (vx_cwSW 2 htg (gwSW wq_551 wq_552 wq_0 wqL_defaultMonth) rfl rfl rfl (by decide +kernel) ⟨Nat.le_of_ble_eq_true rfl, Nat.le_of_ble_eq_true rfl⟩) (wrK_preS hK hP hD hC hS hA) rfl rfl hl.1 rfl (lv_room (Nat.le_of_ble_eq_true rfl)) dL_isBench_82 ⟨by show _ ≤ 30; omega, by show _ ≤ 180; omega⟩) (fun r82 b82 H locs hw82 hP hD hS => ?_)
    have hP : va_P dg vwCl (brkU ck ka ad ra b82) H := hP
    have hD : va_D A (brkU ck ka ad ra b82) := hD
    obtain ⟨rfl, hR⟩ := hw82
    refine x_is (show (vDefM S x) = (-75) from (if_pos hbx).trans (if_neg hd)) ?_
    refine lv_istore (lv' := [(6, .int (zI (-75))), (5, .int (zI (S 4 x - 1))), (4, .int (zI 1)), (3, .int (zI 1)), (2, .int (zI (noiseB S x))), (0, .ref ((ad 7) 0)), (1, .int (zI x))]) hx hb dL_isBench_85 hl (by decide) rfl (fun ls hl => ?_)
    refine lv_aload_n hx hb dL_isBench_87 rfl (lv_at hl 5 rfl) ?_
    refine lv_iload_n hx hb dL_isBench_88 rfl (lv_at hl 6 rfl) ?_
    refine x_calliU hP hD hS hA (vx_runSW (As := [.ref ((ad 7) 0), .int (zI x)]) (rest := []) ⟨hx, hb, hml, hown, htg⟩ (w_isLet l dg ck ka ad ra S X Q P z b82 x _ hκ hR  (by omega) hst) (vx_cwSW 2 htg (gwSW wq_525 wq_526 wq_0 wqL_isLet) rfl rfl rfl (by decide +kernel) ⟨Nat.le_of_ble_eq_true rfl, Nat.le_of_ble_eq_true rfl⟩) (wrK_preS hK hP hD hC hS hA) rfl rfl hl.1 rfl (lv_room (Nat.le_of_ble_eq_true rfl)) dL_isBench_89 ⟨by show _ ≤ 30; omega, by show _ ≤ 180; omega⟩) (fun r89 b89 H locs hw89 hP hD hS => ?_)
    have hP : va_P dg vwCl (brkU ck ka ad ra b89) H := hP
    have hD : va_D A (brkU ck ka ad ra b89) := hD
    obtain ⟨rfl, hR⟩ := hw89
    refine x_is (show (vLet S x) = 1 from (if_pos hbx).trans (bI_t h4)) ?_
    refine x_if_ne (tgt := 140) hx hb dL_isBench_92 (by decide) (by omega) (fun c92 => ?_) (fun c92 => absurd c92 (by decide))
    refine lv_aload_n hx hb dL_isBench_140 rfl (lv_at hl 5 rfl) ?_
    refine lv_iload_n hx hb dL_isBench_141 rfl (lv_at hl 6 rfl) ?_
    refine x_calliU hP hD hS hA (vx_runSW (As := [.ref ((ad 7) 0), .int (zI x)]) (rest := []) ⟨hx, hb, hml, hown, htg⟩ (w_monthsLeft l dg ck ka ad ra S X Q P z b89 x _ hκ hR  (by omega) hst) (vx_cwSW 2 htg (gwSW wq_544 wq_545 wq_0 wqL_monthsLeft) rfl rfl rfl (by decide +kernel) ⟨Nat.le_of_ble_eq_true rfl, Nat.le_of_ble_eq_true rfl⟩) (wrK_preS hK hP hD hC hS hA) rfl rfl hl.1 rfl (lv_room (Nat.le_of_ble_eq_true rfl)) dL_isBench_142 ⟨by show _ ≤ 30; omega, by show _ ≤ 180; omega⟩) (fun r142 b142 H locs hw142 hP hD hS => ?_)
    have hP : va_P dg vwCl (brkU ck ka ad ra b142) H := hP
    have hD : va_D A (brkU ck ka ad ra b142) := hD
    obtain ⟨rfl, hR⟩ := hw142
    refine x_is (show (vLeft S x) = (S 6 x) from (if_pos hbx).trans (if_neg h4)) ?_
    refine lv_istore (lv' := [(7, .int (zI (S 6 x))), (6, .int (zI (-75))), (5, .int (zI (S 4 x - 1))), (4, .int (zI 1)), (3, .int (zI 1)), (2, .int (zI (noiseB S x))), (0, .ref ((ad 7) 0)), (1, .int (zI x))]) hx hb dL_isBench_145 hl (by decide) rfl (fun ls hl => ?_)
    refine lv_aload_n hx hb dL_isBench_147 rfl (lv_at hl 6 rfl) ?_
    refine lv_iload_n hx hb dL_isBench_148 rfl (lv_at hl 7 rfl) ?_
    refine x_calliU hP hD hS hA (vx_runSW (As := [.ref ((ad 7) 0), .int (zI x)]) (rest := []) ⟨hx, hb, hml, hown, htg⟩ (w_rentOf l dg ck ka ad ra S X Q P z b142 x _ hκ hR  (by omega) hst) (vx_cwSW 2 htg (gwSW wq_338 wq_339 wq_0 wqL_rentOf) rfl rfl rfl (by decide +kernel) ⟨Nat.le_of_ble_eq_true rfl, Nat.le_of_ble_eq_true rfl⟩) (wrK_preS hK hP hD hC hS hA) rfl rfl hl.1 rfl (lv_room (Nat.le_of_ble_eq_true rfl)) dL_isBench_149 ⟨by show _ ≤ 30; omega, by show _ ≤ 180; omega⟩) (fun r149 b149 H locs hw149 hP hD hS => ?_)
    have hP : va_P dg vwCl (brkU ck ka ad ra b149) H := hP
    have hD : va_D A (brkU ck ka ad ra b149) := hD
    obtain ⟨rfl, hR⟩ := hw149
    refine x_is (show (vRent S x) = (rent S x) from if_pos hbx) ?_
    refine lv_iload hx hb dL_isBench_152 (lv_at hl 0 rfl) ?_
    refine x_imul hx hb dL_isBench_154 ?_
    refine lv_istore (lv' := [(8, .int (zI ((rent S x) * (S 6 x)))), (7, .int (zI (S 6 x))), (6, .int (zI (-75))), (5, .int (zI (S 4 x - 1))), (4, .int (zI 1)), (3, .int (zI 1)), (2, .int (zI (noiseB S x))), (0, .ref ((ad 7) 0)), (1, .int (zI x))]) hx hb dL_isBench_155 hl (by decide) rfl (fun ls hl => ?_)
    refine lv_iload hx hb dL_isBench_157 (lv_at hl 2 rfl) ?_
    refine x_bipush hx hb dL_isBench_159 (by decide) ?_
    refine x_icmp_ne (tgt := 187) hx hb dL_isBench_161 (by decide) (by omega) (by omega) (fun c161 => absurd c161 (by decide)) (fun c161 => ?_)
    refine lv_iload_n hx hb dL_isBench_164 rfl (lv_at hl 5 rfl) ?_
    refine x_if_eq (tgt := 179) hx hb dL_isBench_165 (by decide) (by omega) (fun c165 => absurd c165 (by decide)) (fun c165 => ?_)
    refine lv_aload_n hx hb dL_isBench_168 rfl (lv_at hl 7 rfl) ?_
    refine lv_iload hx hb dL_isBench_169 (lv_at hl 3 rfl) ?_
    refine x_calliU hP hD hS hA (vx_runSW (As := [.ref ((ad 7) 0), .int (zI (S 4 x - 1))]) (rest := []) ⟨hx, hb, hml, hown, htg⟩ (w_coinsOf l dg ck ka ad ra S X Q P z b149 (S 4 x - 1) _ hκ hR  (by omega) hst) (vx_cwSW 2 htg (gwSW wq_1244 wq_1245 wq_0 wqL_coinsOf) rfl rfl rfl (by decide +kernel) ⟨Nat.le_of_ble_eq_true rfl, Nat.le_of_ble_eq_true rfl⟩) (wrK_preS hK hP hD hC hS hA) rfl rfl hl.1 rfl (lv_room (Nat.le_of_ble_eq_true rfl)) dL_isBench_171 ⟨by show _ ≤ 30; omega, by show _ ≤ 180; omega⟩) (fun r171 b171 H locs hw171 hP hD hS => ?_)
    have hP : va_P dg vwCl (brkU ck ka ad ra b171) H := hP
    have hD : va_D A (brkU ck ka ad ra b171) := hD
    obtain ⟨rfl, hR⟩ := hw171
    refine x_is (show (vCoins S (S 4 x - 1)) = (S 11 (S 4 x - 1)) from if_pos hten) ?_
    refine lv_iload hx hb dL_isBench_174 (lv_at hl 0 rfl) ?_
    refine x_icmp_lt (tgt := 183) hx hb dL_isBench_176 (by decide) (by omega) (by omega) (fun c176 => False.elim (by omega)) (fun c176 => ?_)
    refine x_iconst hx hb dL_isBench_179 ?_
    refine lv_goto (tgt := 245) hx hb dL_isBench_180 (by decide) ?_
    refine lv_istore (lv' := [(9, .int (zI 1)), (8, .int (zI ((rent S x) * (S 6 x)))), (7, .int (zI (S 6 x))), (6, .int (zI (-75))), (5, .int (zI (S 4 x - 1))), (4, .int (zI 1)), (3, .int (zI 1)), (2, .int (zI (noiseB S x))), (0, .ref ((ad 7) 0)), (1, .int (zI x))]) hx hb dL_isBench_245 hl (by decide) rfl (fun ls hl => ?_)
    refine lv_iload hx hb dL_isBench_247 (lv_at hl 5 rfl) ?_
    refine x_if_eq (tgt := 303) hx hb dL_isBench_249 (by decide) (by omega) (fun c249 => absurd c249 (by decide)) (fun c249 => ?_)
    refine lv_iload hx hb dL_isBench_252 (lv_at hl 0 rfl) ?_
    refine x_if_eq (tgt := 303) hx hb dL_isBench_254 (by decide) (by omega) (fun c254 => absurd c254 (by decide)) (fun c254 => ?_)
    refine lv_aload_n hx hb dL_isBench_257 rfl (lv_at hl 8 rfl) ?_
    refine lv_iload hx hb dL_isBench_258 (lv_at hl 4 rfl) ?_
    refine x_calliU hP hD hS hA (vx_runSW (As := [.ref ((ad 7) 0), .int (zI (S 4 x - 1))]) (rest := []) ⟨hx, hb, hml, hown, htg⟩ (w_benchOf l dg ck ka ad ra S X Q P z b171 (S 4 x - 1) _ hκ hR  (by omega) hst) (vx_cwSW 2 htg (gwSW wq_468 wq_469 wq_0 wqL_benchOf) rfl rfl rfl (by decide +kernel) ⟨Nat.le_of_ble_eq_true rfl, Nat.le_of_ble_eq_true rfl⟩) (wrK_preS hK hP hD hC hS hA) rfl rfl hl.1 rfl (lv_room (Nat.le_of_ble_eq_true rfl)) dL_isBench_260 ⟨by show _ ≤ 30; omega, by show _ ≤ 180; omega⟩) (fun r260 b260 H locs hw260 hP hD hS => ?_)
    have hP : va_P dg vwCl (brkU ck ka ad ra b260) H := hP
    have hD : va_D A (brkU ck ka ad ra b260) := hD
    obtain ⟨rfl, hR⟩ := hw260
    refine x_is (show (vBof S (S 4 x - 1)) = x from (if_pos hten).trans ((if_neg (by rw [hbof]; omega)).trans hbof)) ?_
    refine lv_iload_n hx hb dL_isBench_263 rfl (lv_at hl 9 rfl) ?_
    refine lv_icmp_ne (tgt := 303) hx hb dL_isBench_264 (by decide) (fun c264 => absurd rfl c264) (fun c264 => ?_)
    refine lv_iload hx hb dL_isBench_267 (lv_at hl 2 rfl) ?_
    refine x_iconst hx hb dL_isBench_269 ?_
    refine x_icmp_lt (tgt := 303) hx hb dL_isBench_270 (by decide) (by omega) (by omega) (fun c270 => False.elim (by omega)) (fun c270 => ?_)
    refine lv_iload hx hb dL_isBench_273 (lv_at hl 2 rfl) ?_
    refine x_bipush hx hb dL_isBench_275 (by decide) ?_
    refine x_icmp_gt (tgt := 303) hx hb dL_isBench_277 (by decide) (by omega) (by omega) (fun c277 => False.elim (by omega)) (fun c277 => ?_)
    refine lv_aload_n hx hb dL_isBench_280 rfl (lv_at hl 8 rfl) ?_
    refine lv_iload_n hx hb dL_isBench_281 rfl (lv_at hl 9 rfl) ?_
    refine x_calliU hP hD hS hA (vx_runSW (As := [.ref ((ad 7) 0), .int (zI x)]) (rest := []) ⟨hx, hb, hml, hown, htg⟩ (w_depositOf l dg ck ka ad ra S X Q P z b260 x _ hκ hR  (by omega) hst) (vx_cwSW 2 htg (gwSW wq_1218 wq_1219 wq_0 wqL_depositOf) rfl rfl rfl (by decide +kernel) ⟨Nat.le_of_ble_eq_true rfl, Nat.le_of_ble_eq_true rfl⟩) (wrK_preS hK hP hD hC hS hA) rfl rfl hl.1 rfl (lv_room (Nat.le_of_ble_eq_true rfl)) dL_isBench_282 ⟨by show _ ≤ 30; omega, by show _ ≤ 180; omega⟩) (fun r282 b282 H locs hw282 hP hD hS => ?_)
    have hP : va_P dg vwCl (brkU ck ka ad ra b282) H := hP
    have hD : va_D A (brkU ck ka ad ra b282) := hD
    obtain ⟨rfl, hR⟩ := hw282
    refine x_is (show (vDep S x) = (S 5 x) from (if_pos hbx).trans (if_neg h4)) ?_
    refine x_iconst hx hb dL_isBench_285 ?_
    refine x_icmp_lt (tgt := 303) hx hb dL_isBench_286 (by decide) (by omega) (by omega) (fun c286 => False.elim (by omega)) (fun c286 => ?_)
    refine lv_aload_n hx hb dL_isBench_289 rfl (lv_at hl 8 rfl) ?_
    refine lv_iload hx hb dL_isBench_290 (lv_at hl 4 rfl) ?_
    refine x_calliU hP hD hS hA (vx_runSW (As := [.ref ((ad 7) 0), .int (zI (S 4 x - 1))]) (rest := []) ⟨hx, hb, hml, hown, htg⟩ (w_defaultsOf l dg ck ka ad ra S X Q P z b282 (S 4 x - 1) _ hκ hR  (by omega) hst) (vx_cwSW 2 htg (gwSW wq_1251 wq_1252 wq_0 wqL_defaultsOf) rfl rfl rfl (by decide +kernel) ⟨Nat.le_of_ble_eq_true rfl, Nat.le_of_ble_eq_true rfl⟩) (wrK_preS hK hP hD hC hS hA) rfl rfl hl.1 rfl (lv_room (Nat.le_of_ble_eq_true rfl)) dL_isBench_292 ⟨by show _ ≤ 30; omega, by show _ ≤ 180; omega⟩) (fun r292 b292 H locs hw292 hP hD hS => ?_)
    have hP : va_P dg vwCl (brkU ck ka ad ra b292) H := hP
    have hD : va_D A (brkU ck ka ad ra b292) := hD
    obtain ⟨rfl, hR⟩ := hw292
    refine x_is (show (vDefs S (S 4 x - 1)) = (S 12 (S 4 x - 1)) from if_pos hten) ?_
    refine x_iconst hx hb dL_isBench_295 ?_
    refine x_icmp_ge (tgt := 303) hx hb dL_isBench_296 (by decide) (by omega) (by omega) (fun c296 => False.elim (by omega)) (fun c296 => ?_)
    refine x_iconst hx hb dL_isBench_299 ?_
    refine lv_goto (tgt := 304) hx hb dL_isBench_300 (by decide) ?_
    exact W.widen (k := 30) (n := 180) (by omega) (by omega) (W.zret (v := _) hx hb hr (by first | rfl | exact nar_z (by omega)) (fun t9 ht9 hW9 => ⟨⟨_, b292, rfl, ⟨rfl, hR⟩, by rw [ht9]; exact hP, by rw [hAe]; exact hD⟩, hS.F ht9⟩) hS.2.2 dL_isBench_304)

set_option maxHeartbeats 4000000 in
set_option maxRecDepth 100000 in
/-- the law: isTenant -/
theorem lf_isTenant (l : Launch) (dg : va_G) (ck : Nat → ClassId) (ka : Nat → Nat) (ad ra : Nat → Nat → Nat) (S : St) (X : Nat → Int) (Q : Nat → St) (P : St) (z : Int) (b : BU) (x : Int) (sz : Nat) {n : Int} (hκ : KI n S X Q P z) (hR : RO S X Q P z b) (htx9 : isTen S x) (hst : l.stackTraces = false) : Met l yL_isTenant (.code yL_isTenant cL_isTenant 7 (some .boolean) :: GW) ({ frames := 10, cells := 112, slots := 672, locals := 180 }) (va_Pc [.ref ((ad 7) 0), .int (zI x)] (wrK dg ck ka sz (brkU ck ka ad ra b))) (va_Qi (fun r (u : BU) => r = zI 1 ∧ RO S X Q P z u) (fun u t9 => wrQ dg sz (brkU ck ka ad ra b) (brkU ck ka ad ra u) t9) (va_A (brkU ck ka ad ra b) sz)) 112 672 (va_A (brkU ck ka ad ra b) sz) := by
  obtain ⟨⟨hV, hV2⟩, ⟨hn, hz⟩, hq10, hhist, hz0, hp10, hsn⟩ := id hκ
  have hI := hV.bd
  refine Met.ofW (cc := cL_isTenant) (maxL := 7) (ret := (some .boolean)) (by decide) rfl ?_
  intro p e s m args below meth c s₁ B hml hv
  obtain ⟨rfl, ⟨hsz, hP, hK, hD0⟩, hC⟩ := hv
  have hx := B.exec
  have hb := B.bytes
  have hr := B.returns
  have hts := atoms_spec (ws := .code yL_isTenant cL_isTenant 7 (some .boolean) :: GW) B.pre
  have htg : ∀ w ∈ GW, w.before _ s = true := fun w h => hts w (List.mem_cons_of_mem _ h)
  have hown : s.vm.findClass RL = some m.cls := findClass_of_methodNamed B.named
  have hlocks := B.notSynchronized
  subst hsz
  have hD := hD0.self (sz := s.heap.size)
  generalize hAe : va_A (brkU ck ka ad ra b) s.heap.size = A at hD hC ⊢
  have hA : ∀ q : Nat, s.heap.size ≤ q → A q := fun q h => by rw [← hAe]; exact Or.inr h
  have hS : va_S A s.heap s.heap [] := va_S.rf
  have hP : va_P dg vwCl (brkU ck ka ad ra b) s.heap := hP
  have hl := lv_entry ([.ref ((ad 7) 0), .int (zI x)]) (n := 7) (Nat.le_of_ble_eq_true rfl)
  rw [lg_entry_eq]
  generalize (lg_sl ([.ref ((ad 7) 0), .int (zI x)]) ++ List.replicate (7 - (lg_sl ([.ref ((ad 7) 0), .int (zI x)])).length) Slot.unset).toArray = ls at hl ⊢
  have hl : lv_has ls 7 [(0, .ref ((ad 7) 0)), (1, .int (zI x))] := hl
  obtain ⟨b00, b01, b02, b03, b1, b2, b3, b4, b5, b6, b7, b8, b9, b10, b11, b12⟩ := id hI
  have hlr := lb_r hI x
  have hcr := chB_r S x (S 0 0).toNat
  have hcp := chB_p S x (S 0 0).toNat
  have q11 := b11 x
  have q12 := b12 x
  have hv5 : (lb S x = -1 ∧ vBof S x = -75) ∨ (lb S x ≠ -1 ∧ vBof S x = lb S x) := (Classical.em (lb S x = -1)).elim (fun h9 => Or.inl ⟨h9, (if_pos htx9).trans (if_pos h9)⟩) (fun h9 => Or.inr ⟨h9, (if_pos htx9).trans (if_neg h9)⟩)
  have hv11 : (chB S x (S 0 0).toNat = -1 ∧ vCheap S x = -75) ∨ (chB S x (S 0 0).toNat ≠ -1 ∧ vCheap S x = chB S x (S 0 0).toNat) := (Classical.em (chB S x (S 0 0).toNat = -1)).elim (fun h9 => Or.inl ⟨h9, (if_pos htx9).trans (if_pos h9)⟩) (fun h9 => Or.inr ⟨h9, (if_pos htx9).trans (if_neg h9)⟩)
  refine lv_aload_n hx hb dL_isTenant_0 rfl (lv_at hl 0 rfl) ?_
  refine lv_iload_n hx hb dL_isTenant_1 rfl (lv_at hl 1 rfl) ?_
  refine x_calliU hP hD hS hA (vx_runSW (As := [.ref ((ad 7) 0), .int (zI x)]) (rest := []) ⟨hx, hb, hml, hown, htg⟩ (w_benchOf l dg ck ka ad ra S X Q P z b x _ hκ hR  (by omega) hst) (vx_cwSW 2 htg (gwSW wq_468 wq_469 wq_0 wqL_benchOf) rfl rfl rfl (by decide +kernel) ⟨Nat.le_of_ble_eq_true rfl, Nat.le_of_ble_eq_true rfl⟩) (wrK_preS hK hP hD hC hS hA) rfl rfl hl.1 rfl (lv_room (Nat.le_of_ble_eq_true rfl)) dL_isTenant_2 ⟨by show _ ≤ 112; omega, by show _ ≤ 672; omega⟩) (fun r2 b2 H locs hw2 hP hD hS => ?_)
  have hP : va_P dg vwCl (brkU ck ka ad ra b2) H := hP
  have hD : va_D A (brkU ck ka ad ra b2) := hD
  obtain ⟨rfl, hR⟩ := hw2
  refine x_top _ (fun v5 e_v5 => ?_)
  refine lv_istore_n (lv' := [(2, .int (zI v5)), (0, .ref ((ad 7) 0)), (1, .int (zI x))]) hx hb dL_isTenant_5 rfl hl (by decide) rfl (fun ls hl => ?_)
  refine lv_aload_n hx hb dL_isTenant_6 rfl (lv_at hl 1 rfl) ?_
  refine lv_iload_n hx hb dL_isTenant_7 rfl (lv_at hl 2 rfl) ?_
  refine x_calliU hP hD hS hA (vx_runSW (As := [.ref ((ad 7) 0), .int (zI x)]) (rest := []) ⟨hx, hb, hml, hown, htg⟩ (w_cheapestFor l dg ck ka ad ra S X Q P z b2 x _ hκ hR  (by omega) hst) (vx_cwSW 2 htg (gwSW wq_1397 wq_1398 wq_0 wqL_cheapestFor) rfl rfl rfl (by decide +kernel) ⟨Nat.le_of_ble_eq_true rfl, Nat.le_of_ble_eq_true rfl⟩) (wrK_preS hK hP hD hC hS hA) rfl rfl hl.1 rfl (lv_room (Nat.le_of_ble_eq_true rfl)) dL_isTenant_8 ⟨by show _ ≤ 112; omega, by show _ ≤ 672; omega⟩) (fun r8 b8 H locs hw8 hP hD hS => ?_)
  have hP : va_P dg vwCl (brkU ck ka ad ra b8) H := hP
  have hD : va_D A (brkU ck ka ad ra b8) := hD
  obtain ⟨rfl, hR⟩ := hw8
  refine x_top _ (fun v11 e_v11 => ?_)
  refine lv_istore_n (lv' := [(3, .int (zI v11)), (2, .int (zI v5)), (0, .ref ((ad 7) 0)), (1, .int (zI x))]) hx hb dL_isTenant_11 rfl hl (by decide) rfl (fun ls hl => ?_)
  refine x_iconst hx hb dL_isTenant_12 ?_
  refine lv_istore (lv' := [(4, .int (zI 0)), (3, .int (zI v11)), (2, .int (zI v5)), (0, .ref ((ad 7) 0)), (1, .int (zI x))]) hx hb dL_isTenant_13 hl (by decide) rfl (fun ls hl => ?_)
  refine x_loopN (ι := BU × Int) (fun v => (0 ≤ v.2 ∧ v.2 ≤ S 0 0) ∧ RO S X Q P z v.1) (fun v => (S 0 0 - v.2).toNat) (fun v => [(0, .ref ((ad 7) 0)), (1, .int (zI x)), (2, .int (zI v5)), (3, .int (zI v11)), (4, .int (zI v.2))]) (fun v => brkU ck ka ad ra v.1) (fun v => 4 + 10 * (v.2).toNat) (fun v => 24 + 60 * (v.2).toNat) (b8, 0) (show (0 ≤ (0 : Int) ∧ (0 : Int) ≤ S 0 0) ∧ RO S X Q P z b8 from ⟨by omega, hR⟩) (lv_sub hl [3, 4, 2, 1, 0] rfl) hP hD hS (by show _ ≤ 4 + 10 * ((0 : Int)).toNat; omega) (by show _ ≤ 24 + 60 * ((0 : Int)).toNat; omega) ?_
  intro v hv ih_15 ls H locs hl hP hD hS
  obtain ⟨b, i⟩ := v
  have hl : lv_has ls 7 [(0, .ref ((ad 7) 0)), (1, .int (zI x)), (2, .int (zI v5)), (3, .int (zI v11)), (4, .int (zI i))] := hl
  have hv : (0 ≤ i ∧ i ≤ S 0 0) ∧ RO S X Q P z b := hv
  have hP : va_P dg vwCl (brkU ck ka ad ra b) H := hP
  have hD : va_D A (brkU ck ka ad ra b) := hD
  obtain ⟨hi, hR⟩ := hv
  refine W.as (k' := 4 + 10 * (i).toNat) (n' := 24 + 60 * (i).toNat) rfl rfl ?_
  refine lv_iload hx hb dL_isTenant_15 (lv_at hl 4 rfl) ?_
  refine lv_aload_n hx hb dL_isTenant_17 rfl (lv_at hl 0 rfl) ?_
  refine x_calliU hP hD hS hA (va_runV (As := []) (rest := [.int (zI i)]) ⟨hx, hb, hml, hown, htg⟩ (g_benchCount l dg ck ka ad ra S X Q P z b _ hκ hR) (cwV 0 htg (gwV wq_319 wq_320 wq_321 wq_1 wq_322) rfl rfl rfl (by decide +kernel) ⟨Nat.le_of_ble_eq_true rfl, Nat.le_of_ble_eq_true rfl⟩) (wrK_preV hK hP hD hC hS hA 0 10 rfl rfl) rfl rfl hl.1 rfl (lv_room (Nat.le_of_ble_eq_true rfl)) dL_isTenant_18 ⟨by show _ ≤ 112; omega, by show _ ≤ 672; omega⟩) (fun r18 b18 H locs hw18 hP hD hS => ?_)
  have hP : va_P dg vwCl (brkU ck ka ad ra b18) H := hP
  have hD : va_D A (brkU ck ka ad ra b18) := hD
  obtain ⟨rfl, hR⟩ := hw18
  refine x_icmp_ge (tgt := 155) hx hb dL_isTenant_21 (by decide) (by omega) (by omega) (fun c21 => ?_) (fun c21 => ?_)
  · refine lv_iload_n hx hb dL_isTenant_155 rfl (lv_at hl 2 rfl) ?_
    refine x_bipush hx hb dL_isTenant_156 (by decide) ?_
    refine x_icmp_eq (tgt := 170) hx hb dL_isTenant_158 (by decide) (by omega) (by omega) (fun c158 => ?_) (fun c158 => ?_)
    · refine lv_aload_n hx hb dL_isTenant_170 rfl (lv_at hl 0 rfl) ?_
      refine lv_iload_n hx hb dL_isTenant_171 rfl (lv_at hl 1 rfl) ?_
      refine x_calliU hP hD hS hA (vx_runSW (As := [.ref ((ad 7) 0), .int (zI x)]) (rest := []) ⟨hx, hb, hml, hown, htg⟩ (w_coinsOf l dg ck ka ad ra S X Q P z b18 x _ hκ hR  (by omega) hst) (vx_cwSW 2 htg (gwSW wq_1244 wq_1245 wq_0 wqL_coinsOf) rfl rfl rfl (by decide +kernel) ⟨Nat.le_of_ble_eq_true rfl, Nat.le_of_ble_eq_true rfl⟩) (wrK_preS hK hP hD hC hS hA) rfl rfl hl.1 rfl (lv_room (Nat.le_of_ble_eq_true rfl)) dL_isTenant_172 ⟨by show _ ≤ 112; omega, by show _ ≤ 672; omega⟩) (fun r172 b172 H locs hw172 hP hD hS => ?_)
      have hP : va_P dg vwCl (brkU ck ka ad ra b172) H := hP
      have hD : va_D A (brkU ck ka ad ra b172) := hD
      obtain ⟨rfl, hR⟩ := hw172
      refine x_is (show (vCoins S x) = (S 11 x) from if_pos htx9) ?_
      refine x_if_lt (tgt := 199) hx hb dL_isTenant_175 (by decide) (by omega) (fun c175 => False.elim (by omega)) (fun c175 => ?_)
      refine lv_aload_n hx hb dL_isTenant_178 rfl (lv_at hl 0 rfl) ?_
      refine lv_iload_n hx hb dL_isTenant_179 rfl (lv_at hl 1 rfl) ?_
      refine x_calliU hP hD hS hA (vx_runSW (As := [.ref ((ad 7) 0), .int (zI x)]) (rest := []) ⟨hx, hb, hml, hown, htg⟩ (w_defaultsOf l dg ck ka ad ra S X Q P z b172 x _ hκ hR  (by omega) hst) (vx_cwSW 2 htg (gwSW wq_1251 wq_1252 wq_0 wqL_defaultsOf) rfl rfl rfl (by decide +kernel) ⟨Nat.le_of_ble_eq_true rfl, Nat.le_of_ble_eq_true rfl⟩) (wrK_preS hK hP hD hC hS hA) rfl rfl hl.1 rfl (lv_room (Nat.le_of_ble_eq_true rfl)) dL_isTenant_180 ⟨by show _ ≤ 112; omega, by show _ ≤ 672; omega⟩) (fun r180 b180 H locs hw180 hP hD hS => ?_)
      have hP : va_P dg vwCl (brkU ck ka ad ra b180) H := hP
      have hD : va_D A (brkU ck ka ad ra b180) := hD
      obtain ⟨rfl, hR⟩ := hw180
      refine x_is (show (vDefs S x) = (S 12 x) from if_pos htx9) ?_
      refine x_if_lt (tgt := 199) hx hb dL_isTenant_183 (by decide) (by omega) (fun c183 => False.elim (by omega)) (fun c183 => ?_)
      refine lv_aload_n hx hb dL_isTenant_186 rfl (lv_at hl 0 rfl) ?_
      refine lv_iload_n hx hb dL_isTenant_187 rfl (lv_at hl 1 rfl) ?_
      refine x_calliU hP hD hS hA (vx_runSW (As := [.ref ((ad 7) 0), .int (zI x)]) (rest := []) ⟨hx, hb, hml, hown, htg⟩ (w_defaultsOf l dg ck ka ad ra S X Q P z b180 x _ hκ hR  (by omega) hst) (vx_cwSW 2 htg (gwSW wq_1251 wq_1252 wq_0 wqL_defaultsOf) rfl rfl rfl (by decide +kernel) ⟨Nat.le_of_ble_eq_true rfl, Nat.le_of_ble_eq_true rfl⟩) (wrK_preS hK hP hD hC hS hA) rfl rfl hl.1 rfl (lv_room (Nat.le_of_ble_eq_true rfl)) dL_isTenant_188 ⟨by show _ ≤ 112; omega, by show _ ≤ 672; omega⟩) (fun r188 b188 H locs hw188 hP hD hS => ?_)
      have hP : va_P dg vwCl (brkU ck ka ad ra b188) H := hP
      have hD : va_D A (brkU ck ka ad ra b188) := hD
      obtain ⟨rfl, hR⟩ := hw188
      refine x_is (show (vDefs S x) = (S 12 x) from if_pos htx9) ?_
      refine x_iconst hx hb dL_isTenant_191 ?_
      refine x_icmp_gt (tgt := 199) hx hb dL_isTenant_192 (by decide) (by omega) (by omega) (fun c192 => False.elim (by omega)) (fun c192 => ?_)
      refine x_iconst hx hb dL_isTenant_195 ?_
      refine lv_goto (tgt := 200) hx hb dL_isTenant_196 (by decide) ?_
      exact W.widen (k := 112) (n := 672) (by omega) (by omega) (W.zret (v := _) hx hb hr (by first | rfl | exact nar_z (by omega)) (fun t9 ht9 hW9 => ⟨⟨_, b188, rfl, ⟨rfl, hR⟩, by rw [ht9]; exact hP, by rw [hAe]; exact hD⟩, hS.F ht9⟩) hS.2.2 dL_isTenant_200)
    · refine lv_aload_n hx hb dL_isTenant_161 rfl (lv_at hl 0 rfl) ?_
      refine lv_iload_n hx hb dL_isTenant_162 rfl (lv_at hl 2 rfl) ?_
      refine x_calliU hP hD hS hA (vx_runSW (As := [.ref ((ad 7) 0), .int (zI v5)]) (rest := []) ⟨hx, hb, hml, hown, htg⟩ (w_tenantOf l dg ck ka ad ra S X Q P z b18 v5 _ hκ hR  (by omega) hst) (vx_cwSW 2 htg (gwSW wq_533 wq_534 wq_0 wqL_tenantOf) rfl rfl rfl (by decide +kernel) ⟨Nat.le_of_ble_eq_true rfl, Nat.le_of_ble_eq_true rfl⟩) (wrK_preS hK hP hD hC hS hA) rfl rfl hl.1 rfl (lv_room (Nat.le_of_ble_eq_true rfl)) dL_isTenant_163 ⟨by show _ ≤ 112; omega, by show _ ≤ 672; omega⟩) (fun r163 b163 H locs hw163 hP hD hS => ?_)
      have hP : va_P dg vwCl (brkU ck ka ad ra b163) H := hP
      have hD : va_D A (brkU ck ka ad ra b163) := hD
      obtain ⟨rfl, hR⟩ := hw163
      refine x_is (show (vTen S v5) = x from (congrArg (vTen S) (show v5 = lb S x by omega)).trans ((if_pos ⟨by omega, by omega⟩).trans ((if_neg (by omega)).trans (by omega)))) ?_
      refine lv_iload_n hx hb dL_isTenant_166 rfl (lv_at hl 1 rfl) ?_
      refine lv_icmp_ne (tgt := 199) hx hb dL_isTenant_167 (by decide) (fun c167 => absurd rfl c167) (fun c167 => ?_)
      refine lv_aload_n hx hb dL_isTenant_170 rfl (lv_at hl 0 rfl) ?_
      refine lv_iload_n hx hb dL_isTenant_171 rfl (lv_at hl 1 rfl) ?_
      refine x_calliU hP hD hS hA (vx_runSW (As := [.ref ((ad 7) 0), .int (zI x)]) (rest := []) ⟨hx, hb, hml, hown, htg⟩ (w_coinsOf l dg ck ka ad ra S X Q P z b163 x _ hκ hR  (by omega) hst) (vx_cwSW 2 htg (gwSW wq_1244 wq_1245 wq_0 wqL_coinsOf) rfl rfl rfl (by decide +kernel) ⟨Nat.le_of_ble_eq_true rfl, Nat.le_of_ble_eq_true rfl⟩) (wrK_preS hK hP hD hC hS hA) rfl rfl hl.1 rfl (lv_room (Nat.le_of_ble_eq_true rfl)) dL_isTenant_172 ⟨by show _ ≤ 112; omega, by show _ ≤ 672; omega⟩) (fun r172 b172 H locs hw172 hP hD hS => ?_)
      have hP : va_P dg vwCl (brkU ck ka ad ra b172) H := hP
      have hD : va_D A (brkU ck ka ad ra b172) := hD
      obtain ⟨rfl, hR⟩ := hw172
      refine x_is (show (vCoins S x) = (S 11 x) from if_pos htx9) ?_
      refine x_if_lt (tgt := 199) hx hb dL_isTenant_175 (by decide) (by omega) (fun c175 => False.elim (by omega)) (fun c175 => ?_)
      refine lv_aload_n hx hb dL_isTenant_178 rfl (lv_at hl 0 rfl) ?_
      refine lv_iload_n hx hb dL_isTenant_179 rfl (lv_at hl 1 rfl) ?_
      refine x_calliU hP hD hS hA (vx_runSW (As := [.ref ((ad 7) 0), .int (zI x)]) (rest := []) ⟨hx, hb, hml, hown, htg⟩ (w_defaultsOf l dg ck ka ad ra S X Q P z b172 x _ hκ hR  (by omega) hst) (vx_cwSW 2 htg (gwSW wq_1251 wq_1252 wq_0 wqL_defaultsOf) rfl rfl rfl (by decide +kernel) ⟨Nat.le_of_ble_eq_true rfl, Nat.le_of_ble_eq_true rfl⟩) (wrK_preS hK hP hD hC hS hA) rfl rfl hl.1 rfl (lv_room (Nat.le_of_ble_eq_true rfl)) dL_isTenant_180 ⟨by show _ ≤ 112; omega, by show _ ≤ 672; omega⟩) (fun r180 b180 H locs hw180 hP hD hS => ?_)
      have hP : va_P dg vwCl (brkU ck ka ad ra b180) H := hP
      have hD : va_D A (brkU ck ka ad ra b180) := hD
      obtain ⟨rfl, hR⟩ := hw180
      refine x_is (show (vDefs S x) = (S 12 x) from if_pos htx9) ?_
      refine x_if_lt (tgt := 199) hx hb dL_isTenant_183 (by decide) (by omega) (fun c183 => False.elim (by omega)) (fun c183 => ?_)
      refine lv_aload_n hx hb dL_isTenant_186 rfl (lv_at hl 0 rfl) ?_
      refine lv_iload_n hx hb dL_isTenant_187 rfl (lv_at hl 1 rfl) ?_
      refine x_calliU hP hD hS hA (vx_runSW (As := [.ref ((ad 7) 0), .int (zI x)]) (rest := []) ⟨hx, hb, hml, hown, htg⟩ (w_defaultsOf l dg ck ka ad ra S X Q P z b180 x _ hκ hR  (by omega) hst) (vx_cwSW 2 htg (gwSW wq_1251 wq_1252 wq_0 wqL_defaultsOf) rfl rfl rfl (by decide +kernel) ⟨Nat.le_of_ble_eq_true rfl, Nat.le_of_ble_eq_true rfl⟩) (wrK_preS hK hP hD hC hS hA) rfl rfl hl.1 rfl (lv_room (Nat.le_of_ble_eq_true rfl)) dL_isTenant_188 ⟨by show _ ≤ 112; omega, by show _ ≤ 672; omega⟩) (fun r188 b188 H locs hw188 hP hD hS => ?_)
      have hP : va_P dg vwCl (brkU ck ka ad ra b188) H := hP
      have hD : va_D A (brkU ck ka ad ra b188) := hD
      obtain ⟨rfl, hR⟩ := hw188
      refine x_is (show (vDefs S x) = (S 12 x) from if_pos htx9) ?_
      refine x_iconst hx hb dL_isTenant_191 ?_
      refine x_icmp_gt (tgt := 199) hx hb dL_isTenant_192 (by decide) (by omega) (by omega) (fun c192 => False.elim (by omega)) (fun c192 => ?_)
      refine x_iconst hx hb dL_isTenant_195 ?_
      refine lv_goto (tgt := 200) hx hb dL_isTenant_196 (by decide) ?_
      exact W.widen (k := 112) (n := 672) (by omega) (by omega) (W.zret (v := _) hx hb hr (by first | rfl | exact nar_z (by omega)) (fun t9 ht9 hW9 => ⟨⟨_, b188, rfl, ⟨rfl, hR⟩, by rw [ht9]; exact hP, by rw [hAe]; exact hD⟩, hS.F ht9⟩) hS.2.2 dL_isTenant_200)
  · rcases Classical.em (obst S x i = 0) with co | co
    · have hbi : isBench S i := ⟨by omega, by omega⟩
      have ho := obst_0 co
      have hc1 := hcp.2 i (by omega) (by omega) co
      have hr1 := rent_r hI i
      have hr2 := rent_r hI (chB S x (S 0 0).toNat)
      refine lv_aload_n hx hb dL_isTenant_24 rfl (lv_at hl 0 rfl) ?_
      refine lv_iload_n hx hb dL_isTenant_25 rfl (lv_at hl 1 rfl) ?_
      refine lv_iload hx hb dL_isTenant_26 (lv_at hl 4 rfl) ?_
      refine x_calliU hP hD hS hA (vx_runSW (As := [.ref ((ad 7) 0), .int (zI x), .int (zI i)]) (rest := []) ⟨hx, hb, hml, hown, htg⟩ (w_canLease l dg ck ka ad ra S X Q P z b18 x i _ hκ hR  (by omega) (by omega) hst) (vx_cwSW 3 htg (gwSW wq_503 wq_504 wq_0 wqL_canLease) rfl rfl rfl (by decide +kernel) ⟨Nat.le_of_ble_eq_true rfl, Nat.le_of_ble_eq_true rfl⟩) (wrK_preS hK hP hD hC hS hA) rfl rfl hl.1 rfl (lv_room (Nat.le_of_ble_eq_true rfl)) dL_isTenant_28 ⟨by show _ ≤ 112; omega, by show _ ≤ 672; omega⟩) (fun r28 b28 H locs hw28 hP hD hS => ?_)
      have hP : va_P dg vwCl (brkU ck ka ad ra b28) H := hP
      have hD : va_D A (brkU ck ka ad ra b28) := hD
      obtain ⟨rfl, hR⟩ := hw28
      refine x_is (show (vCan S x i) = 1 from (if_pos ⟨htx9, hbi⟩).trans (bI_t co)) ?_
      refine x_iconst hx hb dL_isTenant_31 ?_
      refine x_icmp_ne (tgt := 39) hx hb dL_isTenant_32 (by decide) (by omega) (by omega) (fun c32 => absurd c32 (by decide)) (fun c32 => ?_)
      refine x_iconst hx hb dL_isTenant_35 ?_
      refine lv_goto (tgt := 40) hx hb dL_isTenant_36 (by decide) ?_
      refine lv_istore (lv' := [(5, .int (zI 1)), (0, .ref ((ad 7) 0)), (1, .int (zI x)), (2, .int (zI v5)), (3, .int (zI v11)), (4, .int (zI i))]) hx hb dL_isTenant_40 hl (by decide) rfl (fun ls hl => ?_)
      refine lv_iload hx hb dL_isTenant_42 (lv_at hl 0 rfl) ?_
      refine x_if_eq (tgt := 124) hx hb dL_isTenant_44 (by decide) (by omega) (fun c44 => absurd c44 (by decide)) (fun c44 => ?_)
      refine lv_iload_n hx hb dL_isTenant_47 rfl (lv_at hl 3 rfl) ?_
      refine x_bipush hx hb dL_isTenant_48 (by decide) ?_
      refine x_icmp_ne (tgt := 128) hx hb dL_isTenant_50 (by decide) (by omega) (by omega) (fun c50 => False.elim (by omega)) (fun c50 => ?_)
      refine lv_aload_n hx hb dL_isTenant_53 rfl (lv_at hl 1 rfl) ?_
      refine lv_iload hx hb dL_isTenant_54 (lv_at hl 5 rfl) ?_
      refine x_calliU hP hD hS hA (vx_runSW (As := [.ref ((ad 7) 0), .int (zI i)]) (rest := []) ⟨hx, hb, hml, hown, htg⟩ (w_isLet l dg ck ka ad ra S X Q P z b28 i _ hκ hR  (by omega) hst) (vx_cwSW 2 htg (gwSW wq_525 wq_526 wq_0 wqL_isLet) rfl rfl rfl (by decide +kernel) ⟨Nat.le_of_ble_eq_true rfl, Nat.le_of_ble_eq_true rfl⟩) (wrK_preS hK hP hD hC hS hA) rfl rfl hl.1 rfl (lv_room (Nat.le_of_ble_eq_true rfl)) dL_isTenant_56 ⟨by show _ ≤ 112; omega, by show _ ≤ 672; omega⟩) (fun r56 b56 H locs hw56 hP hD hS => ?_)
      have hP : va_P dg vwCl (brkU ck ka ad ra b56) H := hP
      have hD : va_D A (brkU ck ka ad ra b56) := hD
      obtain ⟨rfl, hR⟩ := hw56
      refine x_is (show (vLet S i) = 0 from (if_pos hbi).trans (bI_f (fun q9 => q9 ho.2.2.1))) ?_
      refine x_if_ne (tgt := 128) hx hb dL_isTenant_59 (by decide) (by omega) (fun c59 => absurd c59 (by decide)) (fun c59 => ?_)
      refine lv_aload_n hx hb dL_isTenant_62 rfl (lv_at hl 1 rfl) ?_
      refine lv_iload hx hb dL_isTenant_63 (lv_at hl 5 rfl) ?_
      refine x_calliU hP hD hS hA (vx_runSW (As := [.ref ((ad 7) 0), .int (zI i)]) (rest := []) ⟨hx, hb, hml, hown, htg⟩ (w_isQuiet l dg ck ka ad ra S X Q P z b56 i _ hκ hR  (by omega) hst) (vx_cwSW 2 htg (gwSW wq_1371 wq_1372 wq_0 wqL_isQuiet) rfl rfl rfl (by decide +kernel) ⟨Nat.le_of_ble_eq_true rfl, Nat.le_of_ble_eq_true rfl⟩) (wrK_preS hK hP hD hC hS hA) rfl rfl hl.1 rfl (lv_room (Nat.le_of_ble_eq_true rfl)) dL_isTenant_65 ⟨by show _ ≤ 112; omega, by show _ ≤ 672; omega⟩) (fun r65 b65 H locs hw65 hP hD hS => ?_)
      have hP : va_P dg vwCl (brkU ck ka ad ra b65) H := hP
      have hD : va_D A (brkU ck ka ad ra b65) := hD
      obtain ⟨rfl, hR⟩ := hw65
      refine x_is (show (vQuiet S i) = 1 from (if_pos hbi).trans (bI_t ho.2.2.2.1)) ?_
      refine x_iconst hx hb dL_isTenant_68 ?_
      refine x_icmp_ne (tgt := 128) hx hb dL_isTenant_69 (by decide) (by omega) (by omega) (fun c69 => absurd c69 (by decide)) (fun c69 => ?_)
      refine lv_aload_n hx hb dL_isTenant_72 rfl (lv_at hl 1 rfl) ?_
      refine lv_iload_n hx hb dL_isTenant_73 rfl (lv_at hl 2 rfl) ?_
      refine x_calliU hP hD hS hA (vx_runSW (As := [.ref ((ad 7) 0), .int (zI x)]) (rest := []) ⟨hx, hb, hml, hown, htg⟩ (w_coinsOf l dg ck ka ad ra S X Q P z b65 x _ hκ hR  (by omega) hst) (vx_cwSW 2 htg (gwSW wq_1244 wq_1245 wq_0 wqL_coinsOf) rfl rfl rfl (by decide +kernel) ⟨Nat.le_of_ble_eq_true rfl, Nat.le_of_ble_eq_true rfl⟩) (wrK_preS hK hP hD hC hS hA) rfl rfl hl.1 rfl (lv_room (Nat.le_of_ble_eq_true rfl)) dL_isTenant_74 ⟨by show _ ≤ 112; omega, by show _ ≤ 672; omega⟩) (fun r74 b74 H locs hw74 hP hD hS => ?_)
      have hP : va_P dg vwCl (brkU ck ka ad ra b74) H := hP
      have hD : va_D A (brkU ck ka ad ra b74) := hD
      obtain ⟨rfl, hR⟩ := hw74
      refine x_is (show (vCoins S x) = (S 11 x) from if_pos htx9) ?_
      refine lv_aload_n hx hb dL_isTenant_77 rfl (lv_at hl 1 rfl) ?_
      refine lv_iload hx hb dL_isTenant_78 (lv_at hl 5 rfl) ?_
      refine x_calliU hP hD hS hA (vx_runSW (As := [.ref ((ad 7) 0), .int (zI i)]) (rest := [.int (zI (S 11 x))]) ⟨hx, hb, hml, hown, htg⟩ (w_rentOf l dg ck ka ad ra S X Q P z b74 i _ hκ hR  (by omega) hst) (vx_cwSW 2 htg (gwSW wq_338 wq_339 wq_0 wqL_rentOf) rfl rfl rfl (by decide +kernel) ⟨Nat.le_of_ble_eq_true rfl, Nat.le_of_ble_eq_true rfl⟩) (wrK_preS hK hP hD hC hS hA) rfl rfl hl.1 rfl (lv_room (Nat.le_of_ble_eq_true rfl)) dL_isTenant_80 ⟨by show _ ≤ 112; omega, by show _ ≤ 672; omega⟩) (fun r80 b80 H locs hw80 hP hD hS => ?_)
      have hP : va_P dg vwCl (brkU ck ka ad ra b80) H := hP
      have hD : va_D A (brkU ck ka ad ra b80) := hD
      obtain ⟨rfl, hR⟩ := hw80
      refine x_is (show (vRent S i) = (rent S i) from if_pos hbi) ?_
      refine x_icmp_lt (tgt := 128) hx hb dL_isTenant_83 (by decide) (by omega) (by omega) (fun c83 => False.elim (by omega)) (fun c83 => ?_)
      refine lv_iload_n hx hb dL_isTenant_86 rfl (lv_at hl 4 rfl) ?_
      refine x_if_lt (tgt := 128) hx hb dL_isTenant_87 (by decide) (by omega) (fun c87 => False.elim (by omega)) (fun c87 => ?_)
      refine lv_aload_n hx hb dL_isTenant_90 rfl (lv_at hl 1 rfl) ?_
      refine lv_iload_n hx hb dL_isTenant_91 rfl (lv_at hl 4 rfl) ?_
      refine x_calliU hP hD hS hA (vx_runSW (As := [.ref ((ad 7) 0), .int (zI v11)]) (rest := []) ⟨hx, hb, hml, hown, htg⟩ (w_rentOf l dg ck ka ad ra S X Q P z b80 v11 _ hκ hR  (by omega) hst) (vx_cwSW 2 htg (gwSW wq_338 wq_339 wq_0 wqL_rentOf) rfl rfl rfl (by decide +kernel) ⟨Nat.le_of_ble_eq_true rfl, Nat.le_of_ble_eq_true rfl⟩) (wrK_preS hK hP hD hC hS hA) rfl rfl hl.1 rfl (lv_room (Nat.le_of_ble_eq_true rfl)) dL_isTenant_92 ⟨by show _ ≤ 112; omega, by show _ ≤ 672; omega⟩) (fun r92 b92 H locs hw92 hP hD hS => ?_)
      have hP : va_P dg vwCl (brkU ck ka ad ra b92) H := hP
      have hD : va_D A (brkU ck ka ad ra b92) := hD
      obtain ⟨rfl, hR⟩ := hw92
      refine x_is (show (vRent S v11) = (rent S (chB S x (S 0 0).toNat)) from (congrArg (vRent S) (show v11 = chB S x (S 0 0).toNat by omega)).trans (if_pos ⟨by omega, by omega⟩)) ?_
      refine lv_aload_n hx hb dL_isTenant_95 rfl (lv_at hl 1 rfl) ?_
      refine lv_iload hx hb dL_isTenant_96 (lv_at hl 5 rfl) ?_
      refine x_calliU hP hD hS hA (vx_runSW (As := [.ref ((ad 7) 0), .int (zI i)]) (rest := [.int (zI (rent S (chB S x (S 0 0).toNat)))]) ⟨hx, hb, hml, hown, htg⟩ (w_rentOf l dg ck ka ad ra S X Q P z b92 i _ hκ hR  (by omega) hst) (vx_cwSW 2 htg (gwSW wq_338 wq_339 wq_0 wqL_rentOf) rfl rfl rfl (by decide +kernel) ⟨Nat.le_of_ble_eq_true rfl, Nat.le_of_ble_eq_true rfl⟩) (wrK_preS hK hP hD hC hS hA) rfl rfl hl.1 rfl (lv_room (Nat.le_of_ble_eq_true rfl)) dL_isTenant_98 ⟨by show _ ≤ 112; omega, by show _ ≤ 672; omega⟩) (fun r98 b98 H locs hw98 hP hD hS => ?_)
      have hP : va_P dg vwCl (brkU ck ka ad ra b98) H := hP
      have hD : va_D A (brkU ck ka ad ra b98) := hD
      obtain ⟨rfl, hR⟩ := hw98
      refine x_is (show (vRent S i) = (rent S i) from if_pos hbi) ?_
      refine x_icmp_lt (tgt := 124) hx hb dL_isTenant_101 (by decide) (by omega) (by omega) (fun c101 => ?_) (fun c101 => ?_)
      · refine x_iconst hx hb dL_isTenant_124 ?_
        refine lv_goto (tgt := 129) hx hb dL_isTenant_125 (by decide) ?_
        refine lv_istore (lv' := [(6, .int (zI 1)), (5, .int (zI 1)), (0, .ref ((ad 7) 0)), (1, .int (zI x)), (2, .int (zI v5)), (3, .int (zI v11)), (4, .int (zI i))]) hx hb dL_isTenant_129 hl (by decide) rfl (fun ls hl => ?_)
        refine lv_iload hx hb dL_isTenant_131 (lv_at hl 0 rfl) ?_
        refine x_if_eq (tgt := 147) hx hb dL_isTenant_133 (by decide) (by omega) (fun c133 => absurd c133 (by decide)) (fun c133 => ?_)
        refine lv_iload_n hx hb dL_isTenant_136 rfl (lv_at hl 5 rfl) ?_
        refine lv_iload hx hb dL_isTenant_137 (lv_at hl 6 rfl) ?_
        refine x_icmp_ne (tgt := 149) hx hb dL_isTenant_139 (by decide) (by omega) (by omega) (fun c139 => ?_) (fun c139 => ?_)
        · obtain ⟨v149, e_v149⟩ : ∃ y9 : Int, y9 = i + 1 := ⟨_, rfl⟩
          refine lv_iinc (v := zI v149) (lv' := [(4, .int (zI v149)), (6, .int (zI 1)), (5, .int (zI 1)), (0, .ref ((ad 7) 0)), (1, .int (zI x)), (2, .int (zI v5)), (3, .int (zI v11))]) hx hb dL_isTenant_149 hl (k := 6) rfl (by rw [e_v149]; exact zI_add _ _) (by decide) rfl (fun ls hl => ?_)
          refine lv_goto (tgt := 15) hx hb dL_isTenant_152 (by decide) ?_
          exact W.widen (k := 4 + 10 * (v149).toNat) (n := 24 + 60 * (v149).toNat) (by omega) (by omega) (ih_15 (b98, v149) (show (0 ≤ v149 ∧ v149 ≤ S 0 0) ∧ RO S X Q P z b98 from ⟨by omega, hR⟩) (show (S 0 0 - v149).toNat < (S 0 0 - i).toNat from by omega) ls H locs (lv_sub hl [3, 4, 5, 6, 0] rfl) hP hD hS)
        · refine lv_iload hx hb dL_isTenant_142 (lv_at hl 1 rfl) ?_
          refine x_if_ne (tgt := 149) hx hb dL_isTenant_144 (by decide) (by omega) (fun c144 => ?_) (fun c144 => absurd c144 (by decide))
          obtain ⟨v149, e_v149⟩ : ∃ y9 : Int, y9 = i + 1 := ⟨_, rfl⟩
          refine lv_iinc (v := zI v149) (lv' := [(4, .int (zI v149)), (6, .int (zI 1)), (5, .int (zI 1)), (0, .ref ((ad 7) 0)), (1, .int (zI x)), (2, .int (zI v5)), (3, .int (zI v11))]) hx hb dL_isTenant_149 hl (k := 6) rfl (by rw [e_v149]; exact zI_add _ _) (by decide) rfl (fun ls hl => ?_)
          refine lv_goto (tgt := 15) hx hb dL_isTenant_152 (by decide) ?_
          exact W.widen (k := 4 + 10 * (v149).toNat) (n := 24 + 60 * (v149).toNat) (by omega) (by omega) (ih_15 (b98, v149) (show (0 ≤ v149 ∧ v149 ≤ S 0 0) ∧ RO S X Q P z b98 from ⟨by omega, hR⟩) (show (S 0 0 - v149).toNat < (S 0 0 - i).toNat from by omega) ls H locs (lv_sub hl [3, 4, 5, 6, 0] rfl) hP hD hS)
      · refine lv_aload_n hx hb dL_isTenant_104 rfl (lv_at hl 1 rfl) ?_
        refine lv_iload_n hx hb dL_isTenant_105 rfl (lv_at hl 4 rfl) ?_
        refine x_calliU hP hD hS hA (vx_runSW (As := [.ref ((ad 7) 0), .int (zI v11)]) (rest := []) ⟨hx, hb, hml, hown, htg⟩ (w_rentOf l dg ck ka ad ra S X Q P z b98 v11 _ hκ hR  (by omega) hst) (vx_cwSW 2 htg (gwSW wq_338 wq_339 wq_0 wqL_rentOf) rfl rfl rfl (by decide +kernel) ⟨Nat.le_of_ble_eq_true rfl, Nat.le_of_ble_eq_true rfl⟩) (wrK_preS hK hP hD hC hS hA) rfl rfl hl.1 rfl (lv_room (Nat.le_of_ble_eq_true rfl)) dL_isTenant_106 ⟨by show _ ≤ 112; omega, by show _ ≤ 672; omega⟩) (fun r106 b106 H locs hw106 hP hD hS => ?_)
        have hP : va_P dg vwCl (brkU ck ka ad ra b106) H := hP
        have hD : va_D A (brkU ck ka ad ra b106) := hD
        obtain ⟨rfl, hR⟩ := hw106
        refine x_is (show (vRent S v11) = (rent S (chB S x (S 0 0).toNat)) from (congrArg (vRent S) (show v11 = chB S x (S 0 0).toNat by omega)).trans (if_pos ⟨by omega, by omega⟩)) ?_
        refine lv_aload_n hx hb dL_isTenant_109 rfl (lv_at hl 1 rfl) ?_
        refine lv_iload hx hb dL_isTenant_110 (lv_at hl 5 rfl) ?_
        refine x_calliU hP hD hS hA (vx_runSW (As := [.ref ((ad 7) 0), .int (zI i)]) (rest := [.int (zI (rent S (chB S x (S 0 0).toNat)))]) ⟨hx, hb, hml, hown, htg⟩ (w_rentOf l dg ck ka ad ra S X Q P z b106 i _ hκ hR  (by omega) hst) (vx_cwSW 2 htg (gwSW wq_338 wq_339 wq_0 wqL_rentOf) rfl rfl rfl (by decide +kernel) ⟨Nat.le_of_ble_eq_true rfl, Nat.le_of_ble_eq_true rfl⟩) (wrK_preS hK hP hD hC hS hA) rfl rfl hl.1 rfl (lv_room (Nat.le_of_ble_eq_true rfl)) dL_isTenant_112 ⟨by show _ ≤ 112; omega, by show _ ≤ 672; omega⟩) (fun r112 b112 H locs hw112 hP hD hS => ?_)
        have hP : va_P dg vwCl (brkU ck ka ad ra b112) H := hP
        have hD : va_D A (brkU ck ka ad ra b112) := hD
        obtain ⟨rfl, hR⟩ := hw112
        refine x_is (show (vRent S i) = (rent S i) from if_pos hbi) ?_
        refine x_icmp_ne (tgt := 128) hx hb dL_isTenant_115 (by decide) (by omega) (by omega) (fun c115 => False.elim (by omega)) (fun c115 => ?_)
        refine lv_iload_n hx hb dL_isTenant_118 rfl (lv_at hl 4 rfl) ?_
        refine lv_iload hx hb dL_isTenant_119 (lv_at hl 5 rfl) ?_
        refine x_icmp_gt (tgt := 128) hx hb dL_isTenant_121 (by decide) (by omega) (by omega) (fun c121 => False.elim (by omega)) (fun c121 => ?_)
        refine x_iconst hx hb dL_isTenant_124 ?_
        refine lv_goto (tgt := 129) hx hb dL_isTenant_125 (by decide) ?_
        refine lv_istore (lv' := [(6, .int (zI 1)), (5, .int (zI 1)), (0, .ref ((ad 7) 0)), (1, .int (zI x)), (2, .int (zI v5)), (3, .int (zI v11)), (4, .int (zI i))]) hx hb dL_isTenant_129 hl (by decide) rfl (fun ls hl => ?_)
        refine lv_iload hx hb dL_isTenant_131 (lv_at hl 0 rfl) ?_
        refine x_if_eq (tgt := 147) hx hb dL_isTenant_133 (by decide) (by omega) (fun c133 => absurd c133 (by decide)) (fun c133 => ?_)
        refine lv_iload_n hx hb dL_isTenant_136 rfl (lv_at hl 5 rfl) ?_
        refine lv_iload hx hb dL_isTenant_137 (lv_at hl 6 rfl) ?_
        refine x_icmp_ne (tgt := 149) hx hb dL_isTenant_139 (by decide) (by omega) (by omega) (fun c139 => ?_) (fun c139 => ?_)
        · obtain ⟨v149, e_v149⟩ : ∃ y9 : Int, y9 = i + 1 := ⟨_, rfl⟩
          refine lv_iinc (v := zI v149) (lv' := [(4, .int (zI v149)), (6, .int (zI 1)), (5, .int (zI 1)), (0, .ref ((ad 7) 0)), (1, .int (zI x)), (2, .int (zI v5)), (3, .int (zI v11))]) hx hb dL_isTenant_149 hl (k := 6) rfl (by rw [e_v149]; exact zI_add _ _) (by decide) rfl (fun ls hl => ?_)
          refine lv_goto (tgt := 15) hx hb dL_isTenant_152 (by decide) ?_
          exact W.widen (k := 4 + 10 * (v149).toNat) (n := 24 + 60 * (v149).toNat) (by omega) (by omega) (ih_15 (b112, v149) (show (0 ≤ v149 ∧ v149 ≤ S 0 0) ∧ RO S X Q P z b112 from ⟨by omega, hR⟩) (show (S 0 0 - v149).toNat < (S 0 0 - i).toNat from by omega) ls H locs (lv_sub hl [3, 4, 5, 6, 0] rfl) hP hD hS)
        · refine lv_iload hx hb dL_isTenant_142 (lv_at hl 1 rfl) ?_
          refine x_if_ne (tgt := 149) hx hb dL_isTenant_144 (by decide) (by omega) (fun c144 => ?_) (fun c144 => absurd c144 (by decide))
          obtain ⟨v149, e_v149⟩ : ∃ y9 : Int, y9 = i + 1 := ⟨_, rfl⟩
          refine lv_iinc (v := zI v149) (lv' := [(4, .int (zI v149)), (6, .int (zI 1)), (5, .int (zI 1)), (0, .ref ((ad 7) 0)), (1, .int (zI x)), (2, .int (zI v5)), (3, .int (zI v11))]) hx hb dL_isTenant_149 hl (k := 6) rfl (by rw [e_v149]; exact zI_add _ _) (by decide) rfl (fun ls hl => ?_)
          refine lv_goto (tgt := 15) hx hb dL_isTenant_152 (by decide) ?_
          exact W.widen (k := 4 + 10 * (v149).toNat) (n := 24 + 60 * (v149).toNat) (by omega) (by omega) (ih_15 (b112, v149) (show (0 ≤ v149 ∧ v149 ≤ S 0 0) ∧ RO S X Q P z b112 from ⟨by omega, hR⟩) (show (S 0 0 - v149).toNat < (S 0 0 - i).toNat from by omega) ls H locs (lv_sub hl [3, 4, 5, 6, 0] rfl) hP hD hS)
    · have hbi : isBench S i := ⟨by omega, by omega⟩
      have hno9 : v11 ≠ i := fun q9 => co (by have h8 := hcp.1 (by omega); rw [show chB S x (S 0 0).toNat = i by omega] at h8; exact h8)
      refine lv_aload_n hx hb dL_isTenant_24 rfl (lv_at hl 0 rfl) ?_
      refine lv_iload_n hx hb dL_isTenant_25 rfl (lv_at hl 1 rfl) ?_
      refine lv_iload hx hb dL_isTenant_26 (lv_at hl 4 rfl) ?_
      refine x_calliU hP hD hS hA (vx_runSW (As := [.ref ((ad 7) 0), .int (zI x), .int (zI i)]) (rest := []) ⟨hx, hb, hml, hown, htg⟩ (w_canLease l dg ck ka ad ra S X Q P z b18 x i _ hκ hR  (by omega) (by omega) hst) (vx_cwSW 3 htg (gwSW wq_503 wq_504 wq_0 wqL_canLease) rfl rfl rfl (by decide +kernel) ⟨Nat.le_of_ble_eq_true rfl, Nat.le_of_ble_eq_true rfl⟩) (wrK_preS hK hP hD hC hS hA) rfl rfl hl.1 rfl (lv_room (Nat.le_of_ble_eq_true rfl)) dL_isTenant_28 ⟨by show _ ≤ 112; omega, by show _ ≤ 672; omega⟩) (fun r28 b28 H locs hw28 hP hD hS => ?_)
      have hP : va_P dg vwCl (brkU ck ka ad ra b28) H := hP
      have hD : va_D A (brkU ck ka ad ra b28) := hD
      obtain ⟨rfl, hR⟩ := hw28
      refine x_is (show (vCan S x i) = 0 from (if_pos ⟨htx9, hbi⟩).trans (bI_f co)) ?_
      refine x_iconst hx hb dL_isTenant_31 ?_
      refine x_icmp_ne (tgt := 39) hx hb dL_isTenant_32 (by decide) (by omega) (by omega) (fun c32 => ?_) (fun c32 => absurd c32 (by decide))
      refine x_iconst hx hb dL_isTenant_39 ?_
      refine lv_istore (lv' := [(5, .int (zI 0)), (0, .ref ((ad 7) 0)), (1, .int (zI x)), (2, .int (zI v5)), (3, .int (zI v11)), (4, .int (zI i))]) hx hb dL_isTenant_40 hl (by decide) rfl (fun ls hl => ?_)
      refine lv_iload hx hb dL_isTenant_42 (lv_at hl 0 rfl) ?_
      refine x_if_eq (tgt := 124) hx hb dL_isTenant_44 (by decide) (by omega) (fun c44 => ?_) (fun c44 => absurd c44 (by decide))
      refine x_iconst hx hb dL_isTenant_124 ?_
      refine lv_goto (tgt := 129) hx hb dL_isTenant_125 (by decide) ?_
      refine lv_istore (lv' := [(6, .int (zI 1)), (5, .int (zI 0)), (0, .ref ((ad 7) 0)), (1, .int (zI x)), (2, .int (zI v5)), (3, .int (zI v11)), (4, .int (zI i))]) hx hb dL_isTenant_129 hl (by decide) rfl (fun ls hl => ?_)
      refine lv_iload hx hb dL_isTenant_131 (lv_at hl 0 rfl) ?_
      refine x_if_eq (tgt := 147) hx hb dL_isTenant_133 (by decide) (by omega) (fun c133 => absurd c133 (by decide)) (fun c133 => ?_)
      refine lv_iload_n hx hb dL_isTenant_136 rfl (lv_at hl 5 rfl) ?_
      refine lv_iload hx hb dL_isTenant_137 (lv_at hl 6 rfl) ?_
      refine x_icmp_ne (tgt := 149) hx hb dL_isTenant_139 (by decide) (by omega) (by omega) (fun c139 => ?_) (fun c139 => False.elim (by omega))
      obtain ⟨v149, e_v149⟩ : ∃ y9 : Int, y9 = i + 1 := ⟨_, rfl⟩
      refine lv_iinc (v := zI v149) (lv' := [(4, .int (zI v149)), (6, .int (zI 1)), (5, .int (zI 0)), (0, .ref ((ad 7) 0)), (1, .int (zI x)), (2, .int (zI v5)), (3, .int (zI v11))]) hx hb dL_isTenant_149 hl (k := 6) rfl (by rw [e_v149]; exact zI_add _ _) (by decide) rfl (fun ls hl => ?_)
      refine lv_goto (tgt := 15) hx hb dL_isTenant_152 (by decide) ?_
      exact W.widen (k := 4 + 10 * (v149).toNat) (n := 24 + 60 * (v149).toNat) (by omega) (by omega) (ih_15 (b28, v149) (show (0 ≤ v149 ∧ v149 ≤ S 0 0) ∧ RO S X Q P z b28 from ⟨by omega, hR⟩) (show (S 0 0 - v149).toNat < (S 0 0 - i).toNat from by omega) ls H locs (lv_sub hl [3, 4, 5, 6, 0] rfl) hP hD hS)
