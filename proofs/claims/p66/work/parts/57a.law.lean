/-! the law's own methods: a number of the script, endings, sums -/
set_option maxHeartbeats 4000000 in
set_option maxRecDepth 100000 in
/-- the law: cell -/
theorem lf_cell (l : Launch) (dg : va_G) (ck : Nat → ClassId) (ka : Nat → Nat) (k : Int) (hk : 0 ≤ k ∧ k < 1000) : Met l yL_cell (.code yL_cell cL_cell 2 (some .int) :: GW) ({ frames := 0, cells := 0, slots := 0, locals := 0 }) (va_Pc [.ref (ka 4), .int (zI k)] (rdK dg ck ka ([]))) (vp_Si (fun r => ∃ v : Int, r = zI v ∧ -2147483648 ≤ v)) 0 0 (fun _ => False) := by
  refine Met.ofW (cc := cL_cell) (maxL := 2) (ret := (some .int)) (by decide) rfl ?_
  intro p e s m args below meth c s₁ B hml hv
  obtain ⟨rfl, ⟨hP, hK⟩, hC⟩ := hv
  have hx := B.exec
  have hb := B.bytes
  have hr := B.returns
  have hts := atoms_spec (ws := .code yL_cell cL_cell 2 (some .int) :: GW) B.pre
  have htg : ∀ w ∈ GW, w.before _ s = true := fun w h => hts w (List.mem_cons_of_mem _ h)
  have hown : s.vm.findClass RL = some m.cls := findClass_of_methodNamed B.named
  have hlocks := B.notSynchronized
  have hS : va_S (fun _ => False) s.heap s.heap [] := va_S.rf
  have hl := lv_entry ([.ref (ka 4), .int (zI k)]) (n := 2) (Nat.le_of_ble_eq_true rfl)
  rw [lg_entry_eq]
  generalize (lg_sl ([.ref (ka 4), .int (zI k)]) ++ List.replicate (2 - (lg_sl ([.ref (ka 4), .int (zI k)])).length) Slot.unset).toArray = ls at hl ⊢
  have hl : lv_has ls 2 [(0, .ref (ka 4)), (1, .int (zI k))] := hl
  obtain ⟨L, xs, hL, hT⟩ := hC.scr
  refine lv_iload_n hx hb dL_cell_0 rfl (lv_at hl 1 rfl) ?_
  refine lv_aload_n hx hb dL_cell_1 rfl (lv_at hl 0 rfl) ?_
  refine x_tlen hx hb hT hS dL_cell_2 ?_
  refine x_icmp_ge (tgt := 12) hx hb dL_cell_3 (by decide) (by omega) (by omega) (fun c3 => ?_) (fun c3 => ?_)
  · refine lv_ldc hx hb hown (htg _ wq_337) dL_cell_12 ?_
    refine W.eq (g2 := F0 m 14 ls [.int (zI 40503)]) rfl ?_
    refine lv_iload_n hx hb dL_cell_14 rfl (lv_at hl 1 rfl) ?_
    refine x_imul hx hb dL_cell_15 ?_
    exact W.iret (v := _) hx hb hr (fun t9 ht9 hW9 => ⟨_, rfl, ⟨_, rfl, by omega⟩, ht9⟩) (fun _ h => by cases h) dL_cell_16
  · refine lv_aload_n hx hb dL_cell_6 rfl (lv_at hl 0 rfl) ?_
    refine lv_iload_n hx hb dL_cell_7 rfl (lv_at hl 1 rfl) ?_
    refine x_tx hx hb hT hS (by omega) (by omega) dL_cell_8 ?_
    refine lv_goto (tgt := 16) hx hb dL_cell_9 (by decide) ?_
    exact W.iret (v := _) hx hb hr (fun t9 ht9 hW9 => ⟨_, rfl, ⟨_, rfl, (xi_r _).1⟩, ht9⟩) (fun _ h => by cases h) dL_cell_16

set_option maxHeartbeats 4000000 in
set_option maxRecDepth 100000 in
/-- the law: pick -/
theorem lf_pick (l : Launch) (dg : va_G) (ck : Nat → ClassId) (ka : Nat → Nat) (k y : Int) (hk : 0 ≤ k ∧ k < 1000) (hy : 0 < y ∧ y < 100000) : Met l yL_pick (.code yL_pick cL_pick 3 (some .int) :: GW) ({ frames := 1, cells := 0, slots := 0, locals := 21 }) (va_Pc [.ref (ka 4), .int (zI k), .int (zI y)] (rdK dg ck ka ([]))) (vp_Si (fun r => ∃ v : Int, r = zI v ∧ 0 ≤ v ∧ v < y)) 0 0 (fun _ => False) := by
  refine Met.ofW (cc := cL_pick) (maxL := 3) (ret := (some .int)) (by decide) rfl ?_
  intro p e s m args below meth c s₁ B hml hv
  obtain ⟨rfl, ⟨hP, hK⟩, hC⟩ := hv
  have hx := B.exec
  have hb := B.bytes
  have hr := B.returns
  have hts := atoms_spec (ws := .code yL_pick cL_pick 3 (some .int) :: GW) B.pre
  have htg : ∀ w ∈ GW, w.before _ s = true := fun w h => hts w (List.mem_cons_of_mem _ h)
  have hown : s.vm.findClass RL = some m.cls := findClass_of_methodNamed B.named
  have hlocks := B.notSynchronized
  have hS : va_S (fun _ => False) s.heap s.heap [] := va_S.rf
  have hl := lv_entry ([.ref (ka 4), .int (zI k), .int (zI y)]) (n := 3) (Nat.le_of_ble_eq_true rfl)
  rw [lg_entry_eq]
  generalize (lg_sl ([.ref (ka 4), .int (zI k), .int (zI y)]) ++ List.replicate (3 - (lg_sl ([.ref (ka 4), .int (zI k), .int (zI y)])).length) Slot.unset).toArray = ls at hl ⊢
  have hl : lv_has ls 3 [(0, .ref (ka 4)), (1, .int (zI k)), (2, .int (zI y))] := hl
  refine lv_aload_n hx hb dL_pick_0 rfl (lv_at hl 0 rfl) ?_
  refine lv_iload_n hx hb dL_pick_1 rfl (lv_at hl 1 rfl) ?_
  refine vp_callSi (W.runS (As := [.ref (ka 4), .int (zI k)]) (rest := []) ⟨hx, hb, hml, hown, htg⟩ (lf_cell l dg ck ka k hk) (cwS 2 htg (gwS wq_334 wq_335 wq_0 wq_336) rfl rfl rfl (by decide +kernel) ⟨Nat.le_of_ble_eq_true rfl, Nat.le_of_ble_eq_true rfl⟩) (rdK_preS hK va_P_nil hC hS) rfl rfl hl.1 rfl (lv_room (Nat.le_of_ble_eq_true rfl)) dL_pick_2 ⟨Nat.zero_le _, Nat.zero_le _⟩) (fun r2 hr2 => ?_)
  obtain ⟨k2, rfl, -⟩ := hr2
  refine x_iconst hx hb dL_pick_5 ?_
  refine x_iushr1 hx hb dL_pick_6 (fun v6 g6 h6 => ?_)
  refine lv_iload_n hx hb dL_pick_7 rfl (lv_at hl 2 rfl) ?_
  refine x_irem hx hb dL_pick_8 (by omega) (by omega) ?_
  exact W.iret (v := _) hx hb hr (fun t9 ht9 hW9 => ⟨_, rfl, ⟨_, rfl, Int.emod_nonneg _ (by omega), Int.emod_lt_of_pos _ hy.1⟩, ht9⟩) (fun _ h => by cases h) dL_pick_9

set_option maxHeartbeats 4000000 in
set_option maxRecDepth 100000 in
/-- the law: endings -/
theorem lf_endings (l : Launch) (dg : va_G) (ck : Nat → ClassId) (ka : Nat → Nat) (ad ra : Nat → Nat → Nat) (S : St) (X : Nat → Int) (Q : Nat → St) (P : St) (z : Int) (b : BU)  (sz : Nat) {n : Int} (hκ : KI n S X Q P z) (hR : RO S X Q P z b)  (hst : l.stackTraces = false) : Met l yL_endings (.code yL_endings cL_endings 1 (some .int) :: GW) ({ frames := 1, cells := 0, slots := 0, locals := 20 }) (va_Pc [.ref ((ad 7) 0)] (wrK dg ck ka sz (brkU ck ka ad ra b))) (va_Qi (fun r (u : BU) => r = zI (endZ S) ∧ RO S X Q P z u) (fun u t9 => wrQ dg sz (brkU ck ka ad ra b) (brkU ck ka ad ra u) t9) (va_A (brkU ck ka ad ra b) sz)) 0 0 (va_A (brkU ck ka ad ra b) sz) := by
  obtain ⟨⟨hV, hV2⟩, ⟨hn, hz⟩, hq10, hhist, hz0, hp10, hsn⟩ := id hκ
  have hI := hV.bd
  refine Met.ofW (cc := cL_endings) (maxL := 1) (ret := (some .int)) (by decide) rfl ?_
  intro p e s m args below meth c s₁ B hml hv
  obtain ⟨rfl, ⟨hsz, hP, hK, hD0⟩, hC⟩ := hv
  have hx := B.exec
  have hb := B.bytes
  have hr := B.returns
  have hts := atoms_spec (ws := .code yL_endings cL_endings 1 (some .int) :: GW) B.pre
  have htg : ∀ w ∈ GW, w.before _ s = true := fun w h => hts w (List.mem_cons_of_mem _ h)
  have hown : s.vm.findClass RL = some m.cls := findClass_of_methodNamed B.named
  have hlocks := B.notSynchronized
  subst hsz
  have hD := hD0.self (sz := s.heap.size)
  generalize hAe : va_A (brkU ck ka ad ra b) s.heap.size = A at hD hC ⊢
  have hA : ∀ q : Nat, s.heap.size ≤ q → A q := fun q h => by rw [← hAe]; exact Or.inr h
  have hS : va_S A s.heap s.heap [] := va_S.rf
  have hP : va_P dg vwCl (brkU ck ka ad ra b) s.heap := hP
  have hl := lv_entry ([.ref ((ad 7) 0)]) (n := 1) (Nat.le_of_ble_eq_true rfl)
  rw [lg_entry_eq]
  generalize (lg_sl ([.ref ((ad 7) 0)]) ++ List.replicate (1 - (lg_sl ([.ref ((ad 7) 0)])).length) Slot.unset).toArray = ls at hl ⊢
  have hl : lv_has ls 1 [(0, .ref ((ad 7) 0))] := hl
  refine lv_aload_n hx hb dL_endings_0 rfl (lv_at hl 0 rfl) ?_
  refine x_calliU hP hD hS hA (va_runV (As := []) (rest := []) ⟨hx, hb, hml, hown, htg⟩ (g_defaultedLeases l dg ck ka ad ra S X Q P z b _ hκ hR) (cwV 0 htg (gwV wq_633 wq_634 wq_635 wq_1 wq_636) rfl rfl rfl (by decide +kernel) ⟨Nat.le_of_ble_eq_true rfl, Nat.le_of_ble_eq_true rfl⟩) (wrK_preV hK hP hD hC hS hA 0 10 rfl rfl) rfl rfl hl.1 rfl (lv_room (Nat.le_of_ble_eq_true rfl)) dL_endings_1 ⟨by show _ ≤ 0; omega, by show _ ≤ 0; omega⟩) (fun r1 b1 H locs hw1 hP hD hS => ?_)
  have hP : va_P dg vwCl (brkU ck ka ad ra b1) H := hP
  have hD : va_D A (brkU ck ka ad ra b1) := hD
  obtain ⟨rfl, hR⟩ := hw1
  refine lv_aload_n hx hb dL_endings_4 rfl (lv_at hl 0 rfl) ?_
  refine x_calliU hP hD hS hA (va_runV (As := []) (rest := [.int (zI (S 0 7))]) ⟨hx, hb, hml, hown, htg⟩ (g_terminatedLeases l dg ck ka ad ra S X Q P z b1 _ hκ hR) (cwV 0 htg (gwV wq_637 wq_638 wq_639 wq_1 wq_640) rfl rfl rfl (by decide +kernel) ⟨Nat.le_of_ble_eq_true rfl, Nat.le_of_ble_eq_true rfl⟩) (wrK_preV hK hP hD hC hS hA 0 10 rfl rfl) rfl rfl hl.1 rfl (lv_room (Nat.le_of_ble_eq_true rfl)) dL_endings_5 ⟨by show _ ≤ 0; omega, by show _ ≤ 0; omega⟩) (fun r5 b5 H locs hw5 hP hD hS => ?_)
  have hP : va_P dg vwCl (brkU ck ka ad ra b5) H := hP
  have hD : va_D A (brkU ck ka ad ra b5) := hD
  obtain ⟨rfl, hR⟩ := hw5
  refine x_iadd hx hb dL_endings_8 ?_
  refine lv_aload_n hx hb dL_endings_9 rfl (lv_at hl 0 rfl) ?_
  refine x_calliU hP hD hS hA (va_runV (As := []) (rest := [.int (zI ((S 0 7) + (S 0 8)))]) ⟨hx, hb, hml, hown, htg⟩ (g_completedLeases l dg ck ka ad ra S X Q P z b5 _ hκ hR) (cwV 0 htg (gwV wq_641 wq_642 wq_643 wq_1 wq_644) rfl rfl rfl (by decide +kernel) ⟨Nat.le_of_ble_eq_true rfl, Nat.le_of_ble_eq_true rfl⟩) (wrK_preV hK hP hD hC hS hA 0 10 rfl rfl) rfl rfl hl.1 rfl (lv_room (Nat.le_of_ble_eq_true rfl)) dL_endings_10 ⟨by show _ ≤ 0; omega, by show _ ≤ 0; omega⟩) (fun r10 b10 H locs hw10 hP hD hS => ?_)
  have hP : va_P dg vwCl (brkU ck ka ad ra b10) H := hP
  have hD : va_D A (brkU ck ka ad ra b10) := hD
  obtain ⟨rfl, hR⟩ := hw10
  refine x_iadd hx hb dL_endings_13 ?_
  exact W.widen (k := 0) (n := 0) (by omega) (by omega) (W.iret (v := _) hx hb hr (fun t9 ht9 hW9 => ⟨⟨_, b10, rfl, ⟨rfl, hR⟩, by rw [ht9]; exact hP, by rw [hAe]; exact hD⟩, hS.F ht9⟩) hS.2.2 dL_endings_14)

abbrev jl (x : Int) : Int64 := (zI x).toInt64
def sm0 (S : St) : Int64 := ((31 * (31 * (31 * (31 * jl (S 0 3) + jl (S 0 4)) + jl (S 0 5)) + jl (S 0 6)) + 101 * jl (S 0 7)) + 11 * jl (S 0 8)) + jl (S 0 9)
def smB (S : St) (b : Int) (v : Int64) : Int64 := ((31 * (((31 * v + 1009 * jl (vBase S b)) + 31 * jl (vRow S b)) + jl (vCol S b)) + 1009 * jl (vTen S b)) + 31 * jl (vDep S b)) + jl (vLeft S b)
def smF (S : St) (f : Int) (v : Int64) : Int64 := (31 * v + 31 * jl (vLoud S f)) + jl (vRun S f)
def smT (S : St) (t : Int) (v : Int64) : Int64 := (31 * v + 31 * jl (vCoins S t)) + jl (vDefs S t)
def smC (S : St) (r c : Int) (v : Int64) : Int64 := 31 * v + jl (sgnZ S r c)
def fdZ (F : Int → Int64 → Int64) (v : Int64) : Nat → Int64
  | 0 => v
  | n + 1 => F n (fdZ F v n)
theorem fdZ_s {F : Int → Int64 → Int64} {v : Int64} {i : Int} (h : 0 ≤ i) : fdZ F v (i + 1).toNat = F i (fdZ F v i.toNat) := by
  rw [show (i + 1).toNat = i.toNat + 1 by omega]
  show F (i.toNat : Int) _ = _
  rw [Int.toNat_of_nonneg h]
def smR (S : St) (r : Int) (v : Int64) : Int64 := fdZ (smC S r) v 6
def sm1 (S : St) : Int64 := fdZ (smB S) (sm0 S) (S 0 0).toNat
def sm2 (S : St) : Int64 := fdZ (smF S) (sm1 S) (S 0 1).toNat
def sm3 (S : St) : Int64 := fdZ (smT S) (sm2 S) (S 0 2).toNat
def sumF (S : St) : Int64 := fdZ (smR S) (sm3 S) 6

set_option maxHeartbeats 4000000 in
set_option maxRecDepth 100000 in
/-- the law: sum -/
theorem lf_sum (l : Launch) (dg : va_G) (ck : Nat → ClassId) (ka : Nat → Nat) (ad ra : Nat → Nat → Nat) (S : St) (X : Nat → Int) (Q : Nat → St) (P : St) (z : Int) (b : BU)  (sz : Nat) {n : Int} (hκ : KI n S X Q P z) (hR : RO S X Q P z b)  (hst : l.stackTraces = false) : Met l yL_sum (.code yL_sum cL_sum 6 (some .long) :: GW) ({ frames := 10, cells := 156, slots := 936, locals := 180 }) (va_Pc [.ref ((ad 7) 0)] (wrK dg ck ka sz (brkU ck ka ad ra b))) (va_Ql (fun r (u : BU) => r = sumF S ∧ RO S X Q P z u) (fun u t9 => wrQ dg sz (brkU ck ka ad ra b) (brkU ck ka ad ra u) t9) (va_A (brkU ck ka ad ra b) sz)) 156 936 (va_A (brkU ck ka ad ra b) sz) := by
  obtain ⟨⟨hV, hV2⟩, ⟨hn, hz⟩, hq10, hhist, hz0, hp10, hsn⟩ := id hκ
  have hI := hV.bd
  refine Met.ofW (cc := cL_sum) (maxL := 6) (ret := (some .long)) (by decide) rfl ?_
  intro p e s m args below meth c s₁ B hml hv
  obtain ⟨rfl, ⟨hsz, hP, hK, hD0⟩, hC⟩ := hv
  have hx := B.exec
  have hb := B.bytes
  have hr := B.returns
  have hts := atoms_spec (ws := .code yL_sum cL_sum 6 (some .long) :: GW) B.pre
  have htg : ∀ w ∈ GW, w.before _ s = true := fun w h => hts w (List.mem_cons_of_mem _ h)
  have hown : s.vm.findClass RL = some m.cls := findClass_of_methodNamed B.named
  have hlocks := B.notSynchronized
  subst hsz
  have hD := hD0.self (sz := s.heap.size)
  generalize hAe : va_A (brkU ck ka ad ra b) s.heap.size = A at hD hC ⊢
  have hA : ∀ q : Nat, s.heap.size ≤ q → A q := fun q h => by rw [← hAe]; exact Or.inr h
  have hS : va_S A s.heap s.heap [] := va_S.rf
  have hP : va_P dg vwCl (brkU ck ka ad ra b) s.heap := hP
  have hl := lv_entry ([.ref ((ad 7) 0)]) (n := 6) (Nat.le_of_ble_eq_true rfl)
  rw [lg_entry_eq]
  generalize (lg_sl ([.ref ((ad 7) 0)]) ++ List.replicate (6 - (lg_sl ([.ref ((ad 7) 0)])).length) Slot.unset).toArray = ls at hl ⊢
  have hl : lv_has ls 6 [(0, .ref ((ad 7) 0))] := hl
  have hb0 := hI.1
  have hb1 := hI.2.1
  have hb2 := hI.2.2.1
  refine lv_ldc2 hx hb hown (htg _ wq_1181) dL_sum_0 ?_
  refine lv_aload_n hx hb dL_sum_3 rfl (lv_at hl 0 rfl) ?_
  refine x_calliU hP hD hS hA (va_runV (As := []) (rest := [.long (31 : Int64)]) ⟨hx, hb, hml, hown, htg⟩ (g_noiseLimit l dg ck ka ad ra S X Q P z b _ hκ hR) (cwV 0 htg (gwV wq_1182 wq_1183 wq_1184 wq_1 wq_1185) rfl rfl rfl (by decide +kernel) ⟨Nat.le_of_ble_eq_true rfl, Nat.le_of_ble_eq_true rfl⟩) (wrK_preV hK hP hD hC hS hA 0 10 rfl rfl) rfl rfl hl.1 rfl (lv_room (Nat.le_of_ble_eq_true rfl)) dL_sum_4 ⟨by show _ ≤ 156; omega, by show _ ≤ 936; omega⟩) (fun r4 b4 H locs hw4 hP hD hS => ?_)
  have hP : va_P dg vwCl (brkU ck ka ad ra b4) H := hP
  have hD : va_D A (brkU ck ka ad ra b4) := hD
  obtain ⟨rfl, hR⟩ := hw4
  refine lv_i2l hx hb dL_sum_7 rfl ?_
  refine lv_lmul hx hb dL_sum_8 ?_
  refine lv_aload_n hx hb dL_sum_9 rfl (lv_at hl 0 rfl) ?_
  refine x_calliU hP hD hS hA (va_runV (As := []) (rest := [.long ((31 : Int64) * (zI (S 0 3)).toInt64)]) ⟨hx, hb, hml, hown, htg⟩ (g_month l dg ck ka ad ra S X Q P z b4 _ hκ hR) (cwV 0 htg (gwV wq_1186 wq_1187 wq_1188 wq_1 wq_1189) rfl rfl rfl (by decide +kernel) ⟨Nat.le_of_ble_eq_true rfl, Nat.le_of_ble_eq_true rfl⟩) (wrK_preV hK hP hD hC hS hA 0 10 rfl rfl) rfl rfl hl.1 rfl (lv_room (Nat.le_of_ble_eq_true rfl)) dL_sum_10 ⟨by show _ ≤ 156; omega, by show _ ≤ 936; omega⟩) (fun r10 b10 H locs hw10 hP hD hS => ?_)
  have hP : va_P dg vwCl (brkU ck ka ad ra b10) H := hP
  have hD : va_D A (brkU ck ka ad ra b10) := hD
  obtain ⟨rfl, hR⟩ := hw10
  refine lv_i2l hx hb dL_sum_13 rfl ?_
  refine lv_ladd hx hb dL_sum_14 ?_
  refine lv_lstore_n (lv' := [(1, .long (((31 : Int64) * (zI (S 0 3)).toInt64) + (zI (S 0 4)).toInt64)), (0, .ref ((ad 7) 0))]) hx hb dL_sum_15 rfl hl (by decide) rfl (fun ls hl => ?_)
  refine lv_ldc2 hx hb hown (htg _ wq_1181) dL_sum_16 ?_
  refine lv_lload_n hx hb dL_sum_19 rfl (lv_at hl 0 rfl) ?_
  refine lv_lmul hx hb dL_sum_20 ?_
  refine lv_aload_n hx hb dL_sum_21 rfl (lv_at hl 1 rfl) ?_
  refine x_calliU hP hD hS hA (va_runV (As := []) (rest := [.long ((31 : Int64) * (((31 : Int64) * (zI (S 0 3)).toInt64) + (zI (S 0 4)).toInt64))]) ⟨hx, hb, hml, hown, htg⟩ (g_brokerCoins l dg ck ka ad ra S X Q P z b10 _ hκ hR) (cwV 0 htg (gwV wq_327 wq_328 wq_329 wq_1 wq_330) rfl rfl rfl (by decide +kernel) ⟨Nat.le_of_ble_eq_true rfl, Nat.le_of_ble_eq_true rfl⟩) (wrK_preV hK hP hD hC hS hA 0 10 rfl rfl) rfl rfl hl.1 rfl (lv_room (Nat.le_of_ble_eq_true rfl)) dL_sum_22 ⟨by show _ ≤ 156; omega, by show _ ≤ 936; omega⟩) (fun r22 b22 H locs hw22 hP hD hS => ?_)
  have hP : va_P dg vwCl (brkU ck ka ad ra b22) H := hP
  have hD : va_D A (brkU ck ka ad ra b22) := hD
  obtain ⟨rfl, hR⟩ := hw22
  refine lv_i2l hx hb dL_sum_25 rfl ?_
  refine lv_ladd hx hb dL_sum_26 ?_
  refine lv_lstore_n (lv' := [(1, .long (((31 : Int64) * (((31 : Int64) * (zI (S 0 3)).toInt64) + (zI (S 0 4)).toInt64)) + (zI (S 0 5)).toInt64)), (0, .ref ((ad 7) 0))]) hx hb dL_sum_27 rfl hl (by decide) rfl (fun ls hl => ?_)
  refine lv_ldc2 hx hb hown (htg _ wq_1181) dL_sum_28 ?_
  refine lv_lload_n hx hb dL_sum_31 rfl (lv_at hl 0 rfl) ?_
  refine lv_lmul hx hb dL_sum_32 ?_
  refine lv_aload_n hx hb dL_sum_33 rfl (lv_at hl 1 rfl) ?_
  refine x_calliU hP hD hS hA (va_runV (As := []) (rest := [.long ((31 : Int64) * (((31 : Int64) * (((31 : Int64) * (zI (S 0 3)).toInt64) + (zI (S 0 4)).toInt64)) + (zI (S 0 5)).toInt64))]) ⟨hx, hb, hml, hown, htg⟩ (g_allCoinsGiven l dg ck ka ad ra S X Q P z b22 _ hκ hR) (cwV 0 htg (gwV wq_1190 wq_1191 wq_1192 wq_1 wq_1193) rfl rfl rfl (by decide +kernel) ⟨Nat.le_of_ble_eq_true rfl, Nat.le_of_ble_eq_true rfl⟩) (wrK_preV hK hP hD hC hS hA 0 10 rfl rfl) rfl rfl hl.1 rfl (lv_room (Nat.le_of_ble_eq_true rfl)) dL_sum_34 ⟨by show _ ≤ 156; omega, by show _ ≤ 936; omega⟩) (fun r34 b34 H locs hw34 hP hD hS => ?_)
  have hP : va_P dg vwCl (brkU ck ka ad ra b34) H := hP
  have hD : va_D A (brkU ck ka ad ra b34) := hD
  obtain ⟨rfl, hR⟩ := hw34
  refine lv_i2l hx hb dL_sum_37 rfl ?_
  refine lv_ladd hx hb dL_sum_38 ?_
  refine lv_lstore_n (lv' := [(1, .long (((31 : Int64) * (((31 : Int64) * (((31 : Int64) * (zI (S 0 3)).toInt64) + (zI (S 0 4)).toInt64)) + (zI (S 0 5)).toInt64)) + (zI (S 0 6)).toInt64)), (0, .ref ((ad 7) 0))]) hx hb dL_sum_39 rfl hl (by decide) rfl (fun ls hl => ?_)
  refine lv_ldc2 hx hb hown (htg _ wq_1181) dL_sum_40 ?_
  refine lv_lload_n hx hb dL_sum_43 rfl (lv_at hl 0 rfl) ?_
  refine lv_lmul hx hb dL_sum_44 ?_
  refine lv_ldc2 hx hb hown (htg _ wq_1194) dL_sum_45 ?_
  refine lv_aload_n hx hb dL_sum_48 rfl (lv_at hl 1 rfl) ?_
  refine x_calliU hP hD hS hA (va_runV (As := []) (rest := [.long (101 : Int64), .long ((31 : Int64) * (((31 : Int64) * (((31 : Int64) * (((31 : Int64) * (zI (S 0 3)).toInt64) + (zI (S 0 4)).toInt64)) + (zI (S 0 5)).toInt64)) + (zI (S 0 6)).toInt64))]) ⟨hx, hb, hml, hown, htg⟩ (g_defaultedLeases l dg ck ka ad ra S X Q P z b34 _ hκ hR) (cwV 0 htg (gwV wq_633 wq_634 wq_635 wq_1 wq_636) rfl rfl rfl (by decide +kernel) ⟨Nat.le_of_ble_eq_true rfl, Nat.le_of_ble_eq_true rfl⟩) (wrK_preV hK hP hD hC hS hA 0 10 rfl rfl) rfl rfl hl.1 rfl (lv_room (Nat.le_of_ble_eq_true rfl)) dL_sum_49 ⟨by show _ ≤ 156; omega, by show _ ≤ 936; omega⟩) (fun r49 b49 H locs hw49 hP hD hS => ?_)
  have hP : va_P dg vwCl (brkU ck ka ad ra b49) H := hP
  have hD : va_D A (brkU ck ka ad ra b49) := hD
  obtain ⟨rfl, hR⟩ := hw49
  refine lv_i2l hx hb dL_sum_52 rfl ?_
  refine lv_lmul hx hb dL_sum_53 ?_
  refine lv_ladd hx hb dL_sum_54 ?_
  refine lv_ldc2 hx hb hown (htg _ wq_1195) dL_sum_55 ?_
  refine lv_aload_n hx hb dL_sum_58 rfl (lv_at hl 1 rfl) ?_
  refine x_calliU hP hD hS hA (va_runV (As := []) (rest := [.long (11 : Int64), .long (((31 : Int64) * (((31 : Int64) * (((31 : Int64) * (((31 : Int64) * (zI (S 0 3)).toInt64) + (zI (S 0 4)).toInt64)) + (zI (S 0 5)).toInt64)) + (zI (S 0 6)).toInt64)) + ((101 : Int64) * (zI (S 0 7)).toInt64))]) ⟨hx, hb, hml, hown, htg⟩ (g_terminatedLeases l dg ck ka ad ra S X Q P z b49 _ hκ hR) (cwV 0 htg (gwV wq_637 wq_638 wq_639 wq_1 wq_640) rfl rfl rfl (by decide +kernel) ⟨Nat.le_of_ble_eq_true rfl, Nat.le_of_ble_eq_true rfl⟩) (wrK_preV hK hP hD hC hS hA 0 10 rfl rfl) rfl rfl hl.1 rfl (lv_room (Nat.le_of_ble_eq_true rfl)) dL_sum_59 ⟨by show _ ≤ 156; omega, by show _ ≤ 936; omega⟩) (fun r59 b59 H locs hw59 hP hD hS => ?_)
  have hP : va_P dg vwCl (brkU ck ka ad ra b59) H := hP
  have hD : va_D A (brkU ck ka ad ra b59) := hD
  obtain ⟨rfl, hR⟩ := hw59
  refine lv_i2l hx hb dL_sum_62 rfl ?_
  refine lv_lmul hx hb dL_sum_63 ?_
  refine lv_ladd hx hb dL_sum_64 ?_
  refine lv_aload_n hx hb dL_sum_65 rfl (lv_at hl 1 rfl) ?_
  refine x_calliU hP hD hS hA (va_runV (As := []) (rest := [.long ((((31 : Int64) * (((31 : Int64) * (((31 : Int64) * (((31 : Int64) * (zI (S 0 3)).toInt64) + (zI (S 0 4)).toInt64)) + (zI (S 0 5)).toInt64)) + (zI (S 0 6)).toInt64)) + ((101 : Int64) * (zI (S 0 7)).toInt64)) + ((11 : Int64) * (zI (S 0 8)).toInt64))]) ⟨hx, hb, hml, hown, htg⟩ (g_completedLeases l dg ck ka ad ra S X Q P z b59 _ hκ hR) (cwV 0 htg (gwV wq_641 wq_642 wq_643 wq_1 wq_644) rfl rfl rfl (by decide +kernel) ⟨Nat.le_of_ble_eq_true rfl, Nat.le_of_ble_eq_true rfl⟩) (wrK_preV hK hP hD hC hS hA 0 10 rfl rfl) rfl rfl hl.1 rfl (lv_room (Nat.le_of_ble_eq_true rfl)) dL_sum_66 ⟨by show _ ≤ 156; omega, by show _ ≤ 936; omega⟩) (fun r66 b66 H locs hw66 hP hD hS => ?_)
  have hP : va_P dg vwCl (brkU ck ka ad ra b66) H := hP
  have hD : va_D A (brkU ck ka ad ra b66) := hD
  obtain ⟨rfl, hR⟩ := hw66
  refine lv_i2l hx hb dL_sum_69 rfl ?_
  refine lv_ladd hx hb dL_sum_70 ?_
  refine lv_lstore_n (lv' := [(1, .long (((((31 : Int64) * (((31 : Int64) * (((31 : Int64) * (((31 : Int64) * (zI (S 0 3)).toInt64) + (zI (S 0 4)).toInt64)) + (zI (S 0 5)).toInt64)) + (zI (S 0 6)).toInt64)) + ((101 : Int64) * (zI (S 0 7)).toInt64)) + ((11 : Int64) * (zI (S 0 8)).toInt64)) + (zI (S 0 9)).toInt64)), (0, .ref ((ad 7) 0))]) hx hb dL_sum_71 rfl hl (by decide) rfl (fun ls hl => ?_)
  refine x_iconst hx hb dL_sum_72 ?_
  refine lv_istore_n (lv' := [(3, .int (zI 0)), (1, .long (((((31 : Int64) * (((31 : Int64) * (((31 : Int64) * (((31 : Int64) * (zI (S 0 3)).toInt64) + (zI (S 0 4)).toInt64)) + (zI (S 0 5)).toInt64)) + (zI (S 0 6)).toInt64)) + ((101 : Int64) * (zI (S 0 7)).toInt64)) + ((11 : Int64) * (zI (S 0 8)).toInt64)) + (zI (S 0 9)).toInt64)), (0, .ref ((ad 7) 0))]) hx hb dL_sum_73 rfl hl (by decide) rfl (fun ls hl => ?_)
  refine x_loopN (ι := BU × Int64 × Int) (fun v => (0 ≤ v.2.2 ∧ v.2.2 ≤ S 0 0) ∧ v.2.1 = fdZ (smB S) (sm0 S) v.2.2.toNat ∧ RO S X Q P z v.1) (fun v => (S 0 0 - v.2.2).toNat) (fun v => [(0, .ref ((ad 7) 0)), (1, .long v.2.1), (3, .int (zI v.2.2))]) (fun v => brkU ck ka ad ra v.1) (fun v => 0 + 9 * (v.2.2).toNat) (fun v => 0 + 54 * (v.2.2).toNat) (b66, (((((31 : Int64) * (((31 : Int64) * (((31 : Int64) * (((31 : Int64) * (zI (S 0 3)).toInt64) + (zI (S 0 4)).toInt64)) + (zI (S 0 5)).toInt64)) + (zI (S 0 6)).toInt64)) + ((101 : Int64) * (zI (S 0 7)).toInt64)) + ((11 : Int64) * (zI (S 0 8)).toInt64)) + (zI (S 0 9)).toInt64), 0) (show (0 ≤ (0 : Int) ∧ (0 : Int) ≤ S 0 0) ∧ (((((31 : Int64) * (((31 : Int64) * (((31 : Int64) * (((31 : Int64) * (zI (S 0 3)).toInt64) + (zI (S 0 4)).toInt64)) + (zI (S 0 5)).toInt64)) + (zI (S 0 6)).toInt64)) + ((101 : Int64) * (zI (S 0 7)).toInt64)) + ((11 : Int64) * (zI (S 0 8)).toInt64)) + (zI (S 0 9)).toInt64) = fdZ (smB S) (sm0 S) (0 : Int).toNat ∧ RO S X Q P z b66 from ⟨by omega, rfl, hR⟩) (lv_sub hl [2, 1, 0] rfl) hP hD hS (by show _ ≤ 0 + 9 * ((0 : Int)).toNat; omega) (by show _ ≤ 0 + 54 * ((0 : Int)).toNat; omega) ?_
  intro v hv ih_74 ls H locs hl hP hD hS
  obtain ⟨b, sv, i⟩ := v
  have hl : lv_has ls 6 [(0, .ref ((ad 7) 0)), (1, .long sv), (3, .int (zI i))] := hl
  have hv : (0 ≤ i ∧ i ≤ S 0 0) ∧ sv = fdZ (smB S) (sm0 S) i.toNat ∧ RO S X Q P z b := hv
  have hP : va_P dg vwCl (brkU ck ka ad ra b) H := hP
  have hD : va_D A (brkU ck ka ad ra b) := hD
  obtain ⟨hi, hv1, hR⟩ := hv
  refine W.as (k' := 0 + 9 * (i).toNat) (n' := 0 + 54 * (i).toNat) rfl rfl ?_
  refine lv_iload_n hx hb dL_sum_74 rfl (lv_at hl 2 rfl) ?_
  refine lv_aload_n hx hb dL_sum_75 rfl (lv_at hl 0 rfl) ?_
  refine x_calliU hP hD hS hA (va_runV (As := []) (rest := [.int (zI i)]) ⟨hx, hb, hml, hown, htg⟩ (g_benchCount l dg ck ka ad ra S X Q P z b _ hκ hR) (cwV 0 htg (gwV wq_319 wq_320 wq_321 wq_1 wq_322) rfl rfl rfl (by decide +kernel) ⟨Nat.le_of_ble_eq_true rfl, Nat.le_of_ble_eq_true rfl⟩) (wrK_preV hK hP hD hC hS hA 0 10 rfl rfl) rfl rfl hl.1 rfl (lv_room (Nat.le_of_ble_eq_true rfl)) dL_sum_76 ⟨by show _ ≤ 156; omega, by show _ ≤ 936; omega⟩) (fun r76 b76 H locs hw76 hP hD hS => ?_)
  have hP : va_P dg vwCl (brkU ck ka ad ra b76) H := hP
  have hD : va_D A (brkU ck ka ad ra b76) := hD
  obtain ⟨rfl, hR⟩ := hw76
  refine x_icmp_ge (tgt := 158) hx hb dL_sum_79 (by decide) (by omega) (by omega) (fun c79 => ?_) (fun c79 => ?_)
  · refine x_iconst hx hb dL_sum_158 ?_
    refine lv_istore_n (lv' := [(3, .int (zI 0)), (0, .ref ((ad 7) 0)), (1, .long sv)]) hx hb dL_sum_159 rfl hl (by decide) rfl (fun ls hl => ?_)
    refine x_loopN (ι := BU × Int64 × Int) (fun v => (0 ≤ v.2.2 ∧ v.2.2 ≤ S 0 1) ∧ v.2.1 = fdZ (smF S) (sm1 S) v.2.2.toNat ∧ RO S X Q P z v.1) (fun v => (S 0 1 - v.2.2).toNat) (fun v => [(0, .ref ((ad 7) 0)), (1, .long v.2.1), (3, .int (zI v.2.2))]) (fun v => brkU ck ka ad ra v.1) (fun v => 90 + 2 * (v.2.2).toNat) (fun v => 540 + 12 * (v.2.2).toNat) (b76, sv, 0) (show (0 ≤ (0 : Int) ∧ (0 : Int) ≤ S 0 1) ∧ sv = fdZ (smF S) (sm1 S) (0 : Int).toNat ∧ RO S X Q P z b76 from ⟨by omega, by rw [hv1, show i = S 0 0 by omega]; rfl, hR⟩) (lv_sub hl [1, 2, 0] rfl) hP hD hS (by show _ ≤ 90 + 2 * ((0 : Int)).toNat; omega) (by show _ ≤ 540 + 12 * ((0 : Int)).toNat; omega) ?_
    intro v hv ih_160 ls H locs hl hP hD hS
    obtain ⟨b, sv, i⟩ := v
    have hl : lv_has ls 6 [(0, .ref ((ad 7) 0)), (1, .long sv), (3, .int (zI i))] := hl
    have hv : (0 ≤ i ∧ i ≤ S 0 1) ∧ sv = fdZ (smF S) (sm1 S) i.toNat ∧ RO S X Q P z b := hv
    have hP : va_P dg vwCl (brkU ck ka ad ra b) H := hP
    have hD : va_D A (brkU ck ka ad ra b) := hD
    obtain ⟨hi, hv1, hR⟩ := hv
    refine W.as (k' := 90 + 2 * (i).toNat) (n' := 540 + 12 * (i).toNat) rfl rfl ?_
    refine lv_iload_n hx hb dL_sum_160 rfl (lv_at hl 2 rfl) ?_
    refine lv_aload_n hx hb dL_sum_161 rfl (lv_at hl 0 rfl) ?_
    refine x_calliU hP hD hS hA (va_runV (As := []) (rest := [.int (zI i)]) ⟨hx, hb, hml, hown, htg⟩ (g_fountainCount l dg ck ka ad ra S X Q P z b _ hκ hR) (cwV 0 htg (gwV wq_648 wq_649 wq_650 wq_1 wq_651) rfl rfl rfl (by decide +kernel) ⟨Nat.le_of_ble_eq_true rfl, Nat.le_of_ble_eq_true rfl⟩) (wrK_preV hK hP hD hC hS hA 0 10 rfl rfl) rfl rfl hl.1 rfl (lv_room (Nat.le_of_ble_eq_true rfl)) dL_sum_162 ⟨by show _ ≤ 156; omega, by show _ ≤ 936; omega⟩) (fun r162 b162 H locs hw162 hP hD hS => ?_)
    have hP : va_P dg vwCl (brkU ck ka ad ra b162) H := hP
    have hD : va_D A (brkU ck ka ad ra b162) := hD
    obtain ⟨rfl, hR⟩ := hw162
    refine x_icmp_ge (tgt := 198) hx hb dL_sum_165 (by decide) (by omega) (by omega) (fun c165 => ?_) (fun c165 => ?_)
    · refine x_iconst hx hb dL_sum_198 ?_
      refine lv_istore_n (lv' := [(3, .int (zI 0)), (0, .ref ((ad 7) 0)), (1, .long sv)]) hx hb dL_sum_199 rfl hl (by decide) rfl (fun ls hl => ?_)
      refine x_loopN (ι := BU × Int64 × Int) (fun v => (0 ≤ v.2.2 ∧ v.2.2 ≤ S 0 2) ∧ v.2.1 = fdZ (smT S) (sm2 S) v.2.2.toNat ∧ RO S X Q P z v.1) (fun v => (S 0 2 - v.2.2).toNat) (fun v => [(0, .ref ((ad 7) 0)), (1, .long v.2.1), (3, .int (zI v.2.2))]) (fun v => brkU ck ka ad ra v.1) (fun v => 98 + 2 * (v.2.2).toNat) (fun v => 588 + 12 * (v.2.2).toNat) (b162, sv, 0) (show (0 ≤ (0 : Int) ∧ (0 : Int) ≤ S 0 2) ∧ sv = fdZ (smT S) (sm2 S) (0 : Int).toNat ∧ RO S X Q P z b162 from ⟨by omega, by rw [hv1, show i = S 0 1 by omega]; rfl, hR⟩) (lv_sub hl [1, 2, 0] rfl) hP hD hS (by show _ ≤ 98 + 2 * ((0 : Int)).toNat; omega) (by show _ ≤ 588 + 12 * ((0 : Int)).toNat; omega) ?_
      intro v hv ih_200 ls H locs hl hP hD hS
      obtain ⟨b, sv, i⟩ := v
      have hl : lv_has ls 6 [(0, .ref ((ad 7) 0)), (1, .long sv), (3, .int (zI i))] := hl
      have hv : (0 ≤ i ∧ i ≤ S 0 2) ∧ sv = fdZ (smT S) (sm2 S) i.toNat ∧ RO S X Q P z b := hv
      have hP : va_P dg vwCl (brkU ck ka ad ra b) H := hP
      have hD : va_D A (brkU ck ka ad ra b) := hD
      obtain ⟨hi, hv1, hR⟩ := hv
      refine W.as (k' := 98 + 2 * (i).toNat) (n' := 588 + 12 * (i).toNat) rfl rfl ?_
      refine lv_iload_n hx hb dL_sum_200 rfl (lv_at hl 2 rfl) ?_
      refine lv_aload_n hx hb dL_sum_201 rfl (lv_at hl 0 rfl) ?_
      refine x_calliU hP hD hS hA (va_runV (As := []) (rest := [.int (zI i)]) ⟨hx, hb, hml, hown, htg⟩ (g_tenantCount l dg ck ka ad ra S X Q P z b _ hκ hR) (cwV 0 htg (gwV wq_323 wq_324 wq_325 wq_1 wq_326) rfl rfl rfl (by decide +kernel) ⟨Nat.le_of_ble_eq_true rfl, Nat.le_of_ble_eq_true rfl⟩) (wrK_preV hK hP hD hC hS hA 0 10 rfl rfl) rfl rfl hl.1 rfl (lv_room (Nat.le_of_ble_eq_true rfl)) dL_sum_202 ⟨by show _ ≤ 156; omega, by show _ ≤ 936; omega⟩) (fun r202 b202 H locs hw202 hP hD hS => ?_)
      have hP : va_P dg vwCl (brkU ck ka ad ra b202) H := hP
      have hD : va_D A (brkU ck ka ad ra b202) := hD
      obtain ⟨rfl, hR⟩ := hw202
      refine x_icmp_ge (tgt := 238) hx hb dL_sum_205 (by decide) (by omega) (by omega) (fun c205 => ?_) (fun c205 => ?_)
      · refine x_iconst hx hb dL_sum_238 ?_
        refine lv_istore_n (lv' := [(3, .int (zI 0)), (0, .ref ((ad 7) 0)), (1, .long sv)]) hx hb dL_sum_239 rfl hl (by decide) rfl (fun ls hl => ?_)
        refine x_loopN (ι := BU × Int64 × Int) (fun v => (0 ≤ v.2.2 ∧ v.2.2 ≤ 6) ∧ v.2.1 = fdZ (smR S) (sm3 S) v.2.2.toNat ∧ RO S X Q P z v.1) (fun v => (6 - v.2.2).toNat) (fun v => [(0, .ref ((ad 7) 0)), (1, .long v.2.1), (3, .int (zI v.2.2))]) (fun v => brkU ck ka ad ra v.1) (fun v => 114 + 7 * (v.2.2).toNat) (fun v => 684 + 42 * (v.2.2).toNat) (b202, sv, 0) (show (0 ≤ (0 : Int) ∧ (0 : Int) ≤ 6) ∧ sv = fdZ (smR S) (sm3 S) (0 : Int).toNat ∧ RO S X Q P z b202 from ⟨by omega, by rw [hv1, show i = S 0 2 by omega]; rfl, hR⟩) (lv_sub hl [1, 2, 0] rfl) hP hD hS (by show _ ≤ 114 + 7 * ((0 : Int)).toNat; omega) (by show _ ≤ 684 + 42 * ((0 : Int)).toNat; omega) ?_
        intro v hv ih_240 ls H locs hl hP hD hS
        obtain ⟨b, sv, i⟩ := v
        have hl : lv_has ls 6 [(0, .ref ((ad 7) 0)), (1, .long sv), (3, .int (zI i))] := hl
        have hv : (0 ≤ i ∧ i ≤ 6) ∧ sv = fdZ (smR S) (sm3 S) i.toNat ∧ RO S X Q P z b := hv
        have hP : va_P dg vwCl (brkU ck ka ad ra b) H := hP
        have hD : va_D A (brkU ck ka ad ra b) := hD
        obtain ⟨hi, hv1, hR⟩ := hv
        refine W.as (k' := 114 + 7 * (i).toNat) (n' := 684 + 42 * (i).toNat) rfl rfl ?_
        refine lv_iload_n hx hb dL_sum_240 rfl (lv_at hl 2 rfl) ?_
        refine x_bipush hx hb dL_sum_241 (by decide) ?_
        refine x_icmp_ge (tgt := 289) hx hb dL_sum_243 (by decide) (by omega) (by omega) (fun c243 => ?_) (fun c243 => ?_)
        · refine lv_lload_n hx hb dL_sum_289 rfl (lv_at hl 1 rfl) ?_
          exact W.widen (k := 156) (n := 936) (by omega) (by omega) (W.lret (v := _) hx hb hr (fun t9 ht9 hW9 => ⟨⟨_, b, rfl, ⟨by rw [hv1, show i = 6 by omega]; rfl, hR⟩, by rw [ht9]; exact hP, by rw [hAe]; exact hD⟩, hS.F ht9⟩) hS.2.2 dL_sum_290)
        · refine lv_aload_n hx hb dL_sum_246 rfl (lv_at hl 0 rfl) ?_
          refine lv_iload_n hx hb dL_sum_247 rfl (lv_at hl 2 rfl) ?_
          refine x_calliU hP hD hS hA (vx_runSW (As := [.ref ((ad 7) 0), .int (zI i)]) (rest := []) ⟨hx, hb, hml, hown, htg⟩ (w_writeRow l dg ck ka ad ra S X Q P z b i _ hκ hR  (by omega) hst) (vx_cwSW 2 htg (gwSW wq_1258 wq_1259 wq_0 wqL_writeRow) rfl rfl rfl (by decide +kernel) ⟨Nat.le_of_ble_eq_true rfl, Nat.le_of_ble_eq_true rfl⟩) (wrK_preS hK hP hD hC hS hA) rfl rfl hl.1 rfl (lv_room (Nat.le_of_ble_eq_true rfl)) dL_sum_248 ⟨by show _ ≤ 156; omega, by show _ ≤ 936; omega⟩) (fun r248 b248 H locs hw248 hP hD hS => ?_)
          have hP : va_P dg vwCl (brkU ck ka ad ra b248) H := hP
          have hD : va_D A (brkU ck ka ad ra b248) := hD
          obtain ⟨rfl, hR, hT⟩ := hw248
          have hT := hT (by unfold isCell; omega)
          refine x_is (show (if isCell i 0 then 6 else -77) = 6 from if_pos (by unfold isCell; omega)) ?_
          refine lv_istore (lv' := [(4, .int (zI 6)), (0, .ref ((ad 7) 0)), (1, .long sv), (3, .int (zI i))]) hx hb dL_sum_251 hl (by decide) rfl (fun ls hl => ?_)
          refine x_iconst hx hb dL_sum_253 ?_
          refine lv_istore (lv' := [(5, .int (zI 0)), (4, .int (zI 6)), (0, .ref ((ad 7) 0)), (1, .long sv), (3, .int (zI i))]) hx hb dL_sum_254 hl (by decide) rfl (fun ls hl => ?_)
          refine x_loopN (ι := BU × Int64 × Int) (fun v => (0 ≤ v.2.2 ∧ v.2.2 ≤ 6) ∧ v.2.1 = fdZ (smC S i) sv v.2.2.toNat ∧ RO S X Q P z v.1 ∧ OT 6 (sgnZ S i) v.1) (fun v => (6 - v.2.2).toNat) (fun v => [(0, .ref ((ad 7) 0)), (1, .long v.2.1), (3, .int (zI i)), (4, .int (zI 6)), (5, .int (zI v.2.2))]) (fun v => brkU ck ka ad ra v.1) (fun v => 115 + 7 * (i).toNat + 1 * (v.2.2).toNat) (fun v => 690 + 42 * (i).toNat + 6 * (v.2.2).toNat) (b248, sv, 0) (show (0 ≤ (0 : Int) ∧ (0 : Int) ≤ 6) ∧ sv = fdZ (smC S i) sv (0 : Int).toNat ∧ RO S X Q P z b248 ∧ OT 6 (sgnZ S i) b248 from ⟨by omega, rfl, hR, hT⟩) (lv_sub hl [2, 3, 4, 1, 0] rfl) hP hD hS (by show _ ≤ 115 + 7 * (i).toNat + 1 * ((0 : Int)).toNat; omega) (by show _ ≤ 690 + 42 * (i).toNat + 6 * ((0 : Int)).toNat; omega) ?_
          intro v hv ih_256 ls H locs hl hP hD hS
          obtain ⟨b, w, j⟩ := v
          have hl : lv_has ls 6 [(0, .ref ((ad 7) 0)), (1, .long w), (3, .int (zI i)), (4, .int (zI 6)), (5, .int (zI j))] := hl
          have hv : (0 ≤ j ∧ j ≤ 6) ∧ w = fdZ (smC S i) sv j.toNat ∧ RO S X Q P z b ∧ OT 6 (sgnZ S i) b := hv
          have hP : va_P dg vwCl (brkU ck ka ad ra b) H := hP
          have hD : va_D A (brkU ck ka ad ra b) := hD
          obtain ⟨hj, hw1, hR, hT⟩ := hv
          refine W.as (k' := 115 + 7 * (i).toNat + 1 * (j).toNat) (n' := 690 + 42 * (i).toNat + 6 * (j).toNat) rfl rfl ?_
          refine lv_iload hx hb dL_sum_256 (lv_at hl 4 rfl) ?_
          refine lv_iload hx hb dL_sum_258 (lv_at hl 3 rfl) ?_
          refine x_icmp_ge (tgt := 283) hx hb dL_sum_260 (by decide) (by omega) (by omega) (fun c260 => ?_) (fun c260 => ?_)
          · obtain ⟨v283, e_v283⟩ : ∃ y9 : Int, y9 = i + 1 := ⟨_, rfl⟩
            refine lv_iinc (v := zI v283) (lv' := [(3, .int (zI v283)), (0, .ref ((ad 7) 0)), (1, .long w), (4, .int (zI 6)), (5, .int (zI j))]) hx hb dL_sum_283 hl (k := 2) rfl (by rw [e_v283]; exact zI_add _ _) (by decide) rfl (fun ls hl => ?_)
            refine lv_goto (tgt := 240) hx hb dL_sum_286 (by decide) ?_
            exact W.widen (k := 114 + 7 * (v283).toNat) (n := 684 + 42 * (v283).toNat) (by omega) (by omega) (ih_240 (b, w, v283) (show (0 ≤ v283 ∧ v283 ≤ 6) ∧ w = fdZ (smR S) (sm3 S) v283.toNat ∧ RO S X Q P z b from ⟨by omega, by rw [e_v283, fdZ_s hi.1, ← hv1]; show w = fdZ (smC S i) sv 6; rw [hw1, show j = 6 by omega]; rfl, hR⟩) (show (6 - v283).toNat < (6 - i).toNat from by omega) ls H locs (lv_sub hl [1, 2, 0] rfl) hP hD hS)
          · refine lv_ldc2 hx hb hown (htg _ wq_1181) dL_sum_263 ?_
            refine lv_lload_n hx hb dL_sum_266 rfl (lv_at hl 1 rfl) ?_
            refine lv_lmul hx hb dL_sum_267 ?_
            refine lv_aload_n hx hb dL_sum_268 rfl (lv_at hl 0 rfl) ?_
            refine lv_iload hx hb dL_sum_269 (lv_at hl 4 rfl) ?_
            refine x_calliU hP hD hS hA (vx_runSW (As := [.ref ((ad 7) 0), .int (zI j)]) (rest := [.long ((31 : Int64) * w)]) ⟨hx, hb, hml, hown, htg⟩ (w_outputAt l dg ck ka ad ra S X Q P z b j _ hκ hR hT (by omega) hst) (vx_cwSW 2 htg (gwSW wq_1340 wq_1341 wq_0 wqL_outputAt) rfl rfl rfl (by decide +kernel) ⟨Nat.le_of_ble_eq_true rfl, Nat.le_of_ble_eq_true rfl⟩) (wrK_preS hK hP hD hC hS hA) rfl rfl hl.1 rfl (lv_room (Nat.le_of_ble_eq_true rfl)) dL_sum_271 ⟨by show _ ≤ 156; omega, by show _ ≤ 936; omega⟩) (fun r271 b271 H locs hw271 hP hD hS => ?_)
            have hP : va_P dg vwCl (brkU ck ka ad ra b271) H := hP
            have hD : va_D A (brkU ck ka ad ra b271) := hD
            obtain ⟨rfl, hR, hT⟩ := hw271
            refine x_is (show (if 0 ≤ j ∧ j < 6 then sgnZ S i j else -77) = (sgnZ S i j) from if_pos (by omega)) ?_
            refine lv_i2l hx hb dL_sum_274 rfl ?_
            refine lv_ladd hx hb dL_sum_275 ?_
            refine lv_lstore_n (lv' := [(1, .long (((31 : Int64) * w) + (zI (sgnZ S i j)).toInt64)), (0, .ref ((ad 7) 0)), (3, .int (zI i)), (4, .int (zI 6)), (5, .int (zI j))]) hx hb dL_sum_276 rfl hl (by decide) rfl (fun ls hl => ?_)
            obtain ⟨v277, e_v277⟩ : ∃ y9 : Int, y9 = j + 1 := ⟨_, rfl⟩
            refine lv_iinc (v := zI v277) (lv' := [(5, .int (zI v277)), (1, .long (((31 : Int64) * w) + (zI (sgnZ S i j)).toInt64)), (0, .ref ((ad 7) 0)), (3, .int (zI i)), (4, .int (zI 6))]) hx hb dL_sum_277 hl (k := 4) rfl (by rw [e_v277]; exact zI_add _ _) (by decide) rfl (fun ls hl => ?_)
            refine lv_goto (tgt := 256) hx hb dL_sum_280 (by decide) ?_
            exact W.widen (k := 115 + 7 * (i).toNat + 1 * (v277).toNat) (n := 690 + 42 * (i).toNat + 6 * (v277).toNat) (by omega) (by omega) (ih_256 (b271, (((31 : Int64) * w) + (zI (sgnZ S i j)).toInt64), v277) (show (0 ≤ v277 ∧ v277 ≤ 6) ∧ (((31 : Int64) * w) + (zI (sgnZ S i j)).toInt64) = fdZ (smC S i) sv v277.toNat ∧ RO S X Q P z b271 ∧ OT 6 (sgnZ S i) b271 from ⟨by omega, by rw [e_v277, fdZ_s hj.1, ← hw1]; rfl, hR, hT⟩) (show (6 - v277).toNat < (6 - j).toNat from by omega) ls H locs (lv_sub hl [2, 1, 3, 4, 0] rfl) hP hD hS)
      · refine lv_ldc2 hx hb hown (htg _ wq_1181) dL_sum_208 ?_
        refine lv_lload_n hx hb dL_sum_211 rfl (lv_at hl 1 rfl) ?_
        refine lv_lmul hx hb dL_sum_212 ?_
        refine lv_ldc2 hx hb hown (htg _ wq_1181) dL_sum_213 ?_
        refine lv_aload_n hx hb dL_sum_216 rfl (lv_at hl 0 rfl) ?_
        refine lv_iload_n hx hb dL_sum_217 rfl (lv_at hl 2 rfl) ?_
        refine x_calliU hP hD hS hA (vx_runSW (As := [.ref ((ad 7) 0), .int (zI i)]) (rest := [.long (31 : Int64), .long ((31 : Int64) * sv)]) ⟨hx, hb, hml, hown, htg⟩ (w_coinsOf l dg ck ka ad ra S X Q P z b202 i _ hκ hR  (by omega) hst) (vx_cwSW 2 htg (gwSW wq_1244 wq_1245 wq_0 wqL_coinsOf) rfl rfl rfl (by decide +kernel) ⟨Nat.le_of_ble_eq_true rfl, Nat.le_of_ble_eq_true rfl⟩) (wrK_preS hK hP hD hC hS hA) rfl rfl hl.1 rfl (lv_room (Nat.le_of_ble_eq_true rfl)) dL_sum_218 ⟨by show _ ≤ 156; omega, by show _ ≤ 936; omega⟩) (fun r218 b218 H locs hw218 hP hD hS => ?_)
        have hP : va_P dg vwCl (brkU ck ka ad ra b218) H := hP
        have hD : va_D A (brkU ck ka ad ra b218) := hD
        obtain ⟨rfl, hR⟩ := hw218
        refine lv_i2l hx hb dL_sum_221 rfl ?_
        refine lv_lmul hx hb dL_sum_222 ?_
        refine lv_ladd hx hb dL_sum_223 ?_
        refine lv_aload_n hx hb dL_sum_224 rfl (lv_at hl 0 rfl) ?_
        refine lv_iload_n hx hb dL_sum_225 rfl (lv_at hl 2 rfl) ?_
        refine x_calliU hP hD hS hA (vx_runSW (As := [.ref ((ad 7) 0), .int (zI i)]) (rest := [.long (((31 : Int64) * sv) + ((31 : Int64) * (zI (vCoins S i)).toInt64))]) ⟨hx, hb, hml, hown, htg⟩ (w_defaultsOf l dg ck ka ad ra S X Q P z b218 i _ hκ hR  (by omega) hst) (vx_cwSW 2 htg (gwSW wq_1251 wq_1252 wq_0 wqL_defaultsOf) rfl rfl rfl (by decide +kernel) ⟨Nat.le_of_ble_eq_true rfl, Nat.le_of_ble_eq_true rfl⟩) (wrK_preS hK hP hD hC hS hA) rfl rfl hl.1 rfl (lv_room (Nat.le_of_ble_eq_true rfl)) dL_sum_226 ⟨by show _ ≤ 156; omega, by show _ ≤ 936; omega⟩) (fun r226 b226 H locs hw226 hP hD hS => ?_)
        have hP : va_P dg vwCl (brkU ck ka ad ra b226) H := hP
        have hD : va_D A (brkU ck ka ad ra b226) := hD
        obtain ⟨rfl, hR⟩ := hw226
        refine lv_i2l hx hb dL_sum_229 rfl ?_
        refine lv_ladd hx hb dL_sum_230 ?_
        refine lv_lstore_n (lv' := [(1, .long ((((31 : Int64) * sv) + ((31 : Int64) * (zI (vCoins S i)).toInt64)) + (zI (vDefs S i)).toInt64)), (0, .ref ((ad 7) 0)), (3, .int (zI i))]) hx hb dL_sum_231 rfl hl (by decide) rfl (fun ls hl => ?_)
        obtain ⟨v232, e_v232⟩ : ∃ y9 : Int, y9 = i + 1 := ⟨_, rfl⟩
        refine lv_iinc (v := zI v232) (lv' := [(3, .int (zI v232)), (1, .long ((((31 : Int64) * sv) + ((31 : Int64) * (zI (vCoins S i)).toInt64)) + (zI (vDefs S i)).toInt64)), (0, .ref ((ad 7) 0))]) hx hb dL_sum_232 hl (k := 2) rfl (by rw [e_v232]; exact zI_add _ _) (by decide) rfl (fun ls hl => ?_)
        refine lv_goto (tgt := 200) hx hb dL_sum_235 (by decide) ?_
        exact W.widen (k := 98 + 2 * (v232).toNat) (n := 588 + 12 * (v232).toNat) (by omega) (by omega) (ih_200 (b226, ((((31 : Int64) * sv) + ((31 : Int64) * (zI (vCoins S i)).toInt64)) + (zI (vDefs S i)).toInt64), v232) (show (0 ≤ v232 ∧ v232 ≤ S 0 2) ∧ ((((31 : Int64) * sv) + ((31 : Int64) * (zI (vCoins S i)).toInt64)) + (zI (vDefs S i)).toInt64) = fdZ (smT S) (sm2 S) v232.toNat ∧ RO S X Q P z b226 from ⟨by omega, by rw [e_v232, fdZ_s hi.1, ← hv1]; rfl, hR⟩) (show (S 0 2 - v232).toNat < (S 0 2 - i).toNat from by omega) ls H locs (lv_sub hl [2, 1, 0] rfl) hP hD hS)
    · refine lv_ldc2 hx hb hown (htg _ wq_1181) dL_sum_168 ?_
      refine lv_lload_n hx hb dL_sum_171 rfl (lv_at hl 1 rfl) ?_
      refine lv_lmul hx hb dL_sum_172 ?_
      refine lv_ldc2 hx hb hown (htg _ wq_1181) dL_sum_173 ?_
      refine lv_aload_n hx hb dL_sum_176 rfl (lv_at hl 0 rfl) ?_
      refine lv_iload_n hx hb dL_sum_177 rfl (lv_at hl 2 rfl) ?_
      refine x_calliU hP hD hS hA (vx_runSW (As := [.ref ((ad 7) 0), .int (zI i)]) (rest := [.long (31 : Int64), .long ((31 : Int64) * sv)]) ⟨hx, hb, hml, hown, htg⟩ (w_loudnessOf l dg ck ka ad ra S X Q P z b162 i _ hκ hR  (by omega) hst) (vx_cwSW 2 htg (gwSW wq_1225 wq_1226 wq_0 wqL_loudnessOf) rfl rfl rfl (by decide +kernel) ⟨Nat.le_of_ble_eq_true rfl, Nat.le_of_ble_eq_true rfl⟩) (wrK_preS hK hP hD hC hS hA) rfl rfl hl.1 rfl (lv_room (Nat.le_of_ble_eq_true rfl)) dL_sum_178 ⟨by show _ ≤ 156; omega, by show _ ≤ 936; omega⟩) (fun r178 b178 H locs hw178 hP hD hS => ?_)
      have hP : va_P dg vwCl (brkU ck ka ad ra b178) H := hP
      have hD : va_D A (brkU ck ka ad ra b178) := hD
      obtain ⟨rfl, hR⟩ := hw178
      refine lv_i2l hx hb dL_sum_181 rfl ?_
      refine lv_lmul hx hb dL_sum_182 ?_
      refine lv_ladd hx hb dL_sum_183 ?_
      refine lv_aload_n hx hb dL_sum_184 rfl (lv_at hl 0 rfl) ?_
      refine lv_iload_n hx hb dL_sum_185 rfl (lv_at hl 2 rfl) ?_
      refine x_calliU hP hD hS hA (vx_runSW (As := [.ref ((ad 7) 0), .int (zI i)]) (rest := [.long (((31 : Int64) * sv) + ((31 : Int64) * (zI (vLoud S i)).toInt64))]) ⟨hx, hb, hml, hown, htg⟩ (w_isRunning l dg ck ka ad ra S X Q P z b178 i _ hκ hR  (by omega) hst) (vx_cwSW 2 htg (gwSW wq_1237 wq_1238 wq_0 wqL_isRunning) rfl rfl rfl (by decide +kernel) ⟨Nat.le_of_ble_eq_true rfl, Nat.le_of_ble_eq_true rfl⟩) (wrK_preS hK hP hD hC hS hA) rfl rfl hl.1 rfl (lv_room (Nat.le_of_ble_eq_true rfl)) dL_sum_186 ⟨by show _ ≤ 156; omega, by show _ ≤ 936; omega⟩) (fun r186 b186 H locs hw186 hP hD hS => ?_)
      have hP : va_P dg vwCl (brkU ck ka ad ra b186) H := hP
      have hD : va_D A (brkU ck ka ad ra b186) := hD
      obtain ⟨rfl, hR⟩ := hw186
      refine lv_i2l hx hb dL_sum_189 rfl ?_
      refine lv_ladd hx hb dL_sum_190 ?_
      refine lv_lstore_n (lv' := [(1, .long ((((31 : Int64) * sv) + ((31 : Int64) * (zI (vLoud S i)).toInt64)) + (zI (vRun S i)).toInt64)), (0, .ref ((ad 7) 0)), (3, .int (zI i))]) hx hb dL_sum_191 rfl hl (by decide) rfl (fun ls hl => ?_)
      obtain ⟨v192, e_v192⟩ : ∃ y9 : Int, y9 = i + 1 := ⟨_, rfl⟩
      refine lv_iinc (v := zI v192) (lv' := [(3, .int (zI v192)), (1, .long ((((31 : Int64) * sv) + ((31 : Int64) * (zI (vLoud S i)).toInt64)) + (zI (vRun S i)).toInt64)), (0, .ref ((ad 7) 0))]) hx hb dL_sum_192 hl (k := 2) rfl (by rw [e_v192]; exact zI_add _ _) (by decide) rfl (fun ls hl => ?_)
      refine lv_goto (tgt := 160) hx hb dL_sum_195 (by decide) ?_
      exact W.widen (k := 90 + 2 * (v192).toNat) (n := 540 + 12 * (v192).toNat) (by omega) (by omega) (ih_160 (b186, ((((31 : Int64) * sv) + ((31 : Int64) * (zI (vLoud S i)).toInt64)) + (zI (vRun S i)).toInt64), v192) (show (0 ≤ v192 ∧ v192 ≤ S 0 1) ∧ ((((31 : Int64) * sv) + ((31 : Int64) * (zI (vLoud S i)).toInt64)) + (zI (vRun S i)).toInt64) = fdZ (smF S) (sm1 S) v192.toNat ∧ RO S X Q P z b186 from ⟨by omega, by rw [e_v192, fdZ_s hi.1, ← hv1]; rfl, hR⟩) (show (S 0 1 - v192).toNat < (S 0 1 - i).toNat from by omega) ls H locs (lv_sub hl [2, 1, 0] rfl) hP hD hS)
  · refine lv_ldc2 hx hb hown (htg _ wq_1181) dL_sum_82 ?_
    refine lv_lload_n hx hb dL_sum_85 rfl (lv_at hl 1 rfl) ?_
    refine lv_lmul hx hb dL_sum_86 ?_
    refine lv_ldc2 hx hb hown (htg _ wq_1196) dL_sum_87 ?_
    refine lv_aload_n hx hb dL_sum_90 rfl (lv_at hl 0 rfl) ?_
    refine lv_iload_n hx hb dL_sum_91 rfl (lv_at hl 2 rfl) ?_
    refine x_calliU hP hD hS hA (vx_runSW (As := [.ref ((ad 7) 0), .int (zI i)]) (rest := [.long (1009 : Int64), .long ((31 : Int64) * sv)]) ⟨hx, hb, hml, hown, htg⟩ (w_baseRent l dg ck ka ad ra S X Q P z b76 i _ hκ hR  (by omega) hst) (vx_cwSW 2 htg (gwSW wq_1197 wq_1198 wq_0 wqL_baseRent) rfl rfl rfl (by decide +kernel) ⟨Nat.le_of_ble_eq_true rfl, Nat.le_of_ble_eq_true rfl⟩) (wrK_preS hK hP hD hC hS hA) rfl rfl hl.1 rfl (lv_room (Nat.le_of_ble_eq_true rfl)) dL_sum_92 ⟨by show _ ≤ 156; omega, by show _ ≤ 936; omega⟩) (fun r92 b92 H locs hw92 hP hD hS => ?_)
    have hP : va_P dg vwCl (brkU ck ka ad ra b92) H := hP
    have hD : va_D A (brkU ck ka ad ra b92) := hD
    obtain ⟨rfl, hR⟩ := hw92
    refine lv_i2l hx hb dL_sum_95 rfl ?_
    refine lv_lmul hx hb dL_sum_96 ?_
    refine lv_ladd hx hb dL_sum_97 ?_
    refine lv_ldc2 hx hb hown (htg _ wq_1181) dL_sum_98 ?_
    refine lv_aload_n hx hb dL_sum_101 rfl (lv_at hl 0 rfl) ?_
    refine lv_iload_n hx hb dL_sum_102 rfl (lv_at hl 2 rfl) ?_
    refine x_calliU hP hD hS hA (vx_runSW (As := [.ref ((ad 7) 0), .int (zI i)]) (rest := [.long (31 : Int64), .long (((31 : Int64) * sv) + ((1009 : Int64) * (zI (vBase S i)).toInt64))]) ⟨hx, hb, hml, hown, htg⟩ (w_rowOf l dg ck ka ad ra S X Q P z b92 i _ hκ hR  (by omega) hst) (vx_cwSW 2 htg (gwSW wq_1204 wq_1205 wq_0 wqL_rowOf) rfl rfl rfl (by decide +kernel) ⟨Nat.le_of_ble_eq_true rfl, Nat.le_of_ble_eq_true rfl⟩) (wrK_preS hK hP hD hC hS hA) rfl rfl hl.1 rfl (lv_room (Nat.le_of_ble_eq_true rfl)) dL_sum_103 ⟨by show _ ≤ 156; omega, by show _ ≤ 936; omega⟩) (fun r103 b103 H locs hw103 hP hD hS => ?_)
    have hP : va_P dg vwCl (brkU ck ka ad ra b103) H := hP
    have hD : va_D A (brkU ck ka ad ra b103) := hD
    obtain ⟨rfl, hR⟩ := hw103
    refine lv_i2l hx hb dL_sum_106 rfl ?_
    refine lv_lmul hx hb dL_sum_107 ?_
    refine lv_ladd hx hb dL_sum_108 ?_
    refine lv_aload_n hx hb dL_sum_109 rfl (lv_at hl 0 rfl) ?_
    refine lv_iload_n hx hb dL_sum_110 rfl (lv_at hl 2 rfl) ?_
    refine x_calliU hP hD hS hA (vx_runSW (As := [.ref ((ad 7) 0), .int (zI i)]) (rest := [.long ((((31 : Int64) * sv) + ((1009 : Int64) * (zI (vBase S i)).toInt64)) + ((31 : Int64) * (zI (vRow S i)).toInt64))]) ⟨hx, hb, hml, hown, htg⟩ (w_columnOf l dg ck ka ad ra S X Q P z b103 i _ hκ hR  (by omega) hst) (vx_cwSW 2 htg (gwSW wq_1211 wq_1212 wq_0 wqL_columnOf) rfl rfl rfl (by decide +kernel) ⟨Nat.le_of_ble_eq_true rfl, Nat.le_of_ble_eq_true rfl⟩) (wrK_preS hK hP hD hC hS hA) rfl rfl hl.1 rfl (lv_room (Nat.le_of_ble_eq_true rfl)) dL_sum_111 ⟨by show _ ≤ 156; omega, by show _ ≤ 936; omega⟩) (fun r111 b111 H locs hw111 hP hD hS => ?_)
    have hP : va_P dg vwCl (brkU ck ka ad ra b111) H := hP
    have hD : va_D A (brkU ck ka ad ra b111) := hD
    obtain ⟨rfl, hR⟩ := hw111
    refine lv_i2l hx hb dL_sum_114 rfl ?_
    refine lv_ladd hx hb dL_sum_115 ?_
    refine lv_lstore_n (lv' := [(1, .long (((((31 : Int64) * sv) + ((1009 : Int64) * (zI (vBase S i)).toInt64)) + ((31 : Int64) * (zI (vRow S i)).toInt64)) + (zI (vCol S i)).toInt64)), (0, .ref ((ad 7) 0)), (3, .int (zI i))]) hx hb dL_sum_116 rfl hl (by decide) rfl (fun ls hl => ?_)
    refine lv_ldc2 hx hb hown (htg _ wq_1181) dL_sum_117 ?_
    refine lv_lload_n hx hb dL_sum_120 rfl (lv_at hl 0 rfl) ?_
    refine lv_lmul hx hb dL_sum_121 ?_
    refine lv_ldc2 hx hb hown (htg _ wq_1196) dL_sum_122 ?_
    refine lv_aload_n hx hb dL_sum_125 rfl (lv_at hl 1 rfl) ?_
    refine lv_iload_n hx hb dL_sum_126 rfl (lv_at hl 2 rfl) ?_
    refine x_calliU hP hD hS hA (vx_runSW (As := [.ref ((ad 7) 0), .int (zI i)]) (rest := [.long (1009 : Int64), .long ((31 : Int64) * (((((31 : Int64) * sv) + ((1009 : Int64) * (zI (vBase S i)).toInt64)) + ((31 : Int64) * (zI (vRow S i)).toInt64)) + (zI (vCol S i)).toInt64))]) ⟨hx, hb, hml, hown, htg⟩ (w_tenantOf l dg ck ka ad ra S X Q P z b111 i _ hκ hR  (by omega) hst) (vx_cwSW 2 htg (gwSW wq_533 wq_534 wq_0 wqL_tenantOf) rfl rfl rfl (by decide +kernel) ⟨Nat.le_of_ble_eq_true rfl, Nat.le_of_ble_eq_true rfl⟩) (wrK_preS hK hP hD hC hS hA) rfl rfl hl.1 rfl (lv_room (Nat.le_of_ble_eq_true rfl)) dL_sum_127 ⟨by show _ ≤ 156; omega, by show _ ≤ 936; omega⟩) (fun r127 b127 H locs hw127 hP hD hS => ?_)
    have hP : va_P dg vwCl (brkU ck ka ad ra b127) H := hP
    have hD : va_D A (brkU ck ka ad ra b127) := hD
    obtain ⟨rfl, hR⟩ := hw127
    refine lv_i2l hx hb dL_sum_130 rfl ?_
    refine lv_lmul hx hb dL_sum_131 ?_
    refine lv_ladd hx hb dL_sum_132 ?_
    refine lv_ldc2 hx hb hown (htg _ wq_1181) dL_sum_133 ?_
    refine lv_aload_n hx hb dL_sum_136 rfl (lv_at hl 1 rfl) ?_
    refine lv_iload_n hx hb dL_sum_137 rfl (lv_at hl 2 rfl) ?_
    refine x_calliU hP hD hS hA (vx_runSW (As := [.ref ((ad 7) 0), .int (zI i)]) (rest := [.long (31 : Int64), .long (((31 : Int64) * (((((31 : Int64) * sv) + ((1009 : Int64) * (zI (vBase S i)).toInt64)) + ((31 : Int64) * (zI (vRow S i)).toInt64)) + (zI (vCol S i)).toInt64)) + ((1009 : Int64) * (zI (vTen S i)).toInt64))]) ⟨hx, hb, hml, hown, htg⟩ (w_depositOf l dg ck ka ad ra S X Q P z b127 i _ hκ hR  (by omega) hst) (vx_cwSW 2 htg (gwSW wq_1218 wq_1219 wq_0 wqL_depositOf) rfl rfl rfl (by decide +kernel) ⟨Nat.le_of_ble_eq_true rfl, Nat.le_of_ble_eq_true rfl⟩) (wrK_preS hK hP hD hC hS hA) rfl rfl hl.1 rfl (lv_room (Nat.le_of_ble_eq_true rfl)) dL_sum_138 ⟨by show _ ≤ 156; omega, by show _ ≤ 936; omega⟩) (fun r138 b138 H locs hw138 hP hD hS => ?_)
    have hP : va_P dg vwCl (brkU ck ka ad ra b138) H := hP
    have hD : va_D A (brkU ck ka ad ra b138) := hD
    obtain ⟨rfl, hR⟩ := hw138
    refine lv_i2l hx hb dL_sum_141 rfl ?_
    refine lv_lmul hx hb dL_sum_142 ?_
    refine lv_ladd hx hb dL_sum_143 ?_
    refine lv_aload_n hx hb dL_sum_144 rfl (lv_at hl 1 rfl) ?_
    refine lv_iload_n hx hb dL_sum_145 rfl (lv_at hl 2 rfl) ?_
    refine x_calliU hP hD hS hA (vx_runSW (As := [.ref ((ad 7) 0), .int (zI i)]) (rest := [.long ((((31 : Int64) * (((((31 : Int64) * sv) + ((1009 : Int64) * (zI (vBase S i)).toInt64)) + ((31 : Int64) * (zI (vRow S i)).toInt64)) + (zI (vCol S i)).toInt64)) + ((1009 : Int64) * (zI (vTen S i)).toInt64)) + ((31 : Int64) * (zI (vDep S i)).toInt64))]) ⟨hx, hb, hml, hown, htg⟩ (w_monthsLeft l dg ck ka ad ra S X Q P z b138 i _ hκ hR  (by omega) hst) (vx_cwSW 2 htg (gwSW wq_544 wq_545 wq_0 wqL_monthsLeft) rfl rfl rfl (by decide +kernel) ⟨Nat.le_of_ble_eq_true rfl, Nat.le_of_ble_eq_true rfl⟩) (wrK_preS hK hP hD hC hS hA) rfl rfl hl.1 rfl (lv_room (Nat.le_of_ble_eq_true rfl)) dL_sum_146 ⟨by show _ ≤ 156; omega, by show _ ≤ 936; omega⟩) (fun r146 b146 H locs hw146 hP hD hS => ?_)
    have hP : va_P dg vwCl (brkU ck ka ad ra b146) H := hP
    have hD : va_D A (brkU ck ka ad ra b146) := hD
    obtain ⟨rfl, hR⟩ := hw146
    refine lv_i2l hx hb dL_sum_149 rfl ?_
    refine lv_ladd hx hb dL_sum_150 ?_
    refine lv_lstore_n (lv' := [(1, .long (((((31 : Int64) * (((((31 : Int64) * sv) + ((1009 : Int64) * (zI (vBase S i)).toInt64)) + ((31 : Int64) * (zI (vRow S i)).toInt64)) + (zI (vCol S i)).toInt64)) + ((1009 : Int64) * (zI (vTen S i)).toInt64)) + ((31 : Int64) * (zI (vDep S i)).toInt64)) + (zI (vLeft S i)).toInt64)), (0, .ref ((ad 7) 0)), (3, .int (zI i))]) hx hb dL_sum_151 rfl hl (by decide) rfl (fun ls hl => ?_)
    obtain ⟨v152, e_v152⟩ : ∃ y9 : Int, y9 = i + 1 := ⟨_, rfl⟩
    refine lv_iinc (v := zI v152) (lv' := [(3, .int (zI v152)), (1, .long (((((31 : Int64) * (((((31 : Int64) * sv) + ((1009 : Int64) * (zI (vBase S i)).toInt64)) + ((31 : Int64) * (zI (vRow S i)).toInt64)) + (zI (vCol S i)).toInt64)) + ((1009 : Int64) * (zI (vTen S i)).toInt64)) + ((31 : Int64) * (zI (vDep S i)).toInt64)) + (zI (vLeft S i)).toInt64)), (0, .ref ((ad 7) 0))]) hx hb dL_sum_152 hl (k := 2) rfl (by rw [e_v152]; exact zI_add _ _) (by decide) rfl (fun ls hl => ?_)
    refine lv_goto (tgt := 74) hx hb dL_sum_155 (by decide) ?_
    exact W.widen (k := 0 + 9 * (v152).toNat) (n := 0 + 54 * (v152).toNat) (by omega) (by omega) (ih_74 (b146, (((((31 : Int64) * (((((31 : Int64) * sv) + ((1009 : Int64) * (zI (vBase S i)).toInt64)) + ((31 : Int64) * (zI (vRow S i)).toInt64)) + (zI (vCol S i)).toInt64)) + ((1009 : Int64) * (zI (vTen S i)).toInt64)) + ((31 : Int64) * (zI (vDep S i)).toInt64)) + (zI (vLeft S i)).toInt64), v152) (show (0 ≤ v152 ∧ v152 ≤ S 0 0) ∧ (((((31 : Int64) * (((((31 : Int64) * sv) + ((1009 : Int64) * (zI (vBase S i)).toInt64)) + ((31 : Int64) * (zI (vRow S i)).toInt64)) + (zI (vCol S i)).toInt64)) + ((1009 : Int64) * (zI (vTen S i)).toInt64)) + ((31 : Int64) * (zI (vDep S i)).toInt64)) + (zI (vLeft S i)).toInt64) = fdZ (smB S) (sm0 S) v152.toNat ∧ RO S X Q P z b146 from ⟨by omega, by rw [e_v152, fdZ_s hi.1, ← hv1]; rfl, hR⟩) (show (S 0 0 - v152).toNat < (S 0 0 - i).toNat from by omega) ls H locs (lv_sub hl [2, 1, 0] rfl) hP hD hS)
