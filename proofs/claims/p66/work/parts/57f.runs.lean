/-! the law: a text read letter by letter, then executed -/

set_option maxHeartbeats 4000000 in
set_option maxRecDepth 100000 in
/-- the law: runs -/
theorem lf_runs (l : Launch) (dg : va_G) (ck : Nat → ClassId) (ka : Nat → Nat) (ad ra : Nat → Nat → Nat) (S : St) (X : Nat → Int) (Q : Nat → St) (P : St) (z : Int) (b : BU) (q t tl : Nat) (F : Int → Int) (sz : Nat) {n : Int} (hκ : KI n S X Q P z) (hR : RO S X Q P z b) (hm : tl < 36) (hF : LY tl F) (hMx : n + 3100 ≤ 4000000) (hst : l.stackTraces = false) : Met l yL_runs (.code yL_runs cL_runs 4 (some .int) :: GW) ({ frames := 10, cells := 40, slots := 240, locals := 218 }) (va_Pc [.ref ((ad 7) 0), .ref q] (wrK dg ck ka sz (brkU ck ka ad ra b ++ (stO q t ++ bR ck t tl F)))) (va_Qi (fun r (u : BU) => (∃ (v : Int) (S9 : St), r = zI v ∧ ((v ≤ -74 ∧ -80 ≤ v ∧ RO S X Q P z u) ∨ ((0 ≤ v ∧ v ≤ 31) ∧ Inv (n + 3100) S9 ∧ Iv2 S9 ∧ RO S9 (phX X 0) (phQ Q X S 0) P z u)))) (fun u t9 => wrQ dg sz (brkU ck ka ad ra b ++ (stO q t ++ bR ck t tl F)) (brkU ck ka ad ra u ++ (stO q t ++ bR ck t tl F)) t9) (va_A (brkU ck ka ad ra b ++ (stO q t ++ bR ck t tl F)) sz)) 40 240 (va_A (brkU ck ka ad ra b ++ (stO q t ++ bR ck t tl F)) sz) := by
  obtain ⟨⟨hV, hV2⟩, ⟨hn, hz⟩, hq10, hhist, hz0, hp10, hsn⟩ := id hκ
  have hI := hV.bd
  refine Met.ofW (cc := cL_runs) (maxL := 4) (ret := (some .int)) (by decide) rfl ?_
  intro p e s m args below meth c s₁ B hml hv
  obtain ⟨rfl, ⟨hsz, hP, hK, hD0⟩, hC⟩ := hv
  have hx := B.exec
  have hb := B.bytes
  have hr := B.returns
  have hts := atoms_spec (ws := .code yL_runs cL_runs 4 (some .int) :: GW) B.pre
  have htg : ∀ w ∈ GW, w.before _ s = true := fun w h => hts w (List.mem_cons_of_mem _ h)
  have hown : s.vm.findClass RL = some m.cls := findClass_of_methodNamed B.named
  have hlocks := B.notSynchronized
  subst hsz
  have hD := hD0.self (sz := s.heap.size)
  generalize hAe : va_A (brkU ck ka ad ra b ++ (stO q t ++ bR ck t tl F)) s.heap.size = A at hD hC ⊢
  have hA : ∀ q : Nat, s.heap.size ≤ q → A q := fun q h => by rw [← hAe]; exact Or.inr h
  have hS : va_S A s.heap s.heap [] := va_S.rf
  have hP : va_P dg vwCl (brkU ck ka ad ra b ++ (stO q t ++ bR ck t tl F)) s.heap := hP
  have hl := lv_entry ([.ref ((ad 7) 0), .ref q]) (n := 4) (Nat.le_of_ble_eq_true rfl)
  rw [lg_entry_eq]
  generalize (lg_sl ([.ref ((ad 7) 0), .ref q]) ++ List.replicate (4 - (lg_sl ([.ref ((ad 7) 0), .ref q])).length) Slot.unset).toArray = ls at hl ⊢
  have hl : lv_has ls 4 [(0, .ref ((ad 7) 0)), (1, .ref q)] := hl
  refine x_iconst hx hb dL_runs_0 ?_
  refine lv_istore_n (lv' := [(2, .int (zI 0)), (0, .ref ((ad 7) 0)), (1, .ref q)]) hx hb dL_runs_1 rfl hl (by decide) rfl (fun ls hl => ?_)
  refine x_loopN (ι := BU × Int) (fun v => (0 ≤ v.2 ∧ v.2 ≤ tl) ∧ RO S X Q P z v.1) (fun v => ((tl : Int) - v.2).toNat) (fun v => [(0, .ref ((ad 7) 0)), (1, .ref q), (2, .int (zI v.2))]) (fun v => brkU ck ka ad ra v.1 ++ (stO q t ++ bR ck t tl F)) (fun v => 2 + 1 * (v.2).toNat) (fun v => 12 + 6 * (v.2).toNat) (b, 0) (show (0 ≤ (0 : Int) ∧ (0 : Int) ≤ tl) ∧ RO S X Q P z b from ⟨by omega, hR⟩) (lv_sub hl [1, 2, 0] rfl) hP hD hS (by show _ ≤ 2 + 1 * ((0 : Int)).toNat; omega) (by show _ ≤ 12 + 6 * ((0 : Int)).toNat; omega) ?_
  intro v hv ih_2 ls H locs hl hP hD hS
  obtain ⟨b, i⟩ := v
  have hl : lv_has ls 4 [(0, .ref ((ad 7) 0)), (1, .ref q), (2, .int (zI i))] := hl
  have hv : (0 ≤ i ∧ i ≤ tl) ∧ RO S X Q P z b := hv
  have hP : va_P dg vwCl (brkU ck ka ad ra b ++ (stO q t ++ bR ck t tl F)) H := hP
  have hD : va_D A (brkU ck ka ad ra b ++ (stO q t ++ bR ck t tl F)) := hD
  obtain ⟨hi, hR⟩ := hv
  refine W.as (k' := 2 + 1 * (i).toNat) (n' := 12 + 6 * (i).toNat) rfl rfl ?_
  refine lv_iload_n hx hb dL_runs_2 rfl (lv_at hl 2 rfl) ?_
  refine lv_aload_n hx hb dL_runs_3 rfl (lv_at hl 1 rfl) ?_
  refine x_calliUB (wf := fun _ : Unit => brkU ck ka ad ra b ++ (stO q t ++ bR ck t tl F)) (M := stO q t ++ bR ck t tl F) (Mf := fun _ => stO q t ++ bR ck t tl F) (N := brkU ck ka ad ra b) (cat_perm [brkU ck ka ad ra b, stO q t, bR ck t tl F] [1, 2] [0] 3 rfl (by decide)) (fun _ => (cat_perm [brkU ck ka ad ra b, stO q t, bR ck t tl F] [1, 2] [0] 3 rfl (by decide))) hP hD hS hA (fun hPm hDm => va_runV (As := []) (rest := [.int (zI i)]) ⟨hx, hb, hml, hown, htg⟩ (f_len l dg ck ka q t tl F _) (cwV 0 htg (gwV wq_1068 wq_926 wq_927 wq_13 wq_928) rfl rfl rfl (by decide +kernel) ⟨Nat.le_of_ble_eq_true rfl, Nat.le_of_ble_eq_true rfl⟩) (wrK_preV hK hPm hDm hC hS hA 0 0 rfl rfl) rfl rfl hl.1 rfl (lv_room (Nat.le_of_ble_eq_true rfl)) dL_runs_4 ⟨by show _ ≤ 40; omega, by show _ ≤ 240; omega⟩) (fun r4 _ H locs hw4 hP hD hS => ?_)
  have hP : va_P dg vwCl (brkU ck ka ad ra b ++ (stO q t ++ bR ck t tl F)) H := hP
  have hD : va_D A (brkU ck ka ad ra b ++ (stO q t ++ bR ck t tl F)) := hD
  subst hw4
  refine x_icmp_ge (tgt := 26) hx hb dL_runs_7 (by decide) (by omega) (by omega) (fun c7 => ?_) (fun c7 => ?_)
  · refine lv_aload_n hx hb dL_runs_26 rfl (lv_at hl 0 rfl) ?_
    refine x_calliUB (wf := fun b27 : BU => brkU ck ka ad ra b27 ++ (stO q t ++ bR ck t tl F)) (M := brkU ck ka ad ra b) (Mf := fun b27 => brkU ck ka ad ra b27) (N := (stO q t ++ bR ck t tl F)) (List.Perm.refl _) (fun b27 => List.Perm.refl _) hP hD hS hA (fun hPm hDm => vx_runSW (As := [.ref ((ad 7) 0)]) (rest := []) ⟨hx, hb, hml, hown, htg⟩ (w_execute l dg ck ka ad ra S X Q P z b  _ hκ hR hMx  hst) (vx_cwSW 1 htg (gwSW wq_1116 wq_1117 wq_0 wqL_execute) rfl rfl rfl (by decide +kernel) ⟨Nat.le_of_ble_eq_true rfl, Nat.le_of_ble_eq_true rfl⟩) (wrK_preS hK hPm hDm hC hS hA) rfl rfl hl.1 rfl (lv_room (Nat.le_of_ble_eq_true rfl)) dL_runs_27 ⟨by show _ ≤ 40; omega, by show _ ≤ 240; omega⟩) (fun r27 b27 H locs hw27 hP hD hS => ?_)
    have hP : va_P dg vwCl (brkU ck ka ad ra b27 ++ (stO q t ++ bR ck t tl F)) H := hP
    have hD : va_D A (brkU ck ka ad ra b27 ++ (stO q t ++ bR ck t tl F)) := hD
    obtain ⟨v9, S9, rfl, hE9⟩ := hw27
    exact W.widen (k := 40) (n := 240) (by omega) (by omega) (W.iret (v := _) hx hb hr (fun t9 ht9 hW9 => ⟨⟨_, b27, rfl, ⟨v9, S9, rfl, hE9⟩, by rw [ht9]; exact hP, by rw [hAe]; exact hD⟩, hS.F ht9⟩) hS.2.2 dL_runs_30)
  · refine lv_aload_n hx hb dL_runs_10 rfl (lv_at hl 0 rfl) ?_
    refine lv_aload_n hx hb dL_runs_11 rfl (lv_at hl 1 rfl) ?_
    refine lv_iload_n hx hb dL_runs_12 rfl (lv_at hl 2 rfl) ?_
    refine x_calliUB (wf := fun _ : Unit => brkU ck ka ad ra b ++ (stO q t ++ bR ck t tl F)) (M := stO q t ++ bR ck t tl F) (Mf := fun _ => stO q t ++ bR ck t tl F) (N := brkU ck ka ad ra b) (cat_perm [brkU ck ka ad ra b, stO q t, bR ck t tl F] [1, 2] [0] 3 rfl (by decide)) (fun _ => (cat_perm [brkU ck ka ad ra b, stO q t, bR ck t tl F] [1, 2] [0] 3 rfl (by decide))) hP hD hS hA (fun hPm hDm => va_runV (As := [.int (zI i)]) (rest := [.ref ((ad 7) 0)]) ⟨hx, hb, hml, hown, htg⟩ (f_at l dg ck ka q t tl i F _ (by omega) (by omega) hF) (cwV 1 htg (gwV wq_1069 wq_1070 wq_1071 wq_13 wq_1072) rfl rfl rfl (by decide +kernel) ⟨Nat.le_of_ble_eq_true rfl, Nat.le_of_ble_eq_true rfl⟩) (wrK_preV hK hPm hDm hC hS hA 0 0 rfl rfl) rfl rfl hl.1 rfl (lv_room (Nat.le_of_ble_eq_true rfl)) dL_runs_13 ⟨by show _ ≤ 40; omega, by show _ ≤ 240; omega⟩) (fun r13 _ H locs hw13 hP hD hS => ?_)
    have hP : va_P dg vwCl (brkU ck ka ad ra b ++ (stO q t ++ bR ck t tl F)) H := hP
    have hD : va_D A (brkU ck ka ad ra b ++ (stO q t ++ bR ck t tl F)) := hD
    obtain ⟨v13, rfl, hv13⟩ := hw13
    refine x_calliUB (wf := fun b16 : BU => brkU ck ka ad ra b16 ++ (stO q t ++ bR ck t tl F)) (M := brkU ck ka ad ra b) (Mf := fun b16 => brkU ck ka ad ra b16) (N := (stO q t ++ bR ck t tl F)) (List.Perm.refl _) (fun b16 => List.Perm.refl _) hP hD hS hA (fun hPm hDm => vx_runSW (As := [.ref ((ad 7) 0), .int (zI v13)]) (rest := []) ⟨hx, hb, hml, hown, htg⟩ (w_appendInput l dg ck ka ad ra S X Q P z b v13 _ hκ hR  (by omega) hst) (vx_cwSW 2 htg (gwSW wq_1093 wq_1094 wq_0 wqL_appendInput) rfl rfl rfl (by decide +kernel) ⟨Nat.le_of_ble_eq_true rfl, Nat.le_of_ble_eq_true rfl⟩) (wrK_preS hK hPm hDm hC hS hA) rfl rfl hl.1 rfl (lv_room (Nat.le_of_ble_eq_true rfl)) dL_runs_16 ⟨by show _ ≤ 40; omega, by show _ ≤ 240; omega⟩) (fun r16 b16 H locs hw16 hP hD hS => ?_)
    have hP : va_P dg vwCl (brkU ck ka ad ra b16 ++ (stO q t ++ bR ck t tl F)) H := hP
    have hD : va_D A (brkU ck ka ad ra b16 ++ (stO q t ++ bR ck t tl F)) := hD
    have hR := hw16
    refine lv_istore_n (lv' := [(3, .int r16), (0, .ref ((ad 7) 0)), (1, .ref q), (2, .int (zI i))]) hx hb dL_runs_19 rfl hl (by decide) rfl (fun ls hl => ?_)
    obtain ⟨v20, e_v20⟩ : ∃ y9 : Int, y9 = i + 1 := ⟨_, rfl⟩
    refine lv_iinc (v := zI v20) (lv' := [(2, .int (zI v20)), (3, .int r16), (0, .ref ((ad 7) 0)), (1, .ref q)]) hx hb dL_runs_20 hl (k := 3) rfl (by rw [e_v20]; exact zI_add _ _) (by decide) rfl (fun ls hl => ?_)
    refine lv_goto (tgt := 2) hx hb dL_runs_23 (by decide) ?_
    exact W.widen (k := 2 + 1 * (v20).toNat) (n := 12 + 6 * (v20).toNat) (by omega) (by omega) (ih_2 (b16, v20) (show (0 ≤ v20 ∧ v20 ≤ tl) ∧ RO S X Q P z b16 from ⟨by omega, hR⟩) (show ((tl : Int) - v20).toNat < ((tl : Int) - i).toNat from by omega) ls H locs (lv_sub hl [2, 3, 0] rfl) hP hD hS)
