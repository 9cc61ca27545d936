/-! the law: what holds behind every call -/
theorem ff_c : ∀ a, a < 11 → ∀ b, b < 11 → Op.cmpValue (FP.fcmp (FP.fdiv (FP.i2f (zI (a : Nat))) (FP.i2f (zI ((b : Nat) + 1 : Nat)))) (FP.fdiv (FP.i2f (zI (a : Nat))) (FP.i2f (zI ((b : Nat) + 1 : Nat))))) CmpOp.l = 0 := by decide +kernel
theorem ls_c {S : St} (hI : Bd S) (h0 : S 0 0 ≠ 0) : Op.cmpValue (FP.fcmp (lsF S) (lsF S)) CmpOp.l = 0 := by
  have h := sumZ_r (f := fun o => bI (S 4 o ≠ 0)) (M := 1) (fun o => bI_r _) (S 0 0).toNat
  have hb := hI.1
  unfold lsF
  rw [if_neg h0]
  have h9 := ff_c (sumZ (fun o => bI (S 4 o ≠ 0)) (S 0 0).toNat).toNat (by omega) ((S 0 0).toNat - 1) (by omega)
  rw [Int.toNat_of_nonneg h.1, show ((((S 0 0).toNat - 1) + 1 : Nat) : Int) = S 0 0 by omega] at h9
  exact h9
theorem d74_c : Op.cmpValue (FP.dcmp (13858279740860792832 : UInt64) (13858279740860792832 : UInt64)) CmpOp.l = 0 := by decide +kernel
theorem f74_c : Op.cmpValue (FP.fcmp (3264479232 : UInt32) (3264479232 : UInt32)) CmpOp.l = 0 := by decide +kernel

set_option maxHeartbeats 4000000 in
set_option maxRecDepth 100000 in
/-- the law: isWhole -/
theorem lf_isWhole (l : Launch) (dg : va_G) (ck : Nat → ClassId) (ka : Nat → Nat) (ad ra : Nat → Nat → Nat) (S : St) (X : Nat → Int) (Q : Nat → St) (P : St) (z : Int) (b : BU) (k w : Int) (sz : Nat) {n : Int} (hκ : KI n S X Q P z) (hR : RO S X Q P z b) (hk : 0 ≤ k ∧ k < 900) (hw01 : w = 0 ∨ w = 1) (hst : l.stackTraces = false) : Met l yL_isWhole (.code yL_isWhole cL_isWhole 17 (some .boolean) :: GW) ({ frames := 11, cells := 1470, slots := 8820, locals := 210 }) (va_Pc [.ref ((ad 7) 0), .ref (ka 4), .int (zI k), .int (zI w)] (wrK dg ck ka sz (brkU ck ka ad ra b))) (va_Qi (fun r (u : BU) => r = zI 1 ∧ RO S X Q P z u) (fun u t9 => wrQ dg sz (brkU ck ka ad ra b) (brkU ck ka ad ra u) t9) (va_A (brkU ck ka ad ra b) sz)) 1470 8820 (va_A (brkU ck ka ad ra b) sz) := by
  obtain ⟨⟨hV, hV2⟩, ⟨hn, hz⟩, hq10, hhist, hz0, hp10, hsn⟩ := id hκ
  have hI := hV.bd
  refine Met.ofW (cc := cL_isWhole) (maxL := 17) (ret := (some .boolean)) (by decide) rfl ?_
  intro p e s m args below meth c s₁ B hml hv
  obtain ⟨rfl, ⟨hsz, hP, hK, hD0⟩, hC⟩ := hv
  have hx := B.exec
  have hb := B.bytes
  have hr := B.returns
  have hts := atoms_spec (ws := .code yL_isWhole cL_isWhole 17 (some .boolean) :: GW) B.pre
  have htg : ∀ w ∈ GW, w.before _ s = true := fun w h => hts w (List.mem_cons_of_mem _ h)
  have hown : s.vm.findClass RL = some m.cls := findClass_of_methodNamed B.named
  have hlocks := B.notSynchronized
  subst hsz
  have hD := hD0.self (sz := s.heap.size)
  generalize hAe : va_A (brkU ck ka ad ra b) s.heap.size = A at hD hC ⊢
  have hA : ∀ q : Nat, s.heap.size ≤ q → A q := fun q h => by rw [← hAe]; exact Or.inr h
  have hS : va_S A s.heap s.heap [] := va_S.rf
  have hP : va_P dg vwCl (brkU ck ka ad ra b) s.heap := hP
  have hl := lv_entry ([.ref ((ad 7) 0), .ref (ka 4), .int (zI k), .int (zI w)]) (n := 17) (Nat.le_of_ble_eq_true rfl)
  rw [lg_entry_eq]
  generalize (lg_sl ([.ref ((ad 7) 0), .ref (ka 4), .int (zI k), .int (zI w)]) ++ List.replicate (17 - (lg_sl ([.ref ((ad 7) 0), .ref (ka 4), .int (zI k), .int (zI w)])).length) Slot.unset).toArray = ls at hl ⊢
  have hl : lv_has ls 17 [(0, .ref ((ad 7) 0)), (1, .ref (ka 4)), (2, .int (zI k)), (3, .int (zI w))] := hl
  obtain ⟨b00, b01, b02, b03, b1, b2, b3, b4, b5, b6, b7, b8, b9, b10, b11, b12⟩ := id hI
  have hcs : coinsA S = S 0 6 := hV.2.2.2.2.2.2.2.2.2.2.2.2.2.1
  have hca : coinsA S = deps S + S 0 5 + sumZ (S 11) (S 0 2).toNat := rfl
  have hcm : S 0 6 ≤ n ∧ n ≤ 4000000 := ⟨hV.2.2.2.2.2.2.2.2.2.2.2.2.2.2.1, hV.2.2.2.2.2.2.2.2.2.2.2.2.2.2.2⟩
  have hbc : 0 ≤ S 0 5 := hV.2.2.2.2.2.2.2.2.2.2.2.2.1
  have hs5 := sumZ_r (f := S 5) (M := 20) b5 (S 0 0).toNat
  have hs11 := sumZ_p (f := S 11) (fun i => (b11 i).1) (S 0 2).toNat
  have hs12 := sumZ_r (f := S 12) (M := 3) b12 (S 0 2).toNat
  have h07 := hV2.1
  have hde : deps S = sumZ (S 5) (S 0 0).toNat := rfl
  have hsq := sumZ_r (f := (fun o => bI (quietB S o))) (M := 1) (fun o => bI_r _) (S 0 0).toNat
  have hsl := sumZ_r (f := (fun o => bI (S 4 o ≠ 0))) (M := 1) (fun o => bI_r _) (S 0 0).toNat
  have hsr := sumZ_r (f := rent S) (M := 20) (fun o => ⟨by have := (rent_r hI o).1; omega, (rent_r hI o).2⟩) (S 0 0).toNat
  refine lv_aload_n hx hb dL_isWhole_0 rfl (lv_at hl 0 rfl) ?_
  refine x_calliU hP hD hS hA (va_runV (As := []) (rest := []) ⟨hx, hb, hml, hown, htg⟩ (g_benchCount l dg ck ka ad ra S X Q P z b _ hκ hR) (cwV 0 htg (gwV wq_319 wq_320 wq_321 wq_1 wq_322) rfl rfl rfl (by decide +kernel) ⟨Nat.le_of_ble_eq_true rfl, Nat.le_of_ble_eq_true rfl⟩) (wrK_preV hK hP hD hC hS hA 0 10 rfl rfl) rfl rfl hl.1 rfl (lv_room (Nat.le_of_ble_eq_true rfl)) dL_isWhole_1 ⟨by show _ ≤ 1470; omega, by show _ ≤ 8820; omega⟩) (fun r1 b1 H locs hw1 hP hD hS => ?_)
  have hP : va_P dg vwCl (brkU ck ka ad ra b1) H := hP
  have hD : va_D A (brkU ck ka ad ra b1) := hD
  obtain ⟨rfl, hR⟩ := hw1
  refine lv_istore (lv' := [(4, .int (zI (S 0 0))), (0, .ref ((ad 7) 0)), (1, .ref (ka 4)), (2, .int (zI k)), (3, .int (zI w))]) hx hb dL_isWhole_4 hl (by decide) rfl (fun ls hl => ?_)
  refine x_iconst hx hb dL_isWhole_6 ?_
  refine lv_istore (lv' := [(5, .int (zI 0)), (4, .int (zI (S 0 0))), (0, .ref ((ad 7) 0)), (1, .ref (ka 4)), (2, .int (zI k)), (3, .int (zI w))]) hx hb dL_isWhole_7 hl (by decide) rfl (fun ls hl => ?_)
  refine x_iconst hx hb dL_isWhole_9 ?_
  refine lv_istore (lv' := [(6, .int (zI 0)), (5, .int (zI 0)), (4, .int (zI (S 0 0))), (0, .ref ((ad 7) 0)), (1, .ref (ka 4)), (2, .int (zI k)), (3, .int (zI w))]) hx hb dL_isWhole_10 hl (by decide) rfl (fun ls hl => ?_)
  refine x_iconst hx hb dL_isWhole_12 ?_
  refine lv_istore (lv' := [(7, .int (zI 0)), (6, .int (zI 0)), (5, .int (zI 0)), (4, .int (zI (S 0 0))), (0, .ref ((ad 7) 0)), (1, .ref (ka 4)), (2, .int (zI k)), (3, .int (zI w))]) hx hb dL_isWhole_13 hl (by decide) rfl (fun ls hl => ?_)
  refine x_iconst hx hb dL_isWhole_15 ?_
  refine lv_istore (lv' := [(8, .int (zI 0)), (7, .int (zI 0)), (6, .int (zI 0)), (5, .int (zI 0)), (4, .int (zI (S 0 0))), (0, .ref ((ad 7) 0)), (1, .ref (ka 4)), (2, .int (zI k)), (3, .int (zI w))]) hx hb dL_isWhole_16 hl (by decide) rfl (fun ls hl => ?_)
  refine x_iconst hx hb dL_isWhole_18 ?_
  refine lv_istore (lv' := [(9, .int (zI 0)), (8, .int (zI 0)), (7, .int (zI 0)), (6, .int (zI 0)), (5, .int (zI 0)), (4, .int (zI (S 0 0))), (0, .ref ((ad 7) 0)), (1, .ref (ka 4)), (2, .int (zI k)), (3, .int (zI w))]) hx hb dL_isWhole_19 hl (by decide) rfl (fun ls hl => ?_)
  refine x_loopN (ι := BU × Int × Int × Int × Int × Int) (fun v => (0 ≤ v.2.2.2.2.2 ∧ v.2.2.2.2.2 ≤ S 0 0) ∧ v.2.1 = sumZ (fun o => bI (quietB S o)) v.2.2.2.2.2.toNat ∧ v.2.2.1 = sumZ (fun o => bI (S 4 o ≠ 0)) v.2.2.2.2.2.toNat ∧ v.2.2.2.1 = sumZ (rent S) v.2.2.2.2.2.toNat ∧ v.2.2.2.2.1 = sumZ (S 5) v.2.2.2.2.2.toNat ∧ RO S X Q P z v.1) (fun v => (S 0 0 - v.2.2.2.2.2).toNat) (fun v => [(0, .ref ((ad 7) 0)), (1, .ref (ka 4)), (2, .int (zI k)), (3, .int (zI w)), (4, .int (zI (S 0 0))), (5, .int (zI v.2.1)), (6, .int (zI v.2.2.1)), (7, .int (zI v.2.2.2.1)), (8, .int (zI v.2.2.2.2.1)), (9, .int (zI v.2.2.2.2.2))]) (fun v => brkU ck ka ad ra v.1) (fun v => 0 + 44 * (v.2.2.2.2.2).toNat) (fun v => 0 + 264 * (v.2.2.2.2.2).toNat) (b1, 0, 0, 0, 0, 0) (show (0 ≤ (0 : Int) ∧ (0 : Int) ≤ S 0 0) ∧ (0 : Int) = sumZ (fun o => bI (quietB S o)) (0 : Int).toNat ∧ (0 : Int) = sumZ (fun o => bI (S 4 o ≠ 0)) (0 : Int).toNat ∧ (0 : Int) = sumZ (rent S) (0 : Int).toNat ∧ (0 : Int) = sumZ (S 5) (0 : Int).toNat ∧ RO S X Q P z b1 from ⟨by omega, rfl, rfl, rfl, rfl, hR⟩) (lv_sub hl [6, 7, 8, 9, 5, 4, 3, 2, 1, 0] rfl) hP hD hS (by show _ ≤ 0 + 44 * ((0 : Int)).toNat; omega) (by show _ ≤ 0 + 264 * ((0 : Int)).toNat; omega) ?_
  intro v hv ih_21 ls H locs hl hP hD hS
  obtain ⟨b, q, lt, rn, dp, i⟩ := v
  have hl : lv_has ls 17 [(0, .ref ((ad 7) 0)), (1, .ref (ka 4)), (2, .int (zI k)), (3, .int (zI w)), (4, .int (zI (S 0 0))), (5, .int (zI q)), (6, .int (zI lt)), (7, .int (zI rn)), (8, .int (zI dp)), (9, .int (zI i))] := hl
  have hv : (0 ≤ i ∧ i ≤ S 0 0) ∧ q = sumZ (fun o => bI (quietB S o)) i.toNat ∧ lt = sumZ (fun o => bI (S 4 o ≠ 0)) i.toNat ∧ rn = sumZ (rent S) i.toNat ∧ dp = sumZ (S 5) i.toNat ∧ RO S X Q P z b := hv
  have hP : va_P dg vwCl (brkU ck ka ad ra b) H := hP
  have hD : va_D A (brkU ck ka ad ra b) := hD
  obtain ⟨hi, hq9, hlt9, hrn9, hdp9, hR⟩ := hv
  refine W.as (k' := 0 + 44 * (i).toNat) (n' := 0 + 264 * (i).toNat) rfl rfl ?_
  refine lv_iload hx hb dL_isWhole_21 (lv_at hl 9 rfl) ?_
  refine lv_iload hx hb dL_isWhole_23 (lv_at hl 4 rfl) ?_
  refine x_icmp_ge (tgt := 186) hx hb dL_isWhole_25 (by decide) (by omega) (by omega) (fun c25 => ?_) (fun c25 => ?_)
  · have hie : i = S 0 0 := by omega
    rw [hie] at hq9 hlt9 hrn9 hdp9
    refine lv_aload_n hx hb dL_isWhole_186 rfl (lv_at hl 0 rfl) ?_
    refine x_calliU hP hD hS hA (va_runV (As := []) (rest := []) ⟨hx, hb, hml, hown, htg⟩ (g_brokerCoins l dg ck ka ad ra S X Q P z b _ hκ hR) (cwV 0 htg (gwV wq_327 wq_328 wq_329 wq_1 wq_330) rfl rfl rfl (by decide +kernel) ⟨Nat.le_of_ble_eq_true rfl, Nat.le_of_ble_eq_true rfl⟩) (wrK_preV hK hP hD hC hS hA 0 10 rfl rfl) rfl rfl hl.1 rfl (lv_room (Nat.le_of_ble_eq_true rfl)) dL_isWhole_187 ⟨by show _ ≤ 1470; omega, by show _ ≤ 8820; omega⟩) (fun r187 b187 H locs hw187 hP hD hS => ?_)
    have hP : va_P dg vwCl (brkU ck ka ad ra b187) H := hP
    have hD : va_D A (brkU ck ka ad ra b187) := hD
    obtain ⟨rfl, hR⟩ := hw187
    refine lv_iload hx hb dL_isWhole_190 (lv_at hl 8 rfl) ?_
    refine x_iadd hx hb dL_isWhole_192 ?_
    refine x_top _ (fun v193 e_v193 => ?_)
    refine lv_istore (lv' := [(9, .int (zI v193)), (0, .ref ((ad 7) 0)), (1, .ref (ka 4)), (2, .int (zI k)), (3, .int (zI w)), (4, .int (zI (S 0 0))), (5, .int (zI q)), (6, .int (zI lt)), (7, .int (zI rn)), (8, .int (zI dp))]) hx hb dL_isWhole_193 hl (by decide) rfl (fun ls hl => ?_)
    refine x_iconst hx hb dL_isWhole_195 ?_
    refine lv_istore (lv' := [(10, .int (zI 0)), (9, .int (zI v193)), (0, .ref ((ad 7) 0)), (1, .ref (ka 4)), (2, .int (zI k)), (3, .int (zI w)), (4, .int (zI (S 0 0))), (5, .int (zI q)), (6, .int (zI lt)), (7, .int (zI rn)), (8, .int (zI dp))]) hx hb dL_isWhole_196 hl (by decide) rfl (fun ls hl => ?_)
    refine x_iconst hx hb dL_isWhole_198 ?_
    refine lv_istore (lv' := [(11, .int (zI 0)), (10, .int (zI 0)), (9, .int (zI v193)), (0, .ref ((ad 7) 0)), (1, .ref (ka 4)), (2, .int (zI k)), (3, .int (zI w)), (4, .int (zI (S 0 0))), (5, .int (zI q)), (6, .int (zI lt)), (7, .int (zI rn)), (8, .int (zI dp))]) hx hb dL_isWhole_199 hl (by decide) rfl (fun ls hl => ?_)
    refine x_loopN (ι := BU × Int × Int × Int) (fun v => (0 ≤ v.2.2.2 ∧ v.2.2.2 ≤ S 0 2) ∧ v.2.1 = S 0 5 + dp + sumZ (S 11) v.2.2.2.toNat ∧ v.2.2.1 = sumZ (S 12) v.2.2.2.toNat ∧ RO S X Q P z v.1) (fun v => (S 0 2 - v.2.2.2).toNat) (fun v => [(0, .ref ((ad 7) 0)), (1, .ref (ka 4)), (2, .int (zI k)), (3, .int (zI w)), (4, .int (zI (S 0 0))), (5, .int (zI q)), (6, .int (zI lt)), (7, .int (zI rn)), (8, .int (zI dp)), (9, .int (zI v.2.1)), (10, .int (zI v.2.2.1)), (11, .int (zI v.2.2.2))]) (fun v => brkU ck ka ad ra v.1) (fun v => 440 + 124 * (v.2.2.2).toNat) (fun v => 2640 + 744 * (v.2.2.2).toNat) (b187, v193, 0, 0) (show (0 ≤ (0 : Int) ∧ (0 : Int) ≤ S 0 2) ∧ v193 = S 0 5 + dp + sumZ (S 11) (0 : Int).toNat ∧ (0 : Int) = sumZ (S 12) (0 : Int).toNat ∧ RO S X Q P z b187 from ⟨by omega, by rw [e_v193]; exact (Int.add_zero _).symm, rfl, hR⟩) (lv_sub hl [3, 4, 5, 6, 7, 8, 9, 10, 11, 2, 1, 0] rfl) hP hD hS (by show _ ≤ 440 + 124 * ((0 : Int)).toNat; omega) (by show _ ≤ 2640 + 744 * ((0 : Int)).toNat; omega) ?_
    intro v hv ih_201 ls H locs hl hP hD hS
    obtain ⟨b, co, df, t⟩ := v
    have hl : lv_has ls 17 [(0, .ref ((ad 7) 0)), (1, .ref (ka 4)), (2, .int (zI k)), (3, .int (zI w)), (4, .int (zI (S 0 0))), (5, .int (zI q)), (6, .int (zI lt)), (7, .int (zI rn)), (8, .int (zI dp)), (9, .int (zI co)), (10, .int (zI df)), (11, .int (zI t))] := hl
    have hv : (0 ≤ t ∧ t ≤ S 0 2) ∧ co = S 0 5 + dp + sumZ (S 11) t.toNat ∧ df = sumZ (S 12) t.toNat ∧ RO S X Q P z b := hv
    have hP : va_P dg vwCl (brkU ck ka ad ra b) H := hP
    have hD : va_D A (brkU ck ka ad ra b) := hD
    obtain ⟨ht, hco9, hdf9, hR⟩ := hv
    refine W.as (k' := 440 + 124 * (t).toNat) (n' := 2640 + 744 * (t).toNat) rfl rfl ?_
    refine lv_iload hx hb dL_isWhole_201 (lv_at hl 11 rfl) ?_
    refine lv_aload_n hx hb dL_isWhole_203 rfl (lv_at hl 0 rfl) ?_
    refine x_calliU hP hD hS hA (va_runV (As := []) (rest := [.int (zI t)]) ⟨hx, hb, hml, hown, htg⟩ (g_tenantCount l dg ck ka ad ra S X Q P z b _ hκ hR) (cwV 0 htg (gwV wq_323 wq_324 wq_325 wq_1 wq_326) rfl rfl rfl (by decide +kernel) ⟨Nat.le_of_ble_eq_true rfl, Nat.le_of_ble_eq_true rfl⟩) (wrK_preV hK hP hD hC hS hA 0 10 rfl rfl) rfl rfl hl.1 rfl (lv_room (Nat.le_of_ble_eq_true rfl)) dL_isWhole_204 ⟨by show _ ≤ 1470; omega, by show _ ≤ 8820; omega⟩) (fun r204 b204 H locs hw204 hP hD hS => ?_)
    have hP : va_P dg vwCl (brkU ck ka ad ra b204) H := hP
    have hD : va_D A (brkU ck ka ad ra b204) := hD
    obtain ⟨rfl, hR⟩ := hw204
    refine x_icmp_ge (tgt := 342) hx hb dL_isWhole_207 (by decide) (by omega) (by omega) (fun c207 => ?_) (fun c207 => ?_)
    · have hte : t = S 0 2 := by omega
      rw [hte] at hco9 hdf9
      refine lv_aload_n hx hb dL_isWhole_342 rfl (lv_at hl 1 rfl) ?_
      refine lv_iload_n hx hb dL_isWhole_343 rfl (lv_at hl 2 rfl) ?_
      refine x_iconst hx hb dL_isWhole_344 ?_
      refine x_iadd hx hb dL_isWhole_345 ?_
      refine x_bipush hx hb dL_isWhole_346 (by decide) ?_
      refine vp_callSi (W.runS (As := [.ref (ka 4), .int (zI (k + 3)), .int (zI 6)]) (rest := []) ⟨hx, hb, hml, hown, htg⟩ (lf_pick l dg ck ka (k + 3) 6 (by omega) (by omega)) (cwS 3 htg (gwS wq_331 wq_332 wq_0 wq_333) rfl rfl rfl (by decide +kernel) ⟨Nat.le_of_ble_eq_true rfl, Nat.le_of_ble_eq_true rfl⟩) (rdK_preS hK va_P_nil hC hS) rfl rfl hl.1 rfl (lv_room (Nat.le_of_ble_eq_true rfl)) dL_isWhole_348 ⟨by show _ ≤ 1470; omega, by show _ ≤ 8820; omega⟩) (fun r348 hr348 => ?_)
      obtain ⟨k348, rfl, hk348⟩ := hr348
      refine lv_istore (lv' := [(11, .int (zI k348)), (0, .ref ((ad 7) 0)), (1, .ref (ka 4)), (2, .int (zI k)), (3, .int (zI w)), (4, .int (zI (S 0 0))), (5, .int (zI q)), (6, .int (zI lt)), (7, .int (zI rn)), (8, .int (zI dp)), (9, .int (zI co)), (10, .int (zI df))]) hx hb dL_isWhole_351 hl (by decide) rfl (fun ls hl => ?_)
      refine x_iconst hx hb dL_isWhole_353 ?_
      refine lv_istore (lv' := [(12, .int (zI 0)), (11, .int (zI k348)), (0, .ref ((ad 7) 0)), (1, .ref (ka 4)), (2, .int (zI k)), (3, .int (zI w)), (4, .int (zI (S 0 0))), (5, .int (zI q)), (6, .int (zI lt)), (7, .int (zI rn)), (8, .int (zI dp)), (9, .int (zI co)), (10, .int (zI df))]) hx hb dL_isWhole_354 hl (by decide) rfl (fun ls hl => ?_)
      refine x_loopN (ι := BU × Int) (fun v => (0 ≤ v.2 ∧ v.2 ≤ 6) ∧ RO S X Q P z v.1) (fun v => (6 - v.2).toNat) (fun v => [(0, .ref ((ad 7) 0)), (1, .ref (ka 4)), (2, .int (zI k)), (3, .int (zI w)), (4, .int (zI (S 0 0))), (5, .int (zI q)), (6, .int (zI lt)), (7, .int (zI rn)), (8, .int (zI dp)), (9, .int (zI co)), (10, .int (zI df)), (11, .int (zI k348)), (12, .int (zI v.2))]) (fun v => brkU ck ka ad ra v.1) (fun v => 1432 + 3 * (v.2).toNat) (fun v => 8592 + 18 * (v.2).toNat) (b204, 0) (show (0 ≤ (0 : Int) ∧ (0 : Int) ≤ 6) ∧ RO S X Q P z b204 from ⟨by omega, hR⟩) (lv_sub hl [2, 3, 4, 5, 6, 7, 8, 9, 10, 11, 12, 1, 0] rfl) hP hD hS (by show _ ≤ 1432 + 3 * ((0 : Int)).toNat; omega) (by show _ ≤ 8592 + 18 * ((0 : Int)).toNat; omega) ?_
      intro v hv ih_356 ls H locs hl hP hD hS
      obtain ⟨b, cx⟩ := v
      have hl : lv_has ls 17 [(0, .ref ((ad 7) 0)), (1, .ref (ka 4)), (2, .int (zI k)), (3, .int (zI w)), (4, .int (zI (S 0 0))), (5, .int (zI q)), (6, .int (zI lt)), (7, .int (zI rn)), (8, .int (zI dp)), (9, .int (zI co)), (10, .int (zI df)), (11, .int (zI k348)), (12, .int (zI cx))] := hl
      have hv : (0 ≤ cx ∧ cx ≤ 6) ∧ RO S X Q P z b := hv
      have hP : va_P dg vwCl (brkU ck ka ad ra b) H := hP
      have hD : va_D A (brkU ck ka ad ra b) := hD
      obtain ⟨hcx, hR⟩ := hv
      refine W.as (k' := 1432 + 3 * (cx).toNat) (n' := 8592 + 18 * (cx).toNat) rfl rfl ?_
      refine lv_iload hx hb dL_isWhole_356 (lv_at hl 12 rfl) ?_
      refine x_bipush hx hb dL_isWhole_358 (by decide) ?_
      refine x_icmp_ge (tgt := 401) hx hb dL_isWhole_360 (by decide) (by omega) (by omega) (fun c360 => ?_) (fun c360 => ?_)
      · refine x_iconst hx hb dL_isWhole_401 ?_
        refine lv_aload_n hx hb dL_isWhole_402 rfl (lv_at hl 1 rfl) ?_
        refine lv_iload_n hx hb dL_isWhole_403 rfl (lv_at hl 2 rfl) ?_
        refine x_iconst hx hb dL_isWhole_404 ?_
        refine x_iadd hx hb dL_isWhole_405 ?_
        refine x_bipush hx hb dL_isWhole_406 (by decide) ?_
        refine vp_callSi (W.runS (As := [.ref (ka 4), .int (zI (k + 4)), .int (zI 12)]) (rest := [.int (zI 1)]) ⟨hx, hb, hml, hown, htg⟩ (lf_pick l dg ck ka (k + 4) 12 (by omega) (by omega)) (cwS 3 htg (gwS wq_331 wq_332 wq_0 wq_333) rfl rfl rfl (by decide +kernel) ⟨Nat.le_of_ble_eq_true rfl, Nat.le_of_ble_eq_true rfl⟩) (rdK_preS hK va_P_nil hC hS) rfl rfl hl.1 rfl (lv_room (Nat.le_of_ble_eq_true rfl)) dL_isWhole_408 ⟨by show _ ≤ 1470; omega, by show _ ≤ 8820; omega⟩) (fun r408 hr408 => ?_)
        obtain ⟨k408, rfl, hk408⟩ := hr408
        refine x_iadd hx hb dL_isWhole_411 ?_
        refine x_top _ (fun v412 e_v412 => ?_)
        refine lv_istore (lv' := [(12, .int (zI v412)), (0, .ref ((ad 7) 0)), (1, .ref (ka 4)), (2, .int (zI k)), (3, .int (zI w)), (4, .int (zI (S 0 0))), (5, .int (zI q)), (6, .int (zI lt)), (7, .int (zI rn)), (8, .int (zI dp)), (9, .int (zI co)), (10, .int (zI df)), (11, .int (zI k348))]) hx hb dL_isWhole_412 hl (by decide) rfl (fun ls hl => ?_)
        refine x_midN (ι := BU) (nL := 17) (D := dg) (cl := vwCl) (A := A) (H0 := s.heap) (fun v => RO S X Q P z v) (fun v => [(0, .ref ((ad 7) 0)), (1, .ref (ka 4)), (2, .int (zI k)), (3, .int (zI w)), (4, .int (zI (S 0 0))), (5, .int (zI q)), (6, .int (zI lt)), (7, .int (zI rn)), (8, .int (zI dp)), (9, .int (zI co)), (10, .int (zI df))]) (fun v => [.int (zI 1)]) (fun v => brkU ck ka ad ra v) 462 (1460) (8760) ?_ (fun mid_462 => ?_)
        · intro v hv ls H locs hl hP hD hS
          obtain ⟨b, rfl⟩ : ∃ z9 : BU, z9 = v := ⟨_, rfl⟩
          have hl : lv_has ls 17 [(0, .ref ((ad 7) 0)), (1, .ref (ka 4)), (2, .int (zI k)), (3, .int (zI w)), (4, .int (zI (S 0 0))), (5, .int (zI q)), (6, .int (zI lt)), (7, .int (zI rn)), (8, .int (zI dp)), (9, .int (zI co)), (10, .int (zI df))] := hl
          have hv : RO S X Q P z b := hv
          have hP : va_P dg vwCl (brkU ck ka ad ra b) H := hP
          have hD : va_D A (brkU ck ka ad ra b) := hD
          have hR := hv
          refine W.as (k' := 1460) (n' := 8760) rfl rfl ?_
          refine lv_istore (lv' := [(14, .int (zI 1)), (0, .ref ((ad 7) 0)), (1, .ref (ka 4)), (2, .int (zI k)), (3, .int (zI w)), (4, .int (zI (S 0 0))), (5, .int (zI q)), (6, .int (zI lt)), (7, .int (zI rn)), (8, .int (zI dp)), (9, .int (zI co)), (10, .int (zI df))]) hx hb dL_isWhole_462 hl (by decide) rfl (fun ls hl => ?_)
          rcases Classical.em (S 0 0 = 0) with h00 | h00
          · refine lv_aload_n hx hb dL_isWhole_464 rfl (lv_at hl 1 rfl) ?_
            refine x_calldU hP hD hS hA (vx_runSW (As := [.ref ((ad 7) 0)]) (rest := []) ⟨hx, hb, hml, hown, htg⟩ (w_meanRent l dg ck ka ad ra S X Q P z b  _ hκ hR   hst) (vx_cwSW 1 htg (gwSW wq_1469 wq_1470 wq_0 wqL_meanRent) rfl rfl rfl (by decide +kernel) ⟨Nat.le_of_ble_eq_true rfl, Nat.le_of_ble_eq_true rfl⟩) (wrK_preS hK hP hD hC hS hA) rfl rfl hl.1 rfl (lv_room (Nat.le_of_ble_eq_true rfl)) dL_isWhole_465 ⟨by show _ ≤ 1470; omega, by show _ ≤ 8820; omega⟩) (fun r465 b465 H locs hw465 hP hD hS => ?_)
            have hP : va_P dg vwCl (brkU ck ka ad ra b465) H := hP
            have hD : va_D A (brkU ck ka ad ra b465) := hD
            obtain ⟨rfl, hR⟩ := hw465
            refine lv_iload hx hb dL_isWhole_468 (lv_at hl 5 rfl) ?_
            refine x_if_ne (tgt := 479) hx hb dL_isWhole_470 (by decide) (by omega) (fun c470 => False.elim (by omega)) (fun c470 => ?_)
            refine lv_ldc2d hx hb hown (htg _ wq_1495) dL_isWhole_473 ?_
            refine lv_goto (tgt := 486) hx hb dL_isWhole_476 (by decide) ?_
            refine lv_dcmp hx hb dL_isWhole_486 ?_
            refine W.eq (g2 := F0 m 487 ls [.int (zI 0)]) (congrArg (fun v9 => F0 m 487 ls (.int v9 :: [])) (show Op.cmpValue (FP.dcmp (vMean S 13858279740860792832) (13858279740860792832 : UInt64)) CmpOp.l = 0 by rw [show vMean S 13858279740860792832 = 13858279740860792832 from if_pos h00]; exact d74_c)) ?_
            refine x_if_ne (tgt := 519) hx hb dL_isWhole_487 (by decide) (by omega) (fun c487 => absurd c487 (by decide)) (fun c487 => ?_)
            refine lv_aload_n hx hb dL_isWhole_490 rfl (lv_at hl 1 rfl) ?_
            refine x_callfU hP hD hS hA (vx_runSW (As := [.ref ((ad 7) 0)]) (rest := []) ⟨hx, hb, hml, hown, htg⟩ (w_letShare l dg ck ka ad ra S X Q P z b465  _ hκ hR   hst) (vx_cwSW 1 htg (gwSW wq_1496 wq_1497 wq_0 wqL_letShare) rfl rfl rfl (by decide +kernel) ⟨Nat.le_of_ble_eq_true rfl, Nat.le_of_ble_eq_true rfl⟩) (wrK_preS hK hP hD hC hS hA) rfl rfl hl.1 rfl (lv_room (Nat.le_of_ble_eq_true rfl)) dL_isWhole_491 ⟨by show _ ≤ 1470; omega, by show _ ≤ 8820; omega⟩) (fun r491 b491 H locs hw491 hP hD hS => ?_)
            have hP : va_P dg vwCl (brkU ck ka ad ra b491) H := hP
            have hD : va_D A (brkU ck ka ad ra b491) := hD
            obtain ⟨rfl, hR⟩ := hw491
            refine lv_iload hx hb dL_isWhole_494 (lv_at hl 5 rfl) ?_
            refine x_if_ne (tgt := 504) hx hb dL_isWhole_496 (by decide) (by omega) (fun c496 => False.elim (by omega)) (fun c496 => ?_)
            refine lv_ldcf hx hb hown (htg _ wq_1503) dL_isWhole_499 ?_
            refine lv_goto (tgt := 511) hx hb dL_isWhole_501 (by decide) ?_
            refine lv_fcmp hx hb dL_isWhole_511 ?_
            refine W.eq (g2 := F0 m 512 ls [.int (zI 0)]) (congrArg (fun v9 => F0 m 512 ls (.int v9 :: [])) (show Op.cmpValue (FP.fcmp (vShare S 3264479232) (3264479232 : UInt32)) CmpOp.l = 0 by rw [show vShare S 3264479232 = 3264479232 from if_pos h00]; exact f74_c)) ?_
            refine x_if_ne (tgt := 519) hx hb dL_isWhole_512 (by decide) (by omega) (fun c512 => absurd c512 (by decide)) (fun c512 => ?_)
            refine x_iconst hx hb dL_isWhole_515 ?_
            refine lv_goto (tgt := 520) hx hb dL_isWhole_516 (by decide) ?_
            refine lv_istore (lv' := [(15, .int (zI 1)), (14, .int (zI 1)), (0, .ref ((ad 7) 0)), (1, .ref (ka 4)), (2, .int (zI k)), (3, .int (zI w)), (4, .int (zI (S 0 0))), (5, .int (zI q)), (6, .int (zI lt)), (7, .int (zI rn)), (8, .int (zI dp)), (9, .int (zI co)), (10, .int (zI df))]) hx hb dL_isWhole_520 hl (by decide) rfl (fun ls hl => ?_)
            refine lv_aload_n hx hb dL_isWhole_522 rfl (lv_at hl 2 rfl) ?_
            refine x_calliU hP hD hS hA (va_runV (As := []) (rest := []) ⟨hx, hb, hml, hown, htg⟩ (g_quietCount l dg ck ka ad ra S X Q P z b491 _ hκ hR) (cwV 0 htg (gwV wq_1504 wq_1505 wq_1506 wq_1 wq_1507) rfl rfl rfl (by decide +kernel) ⟨Nat.le_of_ble_eq_true rfl, Nat.le_of_ble_eq_true rfl⟩) (wrK_preV hK hP hD hC hS hA 0 10 rfl rfl) rfl rfl hl.1 rfl (lv_room (Nat.le_of_ble_eq_true rfl)) dL_isWhole_523 ⟨by show _ ≤ 1470; omega, by show _ ≤ 8820; omega⟩) (fun r523 b523 H locs hw523 hP hD hS => ?_)
            have hP : va_P dg vwCl (brkU ck ka ad ra b523) H := hP
            have hD : va_D A (brkU ck ka ad ra b523) := hD
            obtain ⟨rfl, hR⟩ := hw523
            refine lv_iload hx hb dL_isWhole_526 (lv_at hl 7 rfl) ?_
            refine x_icmp_ne (tgt := 595) hx hb dL_isWhole_528 (by decide) (by omega) (by omega) (fun c528 => False.elim (by omega)) (fun c528 => ?_)
            refine lv_aload_n hx hb dL_isWhole_531 rfl (lv_at hl 2 rfl) ?_
            refine x_calliU hP hD hS hA (va_runV (As := []) (rest := []) ⟨hx, hb, hml, hown, htg⟩ (g_depositTotal l dg ck ka ad ra S X Q P z b523 _ hκ hR) (cwV 0 htg (gwV wq_1508 wq_1509 wq_1510 wq_1 wq_1511) rfl rfl rfl (by decide +kernel) ⟨Nat.le_of_ble_eq_true rfl, Nat.le_of_ble_eq_true rfl⟩) (wrK_preV hK hP hD hC hS hA 0 10 rfl rfl) rfl rfl hl.1 rfl (lv_room (Nat.le_of_ble_eq_true rfl)) dL_isWhole_532 ⟨by show _ ≤ 1470; omega, by show _ ≤ 8820; omega⟩) (fun r532 b532 H locs hw532 hP hD hS => ?_)
            have hP : va_P dg vwCl (brkU ck ka ad ra b532) H := hP
            have hD : va_D A (brkU ck ka ad ra b532) := hD
            obtain ⟨rfl, hR⟩ := hw532
            refine lv_iload hx hb dL_isWhole_535 (lv_at hl 10 rfl) ?_
            refine x_icmp_ne (tgt := 595) hx hb dL_isWhole_537 (by decide) (by omega) (by omega) (fun c537 => False.elim (by omega)) (fun c537 => ?_)
            refine lv_aload_n hx hb dL_isWhole_540 rfl (lv_at hl 2 rfl) ?_
            refine x_calliU hP hD hS hA (va_runV (As := []) (rest := []) ⟨hx, hb, hml, hown, htg⟩ (g_allCoins l dg ck ka ad ra S X Q P z b532 _ hκ hR) (cwV 0 htg (gwV wq_1516 wq_1517 wq_1518 wq_1 wq_1519) rfl rfl rfl (by decide +kernel) ⟨Nat.le_of_ble_eq_true rfl, Nat.le_of_ble_eq_true rfl⟩) (wrK_preV hK hP hD hC hS hA 0 10 rfl rfl) rfl rfl hl.1 rfl (lv_room (Nat.le_of_ble_eq_true rfl)) dL_isWhole_541 ⟨by show _ ≤ 1470; omega, by show _ ≤ 8820; omega⟩) (fun r541 b541 H locs hw541 hP hD hS => ?_)
            have hP : va_P dg vwCl (brkU ck ka ad ra b541) H := hP
            have hD : va_D A (brkU ck ka ad ra b541) := hD
            obtain ⟨rfl, hR⟩ := hw541
            refine lv_iload hx hb dL_isWhole_544 (lv_at hl 11 rfl) ?_
            refine x_icmp_ne (tgt := 595) hx hb dL_isWhole_546 (by decide) (by omega) (by omega) (fun c546 => False.elim (by omega)) (fun c546 => ?_)
            refine lv_aload_n hx hb dL_isWhole_549 rfl (lv_at hl 2 rfl) ?_
            refine x_calliU hP hD hS hA (va_runV (As := []) (rest := []) ⟨hx, hb, hml, hown, htg⟩ (g_allCoinsGiven l dg ck ka ad ra S X Q P z b541 _ hκ hR) (cwV 0 htg (gwV wq_1190 wq_1191 wq_1192 wq_1 wq_1193) rfl rfl rfl (by decide +kernel) ⟨Nat.le_of_ble_eq_true rfl, Nat.le_of_ble_eq_true rfl⟩) (wrK_preV hK hP hD hC hS hA 0 10 rfl rfl) rfl rfl hl.1 rfl (lv_room (Nat.le_of_ble_eq_true rfl)) dL_isWhole_550 ⟨by show _ ≤ 1470; omega, by show _ ≤ 8820; omega⟩) (fun r550 b550 H locs hw550 hP hD hS => ?_)
            have hP : va_P dg vwCl (brkU ck ka ad ra b550) H := hP
            have hD : va_D A (brkU ck ka ad ra b550) := hD
            obtain ⟨rfl, hR⟩ := hw550
            refine lv_iload hx hb dL_isWhole_553 (lv_at hl 11 rfl) ?_
            refine x_icmp_ne (tgt := 595) hx hb dL_isWhole_555 (by decide) (by omega) (by omega) (fun c555 => False.elim (by omega)) (fun c555 => ?_)
            refine lv_aload_n hx hb dL_isWhole_558 rfl (lv_at hl 2 rfl) ?_
            refine x_calliU hP hD hS hA (va_runV (As := []) (rest := []) ⟨hx, hb, hml, hown, htg⟩ (g_defaultedLeases l dg ck ka ad ra S X Q P z b550 _ hκ hR) (cwV 0 htg (gwV wq_633 wq_634 wq_635 wq_1 wq_636) rfl rfl rfl (by decide +kernel) ⟨Nat.le_of_ble_eq_true rfl, Nat.le_of_ble_eq_true rfl⟩) (wrK_preV hK hP hD hC hS hA 0 10 rfl rfl) rfl rfl hl.1 rfl (lv_room (Nat.le_of_ble_eq_true rfl)) dL_isWhole_559 ⟨by show _ ≤ 1470; omega, by show _ ≤ 8820; omega⟩) (fun r559 b559 H locs hw559 hP hD hS => ?_)
            have hP : va_P dg vwCl (brkU ck ka ad ra b559) H := hP
            have hD : va_D A (brkU ck ka ad ra b559) := hD
            obtain ⟨rfl, hR⟩ := hw559
            refine lv_iload hx hb dL_isWhole_562 (lv_at hl 12 rfl) ?_
            refine x_icmp_ne (tgt := 595) hx hb dL_isWhole_564 (by decide) (by omega) (by omega) (fun c564 => False.elim (by omega)) (fun c564 => ?_)
            refine lv_iload hx hb dL_isWhole_567 (lv_at hl 6 rfl) ?_
            refine x_bipush hx hb dL_isWhole_569 (by decide) ?_
            refine x_icmp_gt (tgt := 595) hx hb dL_isWhole_571 (by decide) (by omega) (by omega) (fun c571 => False.elim (by omega)) (fun c571 => ?_)
            refine lv_aload_n hx hb dL_isWhole_574 rfl (lv_at hl 2 rfl) ?_
            refine x_calliU hP hD hS hA (va_runV (As := []) (rest := []) ⟨hx, hb, hml, hown, htg⟩ (g_tenantCount l dg ck ka ad ra S X Q P z b559 _ hκ hR) (cwV 0 htg (gwV wq_323 wq_324 wq_325 wq_1 wq_326) rfl rfl rfl (by decide +kernel) ⟨Nat.le_of_ble_eq_true rfl, Nat.le_of_ble_eq_true rfl⟩) (wrK_preV hK hP hD hC hS hA 0 10 rfl rfl) rfl rfl hl.1 rfl (lv_room (Nat.le_of_ble_eq_true rfl)) dL_isWhole_575 ⟨by show _ ≤ 1470; omega, by show _ ≤ 8820; omega⟩) (fun r575 b575 H locs hw575 hP hD hS => ?_)
            have hP : va_P dg vwCl (brkU ck ka ad ra b575) H := hP
            have hD : va_D A (brkU ck ka ad ra b575) := hD
            obtain ⟨rfl, hR⟩ := hw575
            refine x_bipush hx hb dL_isWhole_578 (by decide) ?_
            refine x_icmp_gt (tgt := 595) hx hb dL_isWhole_580 (by decide) (by omega) (by omega) (fun c580 => False.elim (by omega)) (fun c580 => ?_)
            refine lv_aload_n hx hb dL_isWhole_583 rfl (lv_at hl 2 rfl) ?_
            refine x_calliU hP hD hS hA (va_runV (As := []) (rest := []) ⟨hx, hb, hml, hown, htg⟩ (g_fountainCount l dg ck ka ad ra S X Q P z b575 _ hκ hR) (cwV 0 htg (gwV wq_648 wq_649 wq_650 wq_1 wq_651) rfl rfl rfl (by decide +kernel) ⟨Nat.le_of_ble_eq_true rfl, Nat.le_of_ble_eq_true rfl⟩) (wrK_preV hK hP hD hC hS hA 0 10 rfl rfl) rfl rfl hl.1 rfl (lv_room (Nat.le_of_ble_eq_true rfl)) dL_isWhole_584 ⟨by show _ ≤ 1470; omega, by show _ ≤ 8820; omega⟩) (fun r584 b584 H locs hw584 hP hD hS => ?_)
            have hP : va_P dg vwCl (brkU ck ka ad ra b584) H := hP
            have hD : va_D A (brkU ck ka ad ra b584) := hD
            obtain ⟨rfl, hR⟩ := hw584
            refine x_iconst hx hb dL_isWhole_587 ?_
            refine x_icmp_gt (tgt := 595) hx hb dL_isWhole_588 (by decide) (by omega) (by omega) (fun c588 => False.elim (by omega)) (fun c588 => ?_)
            refine x_iconst hx hb dL_isWhole_591 ?_
            refine lv_goto (tgt := 596) hx hb dL_isWhole_592 (by decide) ?_
            refine lv_istore (lv' := [(16, .int (zI 1)), (15, .int (zI 1)), (14, .int (zI 1)), (0, .ref ((ad 7) 0)), (1, .ref (ka 4)), (2, .int (zI k)), (3, .int (zI w)), (4, .int (zI (S 0 0))), (5, .int (zI q)), (6, .int (zI lt)), (7, .int (zI rn)), (8, .int (zI dp)), (9, .int (zI co)), (10, .int (zI df))]) hx hb dL_isWhole_596 hl (by decide) rfl (fun ls hl => ?_)
            refine lv_iload hx hb dL_isWhole_598 (lv_at hl 2 rfl) ?_
            refine x_if_eq (tgt := 652) hx hb dL_isWhole_600 (by decide) (by omega) (fun c600 => absurd c600 (by decide)) (fun c600 => ?_)
            refine lv_iload hx hb dL_isWhole_603 (lv_at hl 1 rfl) ?_
            refine x_if_eq (tgt := 652) hx hb dL_isWhole_605 (by decide) (by omega) (fun c605 => absurd c605 (by decide)) (fun c605 => ?_)
            refine lv_iload hx hb dL_isWhole_608 (lv_at hl 0 rfl) ?_
            refine x_if_eq (tgt := 652) hx hb dL_isWhole_610 (by decide) (by omega) (fun c610 => absurd c610 (by decide)) (fun c610 => ?_)
            refine lv_aload_n hx hb dL_isWhole_613 rfl (lv_at hl 3 rfl) ?_
            refine lv_iload hx hb dL_isWhole_614 (lv_at hl 7 rfl) ?_
            refine x_calliU hP hD hS hA (vx_runSW (As := [.ref ((ad 7) 0), .int (zI (S 0 0))]) (rest := []) ⟨hx, hb, hml, hown, htg⟩ (w_benchByRent l dg ck ka ad ra S X Q P z b584 (S 0 0) _ hκ hR  (by omega) hst) (vx_cwSW 2 htg (gwSW wq_1379 wq_1380 wq_0 wqL_benchByRent) rfl rfl rfl (by decide +kernel) ⟨Nat.le_of_ble_eq_true rfl, Nat.le_of_ble_eq_true rfl⟩) (wrK_preS hK hP hD hC hS hA) rfl rfl hl.1 rfl (lv_room (Nat.le_of_ble_eq_true rfl)) dL_isWhole_616 ⟨by show _ ≤ 1470; omega, by show _ ≤ 8820; omega⟩) (fun r616 b616 H locs hw616 hP hD hS => ?_)
            have hP : va_P dg vwCl (brkU ck ka ad ra b616) H := hP
            have hD : va_D A (brkU ck ka ad ra b616) := hD
            obtain ⟨rfl, hR⟩ := hw616
            refine x_is (show (vByR S (S 0 0)) = (-75) from if_pos (bbR_p hI).2) ?_
            refine x_bipush hx hb dL_isWhole_619 (by decide) ?_
            refine x_icmp_ne (tgt := 652) hx hb dL_isWhole_621 (by decide) (by omega) (by omega) (fun c621 => absurd c621 (by decide)) (fun c621 => ?_)
            refine lv_aload_n hx hb dL_isWhole_624 rfl (lv_at hl 3 rfl) ?_
            refine lv_aload_n hx hb dL_isWhole_625 rfl (lv_at hl 3 rfl) ?_
            refine x_calliU hP hD hS hA (va_runV (As := []) (rest := [.ref ((ad 7) 0)]) ⟨hx, hb, hml, hown, htg⟩ (g_tenantCount l dg ck ka ad ra S X Q P z b616 _ hκ hR) (cwV 0 htg (gwV wq_323 wq_324 wq_325 wq_1 wq_326) rfl rfl rfl (by decide +kernel) ⟨Nat.le_of_ble_eq_true rfl, Nat.le_of_ble_eq_true rfl⟩) (wrK_preV hK hP hD hC hS hA 0 10 rfl rfl) rfl rfl hl.1 rfl (lv_room (Nat.le_of_ble_eq_true rfl)) dL_isWhole_626 ⟨by show _ ≤ 1470; omega, by show _ ≤ 8820; omega⟩) (fun r626 b626 H locs hw626 hP hD hS => ?_)
            have hP : va_P dg vwCl (brkU ck ka ad ra b626) H := hP
            have hD : va_D A (brkU ck ka ad ra b626) := hD
            obtain ⟨rfl, hR⟩ := hw626
            refine x_calliU hP hD hS hA (vx_runSW (As := [.ref ((ad 7) 0), .int (zI (S 0 2))]) (rest := []) ⟨hx, hb, hml, hown, htg⟩ (w_tenantByCoins l dg ck ka ad ra S X Q P z b626 (S 0 2) _ hκ hR  (by omega) hst) (vx_cwSW 2 htg (gwSW wq_1408 wq_1409 wq_0 wqL_tenantByCoins) rfl rfl rfl (by decide +kernel) ⟨Nat.le_of_ble_eq_true rfl, Nat.le_of_ble_eq_true rfl⟩) (wrK_preS hK hP hD hC hS hA) rfl rfl hl.1 rfl (lv_room (Nat.le_of_ble_eq_true rfl)) dL_isWhole_629 ⟨by show _ ≤ 1470; omega, by show _ ≤ 8820; omega⟩) (fun r629 b629 H locs hw629 hP hD hS => ?_)
            have hP : va_P dg vwCl (brkU ck ka ad ra b629) H := hP
            have hD : va_D A (brkU ck ka ad ra b629) := hD
            obtain ⟨rfl, hR⟩ := hw629
            refine x_is (show (vByC S (S 0 2)) = (-75) from if_pos (tbC_p hI).2) ?_
            refine x_bipush hx hb dL_isWhole_632 (by decide) ?_
            refine x_icmp_ne (tgt := 652) hx hb dL_isWhole_634 (by decide) (by omega) (by omega) (fun c634 => absurd c634 (by decide)) (fun c634 => ?_)
            refine lv_iload_n hx hb dL_isWhole_637 rfl (lv_at hl 6 rfl) ?_
            refine x_if_eq (tgt := 648) hx hb dL_isWhole_638 (by decide) (by omega) (fun c638 => ?_) (fun c638 => ?_)
            · refine x_iconst hx hb dL_isWhole_648 ?_
              refine lv_goto (tgt := 653) hx hb dL_isWhole_649 (by decide) ?_
              exact W.widen (k := 1470) (n := 8820) (by omega) (by omega) (W.zret (v := _) hx hb hr (by first | rfl | exact nar_z (by omega)) (fun t9 ht9 hW9 => ⟨⟨_, b629, rfl, ⟨rfl, hR⟩, by rw [ht9]; exact hP, by rw [hAe]; exact hD⟩, hS.F ht9⟩) hS.2.2 dL_isWhole_653)
            · refine lv_aload_n hx hb dL_isWhole_641 rfl (lv_at hl 3 rfl) ?_
              refine x_calliU hP hD hS hA (va_runV (As := []) (rest := []) ⟨hx, hb, hml, hown, htg⟩ (g_isConsistent l dg ck ka ad ra S X Q P z b629 _ hκ hR) (cwV 0 htg (gwV wq_1525 wq_1526 wq_1527 wq_1 wq_1528) rfl rfl rfl (by decide +kernel) ⟨Nat.le_of_ble_eq_true rfl, Nat.le_of_ble_eq_true rfl⟩) (wrK_preV hK hP hD hC hS hA 0 10 rfl rfl) rfl rfl hl.1 rfl (lv_room (Nat.le_of_ble_eq_true rfl)) dL_isWhole_642 ⟨by show _ ≤ 1470; omega, by show _ ≤ 8820; omega⟩) (fun r642 b642 H locs hw642 hP hD hS => ?_)
              have hP : va_P dg vwCl (brkU ck ka ad ra b642) H := hP
              have hD : va_D A (brkU ck ka ad ra b642) := hD
              obtain ⟨rfl, hR⟩ := hw642
              refine x_is (show (bI True) = 1 from rfl) ?_
              refine x_if_eq (tgt := 652) hx hb dL_isWhole_645 (by decide) (by omega) (fun c645 => absurd c645 (by decide)) (fun c645 => ?_)
              refine x_iconst hx hb dL_isWhole_648 ?_
              refine lv_goto (tgt := 653) hx hb dL_isWhole_649 (by decide) ?_
              exact W.widen (k := 1470) (n := 8820) (by omega) (by omega) (W.zret (v := _) hx hb hr (by first | rfl | exact nar_z (by omega)) (fun t9 ht9 hW9 => ⟨⟨_, b642, rfl, ⟨rfl, hR⟩, by rw [ht9]; exact hP, by rw [hAe]; exact hD⟩, hS.F ht9⟩) hS.2.2 dL_isWhole_653)
          · refine lv_aload_n hx hb dL_isWhole_464 rfl (lv_at hl 1 rfl) ?_
            refine x_calldU hP hD hS hA (vx_runSW (As := [.ref ((ad 7) 0)]) (rest := []) ⟨hx, hb, hml, hown, htg⟩ (w_meanRent l dg ck ka ad ra S X Q P z b  _ hκ hR   hst) (vx_cwSW 1 htg (gwSW wq_1469 wq_1470 wq_0 wqL_meanRent) rfl rfl rfl (by decide +kernel) ⟨Nat.le_of_ble_eq_true rfl, Nat.le_of_ble_eq_true rfl⟩) (wrK_preS hK hP hD hC hS hA) rfl rfl hl.1 rfl (lv_room (Nat.le_of_ble_eq_true rfl)) dL_isWhole_465 ⟨by show _ ≤ 1470; omega, by show _ ≤ 8820; omega⟩) (fun r465 b465 H locs hw465 hP hD hS => ?_)
            have hP : va_P dg vwCl (brkU ck ka ad ra b465) H := hP
            have hD : va_D A (brkU ck ka ad ra b465) := hD
            obtain ⟨rfl, hR⟩ := hw465
            refine lv_iload hx hb dL_isWhole_468 (lv_at hl 5 rfl) ?_
            refine x_if_ne (tgt := 479) hx hb dL_isWhole_470 (by decide) (by omega) (fun c470 => ?_) (fun c470 => False.elim (by omega))
            refine lv_iload hx hb dL_isWhole_479 (lv_at hl 8 rfl) ?_
            refine lv_i2d hx hb dL_isWhole_481 ?_
            refine lv_iload hx hb dL_isWhole_482 (lv_at hl 5 rfl) ?_
            refine lv_i2d hx hb dL_isWhole_484 ?_
            refine lv_ddiv hx hb dL_isWhole_485 (by rw [hrn9]; exact nnD (by omega) (by omega)) ?_
            refine lv_dcmp hx hb dL_isWhole_486 ?_
            refine W.eq (g2 := F0 m 487 ls [.int (zI 0)]) (congrArg (fun v9 => F0 m 487 ls (.int v9 :: [])) (show Op.cmpValue (FP.dcmp (vMean S 13858279740860792832) (FP.ddiv (FP.i2d (zI rn)) (FP.i2d (zI (S 0 0))))) CmpOp.l = 0 by rw [show vMean S 13858279740860792832 = mrD S from if_neg h00, show (FP.ddiv (FP.i2d (zI rn)) (FP.i2d (zI (S 0 0)))) = mrD S by rw [hrn9]; exact (if_neg h00).symm]; exact md_c hI)) ?_
            refine x_if_ne (tgt := 519) hx hb dL_isWhole_487 (by decide) (by omega) (fun c487 => absurd c487 (by decide)) (fun c487 => ?_)
            refine lv_aload_n hx hb dL_isWhole_490 rfl (lv_at hl 1 rfl) ?_
            refine x_callfU hP hD hS hA (vx_runSW (As := [.ref ((ad 7) 0)]) (rest := []) ⟨hx, hb, hml, hown, htg⟩ (w_letShare l dg ck ka ad ra S X Q P z b465  _ hκ hR   hst) (vx_cwSW 1 htg (gwSW wq_1496 wq_1497 wq_0 wqL_letShare) rfl rfl rfl (by decide +kernel) ⟨Nat.le_of_ble_eq_true rfl, Nat.le_of_ble_eq_true rfl⟩) (wrK_preS hK hP hD hC hS hA) rfl rfl hl.1 rfl (lv_room (Nat.le_of_ble_eq_true rfl)) dL_isWhole_491 ⟨by show _ ≤ 1470; omega, by show _ ≤ 8820; omega⟩) (fun r491 b491 H locs hw491 hP hD hS => ?_)
            have hP : va_P dg vwCl (brkU ck ka ad ra b491) H := hP
            have hD : va_D A (brkU ck ka ad ra b491) := hD
            obtain ⟨rfl, hR⟩ := hw491
            refine lv_iload hx hb dL_isWhole_494 (lv_at hl 5 rfl) ?_
            refine x_if_ne (tgt := 504) hx hb dL_isWhole_496 (by decide) (by omega) (fun c496 => ?_) (fun c496 => False.elim (by omega))
            refine lv_iload hx hb dL_isWhole_504 (lv_at hl 7 rfl) ?_
            refine lv_i2f hx hb dL_isWhole_506 ?_
            refine lv_iload hx hb dL_isWhole_507 (lv_at hl 5 rfl) ?_
            refine lv_i2f hx hb dL_isWhole_509 ?_
            refine lv_fdiv hx hb dL_isWhole_510 (by rw [hlt9]; exact nnF (by omega) (by omega)) ?_
            refine lv_fcmp hx hb dL_isWhole_511 ?_
            refine W.eq (g2 := F0 m 512 ls [.int (zI 0)]) (congrArg (fun v9 => F0 m 512 ls (.int v9 :: [])) (show Op.cmpValue (FP.fcmp (vShare S 3264479232) (FP.fdiv (FP.i2f (zI lt)) (FP.i2f (zI (S 0 0))))) CmpOp.l = 0 by rw [show vShare S 3264479232 = lsF S from if_neg h00, show (FP.fdiv (FP.i2f (zI lt)) (FP.i2f (zI (S 0 0)))) = lsF S by rw [hlt9]; exact (if_neg h00).symm]; exact ls_c hI h00)) ?_
            refine x_if_ne (tgt := 519) hx hb dL_isWhole_512 (by decide) (by omega) (fun c512 => absurd c512 (by decide)) (fun c512 => ?_)
            refine x_iconst hx hb dL_isWhole_515 ?_
            refine lv_goto (tgt := 520) hx hb dL_isWhole_516 (by decide) ?_
            refine lv_istore (lv' := [(15, .int (zI 1)), (14, .int (zI 1)), (0, .ref ((ad 7) 0)), (1, .ref (ka 4)), (2, .int (zI k)), (3, .int (zI w)), (4, .int (zI (S 0 0))), (5, .int (zI q)), (6, .int (zI lt)), (7, .int (zI rn)), (8, .int (zI dp)), (9, .int (zI co)), (10, .int (zI df))]) hx hb dL_isWhole_520 hl (by decide) rfl (fun ls hl => ?_)
            refine lv_aload_n hx hb dL_isWhole_522 rfl (lv_at hl 2 rfl) ?_
            refine x_calliU hP hD hS hA (va_runV (As := []) (rest := []) ⟨hx, hb, hml, hown, htg⟩ (g_quietCount l dg ck ka ad ra S X Q P z b491 _ hκ hR) (cwV 0 htg (gwV wq_1504 wq_1505 wq_1506 wq_1 wq_1507) rfl rfl rfl (by decide +kernel) ⟨Nat.le_of_ble_eq_true rfl, Nat.le_of_ble_eq_true rfl⟩) (wrK_preV hK hP hD hC hS hA 0 10 rfl rfl) rfl rfl hl.1 rfl (lv_room (Nat.le_of_ble_eq_true rfl)) dL_isWhole_523 ⟨by show _ ≤ 1470; omega, by show _ ≤ 8820; omega⟩) (fun r523 b523 H locs hw523 hP hD hS => ?_)
            have hP : va_P dg vwCl (brkU ck ka ad ra b523) H := hP
            have hD : va_D A (brkU ck ka ad ra b523) := hD
            obtain ⟨rfl, hR⟩ := hw523
            refine lv_iload hx hb dL_isWhole_526 (lv_at hl 7 rfl) ?_
            refine x_icmp_ne (tgt := 595) hx hb dL_isWhole_528 (by decide) (by omega) (by omega) (fun c528 => False.elim (by omega)) (fun c528 => ?_)
            refine lv_aload_n hx hb dL_isWhole_531 rfl (lv_at hl 2 rfl) ?_
            refine x_calliU hP hD hS hA (va_runV (As := []) (rest := []) ⟨hx, hb, hml, hown, htg⟩ (g_depositTotal l dg ck ka ad ra S X Q P z b523 _ hκ hR) (cwV 0 htg (gwV wq_1508 wq_1509 wq_1510 wq_1 wq_1511) rfl rfl rfl (by decide +kernel) ⟨Nat.le_of_ble_eq_true rfl, Nat.le_of_ble_eq_true rfl⟩) (wrK_preV hK hP hD hC hS hA 0 10 rfl rfl) rfl rfl hl.1 rfl (lv_room (Nat.le_of_ble_eq_true rfl)) dL_isWhole_532 ⟨by show _ ≤ 1470; omega, by show _ ≤ 8820; omega⟩) (fun r532 b532 H locs hw532 hP hD hS => ?_)
            have hP : va_P dg vwCl (brkU ck ka ad ra b532) H := hP
            have hD : va_D A (brkU ck ka ad ra b532) := hD
            obtain ⟨rfl, hR⟩ := hw532
            refine lv_iload hx hb dL_isWhole_535 (lv_at hl 10 rfl) ?_
            refine x_icmp_ne (tgt := 595) hx hb dL_isWhole_537 (by decide) (by omega) (by omega) (fun c537 => False.elim (by omega)) (fun c537 => ?_)
            refine lv_aload_n hx hb dL_isWhole_540 rfl (lv_at hl 2 rfl) ?_
            refine x_calliU hP hD hS hA (va_runV (As := []) (rest := []) ⟨hx, hb, hml, hown, htg⟩ (g_allCoins l dg ck ka ad ra S X Q P z b532 _ hκ hR) (cwV 0 htg (gwV wq_1516 wq_1517 wq_1518 wq_1 wq_1519) rfl rfl rfl (by decide +kernel) ⟨Nat.le_of_ble_eq_true rfl, Nat.le_of_ble_eq_true rfl⟩) (wrK_preV hK hP hD hC hS hA 0 10 rfl rfl) rfl rfl hl.1 rfl (lv_room (Nat.le_of_ble_eq_true rfl)) dL_isWhole_541 ⟨by show _ ≤ 1470; omega, by show _ ≤ 8820; omega⟩) (fun r541 b541 H locs hw541 hP hD hS => ?_)
            have hP : va_P dg vwCl (brkU ck ka ad ra b541) H := hP
            have hD : va_D A (brkU ck ka ad ra b541) := hD
            obtain ⟨rfl, hR⟩ := hw541
            refine lv_iload hx hb dL_isWhole_544 (lv_at hl 11 rfl) ?_
            refine x_icmp_ne (tgt := 595) hx hb dL_isWhole_546 (by decide) (by omega) (by omega) (fun c546 => False.elim (by omega)) (fun c546 => ?_)
            refine lv_aload_n hx hb dL_isWhole_549 rfl (lv_at hl 2 rfl) ?_
            refine x_calliU hP hD hS hA (va_runV (As := []) (rest := []) ⟨hx, hb, hml, hown, htg⟩ (g_allCoinsGiven l dg ck ka ad ra S X Q P z b541 _ hκ hR) (cwV 0 htg (gwV wq_1190 wq_1191 wq_1192 wq_1 wq_1193) rfl rfl rfl (by decide +kernel) ⟨Nat.le_of_ble_eq_true rfl, Nat.le_of_ble_eq_true rfl⟩) (wrK_preV hK hP hD hC hS hA 0 10 rfl rfl) rfl rfl hl.1 rfl (lv_room (Nat.le_of_ble_eq_true rfl)) dL_isWhole_550 ⟨by show _ ≤ 1470; omega, by show _ ≤ 8820; omega⟩) (fun r550 b550 H locs hw550 hP hD hS => ?_)
            have hP : va_P dg vwCl (brkU ck ka ad ra b550) H := hP
            have hD : va_D A (brkU ck ka ad ra b550) := hD
            obtain ⟨rfl, hR⟩ := hw550
            refine lv_iload hx hb dL_isWhole_553 (lv_at hl 11 rfl) ?_
            refine x_icmp_ne (tgt := 595) hx hb dL_isWhole_555 (by decide) (by omega) (by omega) (fun c555 => False.elim (by omega)) (fun c555 => ?_)
            refine lv_aload_n hx hb dL_isWhole_558 rfl (lv_at hl 2 rfl) ?_
            refine x_calliU hP hD hS hA (va_runV (As := []) (rest := []) ⟨hx, hb, hml, hown, htg⟩ (g_defaultedLeases l dg ck ka ad ra S X Q P z b550 _ hκ hR) (cwV 0 htg (gwV wq_633 wq_634 wq_635 wq_1 wq_636) rfl rfl rfl (by decide +kernel) ⟨Nat.le_of_ble_eq_true rfl, Nat.le_of_ble_eq_true rfl⟩) (wrK_preV hK hP hD hC hS hA 0 10 rfl rfl) rfl rfl hl.1 rfl (lv_room (Nat.le_of_ble_eq_true rfl)) dL_isWhole_559 ⟨by show _ ≤ 1470; omega, by show _ ≤ 8820; omega⟩) (fun r559 b559 H locs hw559 hP hD hS => ?_)
            have hP : va_P dg vwCl (brkU ck ka ad ra b559) H := hP
            have hD : va_D A (brkU ck ka ad ra b559) := hD
            obtain ⟨rfl, hR⟩ := hw559
            refine lv_iload hx hb dL_isWhole_562 (lv_at hl 12 rfl) ?_
            refine x_icmp_ne (tgt := 595) hx hb dL_isWhole_564 (by decide) (by omega) (by omega) (fun c564 => False.elim (by omega)) (fun c564 => ?_)
            refine lv_iload hx hb dL_isWhole_567 (lv_at hl 6 rfl) ?_
            refine x_bipush hx hb dL_isWhole_569 (by decide) ?_
            refine x_icmp_gt (tgt := 595) hx hb dL_isWhole_571 (by decide) (by omega) (by omega) (fun c571 => False.elim (by omega)) (fun c571 => ?_)
            refine lv_aload_n hx hb dL_isWhole_574 rfl (lv_at hl 2 rfl) ?_
            refine x_calliU hP hD hS hA (va_runV (As := []) (rest := []) ⟨hx, hb, hml, hown, htg⟩ (g_tenantCount l dg ck ka ad ra S X Q P z b559 _ hκ hR) (cwV 0 htg (gwV wq_323 wq_324 wq_325 wq_1 wq_326) rfl rfl rfl (by decide +kernel) ⟨Nat.le_of_ble_eq_true rfl, Nat.le_of_ble_eq_true rfl⟩) (wrK_preV hK hP hD hC hS hA 0 10 rfl rfl) rfl rfl hl.1 rfl (lv_room (Nat.le_of_ble_eq_true rfl)) dL_isWhole_575 ⟨by show _ ≤ 1470; omega, by show _ ≤ 8820; omega⟩) (fun r575 b575 H locs hw575 hP hD hS => ?_)
            have hP : va_P dg vwCl (brkU ck ka ad ra b575) H := hP
            have hD : va_D A (brkU ck ka ad ra b575) := hD
            obtain ⟨rfl, hR⟩ := hw575
            refine x_bipush hx hb dL_isWhole_578 (by decide) ?_
            refine x_icmp_gt (tgt := 595) hx hb dL_isWhole_580 (by decide) (by omega) (by omega) (fun c580 => False.elim (by omega)) (fun c580 => ?_)
            refine lv_aload_n hx hb dL_isWhole_583 rfl (lv_at hl 2 rfl) ?_
            refine x_calliU hP hD hS hA (va_runV (As := []) (rest := []) ⟨hx, hb, hml, hown, htg⟩ (g_fountainCount l dg ck ka ad ra S X Q P z b575 _ hκ hR) (cwV 0 htg (gwV wq_648 wq_649 wq_650 wq_1 wq_651) rfl rfl rfl (by decide +kernel) ⟨Nat.le_of_ble_eq_true rfl, Nat.le_of_ble_eq_true rfl⟩) (wrK_preV hK hP hD hC hS hA 0 10 rfl rfl) rfl rfl hl.1 rfl (lv_room (Nat.le_of_ble_eq_true rfl)) dL_isWhole_584 ⟨by show _ ≤ 1470; omega, by show _ ≤ 8820; omega⟩) (fun r584 b584 H locs hw584 hP hD hS => ?_)
            have hP : va_P dg vwCl (brkU ck ka ad ra b584) H := hP
            have hD : va_D A (brkU ck ka ad ra b584) := hD
            obtain ⟨rfl, hR⟩ := hw584
            refine x_iconst hx hb dL_isWhole_587 ?_
            refine x_icmp_gt (tgt := 595) hx hb dL_isWhole_588 (by decide) (by omega) (by omega) (fun c588 => False.elim (by omega)) (fun c588 => ?_)
            refine x_iconst hx hb dL_isWhole_591 ?_
            refine lv_goto (tgt := 596) hx hb dL_isWhole_592 (by decide) ?_
            refine lv_istore (lv' := [(16, .int (zI 1)), (15, .int (zI 1)), (14, .int (zI 1)), (0, .ref ((ad 7) 0)), (1, .ref (ka 4)), (2, .int (zI k)), (3, .int (zI w)), (4, .int (zI (S 0 0))), (5, .int (zI q)), (6, .int (zI lt)), (7, .int (zI rn)), (8, .int (zI dp)), (9, .int (zI co)), (10, .int (zI df))]) hx hb dL_isWhole_596 hl (by decide) rfl (fun ls hl => ?_)
            refine lv_iload hx hb dL_isWhole_598 (lv_at hl 2 rfl) ?_
            refine x_if_eq (tgt := 652) hx hb dL_isWhole_600 (by decide) (by omega) (fun c600 => absurd c600 (by decide)) (fun c600 => ?_)
            refine lv_iload hx hb dL_isWhole_603 (lv_at hl 1 rfl) ?_
            refine x_if_eq (tgt := 652) hx hb dL_isWhole_605 (by decide) (by omega) (fun c605 => absurd c605 (by decide)) (fun c605 => ?_)
            refine lv_iload hx hb dL_isWhole_608 (lv_at hl 0 rfl) ?_
            refine x_if_eq (tgt := 652) hx hb dL_isWhole_610 (by decide) (by omega) (fun c610 => absurd c610 (by decide)) (fun c610 => ?_)
            refine lv_aload_n hx hb dL_isWhole_613 rfl (lv_at hl 3 rfl) ?_
            refine lv_iload hx hb dL_isWhole_614 (lv_at hl 7 rfl) ?_
            refine x_calliU hP hD hS hA (vx_runSW (As := [.ref ((ad 7) 0), .int (zI (S 0 0))]) (rest := []) ⟨hx, hb, hml, hown, htg⟩ (w_benchByRent l dg ck ka ad ra S X Q P z b584 (S 0 0) _ hκ hR  (by omega) hst) (vx_cwSW 2 htg (gwSW wq_1379 wq_1380 wq_0 wqL_benchByRent) rfl rfl rfl (by decide +kernel) ⟨Nat.le_of_ble_eq_true rfl, Nat.le_of_ble_eq_true rfl⟩) (wrK_preS hK hP hD hC hS hA) rfl rfl hl.1 rfl (lv_room (Nat.le_of_ble_eq_true rfl)) dL_isWhole_616 ⟨by show _ ≤ 1470; omega, by show _ ≤ 8820; omega⟩) (fun r616 b616 H locs hw616 hP hD hS => ?_)
            have hP : va_P dg vwCl (brkU ck ka ad ra b616) H := hP
            have hD : va_D A (brkU ck ka ad ra b616) := hD
            obtain ⟨rfl, hR⟩ := hw616
            refine x_is (show (vByR S (S 0 0)) = (-75) from if_pos (bbR_p hI).2) ?_
            refine x_bipush hx hb dL_isWhole_619 (by decide) ?_
            refine x_icmp_ne (tgt := 652) hx hb dL_isWhole_621 (by decide) (by omega) (by omega) (fun c621 => absurd c621 (by decide)) (fun c621 => ?_)
            refine lv_aload_n hx hb dL_isWhole_624 rfl (lv_at hl 3 rfl) ?_
            refine lv_aload_n hx hb dL_isWhole_625 rfl (lv_at hl 3 rfl) ?_
            refine x_calliU hP hD hS hA (va_runV (As := []) (rest := [.ref ((ad 7) 0)]) ⟨hx, hb, hml, hown, htg⟩ (g_tenantCount l dg ck ka ad ra S X Q P z b616 _ hκ hR) (cwV 0 htg (gwV wq_323 wq_324 wq_325 wq_1 wq_326) rfl rfl rfl (by decide +kernel) ⟨Nat.le_of_ble_eq_true rfl, Nat.le_of_ble_eq_true rfl⟩) (wrK_preV hK hP hD hC hS hA 0 10 rfl rfl) rfl rfl hl.1 rfl (lv_room (Nat.le_of_ble_eq_true rfl)) dL_isWhole_626 ⟨by show _ ≤ 1470; omega, by show _ ≤ 8820; omega⟩) (fun r626 b626 H locs hw626 hP hD hS => ?_)
            have hP : va_P dg vwCl (brkU ck ka ad ra b626) H := hP
            have hD : va_D A (brkU ck ka ad ra b626) := hD
            obtain ⟨rfl, hR⟩ := hw626
            refine x_calliU hP hD hS hA (vx_runSW (As := [.ref ((ad 7) 0), .int (zI (S 0 2))]) (rest := []) ⟨hx, hb, hml, hown, htg⟩ (w_tenantByCoins l dg ck ka ad ra S X Q P z b626 (S 0 2) _ hκ hR  (by omega) hst) (vx_cwSW 2 htg (gwSW wq_1408 wq_1409 wq_0 wqL_tenantByCoins) rfl rfl rfl (by decide +kernel) ⟨Nat.le_of_ble_eq_true rfl, Nat.le_of_ble_eq_true rfl⟩) (wrK_preS hK hP hD hC hS hA) rfl rfl hl.1 rfl (lv_room (Nat.le_of_ble_eq_true rfl)) dL_isWhole_629 ⟨by show _ ≤ 1470; omega, by show _ ≤ 8820; omega⟩) (fun r629 b629 H locs hw629 hP hD hS => ?_)
            have hP : va_P dg vwCl (brkU ck ka ad ra b629) H := hP
            have hD : va_D A (brkU ck ka ad ra b629) := hD
            obtain ⟨rfl, hR⟩ := hw629
            refine x_is (show (vByC S (S 0 2)) = (-75) from if_pos (tbC_p hI).2) ?_
            refine x_bipush hx hb dL_isWhole_632 (by decide) ?_
            refine x_icmp_ne (tgt := 652) hx hb dL_isWhole_634 (by decide) (by omega) (by omega) (fun c634 => absurd c634 (by decide)) (fun c634 => ?_)
            refine lv_iload_n hx hb dL_isWhole_637 rfl (lv_at hl 6 rfl) ?_
            refine x_if_eq (tgt := 648) hx hb dL_isWhole_638 (by decide) (by omega) (fun c638 => ?_) (fun c638 => ?_)
            · refine x_iconst hx hb dL_isWhole_648 ?_
              refine lv_goto (tgt := 653) hx hb dL_isWhole_649 (by decide) ?_
              exact W.widen (k := 1470) (n := 8820) (by omega) (by omega) (W.zret (v := _) hx hb hr (by first | rfl | exact nar_z (by omega)) (fun t9 ht9 hW9 => ⟨⟨_, b629, rfl, ⟨rfl, hR⟩, by rw [ht9]; exact hP, by rw [hAe]; exact hD⟩, hS.F ht9⟩) hS.2.2 dL_isWhole_653)
            · refine lv_aload_n hx hb dL_isWhole_641 rfl (lv_at hl 3 rfl) ?_
              refine x_calliU hP hD hS hA (va_runV (As := []) (rest := []) ⟨hx, hb, hml, hown, htg⟩ (g_isConsistent l dg ck ka ad ra S X Q P z b629 _ hκ hR) (cwV 0 htg (gwV wq_1525 wq_1526 wq_1527 wq_1 wq_1528) rfl rfl rfl (by decide +kernel) ⟨Nat.le_of_ble_eq_true rfl, Nat.le_of_ble_eq_true rfl⟩) (wrK_preV hK hP hD hC hS hA 0 10 rfl rfl) rfl rfl hl.1 rfl (lv_room (Nat.le_of_ble_eq_true rfl)) dL_isWhole_642 ⟨by show _ ≤ 1470; omega, by show _ ≤ 8820; omega⟩) (fun r642 b642 H locs hw642 hP hD hS => ?_)
              have hP : va_P dg vwCl (brkU ck ka ad ra b642) H := hP
              have hD : va_D A (brkU ck ka ad ra b642) := hD
              obtain ⟨rfl, hR⟩ := hw642
              refine x_is (show (bI True) = 1 from rfl) ?_
              refine x_if_eq (tgt := 652) hx hb dL_isWhole_645 (by decide) (by omega) (fun c645 => absurd c645 (by decide)) (fun c645 => ?_)
              refine x_iconst hx hb dL_isWhole_648 ?_
              refine lv_goto (tgt := 653) hx hb dL_isWhole_649 (by decide) ?_
              exact W.widen (k := 1470) (n := 8820) (by omega) (by omega) (W.zret (v := _) hx hb hr (by first | rfl | exact nar_z (by omega)) (fun t9 ht9 hW9 => ⟨⟨_, b642, rfl, ⟨rfl, hR⟩, by rw [ht9]; exact hP, by rw [hAe]; exact hD⟩, hS.F ht9⟩) hS.2.2 dL_isWhole_653)
        · refine lv_aload_n hx hb dL_isWhole_414 rfl (lv_at hl 1 rfl) ?_
          refine lv_iload hx hb dL_isWhole_415 (lv_at hl 0 rfl) ?_
          refine x_calliU hP hD hS hA (vx_runSW (As := [.ref ((ad 7) 0), .int (zI v412)]) (rest := []) ⟨hx, hb, hml, hown, htg⟩ (w_incomeWithin l dg ck ka ad ra S X Q P z b v412 _ hκ hR  (by omega) hst) (vx_cwSW 2 htg (gwSW wq_563 wq_564 wq_0 wqL_incomeWithin) rfl rfl rfl (by decide +kernel) ⟨Nat.le_of_ble_eq_true rfl, Nat.le_of_ble_eq_true rfl⟩) (wrK_preS hK hP hD hC hS hA) rfl rfl hl.1 rfl (lv_room (Nat.le_of_ble_eq_true rfl)) dL_isWhole_417 ⟨by show _ ≤ 1470; omega, by show _ ≤ 8820; omega⟩) (fun r417 b417 H locs hw417 hP hD hS => ?_)
          have hP : va_P dg vwCl (brkU ck ka ad ra b417) H := hP
          have hD : va_D A (brkU ck ka ad ra b417) := hD
          obtain ⟨rfl, hR⟩ := hw417
          refine x_is (show (vInc S v412) = (leaseInc S v412) from (if_pos ⟨by omega, by omega⟩).trans (income_e hV ⟨by omega, by omega⟩)) ?_
          refine lv_istore (lv' := [(13, .int (zI (leaseInc S v412))), (12, .int (zI v412)), (0, .ref ((ad 7) 0)), (1, .ref (ka 4)), (2, .int (zI k)), (3, .int (zI w)), (4, .int (zI (S 0 0))), (5, .int (zI q)), (6, .int (zI lt)), (7, .int (zI rn)), (8, .int (zI dp)), (9, .int (zI co)), (10, .int (zI df)), (11, .int (zI k348))]) hx hb dL_isWhole_420 hl (by decide) rfl (fun ls hl => ?_)
          refine lv_aload_n hx hb dL_isWhole_422 rfl (lv_at hl 2 rfl) ?_
          refine lv_iload hx hb dL_isWhole_423 (lv_at hl 1 rfl) ?_
          refine x_calliU hP hD hS hA (vx_runSW (As := [.ref ((ad 7) 0), .int (zI v412)]) (rest := []) ⟨hx, hb, hml, hown, htg⟩ (w_incomeByLeases l dg ck ka ad ra S X Q P z b417 v412 _ hκ hR  (by omega) hst) (vx_cwSW 2 htg (gwSW wq_1452 wq_1453 wq_0 wqL_incomeByLeases) rfl rfl rfl (by decide +kernel) ⟨Nat.le_of_ble_eq_true rfl, Nat.le_of_ble_eq_true rfl⟩) (wrK_preS hK hP hD hC hS hA) rfl rfl hl.1 rfl (lv_room (Nat.le_of_ble_eq_true rfl)) dL_isWhole_425 ⟨by show _ ≤ 1470; omega, by show _ ≤ 8820; omega⟩) (fun r425 b425 H locs hw425 hP hD hS => ?_)
          have hP : va_P dg vwCl (brkU ck ka ad ra b425) H := hP
          have hD : va_D A (brkU ck ka ad ra b425) := hD
          obtain ⟨rfl, hR⟩ := hw425
          refine x_is (show (vIncL S v412) = (leaseInc S v412) from if_pos ⟨by omega, by omega⟩) ?_
          have hli := lInc_m hI (m := v412) (by omega)
          have hlb : leaseInc S v412 ≤ 4000000 := by have h9 := income_e (m := v412) hV ⟨by omega, by omega⟩; have h8 : (elZ S v412).2.2 0 5 ≤ 4000000 := elZ_5 hV v412; omega
          refine lv_iload hx hb dL_isWhole_428 (lv_at hl 0 rfl) ?_
          refine lv_icmp_ne (tgt := 461) hx hb dL_isWhole_430 (by decide) (fun c430 => absurd rfl c430) (fun c430 => ?_)
          refine lv_iload hx hb dL_isWhole_433 (lv_at hl 0 rfl) ?_
          refine x_if_lt (tgt := 461) hx hb dL_isWhole_435 (by decide) (by omega) (fun c435 => False.elim (by omega)) (fun c435 => ?_)
          refine lv_iload hx hb dL_isWhole_438 (lv_at hl 1 rfl) ?_
          refine x_iconst hx hb dL_isWhole_440 ?_
          refine x_icmp_eq (tgt := 457) hx hb dL_isWhole_441 (by decide) (by omega) (by omega) (fun c441 => ?_) (fun c441 => ?_)
          · refine x_iconst hx hb dL_isWhole_457 ?_
            refine lv_goto (tgt := 462) hx hb dL_isWhole_458 (by decide) ?_
            exact W.widen (k := 1460) (n := 8760) (by omega) (by omega) (mid_462 (b425) (show RO S X Q P z b425 from hR) ls H locs (lv_sub hl [2, 3, 4, 5, 6, 7, 8, 9, 10, 11, 12] rfl) hP hD hS)
          · refine lv_aload_n hx hb dL_isWhole_444 rfl (lv_at hl 2 rfl) ?_
            refine lv_iload hx hb dL_isWhole_445 (lv_at hl 1 rfl) ?_
            refine x_iconst hx hb dL_isWhole_447 ?_
            refine x_isub hx hb dL_isWhole_448 ?_
            refine x_calliU hP hD hS hA (vx_runSW (As := [.ref ((ad 7) 0), .int (zI (v412 - 1))]) (rest := []) ⟨hx, hb, hml, hown, htg⟩ (w_incomeWithin l dg ck ka ad ra S X Q P z b425 (v412 - 1) _ hκ hR  (by omega) hst) (vx_cwSW 2 htg (gwSW wq_563 wq_564 wq_0 wqL_incomeWithin) rfl rfl rfl (by decide +kernel) ⟨Nat.le_of_ble_eq_true rfl, Nat.le_of_ble_eq_true rfl⟩) (wrK_preS hK hP hD hC hS hA) rfl rfl hl.1 rfl (lv_room (Nat.le_of_ble_eq_true rfl)) dL_isWhole_449 ⟨by show _ ≤ 1470; omega, by show _ ≤ 8820; omega⟩) (fun r449 b449 H locs hw449 hP hD hS => ?_)
            have hP : va_P dg vwCl (brkU ck ka ad ra b449) H := hP
            have hD : va_D A (brkU ck ka ad ra b449) := hD
            obtain ⟨rfl, hR⟩ := hw449
            refine x_is (show (vInc S (v412 - 1)) = (leaseInc S (v412 - 1)) from (if_pos ⟨by omega, by omega⟩).trans (income_e hV ⟨by omega, by omega⟩)) ?_
            have hli2 := lInc_m hI (m := v412 - 1) (by omega)
            refine lv_iload hx hb dL_isWhole_452 (lv_at hl 0 rfl) ?_
            refine x_icmp_gt (tgt := 461) hx hb dL_isWhole_454 (by decide) (by omega) (by omega) (fun c454 => False.elim (by omega)) (fun c454 => ?_)
            refine x_iconst hx hb dL_isWhole_457 ?_
            refine lv_goto (tgt := 462) hx hb dL_isWhole_458 (by decide) ?_
            exact W.widen (k := 1460) (n := 8760) (by omega) (by omega) (mid_462 (b449) (show RO S X Q P z b449 from hR) ls H locs (lv_sub hl [2, 3, 4, 5, 6, 7, 8, 9, 10, 11, 12] rfl) hP hD hS)
      · refine lv_aload_n hx hb dL_isWhole_363 rfl (lv_at hl 0 rfl) ?_
        refine lv_iload hx hb dL_isWhole_364 (lv_at hl 11 rfl) ?_
        refine lv_iload hx hb dL_isWhole_366 (lv_at hl 12 rfl) ?_
        refine x_calliU hP hD hS hA (vx_runSW (As := [.ref ((ad 7) 0), .int (zI k348), .int (zI cx)]) (rest := []) ⟨hx, hb, hml, hown, htg⟩ (w_noiseAt l dg ck ka ad ra S X Q P z b k348 cx _ hκ hR  (by omega) (by omega) hst) (vx_cwSW 3 htg (gwSW wq_1363 wq_1364 wq_0 wqL_noiseAt) rfl rfl rfl (by decide +kernel) ⟨Nat.le_of_ble_eq_true rfl, Nat.le_of_ble_eq_true rfl⟩) (wrK_preS hK hP hD hC hS hA) rfl rfl hl.1 rfl (lv_room (Nat.le_of_ble_eq_true rfl)) dL_isWhole_368 ⟨by show _ ≤ 1470; omega, by show _ ≤ 8820; omega⟩) (fun r368 b368 H locs hw368 hP hD hS => ?_)
        have hP : va_P dg vwCl (brkU ck ka ad ra b368) H := hP
        have hD : va_D A (brkU ck ka ad ra b368) := hD
        obtain ⟨rfl, hR⟩ := hw368
        refine x_is (show (vNoise S k348 cx) = (noise S k348 cx) from if_pos ⟨⟨by omega, by omega⟩, by omega, by omega⟩) ?_
        refine lv_aload_n hx hb dL_isWhole_371 rfl (lv_at hl 0 rfl) ?_
        refine lv_iload hx hb dL_isWhole_372 (lv_at hl 11 rfl) ?_
        refine lv_iload hx hb dL_isWhole_374 (lv_at hl 12 rfl) ?_
        refine x_calliU hP hD hS hA (vx_runSW (As := [.ref ((ad 7) 0), .int (zI k348), .int (zI cx)]) (rest := [.int (zI (noise S k348 cx))]) ⟨hx, hb, hml, hown, htg⟩ (w_noiseBySpreading l dg ck ka ad ra S X Q P z b368 k348 cx _ hκ hR  (by omega) (by omega) hst) (vx_cwSW 3 htg (gwSW wq_1423 wq_1424 wq_0 wqL_noiseBySpreading) rfl rfl rfl (by decide +kernel) ⟨Nat.le_of_ble_eq_true rfl, Nat.le_of_ble_eq_true rfl⟩) (wrK_preS hK hP hD hC hS hA) rfl rfl hl.1 rfl (lv_room (Nat.le_of_ble_eq_true rfl)) dL_isWhole_376 ⟨by show _ ≤ 1470; omega, by show _ ≤ 8820; omega⟩) (fun r376 b376 H locs hw376 hP hD hS => ?_)
        have hP : va_P dg vwCl (brkU ck ka ad ra b376) H := hP
        have hD : va_D A (brkU ck ka ad ra b376) := hD
        obtain ⟨rfl, hR⟩ := hw376
        refine x_is (show (vNoise S k348 cx) = (noise S k348 cx) from if_pos ⟨⟨by omega, by omega⟩, by omega, by omega⟩) ?_
        have hnz := noise_r hI k348 cx
        refine lv_icmp_ne (tgt := 393) hx hb dL_isWhole_379 (by decide) (fun c379 => absurd rfl c379) (fun c379 => ?_)
        refine lv_aload_n hx hb dL_isWhole_382 rfl (lv_at hl 0 rfl) ?_
        refine lv_iload hx hb dL_isWhole_383 (lv_at hl 11 rfl) ?_
        refine lv_iload hx hb dL_isWhole_385 (lv_at hl 12 rfl) ?_
        refine x_calliU hP hD hS hA (vx_runSW (As := [.ref ((ad 7) 0), .int (zI k348), .int (zI cx)]) (rest := []) ⟨hx, hb, hml, hown, htg⟩ (w_noiseAt l dg ck ka ad ra S X Q P z b376 k348 cx _ hκ hR  (by omega) (by omega) hst) (vx_cwSW 3 htg (gwSW wq_1363 wq_1364 wq_0 wqL_noiseAt) rfl rfl rfl (by decide +kernel) ⟨Nat.le_of_ble_eq_true rfl, Nat.le_of_ble_eq_true rfl⟩) (wrK_preS hK hP hD hC hS hA) rfl rfl hl.1 rfl (lv_room (Nat.le_of_ble_eq_true rfl)) dL_isWhole_387 ⟨by show _ ≤ 1470; omega, by show _ ≤ 8820; omega⟩) (fun r387 b387 H locs hw387 hP hD hS => ?_)
        have hP : va_P dg vwCl (brkU ck ka ad ra b387) H := hP
        have hD : va_D A (brkU ck ka ad ra b387) := hD
        obtain ⟨rfl, hR⟩ := hw387
        refine x_is (show (vNoise S k348 cx) = (noise S k348 cx) from if_pos ⟨⟨by omega, by omega⟩, by omega, by omega⟩) ?_
        have hnz := noise_r hI k348 cx
        refine x_if_ge (tgt := 395) hx hb dL_isWhole_390 (by decide) (by omega) (fun c390 => ?_) (fun c390 => False.elim (by omega))
        obtain ⟨v395, e_v395⟩ : ∃ y9 : Int, y9 = cx + 1 := ⟨_, rfl⟩
        refine lv_iinc (v := zI v395) (lv' := [(12, .int (zI v395)), (0, .ref ((ad 7) 0)), (1, .ref (ka 4)), (2, .int (zI k)), (3, .int (zI w)), (4, .int (zI (S 0 0))), (5, .int (zI q)), (6, .int (zI lt)), (7, .int (zI rn)), (8, .int (zI dp)), (9, .int (zI co)), (10, .int (zI df)), (11, .int (zI k348))]) hx hb dL_isWhole_395 hl (k := 12) rfl (by rw [e_v395]; exact zI_add _ _) (by decide) rfl (fun ls hl => ?_)
        refine lv_goto (tgt := 356) hx hb dL_isWhole_398 (by decide) ?_
        exact W.widen (k := 1432 + 3 * (v395).toNat) (n := 8592 + 18 * (v395).toNat) (by omega) (by omega) (ih_356 (b387, v395) (show (0 ≤ v395 ∧ v395 ≤ 6) ∧ RO S X Q P z b387 from ⟨by omega, hR⟩) (show (6 - v395).toNat < (6 - cx).toNat from by omega) ls H locs (lv_sub hl [1, 2, 3, 4, 5, 6, 7, 8, 9, 10, 11, 12, 0] rfl) hP hD hS)
    · refine x_midN (ι := BU) (nL := 17) (D := dg) (cl := vwCl) (A := A) (H0 := s.heap) (fun v => RO S X Q P z v) (fun v => [(0, .ref ((ad 7) 0)), (1, .ref (ka 4)), (2, .int (zI k)), (3, .int (zI w)), (4, .int (zI (S 0 0))), (5, .int (zI q)), (6, .int (zI lt)), (7, .int (zI rn)), (8, .int (zI dp)), (9, .int (zI co)), (10, .int (zI df)), (11, .int (zI t))]) (fun v => []) (fun v => brkU ck ka ad ra v) 239 (552 + 124 * (t).toNat) (3312 + 744 * (t).toNat) ?_ (fun mid_239 => ?_)
      · intro v hv ls H locs hl hP hD hS
        obtain ⟨b, rfl⟩ : ∃ z9 : BU, z9 = v := ⟨_, rfl⟩
        have hl : lv_has ls 17 [(0, .ref ((ad 7) 0)), (1, .ref (ka 4)), (2, .int (zI k)), (3, .int (zI w)), (4, .int (zI (S 0 0))), (5, .int (zI q)), (6, .int (zI lt)), (7, .int (zI rn)), (8, .int (zI dp)), (9, .int (zI co)), (10, .int (zI df)), (11, .int (zI t))] := hl
        have hv : RO S X Q P z b := hv
        have hP : va_P dg vwCl (brkU ck ka ad ra b) H := hP
        have hD : va_D A (brkU ck ka ad ra b) := hD
        have hR := hv
        refine W.as (k' := 552 + 124 * (t).toNat) (n' := 3312 + 744 * (t).toNat) rfl rfl ?_
        refine lv_iload hx hb dL_isWhole_239 (lv_at hl 9 rfl) ?_
        refine lv_aload_n hx hb dL_isWhole_241 rfl (lv_at hl 0 rfl) ?_
        refine lv_iload hx hb dL_isWhole_242 (lv_at hl 11 rfl) ?_
        refine x_calliU hP hD hS hA (vx_runSW (As := [.ref ((ad 7) 0), .int (zI t)]) (rest := [.int (zI co)]) ⟨hx, hb, hml, hown, htg⟩ (w_coinsOf l dg ck ka ad ra S X Q P z b t _ hκ hR  (by omega) hst) (vx_cwSW 2 htg (gwSW wq_1244 wq_1245 wq_0 wqL_coinsOf) rfl rfl rfl (by decide +kernel) ⟨Nat.le_of_ble_eq_true rfl, Nat.le_of_ble_eq_true rfl⟩) (wrK_preS hK hP hD hC hS hA) rfl rfl hl.1 rfl (lv_room (Nat.le_of_ble_eq_true rfl)) dL_isWhole_244 ⟨by show _ ≤ 1470; omega, by show _ ≤ 8820; omega⟩) (fun r244 b244 H locs hw244 hP hD hS => ?_)
        have hP : va_P dg vwCl (brkU ck ka ad ra b244) H := hP
        have hD : va_D A (brkU ck ka ad ra b244) := hD
        obtain ⟨rfl, hR⟩ := hw244
        refine x_is (show (vCoins S t) = (S 11 t) from if_pos ⟨by omega, by omega⟩) ?_
        refine x_iadd hx hb dL_isWhole_247 ?_
        refine x_top _ (fun v248 e_v248 => ?_)
        refine lv_istore (lv' := [(9, .int (zI v248)), (0, .ref ((ad 7) 0)), (1, .ref (ka 4)), (2, .int (zI k)), (3, .int (zI w)), (4, .int (zI (S 0 0))), (5, .int (zI q)), (6, .int (zI lt)), (7, .int (zI rn)), (8, .int (zI dp)), (10, .int (zI df)), (11, .int (zI t))]) hx hb dL_isWhole_248 hl (by decide) rfl (fun ls hl => ?_)
        refine lv_iload hx hb dL_isWhole_250 (lv_at hl 10 rfl) ?_
        refine lv_aload_n hx hb dL_isWhole_252 rfl (lv_at hl 1 rfl) ?_
        refine lv_iload hx hb dL_isWhole_253 (lv_at hl 11 rfl) ?_
        refine x_calliU hP hD hS hA (vx_runSW (As := [.ref ((ad 7) 0), .int (zI t)]) (rest := [.int (zI df)]) ⟨hx, hb, hml, hown, htg⟩ (w_defaultsOf l dg ck ka ad ra S X Q P z b244 t _ hκ hR  (by omega) hst) (vx_cwSW 2 htg (gwSW wq_1251 wq_1252 wq_0 wqL_defaultsOf) rfl rfl rfl (by decide +kernel) ⟨Nat.le_of_ble_eq_true rfl, Nat.le_of_ble_eq_true rfl⟩) (wrK_preS hK hP hD hC hS hA) rfl rfl hl.1 rfl (lv_room (Nat.le_of_ble_eq_true rfl)) dL_isWhole_255 ⟨by show _ ≤ 1470; omega, by show _ ≤ 8820; omega⟩) (fun r255 b255 H locs hw255 hP hD hS => ?_)
        have hP : va_P dg vwCl (brkU ck ka ad ra b255) H := hP
        have hD : va_D A (brkU ck ka ad ra b255) := hD
        obtain ⟨rfl, hR⟩ := hw255
        refine x_is (show (vDefs S t) = (S 12 t) from if_pos ⟨by omega, by omega⟩) ?_
        refine x_iadd hx hb dL_isWhole_258 ?_
        refine x_top _ (fun v259 e_v259 => ?_)
        refine lv_istore (lv' := [(10, .int (zI v259)), (9, .int (zI v248)), (0, .ref ((ad 7) 0)), (1, .ref (ka 4)), (2, .int (zI k)), (3, .int (zI w)), (4, .int (zI (S 0 0))), (5, .int (zI q)), (6, .int (zI lt)), (7, .int (zI rn)), (8, .int (zI dp)), (11, .int (zI t))]) hx hb dL_isWhole_259 hl (by decide) rfl (fun ls hl => ?_)
        refine lv_aload_n hx hb dL_isWhole_261 rfl (lv_at hl 2 rfl) ?_
        refine lv_iload hx hb dL_isWhole_262 (lv_at hl 11 rfl) ?_
        refine x_calliU hP hD hS hA (vx_runSW (As := [.ref ((ad 7) 0), .int (zI t)]) (rest := []) ⟨hx, hb, hml, hown, htg⟩ (w_tenantByCoins l dg ck ka ad ra S X Q P z b255 t _ hκ hR  (by omega) hst) (vx_cwSW 2 htg (gwSW wq_1408 wq_1409 wq_0 wqL_tenantByCoins) rfl rfl rfl (by decide +kernel) ⟨Nat.le_of_ble_eq_true rfl, Nat.le_of_ble_eq_true rfl⟩) (wrK_preS hK hP hD hC hS hA) rfl rfl hl.1 rfl (lv_room (Nat.le_of_ble_eq_true rfl)) dL_isWhole_264 ⟨by show _ ≤ 1470; omega, by show _ ≤ 8820; omega⟩) (fun r264 b264 H locs hw264 hP hD hS => ?_)
        have hP : va_P dg vwCl (brkU ck ka ad ra b264) H := hP
        have hD : va_D A (brkU ck ka ad ra b264) := hD
        obtain ⟨rfl, hR⟩ := hw264
        refine x_is (show (vByC S t) = (tbC S t) from if_neg (by have h9 := (tbC_p hI).1 t (by omega) (by omega); omega)) ?_
        refine x_top _ (fun v267 e_v267 => ?_)
        refine lv_istore (lv' := [(12, .int (zI v267)), (10, .int (zI v259)), (9, .int (zI v248)), (0, .ref ((ad 7) 0)), (1, .ref (ka 4)), (2, .int (zI k)), (3, .int (zI w)), (4, .int (zI (S 0 0))), (5, .int (zI q)), (6, .int (zI lt)), (7, .int (zI rn)), (8, .int (zI dp)), (11, .int (zI t))]) hx hb dL_isWhole_267 hl (by decide) rfl (fun ls hl => ?_)
        have hv267 : 0 ≤ v267 ∧ v267 < S 0 2 := by have h9 := (tbC_p hI).1 t (by omega) (by omega); omega
        refine x_midN (ι := BU × Int) (nL := 17) (D := dg) (cl := vwCl) (A := A) (H0 := s.heap) (fun v => (0 ≤ v.2 ∧ v.2 < S 0 2) ∧ (S 11 v267 < S 11 v.2 ∨ (S 11 v.2 = S 11 v267 ∧ S 12 v.2 ≤ S 12 v267)) ∧ RO S X Q P z v.1) (fun v => [(0, .ref ((ad 7) 0)), (1, .ref (ka 4)), (2, .int (zI k)), (3, .int (zI w)), (4, .int (zI (S 0 0))), (5, .int (zI q)), (6, .int (zI lt)), (7, .int (zI rn)), (8, .int (zI dp)), (9, .int (zI v248)), (10, .int (zI v259)), (11, .int (zI t)), (12, .int (zI v267))]) (fun v => [.int (zI v.2)]) (fun v => brkU ck ka ad ra v.1) 287 (557 + 124 * (t).toNat) (3342 + 744 * (t).toNat) ?_ (fun mid_287 => ?_)
        · intro v hv ls H locs hl hP hD hS
          obtain ⟨b, cc⟩ := v
          have hl : lv_has ls 17 [(0, .ref ((ad 7) 0)), (1, .ref (ka 4)), (2, .int (zI k)), (3, .int (zI w)), (4, .int (zI (S 0 0))), (5, .int (zI q)), (6, .int (zI lt)), (7, .int (zI rn)), (8, .int (zI dp)), (9, .int (zI v248)), (10, .int (zI v259)), (11, .int (zI t)), (12, .int (zI v267))] := hl
          have hv : (0 ≤ cc ∧ cc < S 0 2) ∧ (S 11 v267 < S 11 cc ∨ (S 11 cc = S 11 v267 ∧ S 12 cc ≤ S 12 v267)) ∧ RO S X Q P z b := hv
          have hP : va_P dg vwCl (brkU ck ka ad ra b) H := hP
          have hD : va_D A (brkU ck ka ad ra b) := hD
          obtain ⟨hcc, hcr, hR⟩ := hv
          refine W.as (k' := 557 + 124 * (t).toNat) (n' := 3342 + 744 * (t).toNat) rfl rfl ?_
          refine lv_istore (lv' := [(13, .int (zI cc)), (0, .ref ((ad 7) 0)), (1, .ref (ka 4)), (2, .int (zI k)), (3, .int (zI w)), (4, .int (zI (S 0 0))), (5, .int (zI q)), (6, .int (zI lt)), (7, .int (zI rn)), (8, .int (zI dp)), (9, .int (zI v248)), (10, .int (zI v259)), (11, .int (zI t)), (12, .int (zI v267))]) hx hb dL_isWhole_287 hl (by decide) rfl (fun ls hl => ?_)
          have ha1 := b11 cc
          have ha2 := b11 v267
          have ha3 := b12 cc
          have ha4 := b12 v267
          refine lv_aload_n hx hb dL_isWhole_289 rfl (lv_at hl 1 rfl) ?_
          refine lv_iload hx hb dL_isWhole_290 (lv_at hl 0 rfl) ?_
          refine x_calliU hP hD hS hA (vx_runSW (As := [.ref ((ad 7) 0), .int (zI cc)]) (rest := []) ⟨hx, hb, hml, hown, htg⟩ (w_coinsOf l dg ck ka ad ra S X Q P z b cc _ hκ hR  (by omega) hst) (vx_cwSW 2 htg (gwSW wq_1244 wq_1245 wq_0 wqL_coinsOf) rfl rfl rfl (by decide +kernel) ⟨Nat.le_of_ble_eq_true rfl, Nat.le_of_ble_eq_true rfl⟩) (wrK_preS hK hP hD hC hS hA) rfl rfl hl.1 rfl (lv_room (Nat.le_of_ble_eq_true rfl)) dL_isWhole_292 ⟨by show _ ≤ 1470; omega, by show _ ≤ 8820; omega⟩) (fun r292 b292 H locs hw292 hP hD hS => ?_)
          have hP : va_P dg vwCl (brkU ck ka ad ra b292) H := hP
          have hD : va_D A (brkU ck ka ad ra b292) := hD
          obtain ⟨rfl, hR⟩ := hw292
          refine x_is (show (vCoins S cc) = (S 11 cc) from if_pos ⟨by omega, by omega⟩) ?_
          refine lv_aload_n hx hb dL_isWhole_295 rfl (lv_at hl 1 rfl) ?_
          refine lv_iload hx hb dL_isWhole_296 (lv_at hl 13 rfl) ?_
          refine x_calliU hP hD hS hA (vx_runSW (As := [.ref ((ad 7) 0), .int (zI v267)]) (rest := [.int (zI (S 11 cc))]) ⟨hx, hb, hml, hown, htg⟩ (w_coinsOf l dg ck ka ad ra S X Q P z b292 v267 _ hκ hR  (by omega) hst) (vx_cwSW 2 htg (gwSW wq_1244 wq_1245 wq_0 wqL_coinsOf) rfl rfl rfl (by decide +kernel) ⟨Nat.le_of_ble_eq_true rfl, Nat.le_of_ble_eq_true rfl⟩) (wrK_preS hK hP hD hC hS hA) rfl rfl hl.1 rfl (lv_room (Nat.le_of_ble_eq_true rfl)) dL_isWhole_298 ⟨by show _ ≤ 1470; omega, by show _ ≤ 8820; omega⟩) (fun r298 b298 H locs hw298 hP hD hS => ?_)
          have hP : va_P dg vwCl (brkU ck ka ad ra b298) H := hP
          have hD : va_D A (brkU ck ka ad ra b298) := hD
          obtain ⟨rfl, hR⟩ := hw298
          refine x_is (show (vCoins S v267) = (S 11 v267) from if_pos ⟨by omega, by omega⟩) ?_
          refine x_icmp_lt (tgt := 334) hx hb dL_isWhole_301 (by decide) (by omega) (by omega) (fun c301 => False.elim (by omega)) (fun c301 => ?_)
          refine lv_aload_n hx hb dL_isWhole_304 rfl (lv_at hl 1 rfl) ?_
          refine lv_iload hx hb dL_isWhole_305 (lv_at hl 0 rfl) ?_
          refine x_calliU hP hD hS hA (vx_runSW (As := [.ref ((ad 7) 0), .int (zI cc)]) (rest := []) ⟨hx, hb, hml, hown, htg⟩ (w_coinsOf l dg ck ka ad ra S X Q P z b298 cc _ hκ hR  (by omega) hst) (vx_cwSW 2 htg (gwSW wq_1244 wq_1245 wq_0 wqL_coinsOf) rfl rfl rfl (by decide +kernel) ⟨Nat.le_of_ble_eq_true rfl, Nat.le_of_ble_eq_true rfl⟩) (wrK_preS hK hP hD hC hS hA) rfl rfl hl.1 rfl (lv_room (Nat.le_of_ble_eq_true rfl)) dL_isWhole_307 ⟨by show _ ≤ 1470; omega, by show _ ≤ 8820; omega⟩) (fun r307 b307 H locs hw307 hP hD hS => ?_)
          have hP : va_P dg vwCl (brkU ck ka ad ra b307) H := hP
          have hD : va_D A (brkU ck ka ad ra b307) := hD
          obtain ⟨rfl, hR⟩ := hw307
          refine x_is (show (vCoins S cc) = (S 11 cc) from if_pos ⟨by omega, by omega⟩) ?_
          refine lv_aload_n hx hb dL_isWhole_310 rfl (lv_at hl 1 rfl) ?_
          refine lv_iload hx hb dL_isWhole_311 (lv_at hl 13 rfl) ?_
          refine x_calliU hP hD hS hA (vx_runSW (As := [.ref ((ad 7) 0), .int (zI v267)]) (rest := [.int (zI (S 11 cc))]) ⟨hx, hb, hml, hown, htg⟩ (w_coinsOf l dg ck ka ad ra S X Q P z b307 v267 _ hκ hR  (by omega) hst) (vx_cwSW 2 htg (gwSW wq_1244 wq_1245 wq_0 wqL_coinsOf) rfl rfl rfl (by decide +kernel) ⟨Nat.le_of_ble_eq_true rfl, Nat.le_of_ble_eq_true rfl⟩) (wrK_preS hK hP hD hC hS hA) rfl rfl hl.1 rfl (lv_room (Nat.le_of_ble_eq_true rfl)) dL_isWhole_313 ⟨by show _ ≤ 1470; omega, by show _ ≤ 8820; omega⟩) (fun r313 b313 H locs hw313 hP hD hS => ?_)
          have hP : va_P dg vwCl (brkU ck ka ad ra b313) H := hP
          have hD : va_D A (brkU ck ka ad ra b313) := hD
          obtain ⟨rfl, hR⟩ := hw313
          refine x_is (show (vCoins S v267) = (S 11 v267) from if_pos ⟨by omega, by omega⟩) ?_
          refine x_icmp_ne (tgt := 336) hx hb dL_isWhole_316 (by decide) (by omega) (by omega) (fun c316 => ?_) (fun c316 => ?_)
          · obtain ⟨v336, e_v336⟩ : ∃ y9 : Int, y9 = t + 1 := ⟨_, rfl⟩
            refine lv_iinc (v := zI v336) (lv' := [(11, .int (zI v336)), (13, .int (zI cc)), (0, .ref ((ad 7) 0)), (1, .ref (ka 4)), (2, .int (zI k)), (3, .int (zI w)), (4, .int (zI (S 0 0))), (5, .int (zI q)), (6, .int (zI lt)), (7, .int (zI rn)), (8, .int (zI dp)), (9, .int (zI v248)), (10, .int (zI v259)), (12, .int (zI v267))]) hx hb dL_isWhole_336 hl (k := 12) rfl (by rw [e_v336]; exact zI_add _ _) (by decide) rfl (fun ls hl => ?_)
            refine lv_goto (tgt := 201) hx hb dL_isWhole_339 (by decide) ?_
            exact W.widen (k := 440 + 124 * (v336).toNat) (n := 2640 + 744 * (v336).toNat) (by omega) (by omega) (ih_201 (b313, v248, v259, v336) (show (0 ≤ v336 ∧ v336 ≤ S 0 2) ∧ v248 = S 0 5 + dp + sumZ (S 11) v336.toNat ∧ v259 = sumZ (S 12) v336.toNat ∧ RO S X Q P z b313 from ⟨by omega, by rw [e_v248, e_v336, sumZ_s ht.1, hco9]; omega, by rw [e_v259, e_v336, sumZ_s ht.1, ← hdf9], hR⟩) (show (S 0 2 - v336).toNat < (S 0 2 - t).toNat from by omega) ls H locs (lv_sub hl [2, 3, 4, 5, 6, 7, 8, 9, 10, 11, 12, 0] rfl) hP hD hS)
          · refine lv_aload_n hx hb dL_isWhole_319 rfl (lv_at hl 1 rfl) ?_
            refine lv_iload hx hb dL_isWhole_320 (lv_at hl 0 rfl) ?_
            refine x_calliU hP hD hS hA (vx_runSW (As := [.ref ((ad 7) 0), .int (zI cc)]) (rest := []) ⟨hx, hb, hml, hown, htg⟩ (w_defaultsOf l dg ck ka ad ra S X Q P z b313 cc _ hκ hR  (by omega) hst) (vx_cwSW 2 htg (gwSW wq_1251 wq_1252 wq_0 wqL_defaultsOf) rfl rfl rfl (by decide +kernel) ⟨Nat.le_of_ble_eq_true rfl, Nat.le_of_ble_eq_true rfl⟩) (wrK_preS hK hP hD hC hS hA) rfl rfl hl.1 rfl (lv_room (Nat.le_of_ble_eq_true rfl)) dL_isWhole_322 ⟨by show _ ≤ 1470; omega, by show _ ≤ 8820; omega⟩) (fun r322 b322 H locs hw322 hP hD hS => ?_)
            have hP : va_P dg vwCl (brkU ck ka ad ra b322) H := hP
            have hD : va_D A (brkU ck ka ad ra b322) := hD
            obtain ⟨rfl, hR⟩ := hw322
            refine x_is (show (vDefs S cc) = (S 12 cc) from if_pos ⟨by omega, by omega⟩) ?_
            refine lv_aload_n hx hb dL_isWhole_325 rfl (lv_at hl 1 rfl) ?_
            refine lv_iload hx hb dL_isWhole_326 (lv_at hl 13 rfl) ?_
            refine x_calliU hP hD hS hA (vx_runSW (As := [.ref ((ad 7) 0), .int (zI v267)]) (rest := [.int (zI (S 12 cc))]) ⟨hx, hb, hml, hown, htg⟩ (w_defaultsOf l dg ck ka ad ra S X Q P z b322 v267 _ hκ hR  (by omega) hst) (vx_cwSW 2 htg (gwSW wq_1251 wq_1252 wq_0 wqL_defaultsOf) rfl rfl rfl (by decide +kernel) ⟨Nat.le_of_ble_eq_true rfl, Nat.le_of_ble_eq_true rfl⟩) (wrK_preS hK hP hD hC hS hA) rfl rfl hl.1 rfl (lv_room (Nat.le_of_ble_eq_true rfl)) dL_isWhole_328 ⟨by show _ ≤ 1470; omega, by show _ ≤ 8820; omega⟩) (fun r328 b328 H locs hw328 hP hD hS => ?_)
            have hP : va_P dg vwCl (brkU ck ka ad ra b328) H := hP
            have hD : va_D A (brkU ck ka ad ra b328) := hD
            obtain ⟨rfl, hR⟩ := hw328
            refine x_is (show (vDefs S v267) = (S 12 v267) from if_pos ⟨by omega, by omega⟩) ?_
            refine x_icmp_le (tgt := 336) hx hb dL_isWhole_331 (by decide) (by omega) (by omega) (fun c331 => ?_) (fun c331 => False.elim (by omega))
            obtain ⟨v336, e_v336⟩ : ∃ y9 : Int, y9 = t + 1 := ⟨_, rfl⟩
            refine lv_iinc (v := zI v336) (lv' := [(11, .int (zI v336)), (13, .int (zI cc)), (0, .ref ((ad 7) 0)), (1, .ref (ka 4)), (2, .int (zI k)), (3, .int (zI w)), (4, .int (zI (S 0 0))), (5, .int (zI q)), (6, .int (zI lt)), (7, .int (zI rn)), (8, .int (zI dp)), (9, .int (zI v248)), (10, .int (zI v259)), (12, .int (zI v267))]) hx hb dL_isWhole_336 hl (k := 12) rfl (by rw [e_v336]; exact zI_add _ _) (by decide) rfl (fun ls hl => ?_)
            refine lv_goto (tgt := 201) hx hb dL_isWhole_339 (by decide) ?_
            exact W.widen (k := 440 + 124 * (v336).toNat) (n := 2640 + 744 * (v336).toNat) (by omega) (by omega) (ih_201 (b328, v248, v259, v336) (show (0 ≤ v336 ∧ v336 ≤ S 0 2) ∧ v248 = S 0 5 + dp + sumZ (S 11) v336.toNat ∧ v259 = sumZ (S 12) v336.toNat ∧ RO S X Q P z b328 from ⟨by omega, by rw [e_v248, e_v336, sumZ_s ht.1, hco9]; omega, by rw [e_v259, e_v336, sumZ_s ht.1, ← hdf9], hR⟩) (show (S 0 2 - v336).toNat < (S 0 2 - t).toNat from by omega) ls H locs (lv_sub hl [2, 3, 4, 5, 6, 7, 8, 9, 10, 11, 12, 0] rfl) hP hD hS)
        · refine lv_iload hx hb dL_isWhole_269 (lv_at hl 12 rfl) ?_
          refine x_if_ne (tgt := 279) hx hb dL_isWhole_271 (by decide) (by omega) (fun c271 => ?_) (fun c271 => ?_)
          · refine lv_aload_n hx hb dL_isWhole_279 rfl (lv_at hl 3 rfl) ?_
            refine lv_iload hx hb dL_isWhole_280 (lv_at hl 12 rfl) ?_
            refine x_iconst hx hb dL_isWhole_282 ?_
            refine x_isub hx hb dL_isWhole_283 ?_
            refine x_calliU hP hD hS hA (vx_runSW (As := [.ref ((ad 7) 0), .int (zI (t - 1))]) (rest := []) ⟨hx, hb, hml, hown, htg⟩ (w_tenantByCoins l dg ck ka ad ra S X Q P z b264 (t - 1) _ hκ hR  (by omega) hst) (vx_cwSW 2 htg (gwSW wq_1408 wq_1409 wq_0 wqL_tenantByCoins) rfl rfl rfl (by decide +kernel) ⟨Nat.le_of_ble_eq_true rfl, Nat.le_of_ble_eq_true rfl⟩) (wrK_preS hK hP hD hC hS hA) rfl rfl hl.1 rfl (lv_room (Nat.le_of_ble_eq_true rfl)) dL_isWhole_284 ⟨by show _ ≤ 1470; omega, by show _ ≤ 8820; omega⟩) (fun r284 b284 H locs hw284 hP hD hS => ?_)
            have hP : va_P dg vwCl (brkU ck ka ad ra b284) H := hP
            have hD : va_D A (brkU ck ka ad ra b284) := hD
            obtain ⟨rfl, hR⟩ := hw284
            refine x_is (show (vByC S (t - 1)) = (tbC S (t - 1)) from if_neg (by have h9 := (tbC_p hI).1 (t - 1) (by omega) (by omega); omega)) ?_
            exact W.widen (k := 557 + 124 * (t).toNat) (n := 3342 + 744 * (t).toNat) (by omega) (by omega) (mid_287 (b284, (tbC S (t - 1))) (show (0 ≤ (tbC S (t - 1)) ∧ (tbC S (t - 1)) < S 0 2) ∧ (S 11 v267 < S 11 (tbC S (t - 1)) ∨ (S 11 (tbC S (t - 1)) = S 11 v267 ∧ S 12 (tbC S (t - 1)) ≤ S 12 v267)) ∧ RO S X Q P z b284 from ⟨by have h9 := (tbC_p hI).1 (t - 1) (by omega) (by omega); omega, by rw [e_v267]; exact tbC_o hI (by omega) (by omega), hR⟩) ls H locs (lv_sub hl [3, 4, 5, 6, 7, 8, 9, 10, 11, 2, 1, 12, 0] rfl) hP hD hS)
          · refine lv_iload hx hb dL_isWhole_274 (lv_at hl 0 rfl) ?_
            refine lv_goto (tgt := 287) hx hb dL_isWhole_276 (by decide) ?_
            exact W.widen (k := 557 + 124 * (t).toNat) (n := 3342 + 744 * (t).toNat) (by omega) (by omega) (mid_287 (b264, v267) (show (0 ≤ v267 ∧ v267 < S 0 2) ∧ (S 11 v267 < S 11 v267 ∨ (S 11 v267 = S 11 v267 ∧ S 12 v267 ≤ S 12 v267)) ∧ RO S X Q P z b264 from ⟨hv267, Or.inr ⟨rfl, Int.le_refl _⟩, hR⟩) ls H locs (lv_sub hl [3, 4, 5, 6, 7, 8, 9, 10, 11, 2, 1, 12, 0] rfl) hP hD hS)
      · refine lv_iload_n hx hb dL_isWhole_210 rfl (lv_at hl 3 rfl) ?_
        refine x_if_ne (tgt := 228) hx hb dL_isWhole_211 (by decide) (by omega) (fun c211 => ?_) (fun c211 => ?_)
        · refine lv_aload_n hx hb dL_isWhole_228 rfl (lv_at hl 0 rfl) ?_
          refine lv_iload hx hb dL_isWhole_229 (lv_at hl 11 rfl) ?_
          refine x_calliU hP hD hS hA (va_runS (As := [.ref ((ad 7) 0), .int (zI t)]) (rest := []) ⟨hx, hb, hml, hown, htg⟩ (lf_isTenant l dg ck ka ad ra S X Q P z b204 t _ hκ hR ⟨by omega, by omega⟩ hst) (cwS 2 htg (gwS wq_1394 wq_1395 wq_0 wq_1396) rfl rfl rfl (by decide +kernel) ⟨Nat.le_of_ble_eq_true rfl, Nat.le_of_ble_eq_true rfl⟩) (wrK_preS hK hP hD hC hS hA) rfl rfl hl.1 rfl (lv_room (Nat.le_of_ble_eq_true rfl)) dL_isWhole_231 ⟨by show _ ≤ 1470; omega, by show _ ≤ 8820; omega⟩) (fun r231 b231 H locs hw231 hP hD hS => ?_)
          have hP : va_P dg vwCl (brkU ck ka ad ra b231) H := hP
          have hD : va_D A (brkU ck ka ad ra b231) := hD
          obtain ⟨rfl, hR⟩ := hw231
          refine x_if_ne (tgt := 239) hx hb dL_isWhole_234 (by decide) (by omega) (fun c234 => ?_) (fun c234 => absurd c234 (by decide))
          exact W.widen (k := 552 + 124 * (t).toNat) (n := 3312 + 744 * (t).toNat) (by omega) (by omega) (mid_239 (b231) (show RO S X Q P z b231 from hR) ls H locs (lv_sub hl [0, 1, 2, 3, 4, 5, 6, 7, 8, 9, 10, 11] rfl) hP hD hS)
        · refine lv_iload hx hb dL_isWhole_214 (lv_at hl 11 rfl) ?_
          refine lv_aload_n hx hb dL_isWhole_216 rfl (lv_at hl 1 rfl) ?_
          refine lv_iload_n hx hb dL_isWhole_217 rfl (lv_at hl 2 rfl) ?_
          refine x_iconst hx hb dL_isWhole_218 ?_
          refine x_iadd hx hb dL_isWhole_219 ?_
          refine x_bipush hx hb dL_isWhole_220 (by decide) ?_
          refine vp_callSi (W.runS (As := [.ref (ka 4), .int (zI (k + 2)), .int (zI 8)]) (rest := [.int (zI t)]) ⟨hx, hb, hml, hown, htg⟩ (lf_pick l dg ck ka (k + 2) 8 (by omega) (by omega)) (cwS 3 htg (gwS wq_331 wq_332 wq_0 wq_333) rfl rfl rfl (by decide +kernel) ⟨Nat.le_of_ble_eq_true rfl, Nat.le_of_ble_eq_true rfl⟩) (rdK_preS hK va_P_nil hC hS) rfl rfl hl.1 rfl (lv_room (Nat.le_of_ble_eq_true rfl)) dL_isWhole_222 ⟨by show _ ≤ 1470; omega, by show _ ≤ 8820; omega⟩) (fun r222 hr222 => ?_)
          obtain ⟨k222, rfl, hk222⟩ := hr222
          refine x_icmp_ne (tgt := 239) hx hb dL_isWhole_225 (by decide) (by omega) (by omega) (fun c225 => ?_) (fun c225 => ?_)
          · exact W.widen (k := 552 + 124 * (t).toNat) (n := 3312 + 744 * (t).toNat) (by omega) (by omega) (mid_239 (b204) (show RO S X Q P z b204 from hR) ls H locs (lv_sub hl [0, 1, 2, 3, 4, 5, 6, 7, 8, 9, 10, 11] rfl) hP hD hS)
          · refine lv_aload_n hx hb dL_isWhole_228 rfl (lv_at hl 0 rfl) ?_
            refine lv_iload hx hb dL_isWhole_229 (lv_at hl 11 rfl) ?_
            refine x_calliU hP hD hS hA (va_runS (As := [.ref ((ad 7) 0), .int (zI t)]) (rest := []) ⟨hx, hb, hml, hown, htg⟩ (lf_isTenant l dg ck ka ad ra S X Q P z b204 t _ hκ hR ⟨by omega, by omega⟩ hst) (cwS 2 htg (gwS wq_1394 wq_1395 wq_0 wq_1396) rfl rfl rfl (by decide +kernel) ⟨Nat.le_of_ble_eq_true rfl, Nat.le_of_ble_eq_true rfl⟩) (wrK_preS hK hP hD hC hS hA) rfl rfl hl.1 rfl (lv_room (Nat.le_of_ble_eq_true rfl)) dL_isWhole_231 ⟨by show _ ≤ 1470; omega, by show _ ≤ 8820; omega⟩) (fun r231 b231 H locs hw231 hP hD hS => ?_)
            have hP : va_P dg vwCl (brkU ck ka ad ra b231) H := hP
            have hD : va_D A (brkU ck ka ad ra b231) := hD
            obtain ⟨rfl, hR⟩ := hw231
            refine x_if_ne (tgt := 239) hx hb dL_isWhole_234 (by decide) (by omega) (fun c234 => ?_) (fun c234 => absurd c234 (by decide))
            exact W.widen (k := 552 + 124 * (t).toNat) (n := 3312 + 744 * (t).toNat) (by omega) (by omega) (mid_239 (b231) (show RO S X Q P z b231 from hR) ls H locs (lv_sub hl [0, 1, 2, 3, 4, 5, 6, 7, 8, 9, 10, 11] rfl) hP hD hS)
  · have hbi : isBench S i := ⟨by omega, by omega⟩
    refine x_midN (ι := BU) (nL := 17) (D := dg) (cl := vwCl) (A := A) (H0 := s.heap) (fun v => RO S X Q P z v) (fun v => [(0, .ref ((ad 7) 0)), (1, .ref (ka 4)), (2, .int (zI k)), (3, .int (zI w)), (4, .int (zI (S 0 0))), (5, .int (zI q)), (6, .int (zI lt)), (7, .int (zI rn)), (8, .int (zI dp)), (9, .int (zI i))]) (fun v => []) (fun v => brkU ck ka ad ra v) 57 (30 + 44 * (i).toNat) (180 + 264 * (i).toNat) ?_ (fun mid_57 => ?_)
    · intro v hv ls H locs hl hP hD hS
      obtain ⟨b, rfl⟩ : ∃ z9 : BU, z9 = v := ⟨_, rfl⟩
      have hl : lv_has ls 17 [(0, .ref ((ad 7) 0)), (1, .ref (ka 4)), (2, .int (zI k)), (3, .int (zI w)), (4, .int (zI (S 0 0))), (5, .int (zI q)), (6, .int (zI lt)), (7, .int (zI rn)), (8, .int (zI dp)), (9, .int (zI i))] := hl
      have hv : RO S X Q P z b := hv
      have hP : va_P dg vwCl (brkU ck ka ad ra b) H := hP
      have hD : va_D A (brkU ck ka ad ra b) := hD
      have hR := hv
      refine W.as (k' := 30 + 44 * (i).toNat) (n' := 180 + 264 * (i).toNat) rfl rfl ?_
      refine lv_iload hx hb dL_isWhole_57 (lv_at hl 5 rfl) ?_
      refine lv_aload_n hx hb dL_isWhole_59 rfl (lv_at hl 0 rfl) ?_
      refine lv_iload hx hb dL_isWhole_60 (lv_at hl 9 rfl) ?_
      refine x_calliU hP hD hS hA (vx_runSW (As := [.ref ((ad 7) 0), .int (zI i)]) (rest := [.int (zI q)]) ⟨hx, hb, hml, hown, htg⟩ (w_isQuiet l dg ck ka ad ra S X Q P z b i _ hκ hR  (by omega) hst) (vx_cwSW 2 htg (gwSW wq_1371 wq_1372 wq_0 wqL_isQuiet) rfl rfl rfl (by decide +kernel) ⟨Nat.le_of_ble_eq_true rfl, Nat.le_of_ble_eq_true rfl⟩) (wrK_preS hK hP hD hC hS hA) rfl rfl hl.1 rfl (lv_room (Nat.le_of_ble_eq_true rfl)) dL_isWhole_62 ⟨by show _ ≤ 1470; omega, by show _ ≤ 8820; omega⟩) (fun r62 b62 H locs hw62 hP hD hS => ?_)
      have hP : va_P dg vwCl (brkU ck ka ad ra b62) H := hP
      have hD : va_D A (brkU ck ka ad ra b62) := hD
      obtain ⟨rfl, hR⟩ := hw62
      refine x_is (show (vQuiet S i) = (bI (quietB S i)) from if_pos ⟨by omega, by omega⟩) ?_
      refine x_iadd hx hb dL_isWhole_65 ?_
      refine x_top _ (fun v66 e_v66 => ?_)
      refine lv_istore (lv' := [(5, .int (zI v66)), (0, .ref ((ad 7) 0)), (1, .ref (ka 4)), (2, .int (zI k)), (3, .int (zI w)), (4, .int (zI (S 0 0))), (6, .int (zI lt)), (7, .int (zI rn)), (8, .int (zI dp)), (9, .int (zI i))]) hx hb dL_isWhole_66 hl (by decide) rfl (fun ls hl => ?_)
      refine lv_iload hx hb dL_isWhole_68 (lv_at hl 6 rfl) ?_
      refine lv_aload_n hx hb dL_isWhole_70 rfl (lv_at hl 1 rfl) ?_
      refine lv_iload hx hb dL_isWhole_71 (lv_at hl 9 rfl) ?_
      refine x_calliU hP hD hS hA (vx_runSW (As := [.ref ((ad 7) 0), .int (zI i)]) (rest := [.int (zI lt)]) ⟨hx, hb, hml, hown, htg⟩ (w_isLet l dg ck ka ad ra S X Q P z b62 i _ hκ hR  (by omega) hst) (vx_cwSW 2 htg (gwSW wq_525 wq_526 wq_0 wqL_isLet) rfl rfl rfl (by decide +kernel) ⟨Nat.le_of_ble_eq_true rfl, Nat.le_of_ble_eq_true rfl⟩) (wrK_preS hK hP hD hC hS hA) rfl rfl hl.1 rfl (lv_room (Nat.le_of_ble_eq_true rfl)) dL_isWhole_73 ⟨by show _ ≤ 1470; omega, by show _ ≤ 8820; omega⟩) (fun r73 b73 H locs hw73 hP hD hS => ?_)
      have hP : va_P dg vwCl (brkU ck ka ad ra b73) H := hP
      have hD : va_D A (brkU ck ka ad ra b73) := hD
      obtain ⟨rfl, hR⟩ := hw73
      refine x_is (show (vLet S i) = (bI (S 4 i ≠ 0)) from if_pos ⟨by omega, by omega⟩) ?_
      refine x_iadd hx hb dL_isWhole_76 ?_
      refine x_top _ (fun v77 e_v77 => ?_)
      refine lv_istore (lv' := [(6, .int (zI v77)), (5, .int (zI v66)), (0, .ref ((ad 7) 0)), (1, .ref (ka 4)), (2, .int (zI k)), (3, .int (zI w)), (4, .int (zI (S 0 0))), (7, .int (zI rn)), (8, .int (zI dp)), (9, .int (zI i))]) hx hb dL_isWhole_77 hl (by decide) rfl (fun ls hl => ?_)
      refine lv_iload hx hb dL_isWhole_79 (lv_at hl 7 rfl) ?_
      refine lv_aload_n hx hb dL_isWhole_81 rfl (lv_at hl 2 rfl) ?_
      refine lv_iload hx hb dL_isWhole_82 (lv_at hl 9 rfl) ?_
      refine x_calliU hP hD hS hA (vx_runSW (As := [.ref ((ad 7) 0), .int (zI i)]) (rest := [.int (zI rn)]) ⟨hx, hb, hml, hown, htg⟩ (w_rentOf l dg ck ka ad ra S X Q P z b73 i _ hκ hR  (by omega) hst) (vx_cwSW 2 htg (gwSW wq_338 wq_339 wq_0 wqL_rentOf) rfl rfl rfl (by decide +kernel) ⟨Nat.le_of_ble_eq_true rfl, Nat.le_of_ble_eq_true rfl⟩) (wrK_preS hK hP hD hC hS hA) rfl rfl hl.1 rfl (lv_room (Nat.le_of_ble_eq_true rfl)) dL_isWhole_84 ⟨by show _ ≤ 1470; omega, by show _ ≤ 8820; omega⟩) (fun r84 b84 H locs hw84 hP hD hS => ?_)
      have hP : va_P dg vwCl (brkU ck ka ad ra b84) H := hP
      have hD : va_D A (brkU ck ka ad ra b84) := hD
      obtain ⟨rfl, hR⟩ := hw84
      refine x_is (show (vRent S i) = (rent S i) from if_pos ⟨by omega, by omega⟩) ?_
      refine x_iadd hx hb dL_isWhole_87 ?_
      refine x_top _ (fun v88 e_v88 => ?_)
      refine lv_istore (lv' := [(7, .int (zI v88)), (6, .int (zI v77)), (5, .int (zI v66)), (0, .ref ((ad 7) 0)), (1, .ref (ka 4)), (2, .int (zI k)), (3, .int (zI w)), (4, .int (zI (S 0 0))), (8, .int (zI dp)), (9, .int (zI i))]) hx hb dL_isWhole_88 hl (by decide) rfl (fun ls hl => ?_)
      refine lv_iload hx hb dL_isWhole_90 (lv_at hl 8 rfl) ?_
      refine x_iconst hx hb dL_isWhole_92 ?_
      refine lv_aload_n hx hb dL_isWhole_93 rfl (lv_at hl 3 rfl) ?_
      refine lv_iload hx hb dL_isWhole_94 (lv_at hl 9 rfl) ?_
      refine x_calliU hP hD hS hA (vx_runSW (As := [.ref ((ad 7) 0), .int (zI i)]) (rest := [.int (zI 0), .int (zI dp)]) ⟨hx, hb, hml, hown, htg⟩ (w_depositOf l dg ck ka ad ra S X Q P z b84 i _ hκ hR  (by omega) hst) (vx_cwSW 2 htg (gwSW wq_1218 wq_1219 wq_0 wqL_depositOf) rfl rfl rfl (by decide +kernel) ⟨Nat.le_of_ble_eq_true rfl, Nat.le_of_ble_eq_true rfl⟩) (wrK_preS hK hP hD hC hS hA) rfl rfl hl.1 rfl (lv_room (Nat.le_of_ble_eq_true rfl)) dL_isWhole_96 ⟨by show _ ≤ 1470; omega, by show _ ≤ 8820; omega⟩) (fun r96 b96 H locs hw96 hP hD hS => ?_)
      have hP : va_P dg vwCl (brkU ck ka ad ra b96) H := hP
      have hD : va_D A (brkU ck ka ad ra b96) := hD
      obtain ⟨rfl, hR⟩ := hw96
      have hdv9 : -75 ≤ vDep S i ∧ vDep S i ≤ 20 := by have h8 := b5 i; have h7 : (S 4 i = 0 ∧ vDep S i = -75) ∨ (S 4 i ≠ 0 ∧ vDep S i = S 5 i) := (Classical.em (S 4 i = 0)).elim (fun h6 => Or.inl ⟨h6, (if_pos hbi).trans (if_pos h6)⟩) (fun h6 => Or.inr ⟨h6, (if_pos hbi).trans (if_neg h6)⟩); omega
      refine x_mmax hx hb (hml.trans hl.1.symm) hown (htg _ wq_1378) (htg _ wq_466) (htg _ wq_23) (htg _ wq_467) (Nat.le_of_ble_eq_true rfl) (Nat.le_of_ble_eq_true rfl) (by show _ ≤ 1470; omega) (by show _ ≤ 8820; omega) (by omega) (by omega) dL_isWhole_99 (fun m99 hm99 => ?_)
      have hm9 : m99 = S 5 i := by have h9 := (hV.2.2.2.2.2.2.2.1 i); have h8 := b5 i; have h7 : (S 4 i = 0 ∧ vDep S i = -75) ∨ (S 4 i ≠ 0 ∧ vDep S i = S 5 i) := (Classical.em (S 4 i = 0)).elim (fun h6 => Or.inl ⟨h6, (if_pos hbi).trans (if_pos h6)⟩) (fun h6 => Or.inr ⟨h6, (if_pos hbi).trans (if_neg h6)⟩); omega
      refine x_iadd hx hb dL_isWhole_102 ?_
      refine x_top _ (fun v103 e_v103 => ?_)
      refine lv_istore (lv' := [(8, .int (zI v103)), (7, .int (zI v88)), (6, .int (zI v77)), (5, .int (zI v66)), (0, .ref ((ad 7) 0)), (1, .ref (ka 4)), (2, .int (zI k)), (3, .int (zI w)), (4, .int (zI (S 0 0))), (9, .int (zI i))]) hx hb dL_isWhole_103 hl (by decide) rfl (fun ls hl => ?_)
      refine lv_aload_n hx hb dL_isWhole_105 rfl (lv_at hl 4 rfl) ?_
      refine lv_iload hx hb dL_isWhole_106 (lv_at hl 9 rfl) ?_
      refine x_calliU hP hD hS hA (vx_runSW (As := [.ref ((ad 7) 0), .int (zI i)]) (rest := []) ⟨hx, hb, hml, hown, htg⟩ (w_benchByRent l dg ck ka ad ra S X Q P z b96 i _ hκ hR  (by omega) hst) (vx_cwSW 2 htg (gwSW wq_1379 wq_1380 wq_0 wqL_benchByRent) rfl rfl rfl (by decide +kernel) ⟨Nat.le_of_ble_eq_true rfl, Nat.le_of_ble_eq_true rfl⟩) (wrK_preS hK hP hD hC hS hA) rfl rfl hl.1 rfl (lv_room (Nat.le_of_ble_eq_true rfl)) dL_isWhole_108 ⟨by show _ ≤ 1470; omega, by show _ ≤ 8820; omega⟩) (fun r108 b108 H locs hw108 hP hD hS => ?_)
      have hP : va_P dg vwCl (brkU ck ka ad ra b108) H := hP
      have hD : va_D A (brkU ck ka ad ra b108) := hD
      obtain ⟨rfl, hR⟩ := hw108
      refine x_is (show (vByR S i) = (bbR S i) from if_neg (by have h9 := (bbR_p hI).1 i (by omega) (by omega); omega)) ?_
      refine x_top _ (fun v111 e_v111 => ?_)
      refine lv_istore (lv' := [(10, .int (zI v111)), (8, .int (zI v103)), (7, .int (zI v88)), (6, .int (zI v77)), (5, .int (zI v66)), (0, .ref ((ad 7) 0)), (1, .ref (ka 4)), (2, .int (zI k)), (3, .int (zI w)), (4, .int (zI (S 0 0))), (9, .int (zI i))]) hx hb dL_isWhole_111 hl (by decide) rfl (fun ls hl => ?_)
      have hv111 : 0 ≤ v111 ∧ v111 < S 0 0 := by have h9 := (bbR_p hI).1 i (by omega) (by omega); omega
      refine x_midN (ι := BU × Int) (nL := 17) (D := dg) (cl := vwCl) (A := A) (H0 := s.heap) (fun v => (0 ≤ v.2 ∧ v.2 < S 0 0) ∧ (rent S v.2 < rent S v111 ∨ (rent S v.2 = rent S v111 ∧ (S 4 v.2 ≠ 0 → S 4 v111 ≠ 0))) ∧ RO S X Q P z v.1) (fun v => [(0, .ref ((ad 7) 0)), (1, .ref (ka 4)), (2, .int (zI k)), (3, .int (zI w)), (4, .int (zI (S 0 0))), (5, .int (zI v66)), (6, .int (zI v77)), (7, .int (zI v88)), (8, .int (zI v103)), (9, .int (zI i)), (10, .int (zI v111))]) (fun v => [.int (zI v.2)]) (fun v => brkU ck ka ad ra v.1) 131 (38 + 44 * (i).toNat) (228 + 264 * (i).toNat) ?_ (fun mid_131 => ?_)
      · intro v hv ls H locs hl hP hD hS
        obtain ⟨b, cc⟩ := v
        have hl : lv_has ls 17 [(0, .ref ((ad 7) 0)), (1, .ref (ka 4)), (2, .int (zI k)), (3, .int (zI w)), (4, .int (zI (S 0 0))), (5, .int (zI v66)), (6, .int (zI v77)), (7, .int (zI v88)), (8, .int (zI v103)), (9, .int (zI i)), (10, .int (zI v111))] := hl
        have hv : (0 ≤ cc ∧ cc < S 0 0) ∧ (rent S cc < rent S v111 ∨ (rent S cc = rent S v111 ∧ (S 4 cc ≠ 0 → S 4 v111 ≠ 0))) ∧ RO S X Q P z b := hv
        have hP : va_P dg vwCl (brkU ck ka ad ra b) H := hP
        have hD : va_D A (brkU ck ka ad ra b) := hD
        obtain ⟨hcc, hcr, hR⟩ := hv
        refine W.as (k' := 38 + 44 * (i).toNat) (n' := 228 + 264 * (i).toNat) rfl rfl ?_
        refine lv_istore (lv' := [(11, .int (zI cc)), (0, .ref ((ad 7) 0)), (1, .ref (ka 4)), (2, .int (zI k)), (3, .int (zI w)), (4, .int (zI (S 0 0))), (5, .int (zI v66)), (6, .int (zI v77)), (7, .int (zI v88)), (8, .int (zI v103)), (9, .int (zI i)), (10, .int (zI v111))]) hx hb dL_isWhole_131 hl (by decide) rfl (fun ls hl => ?_)
        have hr1 := rent_r hI cc
        have hr2 := rent_r hI v111
        refine lv_aload_n hx hb dL_isWhole_133 rfl (lv_at hl 1 rfl) ?_
        refine lv_iload hx hb dL_isWhole_134 (lv_at hl 0 rfl) ?_
        refine x_calliU hP hD hS hA (vx_runSW (As := [.ref ((ad 7) 0), .int (zI cc)]) (rest := []) ⟨hx, hb, hml, hown, htg⟩ (w_rentOf l dg ck ka ad ra S X Q P z b cc _ hκ hR  (by omega) hst) (vx_cwSW 2 htg (gwSW wq_338 wq_339 wq_0 wqL_rentOf) rfl rfl rfl (by decide +kernel) ⟨Nat.le_of_ble_eq_true rfl, Nat.le_of_ble_eq_true rfl⟩) (wrK_preS hK hP hD hC hS hA) rfl rfl hl.1 rfl (lv_room (Nat.le_of_ble_eq_true rfl)) dL_isWhole_136 ⟨by show _ ≤ 1470; omega, by show _ ≤ 8820; omega⟩) (fun r136 b136 H locs hw136 hP hD hS => ?_)
        have hP : va_P dg vwCl (brkU ck ka ad ra b136) H := hP
        have hD : va_D A (brkU ck ka ad ra b136) := hD
        obtain ⟨rfl, hR⟩ := hw136
        refine x_is (show (vRent S cc) = (rent S cc) from if_pos ⟨by omega, by omega⟩) ?_
        refine lv_aload_n hx hb dL_isWhole_139 rfl (lv_at hl 1 rfl) ?_
        refine lv_iload hx hb dL_isWhole_140 (lv_at hl 11 rfl) ?_
        refine x_calliU hP hD hS hA (vx_runSW (As := [.ref ((ad 7) 0), .int (zI v111)]) (rest := [.int (zI (rent S cc))]) ⟨hx, hb, hml, hown, htg⟩ (w_rentOf l dg ck ka ad ra S X Q P z b136 v111 _ hκ hR  (by omega) hst) (vx_cwSW 2 htg (gwSW wq_338 wq_339 wq_0 wqL_rentOf) rfl rfl rfl (by decide +kernel) ⟨Nat.le_of_ble_eq_true rfl, Nat.le_of_ble_eq_true rfl⟩) (wrK_preS hK hP hD hC hS hA) rfl rfl hl.1 rfl (lv_room (Nat.le_of_ble_eq_true rfl)) dL_isWhole_142 ⟨by show _ ≤ 1470; omega, by show _ ≤ 8820; omega⟩) (fun r142 b142 H locs hw142 hP hD hS => ?_)
        have hP : va_P dg vwCl (brkU ck ka ad ra b142) H := hP
        have hD : va_D A (brkU ck ka ad ra b142) := hD
        obtain ⟨rfl, hR⟩ := hw142
        refine x_is (show (vRent S v111) = (rent S v111) from if_pos ⟨by omega, by omega⟩) ?_
        refine x_icmp_gt (tgt := 178) hx hb dL_isWhole_145 (by decide) (by omega) (by omega) (fun c145 => False.elim (by omega)) (fun c145 => ?_)
        refine lv_aload_n hx hb dL_isWhole_148 rfl (lv_at hl 1 rfl) ?_
        refine lv_iload hx hb dL_isWhole_149 (lv_at hl 0 rfl) ?_
        refine x_calliU hP hD hS hA (vx_runSW (As := [.ref ((ad 7) 0), .int (zI cc)]) (rest := []) ⟨hx, hb, hml, hown, htg⟩ (w_rentOf l dg ck ka ad ra S X Q P z b142 cc _ hκ hR  (by omega) hst) (vx_cwSW 2 htg (gwSW wq_338 wq_339 wq_0 wqL_rentOf) rfl rfl rfl (by decide +kernel) ⟨Nat.le_of_ble_eq_true rfl, Nat.le_of_ble_eq_true rfl⟩) (wrK_preS hK hP hD hC hS hA) rfl rfl hl.1 rfl (lv_room (Nat.le_of_ble_eq_true rfl)) dL_isWhole_151 ⟨by show _ ≤ 1470; omega, by show _ ≤ 8820; omega⟩) (fun r151 b151 H locs hw151 hP hD hS => ?_)
        have hP : va_P dg vwCl (brkU ck ka ad ra b151) H := hP
        have hD : va_D A (brkU ck ka ad ra b151) := hD
        obtain ⟨rfl, hR⟩ := hw151
        refine x_is (show (vRent S cc) = (rent S cc) from if_pos ⟨by omega, by omega⟩) ?_
        refine lv_aload_n hx hb dL_isWhole_154 rfl (lv_at hl 1 rfl) ?_
        refine lv_iload hx hb dL_isWhole_155 (lv_at hl 11 rfl) ?_
        refine x_calliU hP hD hS hA (vx_runSW (As := [.ref ((ad 7) 0), .int (zI v111)]) (rest := [.int (zI (rent S cc))]) ⟨hx, hb, hml, hown, htg⟩ (w_rentOf l dg ck ka ad ra S X Q P z b151 v111 _ hκ hR  (by omega) hst) (vx_cwSW 2 htg (gwSW wq_338 wq_339 wq_0 wqL_rentOf) rfl rfl rfl (by decide +kernel) ⟨Nat.le_of_ble_eq_true rfl, Nat.le_of_ble_eq_true rfl⟩) (wrK_preS hK hP hD hC hS hA) rfl rfl hl.1 rfl (lv_room (Nat.le_of_ble_eq_true rfl)) dL_isWhole_157 ⟨by show _ ≤ 1470; omega, by show _ ≤ 8820; omega⟩) (fun r157 b157 H locs hw157 hP hD hS => ?_)
        have hP : va_P dg vwCl (brkU ck ka ad ra b157) H := hP
        have hD : va_D A (brkU ck ka ad ra b157) := hD
        obtain ⟨rfl, hR⟩ := hw157
        refine x_is (show (vRent S v111) = (rent S v111) from if_pos ⟨by omega, by omega⟩) ?_
        refine x_icmp_ne (tgt := 180) hx hb dL_isWhole_160 (by decide) (by omega) (by omega) (fun c160 => ?_) (fun c160 => ?_)
        · obtain ⟨v180, e_v180⟩ : ∃ y9 : Int, y9 = i + 1 := ⟨_, rfl⟩
          refine lv_iinc (v := zI v180) (lv' := [(9, .int (zI v180)), (11, .int (zI cc)), (0, .ref ((ad 7) 0)), (1, .ref (ka 4)), (2, .int (zI k)), (3, .int (zI w)), (4, .int (zI (S 0 0))), (5, .int (zI v66)), (6, .int (zI v77)), (7, .int (zI v88)), (8, .int (zI v103)), (10, .int (zI v111))]) hx hb dL_isWhole_180 hl (k := 10) rfl (by rw [e_v180]; exact zI_add _ _) (by decide) rfl (fun ls hl => ?_)
          refine lv_goto (tgt := 21) hx hb dL_isWhole_183 (by decide) ?_
          exact W.widen (k := 0 + 44 * (v180).toNat) (n := 0 + 264 * (v180).toNat) (by omega) (by omega) (ih_21 (b157, v66, v77, v88, v103, v180) (show (0 ≤ v180 ∧ v180 ≤ S 0 0) ∧ v66 = sumZ (fun o => bI (quietB S o)) v180.toNat ∧ v77 = sumZ (fun o => bI (S 4 o ≠ 0)) v180.toNat ∧ v88 = sumZ (rent S) v180.toNat ∧ v103 = sumZ (S 5) v180.toNat ∧ RO S X Q P z b157 from ⟨by omega, by rw [e_v66, e_v180, sumZ_s hi.1, ← hq9] <;> rfl, by rw [e_v77, e_v180, sumZ_s hi.1, ← hlt9] <;> rfl, by rw [e_v88, e_v180, sumZ_s hi.1, ← hrn9] <;> rfl, by rw [e_v103, e_v180, sumZ_s hi.1, ← hdp9, hm9], hR⟩) (show (S 0 0 - v180).toNat < (S 0 0 - i).toNat from by omega) ls H locs (lv_sub hl [2, 3, 4, 5, 6, 7, 8, 9, 10, 0] rfl) hP hD hS)
        · have hbl : bI (S 4 cc ≠ 0) ≤ bI (S 4 v111 ≠ 0) := bI_le (fun h9 => (hcr.resolve_left (by omega)).2 h9)
          have hbr1 := bI_r (S 4 cc ≠ 0)
          have hbr2 := bI_r (S 4 v111 ≠ 0)
          refine lv_aload_n hx hb dL_isWhole_163 rfl (lv_at hl 1 rfl) ?_
          refine lv_iload hx hb dL_isWhole_164 (lv_at hl 0 rfl) ?_
          refine x_calliU hP hD hS hA (vx_runSW (As := [.ref ((ad 7) 0), .int (zI cc)]) (rest := []) ⟨hx, hb, hml, hown, htg⟩ (w_isLet l dg ck ka ad ra S X Q P z b157 cc _ hκ hR  (by omega) hst) (vx_cwSW 2 htg (gwSW wq_525 wq_526 wq_0 wqL_isLet) rfl rfl rfl (by decide +kernel) ⟨Nat.le_of_ble_eq_true rfl, Nat.le_of_ble_eq_true rfl⟩) (wrK_preS hK hP hD hC hS hA) rfl rfl hl.1 rfl (lv_room (Nat.le_of_ble_eq_true rfl)) dL_isWhole_166 ⟨by show _ ≤ 1470; omega, by show _ ≤ 8820; omega⟩) (fun r166 b166 H locs hw166 hP hD hS => ?_)
          have hP : va_P dg vwCl (brkU ck ka ad ra b166) H := hP
          have hD : va_D A (brkU ck ka ad ra b166) := hD
          obtain ⟨rfl, hR⟩ := hw166
          refine x_is (show (vLet S cc) = (bI (S 4 cc ≠ 0)) from if_pos ⟨by omega, by omega⟩) ?_
          refine lv_aload_n hx hb dL_isWhole_169 rfl (lv_at hl 1 rfl) ?_
          refine lv_iload hx hb dL_isWhole_170 (lv_at hl 11 rfl) ?_
          refine x_calliU hP hD hS hA (vx_runSW (As := [.ref ((ad 7) 0), .int (zI v111)]) (rest := [.int (zI (bI (S 4 cc ≠ 0)))]) ⟨hx, hb, hml, hown, htg⟩ (w_isLet l dg ck ka ad ra S X Q P z b166 v111 _ hκ hR  (by omega) hst) (vx_cwSW 2 htg (gwSW wq_525 wq_526 wq_0 wqL_isLet) rfl rfl rfl (by decide +kernel) ⟨Nat.le_of_ble_eq_true rfl, Nat.le_of_ble_eq_true rfl⟩) (wrK_preS hK hP hD hC hS hA) rfl rfl hl.1 rfl (lv_room (Nat.le_of_ble_eq_true rfl)) dL_isWhole_172 ⟨by show _ ≤ 1470; omega, by show _ ≤ 8820; omega⟩) (fun r172 b172 H locs hw172 hP hD hS => ?_)
          have hP : va_P dg vwCl (brkU ck ka ad ra b172) H := hP
          have hD : va_D A (brkU ck ka ad ra b172) := hD
          obtain ⟨rfl, hR⟩ := hw172
          refine x_is (show (vLet S v111) = (bI (S 4 v111 ≠ 0)) from if_pos ⟨by omega, by omega⟩) ?_
          refine x_icmp_le (tgt := 180) hx hb dL_isWhole_175 (by decide) (by omega) (by omega) (fun c175 => ?_) (fun c175 => False.elim (by omega))
          obtain ⟨v180, e_v180⟩ : ∃ y9 : Int, y9 = i + 1 := ⟨_, rfl⟩
          refine lv_iinc (v := zI v180) (lv' := [(9, .int (zI v180)), (11, .int (zI cc)), (0, .ref ((ad 7) 0)), (1, .ref (ka 4)), (2, .int (zI k)), (3, .int (zI w)), (4, .int (zI (S 0 0))), (5, .int (zI v66)), (6, .int (zI v77)), (7, .int (zI v88)), (8, .int (zI v103)), (10, .int (zI v111))]) hx hb dL_isWhole_180 hl (k := 10) rfl (by rw [e_v180]; exact zI_add _ _) (by decide) rfl (fun ls hl => ?_)
          refine lv_goto (tgt := 21) hx hb dL_isWhole_183 (by decide) ?_
          exact W.widen (k := 0 + 44 * (v180).toNat) (n := 0 + 264 * (v180).toNat) (by omega) (by omega) (ih_21 (b172, v66, v77, v88, v103, v180) (show (0 ≤ v180 ∧ v180 ≤ S 0 0) ∧ v66 = sumZ (fun o => bI (quietB S o)) v180.toNat ∧ v77 = sumZ (fun o => bI (S 4 o ≠ 0)) v180.toNat ∧ v88 = sumZ (rent S) v180.toNat ∧ v103 = sumZ (S 5) v180.toNat ∧ RO S X Q P z b172 from ⟨by omega, by rw [e_v66, e_v180, sumZ_s hi.1, ← hq9] <;> rfl, by rw [e_v77, e_v180, sumZ_s hi.1, ← hlt9] <;> rfl, by rw [e_v88, e_v180, sumZ_s hi.1, ← hrn9] <;> rfl, by rw [e_v103, e_v180, sumZ_s hi.1, ← hdp9, hm9], hR⟩) (show (S 0 0 - v180).toNat < (S 0 0 - i).toNat from by omega) ls H locs (lv_sub hl [2, 3, 4, 5, 6, 7, 8, 9, 10, 0] rfl) hP hD hS)
      · refine lv_iload hx hb dL_isWhole_113 (lv_at hl 10 rfl) ?_
        refine x_if_ne (tgt := 123) hx hb dL_isWhole_115 (by decide) (by omega) (fun c115 => ?_) (fun c115 => ?_)
        · refine lv_aload_n hx hb dL_isWhole_123 rfl (lv_at hl 5 rfl) ?_
          refine lv_iload hx hb dL_isWhole_124 (lv_at hl 10 rfl) ?_
          refine x_iconst hx hb dL_isWhole_126 ?_
          refine x_isub hx hb dL_isWhole_127 ?_
          refine x_calliU hP hD hS hA (vx_runSW (As := [.ref ((ad 7) 0), .int (zI (i - 1))]) (rest := []) ⟨hx, hb, hml, hown, htg⟩ (w_benchByRent l dg ck ka ad ra S X Q P z b108 (i - 1) _ hκ hR  (by omega) hst) (vx_cwSW 2 htg (gwSW wq_1379 wq_1380 wq_0 wqL_benchByRent) rfl rfl rfl (by decide +kernel) ⟨Nat.le_of_ble_eq_true rfl, Nat.le_of_ble_eq_true rfl⟩) (wrK_preS hK hP hD hC hS hA) rfl rfl hl.1 rfl (lv_room (Nat.le_of_ble_eq_true rfl)) dL_isWhole_128 ⟨by show _ ≤ 1470; omega, by show _ ≤ 8820; omega⟩) (fun r128 b128 H locs hw128 hP hD hS => ?_)
          have hP : va_P dg vwCl (brkU ck ka ad ra b128) H := hP
          have hD : va_D A (brkU ck ka ad ra b128) := hD
          obtain ⟨rfl, hR⟩ := hw128
          refine x_is (show (vByR S (i - 1)) = (bbR S (i - 1)) from if_neg (by have h9 := (bbR_p hI).1 (i - 1) (by omega) (by omega); omega)) ?_
          exact W.widen (k := 38 + 44 * (i).toNat) (n := 228 + 264 * (i).toNat) (by omega) (by omega) (mid_131 (b128, (bbR S (i - 1))) (show (0 ≤ (bbR S (i - 1)) ∧ (bbR S (i - 1)) < S 0 0) ∧ (rent S (bbR S (i - 1)) < rent S v111 ∨ (rent S (bbR S (i - 1)) = rent S v111 ∧ (S 4 (bbR S (i - 1)) ≠ 0 → S 4 v111 ≠ 0))) ∧ RO S X Q P z b128 from ⟨by have h9 := (bbR_p hI).1 (i - 1) (by omega) (by omega); omega, by rw [e_v111]; exact bbR_o hI (by omega) (by omega), hR⟩) ls H locs (lv_sub hl [5, 6, 7, 8, 9, 4, 3, 2, 1, 10, 0] rfl) hP hD hS)
        · refine lv_iload hx hb dL_isWhole_118 (lv_at hl 0 rfl) ?_
          refine lv_goto (tgt := 131) hx hb dL_isWhole_120 (by decide) ?_
          exact W.widen (k := 38 + 44 * (i).toNat) (n := 228 + 264 * (i).toNat) (by omega) (by omega) (mid_131 (b108, v111) (show (0 ≤ v111 ∧ v111 < S 0 0) ∧ (rent S v111 < rent S v111 ∨ (rent S v111 = rent S v111 ∧ (S 4 v111 ≠ 0 → S 4 v111 ≠ 0))) ∧ RO S X Q P z b108 from ⟨hv111, Or.inr ⟨rfl, id⟩, hR⟩) ls H locs (lv_sub hl [5, 6, 7, 8, 9, 4, 3, 2, 1, 10, 0] rfl) hP hD hS)
    · refine lv_iload_n hx hb dL_isWhole_28 rfl (lv_at hl 3 rfl) ?_
      refine x_if_ne (tgt := 46) hx hb dL_isWhole_29 (by decide) (by omega) (fun c29 => ?_) (fun c29 => ?_)
      · refine lv_aload_n hx hb dL_isWhole_46 rfl (lv_at hl 0 rfl) ?_
        refine lv_iload hx hb dL_isWhole_47 (lv_at hl 9 rfl) ?_
        refine x_calliU hP hD hS hA (va_runS (As := [.ref ((ad 7) 0), .int (zI i)]) (rest := []) ⟨hx, hb, hml, hown, htg⟩ (lf_isBench l dg ck ka ad ra S X Q P z b i _ hκ hR ⟨by omega, by omega⟩ hst) (cwS 2 htg (gwS wq_1360 wq_1361 wq_0 wq_1362) rfl rfl rfl (by decide +kernel) ⟨Nat.le_of_ble_eq_true rfl, Nat.le_of_ble_eq_true rfl⟩) (wrK_preS hK hP hD hC hS hA) rfl rfl hl.1 rfl (lv_room (Nat.le_of_ble_eq_true rfl)) dL_isWhole_49 ⟨by show _ ≤ 1470; omega, by show _ ≤ 8820; omega⟩) (fun r49 b49 H locs hw49 hP hD hS => ?_)
        have hP : va_P dg vwCl (brkU ck ka ad ra b49) H := hP
        have hD : va_D A (brkU ck ka ad ra b49) := hD
        obtain ⟨rfl, hR⟩ := hw49
        refine x_if_ne (tgt := 57) hx hb dL_isWhole_52 (by decide) (by omega) (fun c52 => ?_) (fun c52 => absurd c52 (by decide))
        exact W.widen (k := 30 + 44 * (i).toNat) (n := 180 + 264 * (i).toNat) (by omega) (by omega) (mid_57 (b49) (show RO S X Q P z b49 from hR) ls H locs (lv_sub hl [0, 1, 2, 3, 4, 5, 6, 7, 8, 9] rfl) hP hD hS)
      · refine lv_iload hx hb dL_isWhole_32 (lv_at hl 9 rfl) ?_
        refine lv_aload_n hx hb dL_isWhole_34 rfl (lv_at hl 1 rfl) ?_
        refine lv_iload_n hx hb dL_isWhole_35 rfl (lv_at hl 2 rfl) ?_
        refine x_iconst hx hb dL_isWhole_36 ?_
        refine x_iadd hx hb dL_isWhole_37 ?_
        refine x_bipush hx hb dL_isWhole_38 (by decide) ?_
        refine vp_callSi (W.runS (As := [.ref (ka 4), .int (zI (k + 1)), .int (zI 10)]) (rest := [.int (zI i)]) ⟨hx, hb, hml, hown, htg⟩ (lf_pick l dg ck ka (k + 1) 10 (by omega) (by omega)) (cwS 3 htg (gwS wq_331 wq_332 wq_0 wq_333) rfl rfl rfl (by decide +kernel) ⟨Nat.le_of_ble_eq_true rfl, Nat.le_of_ble_eq_true rfl⟩) (rdK_preS hK va_P_nil hC hS) rfl rfl hl.1 rfl (lv_room (Nat.le_of_ble_eq_true rfl)) dL_isWhole_40 ⟨by show _ ≤ 1470; omega, by show _ ≤ 8820; omega⟩) (fun r40 hr40 => ?_)
        obtain ⟨k40, rfl, hk40⟩ := hr40
        refine x_icmp_ne (tgt := 57) hx hb dL_isWhole_43 (by decide) (by omega) (by omega) (fun c43 => ?_) (fun c43 => ?_)
        · exact W.widen (k := 30 + 44 * (i).toNat) (n := 180 + 264 * (i).toNat) (by omega) (by omega) (mid_57 (b) (show RO S X Q P z b from hR) ls H locs (lv_sub hl [0, 1, 2, 3, 4, 5, 6, 7, 8, 9] rfl) hP hD hS)
        · refine lv_aload_n hx hb dL_isWhole_46 rfl (lv_at hl 0 rfl) ?_
          refine lv_iload hx hb dL_isWhole_47 (lv_at hl 9 rfl) ?_
          refine x_calliU hP hD hS hA (va_runS (As := [.ref ((ad 7) 0), .int (zI i)]) (rest := []) ⟨hx, hb, hml, hown, htg⟩ (lf_isBench l dg ck ka ad ra S X Q P z b i _ hκ hR ⟨by omega, by omega⟩ hst) (cwS 2 htg (gwS wq_1360 wq_1361 wq_0 wq_1362) rfl rfl rfl (by decide +kernel) ⟨Nat.le_of_ble_eq_true rfl, Nat.le_of_ble_eq_true rfl⟩) (wrK_preS hK hP hD hC hS hA) rfl rfl hl.1 rfl (lv_room (Nat.le_of_ble_eq_true rfl)) dL_isWhole_49 ⟨by show _ ≤ 1470; omega, by show _ ≤ 8820; omega⟩) (fun r49 b49 H locs hw49 hP hD hS => ?_)
          have hP : va_P dg vwCl (brkU ck ka ad ra b49) H := hP
          have hD : va_D A (brkU ck ka ad ra b49) := hD
          obtain ⟨rfl, hR⟩ := hw49
          refine x_if_ne (tgt := 57) hx hb dL_isWhole_52 (by decide) (by omega) (fun c52 => ?_) (fun c52 => absurd c52 (by decide))
          exact W.widen (k := 30 + 44 * (i).toNat) (n := 180 + 264 * (i).toNat) (by omega) (by omega) (mid_57 (b49) (show RO S X Q P z b49 from hR) ls H locs (lv_sub hl [0, 1, 2, 3, 4, 5, 6, 7, 8, 9] rfl) hP hD hS)
