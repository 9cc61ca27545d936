/-! the class: numbers read -/
def dgZ (T : Int → Int) (n p d : Int) : Int × Int × Int := if ¬ dgt (chA T n p) then (1, p, 0) else if d = 2 ∧ dgt (chA T n (p + 1)) then (0, p + 1 + 1, 10 * (10 * 0 + chA T n p - 48) + chA T n (p + 1) - 48) else (0, p + 1, 10 * 0 + chA T n p - 48)
theorem dg_x {T : Int → Int} {n p d : Int} (h : ¬ dgt (chA T n p)) : dgZ T n p d = (1, p, 0) := if_pos h
theorem dg_1 {T : Int → Int} {n p d : Int} (h : dgt (chA T n p)) (h2 : ¬ (d = 2 ∧ dgt (chA T n (p + 1)))) : dgZ T n p d = (0, p + 1, chA T n p - 48) := by
  unfold dgZ
  rw [if_neg (fun q => q h), if_neg h2, show 10 * 0 + chA T n p - 48 = chA T n p - 48 by omega]
theorem dg_2 {T : Int → Int} {n p d : Int} (h : dgt (chA T n p)) (h2 : d = 2 ∧ dgt (chA T n (p + 1))) : dgZ T n p d = (0, p + 1 + 1, (10 * (chA T n p - 48)) + (chA T n (p + 1) - 48)) := by
  unfold dgZ
  rw [if_neg (fun q => q h), if_pos h2, show 10 * (10 * 0 + chA T n p - 48) + chA T n (p + 1) - 48 = (10 * (chA T n p - 48)) + (chA T n (p + 1) - 48) by omega]
theorem num_d (T : Int → Int) (n r p d : Int) : numZ T n r p d = if (sayN T n 10 r p (lnZ 10).toNat).1 ≠ 0 then (1, (sayN T n 10 r p (lnZ 10).toNat).2, 0) else dgZ T n (sayN T n 10 r p (lnZ 10).toNat).2 d := rfl
theorem num_x {T : Int → Int} {n r p d : Int} (h : r ≠ 0) : numZ T n r p d = (1, p, 0) := by
  rw [num_d, sayN_r h]
  exact if_pos h
theorem say_1 (T : Int → Int) (n p : Int) : sayN T n 10 0 p (lnZ 10).toNat = if chA T n p = 32 then (0, p + 1) else (1, p) := by
  rw [show (lnZ 10).toNat = 1 by decide +kernel]
  have e : chZ 10 (0 : Nat) = 32 := by decide +kernel
  show (if (0 : Int) ≠ 0 then _ else if chA T n p = chZ 10 (0 : Nat) then ((0 : Int), p + 1) else (1, p)) = _
  rw [if_neg (by decide), e]
theorem num_0 {T : Int → Int} {n p d : Int} (h : chA T n p = 32) : numZ T n 0 p d = dgZ T n (p + 1) d := by
  rw [num_d, say_1, if_pos h]
  exact if_neg (fun q => q rfl)
theorem num_n {T : Int → Int} {n p d : Int} (h : ¬ chA T n p = 32) : numZ T n 0 p d = (1, p, 0) := by
  rw [num_d, say_1, if_neg h]
  exact if_pos (show (1 : Int) ≠ 0 by decide)
/-- how many digits the i-th number of verb k may have -/
def wdZ (k : Nat) (i : Int) : Int := if i = vbNZ k - 1 ∧ vbEZ k = 1 then 2 else 1
def ngZ (T : Int → Int) (n p : Int) (k : Nat) : Nat → Int × Int × Int
  | 0 => dgZ T n p (wdZ k 0)
  | i + 1 => numZ T n (ngZ T n p k i).1 (ngZ T n p k i).2.1 (wdZ k ((i : Int) + 1))
def pnZ (T : Int → Int) (n p : Int) (k : Nat) : Nat → Int × Int
  | 0 => (0, p)
  | i + 1 => ((ngZ T n p k i).1, (ngZ T n p k i).2.1)
theorem ng_0 {T : Int → Int} {n p i : Int} {k : Nat} (h : i = 0) : ngZ T n p k i.toNat = dgZ T n p (wdZ k i) := by
  subst h
  rfl
theorem ng_s {T : Int → Int} {n p i : Int} {k : Nat} (h : 0 < i) : ngZ T n p k i.toNat = numZ T n (pnZ T n p k i.toNat).1 (pnZ T n p k i.toNat).2 (wdZ k i) := by
  obtain ⟨m, hm⟩ : ∃ m : Nat, i = (m : Int) + 1 := ⟨(i - 1).toNat, by omega⟩
  subst hm
  rw [show ((m : Int) + 1).toNat = m + 1 by omega]
  rfl
theorem pn_s {T : Int → Int} {n p i i' : Int} {k : Nat} (h : 0 ≤ i) (e : i' = i + 1) : pnZ T n p k i'.toNat = ((ngZ T n p k i.toNat).1, (ngZ T n p k i.toNat).2.1) := by
  rw [e, show (i + 1).toNat = i.toNat + 1 by omega]
  rfl
theorem ng_stop {T : Int → Int} {n p : Int} {k i : Nat} (h : (ngZ T n p k i).1 ≠ 0) : ∀ m, i ≤ m → (ngZ T n p k m).1 ≠ 0 ∧ (ngZ T n p k m).2.1 = (ngZ T n p k i).2.1
  | 0, hm => by
    obtain rfl : i = 0 := by omega
    exact ⟨h, rfl⟩
  | m + 1, hm => by
    by_cases e : i = m + 1
    · subst e
      exact ⟨h, rfl⟩
    · have h1 := ng_stop h m (by omega)
      have h2 : ngZ T n p k (m + 1) = (1, (ngZ T n p k m).2.1, 0) := num_x h1.1
      rw [h2]
      exact ⟨by show (1 : Int) ≠ 0; decide, h1.2⟩
theorem vbN_r {k : Nat} (h : k < 10) : (1 ≤ vbNZ k ∧ vbNZ k ≤ 3) ∧ 0 ≤ vbEZ k ∧ vbEZ k ≤ 1 := by
  rcases (show k = 0 ∨ k = 1 ∨ k = 2 ∨ k = 3 ∨ k = 4 ∨ k = 5 ∨ k = 6 ∨ k = 7 ∨ k = 8 ∨ k = 9 by omega) with rfl | rfl | rfl | rfl | rfl | rfl | rfl | rfl | rfl | rfl <;> decide +kernel
/-- what reading the numbers leaves -/
def agP (I u : St) (k : Nat) : Prop := u 0 0 = I 0 0 ∧ u 0 2 = I 0 2 ∧ u 1 = I 1 ∧ u 0 1 = (ngZ (I 1) (I 0 0) (I 0 1) k (vbNZ k - 1).toNat).2.1 ∧ ((ngZ (I 1) (I 0 0) (I 0 1) k (vbNZ k - 1).toNat).1 = 0 → ∀ j : Nat, (j : Int) < vbNZ k → u 2 j = (ngZ (I 1) (I 0 0) (I 0 1) k j).2.2)

set_option maxHeartbeats 4000000 in
set_option maxRecDepth 100000 in
/-- BenchBroker$Input.readArguments -/
theorem i_readArguments (l : Launch) (dg : va_G) (ck : Nat → ClassId) (ka : Nat → Nat) (wa : Nat → Nat) (I : St) (sz : Nat) (hkv : 0 ≤ I 0 2 ∧ I 0 2 ≤ 9) (hp0 : 0 ≤ I 0 1 ∧ I 0 1 ≤ I 0 0 ∧ I 0 0 ≤ 60) (htx : ∀ i, 0 ≤ i → i < 60 → 0 ≤ I 1 i ∧ I 1 i ≤ 126) : Met l yX3_readArguments (.code yX3_readArguments cX3_readArguments 3 (some .boolean) :: GW) ({ frames := 1, cells := 0, slots := 0, locals := 21 }) (va_Pc [.ref (wa 0)] (wrK dg ck ka sz (inputC ck ka wa I))) (va_Qi (fun r (u : St) => agP I u ((I 0 2)).toNat ∧ r = zI (bI ((ngZ (I 1) (I 0 0) (I 0 1) ((I 0 2)).toNat (vbNZ ((I 0 2)).toNat - 1).toNat).1 = 0))) (fun u t9 => wrQ dg sz (inputC ck ka wa I) (inputC ck ka wa u) t9) (va_A (inputC ck ka wa I) sz)) 0 0 (va_A (inputC ck ka wa I) sz) := by
  refine Met.ofW (cc := cX3_readArguments) (maxL := 3) (ret := (some .boolean)) (by decide) rfl ?_
  intro p e s m args below meth c s₁ B hml hv
  obtain ⟨rfl, ⟨hsz, hP, hK, hD0⟩, hC⟩ := hv
  have hx := B.exec
  have hb := B.bytes
  have hr := B.returns
  have hts := atoms_spec (ws := .code yX3_readArguments cX3_readArguments 3 (some .boolean) :: GW) B.pre
  have htg : ∀ w ∈ GW, w.before _ s = true := fun w h => hts w (List.mem_cons_of_mem _ h)
  have hown : s.vm.findClass RX3 = some m.cls := findClass_of_methodNamed B.named
  have hlocks := B.notSynchronized
  subst hsz
  have hD := hD0.self (sz := s.heap.size)
  generalize hAe : va_A (inputC ck ka wa I) s.heap.size = A at hD hC ⊢
  have hA : ∀ q : Nat, s.heap.size ≤ q → A q := fun q h => by rw [← hAe]; exact Or.inr h
  have hS : va_S A s.heap s.heap [] := va_S.rf
  have hP : va_P dg vwCl (inputC ck ka wa I) s.heap := hP
  have hl := lv_entry ([.ref (wa 0)]) (n := 3) (Nat.le_of_ble_eq_true rfl)
  rw [lg_entry_eq]
  generalize (lg_sl ([.ref (wa 0)]) ++ List.replicate (3 - (lg_sl ([.ref (wa 0)])).length) Slot.unset).toArray = ls at hl ⊢
  have hl : lv_has ls 3 [(0, .ref (wa 0))] := hl
  have hvb := vbN_r (k := ((I 0 2)).toNat) (by omega)
  refine lv_aload_n hx hb dX3_readArguments_0 rfl (lv_at hl 0 rfl) ?_
  refine va_get (D := dg) (ci := 6) (v := .ref (ka (10 + ((I 0 2)).toNat))) (C := RX3) (T := TX3) (N := 5) hx hb htg inG_X3 hown hK hP 0 rfl rfl 3 (Nat.le_of_ble_eq_true rfl) (htg _ wq_230) (fun _ h9 => h9) rfl dX3_readArguments_1 ?_
  refine vk_getf (v := .int (zI (vbNZ ((I 0 2)).toNat))) hx hb (hC.argn (show ((I 0 2)).toNat < 10 by omega)) hS hown (htg _ wq_1603) (fun _ h9 => h9) dX3_readArguments_4 ?_
  refine x_iconst hx hb dX3_readArguments_7 ?_
  refine x_isub hx hb dX3_readArguments_8 ?_
  refine lv_istore_n (lv' := [(1, .int (zI ((vbNZ ((I 0 2)).toNat) - 1))), (0, .ref (wa 0))]) hx hb dX3_readArguments_9 rfl hl (by decide) rfl (fun ls hl => ?_)
  refine x_iconst hx hb dX3_readArguments_10 ?_
  refine lv_istore_n (lv' := [(2, .int (zI 0)), (1, .int (zI ((vbNZ ((I 0 2)).toNat) - 1))), (0, .ref (wa 0))]) hx hb dX3_readArguments_11 rfl hl (by decide) rfl (fun ls hl => ?_)
  refine x_loopW (ι := St × Int) (fun v => (0 ≤ v.2 ∧ v.2 ≤ vbNZ ((I 0 2)).toNat) ∧ v.1 0 0 = I 0 0 ∧ v.1 0 2 = I 0 2 ∧ v.1 1 = I 1 ∧ (pnZ (I 1) (I 0 0) (I 0 1) ((I 0 2)).toNat v.2.toNat).1 = 0 ∧ v.1 0 1 = (pnZ (I 1) (I 0 0) (I 0 1) ((I 0 2)).toNat v.2.toNat).2 ∧ (0 ≤ v.1 0 1 ∧ v.1 0 1 ≤ v.1 0 0) ∧ (∀ j : Nat, (j : Int) < v.2 → v.1 2 j = (ngZ (I 1) (I 0 0) (I 0 1) ((I 0 2)).toNat j).2.2)) (fun v => (vbNZ ((I 0 2)).toNat - v.2).toNat) (fun v => [(0, .ref (wa 0)), (1, .int (zI ((vbNZ ((I 0 2)).toNat) - 1))), (2, .int (zI v.2))]) (fun v => inputC ck ka wa v.1) (I, 0) (show (0 ≤ (0 : Int) ∧ (0 : Int) ≤ vbNZ ((I 0 2)).toNat) ∧ I 0 0 = I 0 0 ∧ I 0 2 = I 0 2 ∧ I 1 = I 1 ∧ (pnZ (I 1) (I 0 0) (I 0 1) ((I 0 2)).toNat (0 : Int).toNat).1 = 0 ∧ I 0 1 = (pnZ (I 1) (I 0 0) (I 0 1) ((I 0 2)).toNat (0 : Int).toNat).2 ∧ (0 ≤ I 0 1 ∧ I 0 1 ≤ I 0 0) ∧ (∀ j : Nat, (j : Int) < (0 : Int) → I 2 j = (ngZ (I 1) (I 0 0) (I 0 1) ((I 0 2)).toNat j).2.2) from ⟨by omega, rfl, rfl, rfl, rfl, rfl, by omega, fun j hj => by omega⟩) (lv_sub hl [2, 1, 0] rfl) hP hD hS ?_
  intro v hv ih_12 ls H locs hl hP hD hS
  obtain ⟨y, i⟩ := v
  have hl : lv_has ls 3 [(0, .ref (wa 0)), (1, .int (zI ((vbNZ ((I 0 2)).toNat) - 1))), (2, .int (zI i))] := hl
  have hv : (0 ≤ i ∧ i ≤ vbNZ ((I 0 2)).toNat) ∧ y 0 0 = I 0 0 ∧ y 0 2 = I 0 2 ∧ y 1 = I 1 ∧ (pnZ (I 1) (I 0 0) (I 0 1) ((I 0 2)).toNat i.toNat).1 = 0 ∧ y 0 1 = (pnZ (I 1) (I 0 0) (I 0 1) ((I 0 2)).toNat i.toNat).2 ∧ (0 ≤ y 0 1 ∧ y 0 1 ≤ y 0 0) ∧ (∀ j : Nat, (j : Int) < i → y 2 j = (ngZ (I 1) (I 0 0) (I 0 1) ((I 0 2)).toNat j).2.2) := hv
  have hP : va_P dg vwCl (inputC ck ka wa y) H := hP
  have hD : va_D A (inputC ck ka wa y) := hD
  obtain ⟨hi, hy0, hy2, hy1, hr0, hpos, hpr, hval⟩ := hv
  have hty : ∀ i, 0 ≤ i → i < 60 → 0 ≤ y 1 i ∧ y 1 i ≤ 126 := by rw [hy1]; exact htx
  refine lv_iload_n hx hb dX3_readArguments_12 rfl (lv_at hl 2 rfl) ?_
  refine lv_iload_n hx hb dX3_readArguments_13 rfl (lv_at hl 1 rfl) ?_
  refine x_icmp_gt (tgt := 108) hx hb dX3_readArguments_14 (by decide) (by omega) (by omega) (fun c14 => ?_) (fun c14 => ?_)
  · refine x_iconst hx hb dX3_readArguments_108 ?_
    exact W.zret (v := _) hx hb hr (by first | rfl | rfl) (fun t9 ht9 hW9 => ⟨⟨_, y, rfl, (by have hL : (vbNZ ((I 0 2)).toNat - 1).toNat + 1 = i.toNat := (by omega); have hP9 := pn_s (T := I 1) (n := I 0 0) (p := I 0 1) (k := ((I 0 2)).toNat) (i := vbNZ ((I 0 2)).toNat - 1) (i' := i) (by omega) (by omega); have h1 : (ngZ (I 1) (I 0 0) (I 0 1) ((I 0 2)).toNat (vbNZ ((I 0 2)).toNat - 1).toNat).1 = 0 := (by rw [hP9] at hr0; exact hr0); have h2 : y 0 1 = (ngZ (I 1) (I 0 0) (I 0 1) ((I 0 2)).toNat (vbNZ ((I 0 2)).toNat - 1).toNat).2.1 := (by rw [hP9] at hpos; exact hpos); exact ⟨⟨hy0, hy2, hy1, h2, fun _ j hj => hval j (by omega)⟩, by rw [bI_t h1]⟩), by rw [ht9]; exact hP, by rw [hAe]; exact hD⟩, hS.F ht9⟩) hS.2.2 dX3_readArguments_109
  · refine lv_iload_n hx hb dX3_readArguments_17 rfl (lv_at hl 2 rfl) ?_
    refine lv_aload_n hx hb dX3_readArguments_18 rfl (lv_at hl 0 rfl) ?_
    refine va_get (D := dg) (ci := 6) (v := .ref (wa 2)) (C := RX3) (T := TX3) (N := 5) hx hb htg inG_X3 hown hK hP 0 rfl rfl 4 (Nat.le_of_ble_eq_true rfl) (htg _ wq_232) (fun _ h9 => h9) rfl dX3_readArguments_19 ?_
    refine x_alen hx hb hK hP 2 0 rfl rfl dX3_readArguments_22 ?_
    refine x_icmp_ge (tgt := 108) hx hb dX3_readArguments_23 (by decide) (by omega) (by omega) (fun c23 => ?_) (fun c23 => ?_)
    · refine x_iconst hx hb dX3_readArguments_108 ?_
      exact W.zret (v := _) hx hb hr (by first | rfl | rfl) (fun t9 ht9 hW9 => ⟨⟨_, y, rfl, (by have hL : (vbNZ ((I 0 2)).toNat - 1).toNat + 1 = i.toNat := (by omega); have hP9 := pn_s (T := I 1) (n := I 0 0) (p := I 0 1) (k := ((I 0 2)).toNat) (i := vbNZ ((I 0 2)).toNat - 1) (i' := i) (by omega) (by omega); have h1 : (ngZ (I 1) (I 0 0) (I 0 1) ((I 0 2)).toNat (vbNZ ((I 0 2)).toNat - 1).toNat).1 = 0 := (by rw [hP9] at hr0; exact hr0); have h2 : y 0 1 = (ngZ (I 1) (I 0 0) (I 0 1) ((I 0 2)).toNat (vbNZ ((I 0 2)).toNat - 1).toNat).2.1 := (by rw [hP9] at hpos; exact hpos); exact ⟨⟨hy0, hy2, hy1, h2, fun _ j hj => hval j (by omega)⟩, by rw [bI_t h1]⟩), by rw [ht9]; exact hP, by rw [hAe]; exact hD⟩, hS.F ht9⟩) hS.2.2 dX3_readArguments_109
    · refine x_midW (ι := St) (nL := 3) (D := dg) (cl := vwCl) (A := A) (H0 := s.heap) (fun v => v 0 0 = I 0 0 ∧ v 0 2 = I 0 2 ∧ v 1 = I 1 ∧ (0 ≤ v 0 1 ∧ v 0 1 ≤ v 0 0) ∧ (ngZ (I 1) (I 0 0) (I 0 1) ((I 0 2)).toNat i.toNat) = dgZ (v 1) (v 0 0) (v 0 1) (wdZ ((I 0 2)).toNat i) ∧ (∀ j : Nat, (j : Int) < i → v 2 j = (ngZ (I 1) (I 0 0) (I 0 1) ((I 0 2)).toNat j).2.2)) (fun v => [(0, .ref (wa 0)), (1, .int (zI ((vbNZ ((I 0 2)).toNat) - 1))), (2, .int (zI i))]) (fun v => []) (fun v => inputC ck ka wa v) 41 ?_ (fun mid_41 => ?_)
      · intro v hv ls H locs hl hP hD hS
        obtain ⟨z, rfl⟩ : ∃ z : St, z = v := ⟨_, rfl⟩
        have hl : lv_has ls 3 [(0, .ref (wa 0)), (1, .int (zI ((vbNZ ((I 0 2)).toNat) - 1))), (2, .int (zI i))] := hl
        have hv : z 0 0 = I 0 0 ∧ z 0 2 = I 0 2 ∧ z 1 = I 1 ∧ (0 ≤ z 0 1 ∧ z 0 1 ≤ z 0 0) ∧ (ngZ (I 1) (I 0 0) (I 0 1) ((I 0 2)).toNat i.toNat) = dgZ (z 1) (z 0 0) (z 0 1) (wdZ ((I 0 2)).toNat i) ∧ (∀ j : Nat, (j : Int) < i → z 2 j = (ngZ (I 1) (I 0 0) (I 0 1) ((I 0 2)).toNat j).2.2) := hv
        have hP : va_P dg vwCl (inputC ck ka wa z) H := hP
        have hD : va_D A (inputC ck ka wa z) := hD
        obtain ⟨hz0, hz2, hz1, hzp, hdg, hvalz⟩ := hv
        have htz : ∀ i, 0 ≤ i → i < 60 → 0 ≤ z 1 i ∧ z 1 i ≤ 126 := by rw [hz1]; exact htx
        have hwd2 : i = vbNZ ((I 0 2)).toNat - 1 → vbEZ ((I 0 2)).toNat = 1 → wdZ ((I 0 2)).toNat i = 2 := fun h1 h2 => if_pos ⟨h1, h2⟩
        have hwd1 : ¬ (i = vbNZ ((I 0 2)).toNat - 1 ∧ vbEZ ((I 0 2)).toNat = 1) → wdZ ((I 0 2)).toNat i = 1 := fun h1 => if_neg h1
        have hca := chA_r htz (n := z 0 0) (by omega) (z := z 0 1) (by omega)
        have hcb := chA_r htz (n := z 0 0) (by omega) (z := z 0 1 + 1) (by omega)
        refine lv_aload_n hx hb dX3_readArguments_41 rfl (lv_at hl 0 rfl) ?_
        refine vp_callSi (W.runV (As := []) (rest := []) ⟨hx, hb, hml, hown, htg⟩ (i_atDigit l dg ck ka wa z (show 0 ≤ (z 0 1) ∧ (z 0 1) ≤ (z 0 0) ∧ (z 0 0) ≤ 60 by omega) htz) (cwV 0 htg (gwV wq_1152 wq_1154 wp_16 wq_8 wq_1155) rfl rfl rfl (by decide +kernel) ⟨Nat.le_of_ble_eq_true rfl, Nat.le_of_ble_eq_true rfl⟩) (rdK_preV hK hP hC hS 0 6 rfl rfl) rfl rfl hl.1 rfl (lv_room (Nat.le_of_ble_eq_true rfl)) dX3_readArguments_42 ⟨Nat.zero_le _, Nat.zero_le _⟩) (fun r42 hr42 => ?_)
        subst hr42
        refine x_bz_ne (tgt := 50) hx hb dX3_readArguments_45 (by decide) (fun c45 => ?_) (fun c45 => ?_)
        · have hlt := dgt_lt c45
          refine lv_aload_n hx hb dX3_readArguments_50 rfl (lv_at hl 0 rfl) ?_
          refine va_get (D := dg) (ci := 6) (v := .ref (wa 2)) (C := RX3) (T := TX3) (N := 5) hx hb htg inG_X3 hown hK hP 0 rfl rfl 4 (Nat.le_of_ble_eq_true rfl) (htg _ wq_232) (fun _ h9 => h9) rfl dX3_readArguments_51 ?_
          refine lv_iload_n hx hb dX3_readArguments_54 rfl (lv_at hl 2 rfl) ?_
          refine lv_aload_n hx hb dX3_readArguments_55 rfl (lv_at hl 0 rfl) ?_
          refine x_calli (ws' := inputC ck ka wa (upS z 0 1 ((z 0 1) + 1))) [] (M := inputC ck ka wa z) (M' := inputC ck ka wa (upS z 0 1 ((z 0 1) + 1))) ([]) (List.append_nil _).symm (List.append_nil _).symm hP hD hS hA (fun hPm hDm => va_runV (As := []) (rest := [.int (zI i), .ref (wa 2)]) ⟨hx, hb, hml, hown, htg⟩ (i_readDigit l dg ck ka wa z _ hlt (show 0 ≤ (z 0 1) ∧ (z 0 1) ≤ (z 0 0) ∧ (z 0 0) ≤ 60 by omega) htz) (cwV 0 htg (gwV wq_1156 wq_1158 wp_17 wq_8 wq_1159) rfl rfl rfl (by decide +kernel) ⟨Nat.le_of_ble_eq_true rfl, Nat.le_of_ble_eq_true rfl⟩) (wrK_preV hK hPm hDm hC hS hA 0 6 rfl rfl) rfl rfl hl.1 rfl (lv_room (Nat.le_of_ble_eq_true rfl)) dX3_readArguments_56 ⟨Nat.zero_le _, Nat.zero_le _⟩) (fun r56 H locs hr56 hP hD hS => ?_)
          subst hr56
          refine x_iast (ws' := inputC ck ka wa (upS (upS z 0 1 ((z 0 1) + 1)) 2 i ((chA (z 1) (z 0 0) (z 0 1)) - 48))) hx hb hK hP hD hS 2 0 rfl rfl (by decide) (by omega) (by rw [ar_up (by omega)]; rfl) dX3_readArguments_59 (fun H locs hP hD hS => ?_)
          refine lv_iload_n hx hb dX3_readArguments_60 rfl (lv_at hl 2 rfl) ?_
          refine lv_iload_n hx hb dX3_readArguments_61 rfl (lv_at hl 1 rfl) ?_
          refine x_icmp_ne (tgt := 102) hx hb dX3_readArguments_62 (by decide) (by omega) (by omega) (fun c62 => ?_) (fun c62 => ?_)
          · have hng : (ngZ (I 1) (I 0 0) (I 0 1) ((I 0 2)).toNat i.toNat) = (0, ((z 0 1) + 1), ((chA (z 1) (z 0 0) (z 0 1)) - 48)) := by rw [hdg]; first | exact dg_2 c45 ⟨hwd2 (by omega) (by omega), c79⟩ | exact dg_1 c45 (fun q => c79 q.2) | exact dg_1 c45 (fun q => by have := hwd1 (by omega); omega)
            obtain ⟨v102, e_v102⟩ : ∃ y : Int, y = i + 1 := ⟨_, rfl⟩
            refine lv_iinc (v := zI v102) (lv' := [(2, .int (zI v102)), (0, .ref (wa 0)), (1, .int (zI ((vbNZ ((I 0 2)).toNat) - 1)))]) hx hb dX3_readArguments_102 hl (k := 2) rfl (by rw [e_v102]; exact zI_add _ _) (by decide) rfl (fun ls hl => ?_)
            refine lv_goto (tgt := 12) hx hb dX3_readArguments_105 (by decide) ?_
            exact ih_12 ((upS (upS z 0 1 ((z 0 1) + 1)) 2 i ((chA (z 1) (z 0 0) (z 0 1)) - 48)), v102) (show (0 ≤ v102 ∧ v102 ≤ vbNZ ((I 0 2)).toNat) ∧ (upS (upS z 0 1 ((z 0 1) + 1)) 2 i ((chA (z 1) (z 0 0) (z 0 1)) - 48)) 0 0 = I 0 0 ∧ (upS (upS z 0 1 ((z 0 1) + 1)) 2 i ((chA (z 1) (z 0 0) (z 0 1)) - 48)) 0 2 = I 0 2 ∧ (upS (upS z 0 1 ((z 0 1) + 1)) 2 i ((chA (z 1) (z 0 0) (z 0 1)) - 48)) 1 = I 1 ∧ (pnZ (I 1) (I 0 0) (I 0 1) ((I 0 2)).toNat v102.toNat).1 = 0 ∧ (upS (upS z 0 1 ((z 0 1) + 1)) 2 i ((chA (z 1) (z 0 0) (z 0 1)) - 48)) 0 1 = (pnZ (I 1) (I 0 0) (I 0 1) ((I 0 2)).toNat v102.toNat).2 ∧ (0 ≤ (upS (upS z 0 1 ((z 0 1) + 1)) 2 i ((chA (z 1) (z 0 0) (z 0 1)) - 48)) 0 1 ∧ (upS (upS z 0 1 ((z 0 1) + 1)) 2 i ((chA (z 1) (z 0 0) (z 0 1)) - 48)) 0 1 ≤ (upS (upS z 0 1 ((z 0 1) + 1)) 2 i ((chA (z 1) (z 0 0) (z 0 1)) - 48)) 0 0) ∧ (∀ j : Nat, (j : Int) < v102 → (upS (upS z 0 1 ((z 0 1) + 1)) 2 i ((chA (z 1) (z 0 0) (z 0 1)) - 48)) 2 j = (ngZ (I 1) (I 0 0) (I 0 1) ((I 0 2)).toNat j).2.2) from ⟨by omega, hz0, hz2, hz1, by rw [pn_s hi.1 e_v102, hng], by rw [pn_s hi.1 e_v102, hng]; rfl, (by first | (show 0 ≤ z 0 1 + 1 ∧ z 0 1 + 1 ≤ z 0 0; omega) | (show 0 ≤ z 0 1 + 1 + 1 ∧ z 0 1 + 1 + 1 ≤ z 0 0; omega)), fun j hj => (Classical.em ((j : Int) = i)).elim (fun ej => by obtain rfl : j = i.toNat := (by omega); rw [hng, ej]; exact upS_s) (fun ej => by (repeat rw [upS_n (by omega)]); exact hvalz j (by omega))⟩) (show (vbNZ ((I 0 2)).toNat - v102).toNat < (vbNZ ((I 0 2)).toNat - i).toNat from by omega) ls H locs (lv_sub hl [1, 2, 0] rfl) hP hD hS
          · refine lv_aload_n hx hb dX3_readArguments_65 rfl (lv_at hl 0 rfl) ?_
            refine va_get (D := dg) (ci := 6) (v := .ref (ka (10 + ((z 0 2)).toNat))) (C := RX3) (T := TX3) (N := 5) hx hb htg inG_X3 hown hK hP 0 rfl rfl 3 (Nat.le_of_ble_eq_true rfl) (htg _ wq_230) (fun _ h9 => h9) rfl dX3_readArguments_66 ?_
            refine vk_getf (v := .int (zI (vbEZ ((z 0 2)).toNat))) hx hb (hC.eidn (show ((z 0 2)).toNat < 10 by omega)) hS hown (htg _ wq_1604) (fun _ h9 => h9) dX3_readArguments_69 ?_
            have hve : vbEZ ((z 0 2)).toNat = vbEZ ((I 0 2)).toNat := by rw [hz2]
            refine x_if_eq (tgt := 102) hx hb dX3_readArguments_72 (by decide) (by omega) (fun c72 => ?_) (fun c72 => ?_)
            · have hng : (ngZ (I 1) (I 0 0) (I 0 1) ((I 0 2)).toNat i.toNat) = (0, ((z 0 1) + 1), ((chA (z 1) (z 0 0) (z 0 1)) - 48)) := by rw [hdg]; first | exact dg_2 c45 ⟨hwd2 (by omega) (by omega), c79⟩ | exact dg_1 c45 (fun q => c79 q.2) | exact dg_1 c45 (fun q => by have := hwd1 (by omega); omega)
              obtain ⟨v102, e_v102⟩ : ∃ y : Int, y = i + 1 := ⟨_, rfl⟩
              refine lv_iinc (v := zI v102) (lv' := [(2, .int (zI v102)), (0, .ref (wa 0)), (1, .int (zI ((vbNZ ((I 0 2)).toNat) - 1)))]) hx hb dX3_readArguments_102 hl (k := 2) rfl (by rw [e_v102]; exact zI_add _ _) (by decide) rfl (fun ls hl => ?_)
              refine lv_goto (tgt := 12) hx hb dX3_readArguments_105 (by decide) ?_
              exact ih_12 ((upS (upS z 0 1 ((z 0 1) + 1)) 2 i ((chA (z 1) (z 0 0) (z 0 1)) - 48)), v102) (show (0 ≤ v102 ∧ v102 ≤ vbNZ ((I 0 2)).toNat) ∧ (upS (upS z 0 1 ((z 0 1) + 1)) 2 i ((chA (z 1) (z 0 0) (z 0 1)) - 48)) 0 0 = I 0 0 ∧ (upS (upS z 0 1 ((z 0 1) + 1)) 2 i ((chA (z 1) (z 0 0) (z 0 1)) - 48)) 0 2 = I 0 2 ∧ (upS (upS z 0 1 ((z 0 1) + 1)) 2 i ((chA (z 1) (z 0 0) (z 0 1)) - 48)) 1 = I 1 ∧ (pnZ (I 1) (I 0 0) (I 0 1) ((I 0 2)).toNat v102.toNat).1 = 0 ∧ (upS (upS z 0 1 ((z 0 1) + 1)) 2 i ((chA (z 1) (z 0 0) (z 0 1)) - 48)) 0 1 = (pnZ (I 1) (I 0 0) (I 0 1) ((I 0 2)).toNat v102.toNat).2 ∧ (0 ≤ (upS (upS z 0 1 ((z 0 1) + 1)) 2 i ((chA (z 1) (z 0 0) (z 0 1)) - 48)) 0 1 ∧ (upS (upS z 0 1 ((z 0 1) + 1)) 2 i ((chA (z 1) (z 0 0) (z 0 1)) - 48)) 0 1 ≤ (upS (upS z 0 1 ((z 0 1) + 1)) 2 i ((chA (z 1) (z 0 0) (z 0 1)) - 48)) 0 0) ∧ (∀ j : Nat, (j : Int) < v102 → (upS (upS z 0 1 ((z 0 1) + 1)) 2 i ((chA (z 1) (z 0 0) (z 0 1)) - 48)) 2 j = (ngZ (I 1) (I 0 0) (I 0 1) ((I 0 2)).toNat j).2.2) from ⟨by omega, hz0, hz2, hz1, by rw [pn_s hi.1 e_v102, hng], by rw [pn_s hi.1 e_v102, hng]; rfl, (by first | (show 0 ≤ z 0 1 + 1 ∧ z 0 1 + 1 ≤ z 0 0; omega) | (show 0 ≤ z 0 1 + 1 + 1 ∧ z 0 1 + 1 + 1 ≤ z 0 0; omega)), fun j hj => (Classical.em ((j : Int) = i)).elim (fun ej => by obtain rfl : j = i.toNat := (by omega); rw [hng, ej]; exact upS_s) (fun ej => by (repeat rw [upS_n (by omega)]); exact hvalz j (by omega))⟩) (show (vbNZ ((I 0 2)).toNat - v102).toNat < (vbNZ ((I 0 2)).toNat - i).toNat from by omega) ls H locs (lv_sub hl [1, 2, 0] rfl) hP hD hS
            · refine lv_aload_n hx hb dX3_readArguments_75 rfl (lv_at hl 0 rfl) ?_
              refine vp_callSi (W.runV (As := []) (rest := []) ⟨hx, hb, hml, hown, htg⟩ (i_atDigit l dg ck ka wa (upS (upS z 0 1 ((z 0 1) + 1)) 2 i ((chA (z 1) (z 0 0) (z 0 1)) - 48)) (show 0 ≤ (z 0 1) + 1 ∧ (z 0 1) + 1 ≤ (z 0 0) ∧ (z 0 0) ≤ 60 by omega) htz) (cwV 0 htg (gwV wq_1152 wq_1154 wp_16 wq_8 wq_1155) rfl rfl rfl (by decide +kernel) ⟨Nat.le_of_ble_eq_true rfl, Nat.le_of_ble_eq_true rfl⟩) (rdK_preV hK hP hC hS 0 6 rfl rfl) rfl rfl hl.1 rfl (lv_room (Nat.le_of_ble_eq_true rfl)) dX3_readArguments_76 ⟨Nat.zero_le _, Nat.zero_le _⟩) (fun r76 hr76 => ?_)
              subst hr76
              refine x_bz_eq (tgt := 102) hx hb dX3_readArguments_79 (by decide) (fun c79 => ?_) (fun c79 => ?_)
              · have hng : (ngZ (I 1) (I 0 0) (I 0 1) ((I 0 2)).toNat i.toNat) = (0, ((z 0 1) + 1), ((chA (z 1) (z 0 0) (z 0 1)) - 48)) := by rw [hdg]; first | exact dg_2 c45 ⟨hwd2 (by omega) (by omega), c79⟩ | exact dg_1 c45 (fun q => c79 q.2) | exact dg_1 c45 (fun q => by have := hwd1 (by omega); omega)
                obtain ⟨v102, e_v102⟩ : ∃ y : Int, y = i + 1 := ⟨_, rfl⟩
                refine lv_iinc (v := zI v102) (lv' := [(2, .int (zI v102)), (0, .ref (wa 0)), (1, .int (zI ((vbNZ ((I 0 2)).toNat) - 1)))]) hx hb dX3_readArguments_102 hl (k := 2) rfl (by rw [e_v102]; exact zI_add _ _) (by decide) rfl (fun ls hl => ?_)
                refine lv_goto (tgt := 12) hx hb dX3_readArguments_105 (by decide) ?_
                exact ih_12 ((upS (upS z 0 1 ((z 0 1) + 1)) 2 i ((chA (z 1) (z 0 0) (z 0 1)) - 48)), v102) (show (0 ≤ v102 ∧ v102 ≤ vbNZ ((I 0 2)).toNat) ∧ (upS (upS z 0 1 ((z 0 1) + 1)) 2 i ((chA (z 1) (z 0 0) (z 0 1)) - 48)) 0 0 = I 0 0 ∧ (upS (upS z 0 1 ((z 0 1) + 1)) 2 i ((chA (z 1) (z 0 0) (z 0 1)) - 48)) 0 2 = I 0 2 ∧ (upS (upS z 0 1 ((z 0 1) + 1)) 2 i ((chA (z 1) (z 0 0) (z 0 1)) - 48)) 1 = I 1 ∧ (pnZ (I 1) (I 0 0) (I 0 1) ((I 0 2)).toNat v102.toNat).1 = 0 ∧ (upS (upS z 0 1 ((z 0 1) + 1)) 2 i ((chA (z 1) (z 0 0) (z 0 1)) - 48)) 0 1 = (pnZ (I 1) (I 0 0) (I 0 1) ((I 0 2)).toNat v102.toNat).2 ∧ (0 ≤ (upS (upS z 0 1 ((z 0 1) + 1)) 2 i ((chA (z 1) (z 0 0) (z 0 1)) - 48)) 0 1 ∧ (upS (upS z 0 1 ((z 0 1) + 1)) 2 i ((chA (z 1) (z 0 0) (z 0 1)) - 48)) 0 1 ≤ (upS (upS z 0 1 ((z 0 1) + 1)) 2 i ((chA (z 1) (z 0 0) (z 0 1)) - 48)) 0 0) ∧ (∀ j : Nat, (j : Int) < v102 → (upS (upS z 0 1 ((z 0 1) + 1)) 2 i ((chA (z 1) (z 0 0) (z 0 1)) - 48)) 2 j = (ngZ (I 1) (I 0 0) (I 0 1) ((I 0 2)).toNat j).2.2) from ⟨by omega, hz0, hz2, hz1, by rw [pn_s hi.1 e_v102, hng], by rw [pn_s hi.1 e_v102, hng]; rfl, (by first | (show 0 ≤ z 0 1 + 1 ∧ z 0 1 + 1 ≤ z 0 0; omega) | (show 0 ≤ z 0 1 + 1 + 1 ∧ z 0 1 + 1 + 1 ≤ z 0 0; omega)), fun j hj => (Classical.em ((j : Int) = i)).elim (fun ej => by obtain rfl : j = i.toNat := (by omega); rw [hng, ej]; exact upS_s) (fun ej => by (repeat rw [upS_n (by omega)]); exact hvalz j (by omega))⟩) (show (vbNZ ((I 0 2)).toNat - v102).toNat < (vbNZ ((I 0 2)).toNat - i).toNat from by omega) ls H locs (lv_sub hl [1, 2, 0] rfl) hP hD hS
              · have hlt2 : z 0 1 + 1 < z 0 0 := dgt_lt c79
                refine lv_aload_n hx hb dX3_readArguments_82 rfl (lv_at hl 0 rfl) ?_
                refine va_get (D := dg) (ci := 6) (v := .ref (wa 2)) (C := RX3) (T := TX3) (N := 5) hx hb htg inG_X3 hown hK hP 0 rfl rfl 4 (Nat.le_of_ble_eq_true rfl) (htg _ wq_232) (fun _ h9 => h9) rfl dX3_readArguments_83 ?_
                refine lv_iload_n hx hb dX3_readArguments_86 rfl (lv_at hl 2 rfl) ?_
                refine x_bipush hx hb dX3_readArguments_87 (by decide) ?_
                refine lv_aload_n hx hb dX3_readArguments_89 rfl (lv_at hl 0 rfl) ?_
                refine va_get (D := dg) (ci := 6) (v := .ref (wa 2)) (C := RX3) (T := TX3) (N := 5) hx hb htg inG_X3 hown hK hP 0 rfl rfl 4 (Nat.le_of_ble_eq_true rfl) (htg _ wq_232) (fun _ h9 => h9) rfl dX3_readArguments_90 ?_
                refine lv_iload_n hx hb dX3_readArguments_93 rfl (lv_at hl 2 rfl) ?_
                refine x_iald hx hb hK hP 2 0 ((upS (upS z 0 1 ((z 0 1) + 1)) 2 i ((chA (z 1) (z 0 0) (z 0 1)) - 48)) 2) rfl rfl (fun _ => rfl) (P := fun y => True) (fun _ => trivial) (by decide) (by omega) dX3_readArguments_94 (fun g94 => ?_)
                refine x_is upS_s ?_
                refine x_imul hx hb dX3_readArguments_95 ?_
                refine lv_aload_n hx hb dX3_readArguments_96 rfl (lv_at hl 0 rfl) ?_
                refine x_calli (ws' := inputC ck ka wa (upS (upS (upS z 0 1 ((z 0 1) + 1)) 2 i ((chA (z 1) (z 0 0) (z 0 1)) - 48)) 0 1 (((z 0 1) + 1) + 1))) [] (M := inputC ck ka wa (upS (upS z 0 1 ((z 0 1) + 1)) 2 i ((chA (z 1) (z 0 0) (z 0 1)) - 48))) (M' := inputC ck ka wa (upS (upS (upS z 0 1 ((z 0 1) + 1)) 2 i ((chA (z 1) (z 0 0) (z 0 1)) - 48)) 0 1 (((z 0 1) + 1) + 1))) ([]) (List.append_nil _).symm (List.append_nil _).symm hP hD hS hA (fun hPm hDm => va_runV (As := []) (rest := [.int (zI (10 * ((chA (z 1) (z 0 0) (z 0 1)) - 48))), .int (zI i), .ref (wa 2)]) ⟨hx, hb, hml, hown, htg⟩ (i_readDigit l dg ck ka wa (upS (upS z 0 1 ((z 0 1) + 1)) 2 i ((chA (z 1) (z 0 0) (z 0 1)) - 48)) _ hlt2 (show 0 ≤ (z 0 1) + 1 ∧ (z 0 1) + 1 ≤ (z 0 0) ∧ (z 0 0) ≤ 60 by omega) htz) (cwV 0 htg (gwV wq_1156 wq_1158 wp_17 wq_8 wq_1159) rfl rfl rfl (by decide +kernel) ⟨Nat.le_of_ble_eq_true rfl, Nat.le_of_ble_eq_true rfl⟩) (wrK_preV hK hPm hDm hC hS hA 0 6 rfl rfl) rfl rfl hl.1 rfl (lv_room (Nat.le_of_ble_eq_true rfl)) dX3_readArguments_97 ⟨Nat.zero_le _, Nat.zero_le _⟩) (fun r97 H locs hr97 hP hD hS => ?_)
                subst hr97
                refine x_iadd hx hb dX3_readArguments_100 ?_
                refine x_iast (ws' := inputC ck ka wa (upS (upS (upS (upS z 0 1 ((z 0 1) + 1)) 2 i ((chA (z 1) (z 0 0) (z 0 1)) - 48)) 0 1 (((z 0 1) + 1) + 1)) 2 i ((10 * ((chA (z 1) (z 0 0) (z 0 1)) - 48)) + ((chA (z 1) (z 0 0) ((z 0 1) + 1)) - 48)))) hx hb hK hP hD hS 2 0 rfl rfl (by decide) (by omega) (by rw [ar_up (by omega)]; rfl) dX3_readArguments_101 (fun H locs hP hD hS => ?_)
                have hng : (ngZ (I 1) (I 0 0) (I 0 1) ((I 0 2)).toNat i.toNat) = (0, (((z 0 1) + 1) + 1), ((10 * ((chA (z 1) (z 0 0) (z 0 1)) - 48)) + ((chA (z 1) (z 0 0) ((z 0 1) + 1)) - 48))) := by rw [hdg]; first | exact dg_2 c45 ⟨hwd2 (by omega) (by omega), c79⟩ | exact dg_1 c45 (fun q => c79 q.2) | exact dg_1 c45 (fun q => by have := hwd1 (by omega); omega)
                obtain ⟨v102, e_v102⟩ : ∃ y : Int, y = i + 1 := ⟨_, rfl⟩
                refine lv_iinc (v := zI v102) (lv' := [(2, .int (zI v102)), (0, .ref (wa 0)), (1, .int (zI ((vbNZ ((I 0 2)).toNat) - 1)))]) hx hb dX3_readArguments_102 hl (k := 2) rfl (by rw [e_v102]; exact zI_add _ _) (by decide) rfl (fun ls hl => ?_)
                refine lv_goto (tgt := 12) hx hb dX3_readArguments_105 (by decide) ?_
                exact ih_12 ((upS (upS (upS (upS z 0 1 ((z 0 1) + 1)) 2 i ((chA (z 1) (z 0 0) (z 0 1)) - 48)) 0 1 (((z 0 1) + 1) + 1)) 2 i ((10 * ((chA (z 1) (z 0 0) (z 0 1)) - 48)) + ((chA (z 1) (z 0 0) ((z 0 1) + 1)) - 48))), v102) (show (0 ≤ v102 ∧ v102 ≤ vbNZ ((I 0 2)).toNat) ∧ (upS (upS (upS (upS z 0 1 ((z 0 1) + 1)) 2 i ((chA (z 1) (z 0 0) (z 0 1)) - 48)) 0 1 (((z 0 1) + 1) + 1)) 2 i ((10 * ((chA (z 1) (z 0 0) (z 0 1)) - 48)) + ((chA (z 1) (z 0 0) ((z 0 1) + 1)) - 48))) 0 0 = I 0 0 ∧ (upS (upS (upS (upS z 0 1 ((z 0 1) + 1)) 2 i ((chA (z 1) (z 0 0) (z 0 1)) - 48)) 0 1 (((z 0 1) + 1) + 1)) 2 i ((10 * ((chA (z 1) (z 0 0) (z 0 1)) - 48)) + ((chA (z 1) (z 0 0) ((z 0 1) + 1)) - 48))) 0 2 = I 0 2 ∧ (upS (upS (upS (upS z 0 1 ((z 0 1) + 1)) 2 i ((chA (z 1) (z 0 0) (z 0 1)) - 48)) 0 1 (((z 0 1) + 1) + 1)) 2 i ((10 * ((chA (z 1) (z 0 0) (z 0 1)) - 48)) + ((chA (z 1) (z 0 0) ((z 0 1) + 1)) - 48))) 1 = I 1 ∧ (pnZ (I 1) (I 0 0) (I 0 1) ((I 0 2)).toNat v102.toNat).1 = 0 ∧ (upS (upS (upS (upS z 0 1 ((z 0 1) + 1)) 2 i ((chA (z 1) (z 0 0) (z 0 1)) - 48)) 0 1 (((z 0 1) + 1) + 1)) 2 i ((10 * ((chA (z 1) (z 0 0) (z 0 1)) - 48)) + ((chA (z 1) (z 0 0) ((z 0 1) + 1)) - 48))) 0 1 = (pnZ (I 1) (I 0 0) (I 0 1) ((I 0 2)).toNat v102.toNat).2 ∧ (0 ≤ (upS (upS (upS (upS z 0 1 ((z 0 1) + 1)) 2 i ((chA (z 1) (z 0 0) (z 0 1)) - 48)) 0 1 (((z 0 1) + 1) + 1)) 2 i ((10 * ((chA (z 1) (z 0 0) (z 0 1)) - 48)) + ((chA (z 1) (z 0 0) ((z 0 1) + 1)) - 48))) 0 1 ∧ (upS (upS (upS (upS z 0 1 ((z 0 1) + 1)) 2 i ((chA (z 1) (z 0 0) (z 0 1)) - 48)) 0 1 (((z 0 1) + 1) + 1)) 2 i ((10 * ((chA (z 1) (z 0 0) (z 0 1)) - 48)) + ((chA (z 1) (z 0 0) ((z 0 1) + 1)) - 48))) 0 1 ≤ (upS (upS (upS (upS z 0 1 ((z 0 1) + 1)) 2 i ((chA (z 1) (z 0 0) (z 0 1)) - 48)) 0 1 (((z 0 1) + 1) + 1)) 2 i ((10 * ((chA (z 1) (z 0 0) (z 0 1)) - 48)) + ((chA (z 1) (z 0 0) ((z 0 1) + 1)) - 48))) 0 0) ∧ (∀ j : Nat, (j : Int) < v102 → (upS (upS (upS (upS z 0 1 ((z 0 1) + 1)) 2 i ((chA (z 1) (z 0 0) (z 0 1)) - 48)) 0 1 (((z 0 1) + 1) + 1)) 2 i ((10 * ((chA (z 1) (z 0 0) (z 0 1)) - 48)) + ((chA (z 1) (z 0 0) ((z 0 1) + 1)) - 48))) 2 j = (ngZ (I 1) (I 0 0) (I 0 1) ((I 0 2)).toNat j).2.2) from ⟨by omega, hz0, hz2, hz1, by rw [pn_s hi.1 e_v102, hng], by rw [pn_s hi.1 e_v102, hng]; rfl, (by first | (show 0 ≤ z 0 1 + 1 ∧ z 0 1 + 1 ≤ z 0 0; omega) | (show 0 ≤ z 0 1 + 1 + 1 ∧ z 0 1 + 1 + 1 ≤ z 0 0; omega)), fun j hj => (Classical.em ((j : Int) = i)).elim (fun ej => by obtain rfl : j = i.toNat := (by omega); rw [hng, ej]; exact upS_s) (fun ej => by (repeat rw [upS_n (by omega)]); exact hvalz j (by omega))⟩) (show (vbNZ ((I 0 2)).toNat - v102).toNat < (vbNZ ((I 0 2)).toNat - i).toNat from by omega) ls H locs (lv_sub hl [1, 2, 0] rfl) hP hD hS
        · have hng : (ngZ (I 1) (I 0 0) (I 0 1) ((I 0 2)).toNat i.toNat) = (1, z 0 1, 0) := by rw [hdg]; exact dg_x c45
          refine x_iconst hx hb dX3_readArguments_48 ?_
          exact W.zret (v := _) hx hb hr (by first | rfl | rfl) (fun t9 ht9 hW9 => ⟨⟨_, z, rfl, (by have hst := ng_stop (T := I 1) (n := I 0 0) (p := I 0 1) (k := ((I 0 2)).toNat) (i := i.toNat) (by rw [hng]; exact (show (1 : Int) ≠ 0 by decide)) (vbNZ ((I 0 2)).toNat - 1).toNat (by omega); exact ⟨⟨hz0, hz2, hz1, (hst.2.trans (congrArg (fun q => q.2.1) hng)).symm, fun q => absurd q hst.1⟩, by rw [bI_f hst.1]⟩), by rw [ht9]; exact hP, by rw [hAe]; exact hD⟩, hS.F ht9⟩) hS.2.2 dX3_readArguments_49
      · refine lv_iload_n hx hb dX3_readArguments_26 rfl (lv_at hl 2 rfl) ?_
        refine x_if_le (tgt := 41) hx hb dX3_readArguments_27 (by decide) (by omega) (fun c27 => ?_) (fun c27 => ?_)
        · exact mid_41 (y) (show y 0 0 = I 0 0 ∧ y 0 2 = I 0 2 ∧ y 1 = I 1 ∧ (0 ≤ y 0 1 ∧ y 0 1 ≤ y 0 0) ∧ (ngZ (I 1) (I 0 0) (I 0 1) ((I 0 2)).toNat i.toNat) = dgZ (y 1) (y 0 0) (y 0 1) (wdZ ((I 0 2)).toNat i) ∧ (∀ j : Nat, (j : Int) < i → y 2 j = (ngZ (I 1) (I 0 0) (I 0 1) ((I 0 2)).toNat j).2.2) from (by first | exact ⟨hy0, hy2, hy1, hpr, by rw [ng_0 (by omega), hy0, hy1, hpos, show i = 0 by omega]; rfl, hval⟩ | exact ⟨hy0, hy2, hy1, (by show 0 ≤ y 0 1 + bI (chA (y 1) (y 0 0) (y 0 1) = 32) ∧ y 0 1 + bI (chA (y 1) (y 0 0) (y 0 1) = 32) ≤ y 0 0; have := chA_lt c36 (by decide); rw [bI_t c36]; omega), by show _ = dgZ (y 1) (y 0 0) (y 0 1 + bI (chA (y 1) (y 0 0) (y 0 1) = 32)) _; rw [bI_t c36, ng_s (by omega), hr0, ← hpos, num_0 (by rw [← hy0, ← hy1]; exact c36), hy1, hy0], hval⟩)) ls H locs (lv_sub hl [0, 1, 2] rfl) hP hD hS
        · refine lv_aload_n hx hb dX3_readArguments_30 rfl (lv_at hl 0 rfl) ?_
          refine x_bipush hx hb dX3_readArguments_31 (by decide) ?_
          refine x_calli (ws' := inputC ck ka wa (upS y 0 1 ((y 0 1) + bI ((chA (y 1) (y 0 0) (y 0 1)) = 32)))) [] (M := inputC ck ka wa y) (M' := inputC ck ka wa (upS y 0 1 ((y 0 1) + bI ((chA (y 1) (y 0 0) (y 0 1)) = 32)))) ([]) (List.append_nil _).symm (List.append_nil _).symm hP hD hS hA (fun hPm hDm => va_runV (As := [.int (zI 32)]) (rest := []) ⟨hx, hb, hml, hown, htg⟩ (i_readSign l dg ck ka wa y 32 _ (by omega) (show 0 ≤ (y 0 1) ∧ (y 0 1) ≤ (y 0 0) ∧ (y 0 0) ≤ 60 by omega) hty) (cwV 1 htg (gwV wq_1148 wq_1149 wq_1150 wq_8 wq_1151) rfl rfl rfl (by decide +kernel) ⟨Nat.le_of_ble_eq_true rfl, Nat.le_of_ble_eq_true rfl⟩) (wrK_preV hK hPm hDm hC hS hA 0 6 rfl rfl) rfl rfl hl.1 rfl (lv_room (Nat.le_of_ble_eq_true rfl)) dX3_readArguments_33 ⟨Nat.zero_le _, Nat.zero_le _⟩) (fun r33 H locs hr33 hP hD hS => ?_)
          subst hr33
          refine x_bz_ne (tgt := 41) hx hb dX3_readArguments_36 (by decide) (fun c36 => ?_) (fun c36 => ?_)
          · exact mid_41 ((upS y 0 1 ((y 0 1) + bI ((chA (y 1) (y 0 0) (y 0 1)) = 32)))) (show (upS y 0 1 ((y 0 1) + bI ((chA (y 1) (y 0 0) (y 0 1)) = 32))) 0 0 = I 0 0 ∧ (upS y 0 1 ((y 0 1) + bI ((chA (y 1) (y 0 0) (y 0 1)) = 32))) 0 2 = I 0 2 ∧ (upS y 0 1 ((y 0 1) + bI ((chA (y 1) (y 0 0) (y 0 1)) = 32))) 1 = I 1 ∧ (0 ≤ (upS y 0 1 ((y 0 1) + bI ((chA (y 1) (y 0 0) (y 0 1)) = 32))) 0 1 ∧ (upS y 0 1 ((y 0 1) + bI ((chA (y 1) (y 0 0) (y 0 1)) = 32))) 0 1 ≤ (upS y 0 1 ((y 0 1) + bI ((chA (y 1) (y 0 0) (y 0 1)) = 32))) 0 0) ∧ (ngZ (I 1) (I 0 0) (I 0 1) ((I 0 2)).toNat i.toNat) = dgZ ((upS y 0 1 ((y 0 1) + bI ((chA (y 1) (y 0 0) (y 0 1)) = 32))) 1) ((upS y 0 1 ((y 0 1) + bI ((chA (y 1) (y 0 0) (y 0 1)) = 32))) 0 0) ((upS y 0 1 ((y 0 1) + bI ((chA (y 1) (y 0 0) (y 0 1)) = 32))) 0 1) (wdZ ((I 0 2)).toNat i) ∧ (∀ j : Nat, (j : Int) < i → (upS y 0 1 ((y 0 1) + bI ((chA (y 1) (y 0 0) (y 0 1)) = 32))) 2 j = (ngZ (I 1) (I 0 0) (I 0 1) ((I 0 2)).toNat j).2.2) from (by first | exact ⟨hy0, hy2, hy1, hpr, by rw [ng_0 (by omega), hy0, hy1, hpos, show i = 0 by omega]; rfl, hval⟩ | exact ⟨hy0, hy2, hy1, (by show 0 ≤ y 0 1 + bI (chA (y 1) (y 0 0) (y 0 1) = 32) ∧ y 0 1 + bI (chA (y 1) (y 0 0) (y 0 1) = 32) ≤ y 0 0; have := chA_lt c36 (by decide); rw [bI_t c36]; omega), by show _ = dgZ (y 1) (y 0 0) (y 0 1 + bI (chA (y 1) (y 0 0) (y 0 1) = 32)) _; rw [bI_t c36, ng_s (by omega), hr0, ← hpos, num_0 (by rw [← hy0, ← hy1]; exact c36), hy1, hy0], hval⟩)) ls H locs (lv_sub hl [0, 1, 2] rfl) hP hD hS
          · have hng : (ngZ (I 1) (I 0 0) (I 0 1) ((I 0 2)).toNat i.toNat) = (1, y 0 1, 0) := by rw [ng_s (by omega), hr0, ← hpos]; exact num_n (by rw [← hy0, ← hy1]; exact c36)
            refine x_iconst hx hb dX3_readArguments_39 ?_
            exact W.zret (v := _) hx hb hr (by first | rfl | rfl) (fun t9 ht9 hW9 => ⟨⟨_, (upS y 0 1 ((y 0 1) + bI ((chA (y 1) (y 0 0) (y 0 1)) = 32))), rfl, (by have hst := ng_stop (T := I 1) (n := I 0 0) (p := I 0 1) (k := ((I 0 2)).toNat) (i := i.toNat) (by rw [hng]; exact (show (1 : Int) ≠ 0 by decide)) (vbNZ ((I 0 2)).toNat - 1).toNat (by omega); exact ⟨⟨hy0, hy2, hy1, (by rw [bI_f c36, Int.add_zero]; exact (hst.2.trans (congrArg (fun q => q.2.1) hng)).symm), fun q => absurd q hst.1⟩, by rw [bI_f hst.1]⟩), by rw [ht9]; exact hP, by rw [hAe]; exact hD⟩, hS.F ht9⟩) hS.2.2 dX3_readArguments_40
