/-! the class: a word read -/
theorem mlZ_ge {T : Int → Int} {n p : Int} {w : Nat} : ∀ (f : Nat) (k : Int), k ≤ mlZ T n w p f k ∧ mlZ T n w p f k ≤ k + f
  | 0, k => ⟨Int.le_refl _, by show k ≤ k + ((0 : Nat) : Int); omega⟩
  | f + 1, k => by
    have h := mlZ_ge (T := T) (n := n) (p := p) (w := w) f (k + 1)
    unfold mlZ
    split <;> omega
theorem mw_b (T : Int → Int) (n : Int) (w : Nat) (p : Int) : 0 ≤ mwZ T n w p ∧ mwZ T n w p ≤ lnZ w := by
  have h := mlZ_ge (T := T) (n := n) (p := p) (w := w) (lnZ w).toNat 0
  have h2 := lnZ_r w
  unfold mwZ
  omega
theorem mw_1 {T : Int → Int} {n p : Int} {w : Nat} (hl : 2 ≤ lnZ w) : mwZ T n w p = if chA T n p = chZ w 0 then mlZ T n w p (lnZ w - 1).toNat 1 else 0 := by
  unfold mwZ
  rw [show (lnZ w).toNat = (lnZ w - 1).toNat + 1 by omega]
  show (if chA T n (p + 0) = chZ w 0 then _ else _) = _
  rw [Int.add_zero]
  rfl
theorem mw_z {T : Int → Int} {n p : Int} {w : Nat} (hl : 2 ≤ lnZ w) : (¬ chA T n p = chZ w 0 → mwZ T n w p = 0) ∧ (chA T n p = chZ w 0 → 1 ≤ mwZ T n w p) := by
  rw [mw_1 hl]
  have h := mlZ_ge (T := T) (n := n) (p := p) (w := w) (lnZ w - 1).toNat 1
  exact ⟨fun q => if_neg q, fun q => by rw [if_pos q]; exact h.1⟩
theorem mw_2 {T : Int → Int} {n p : Int} {w : Nat} (hl : 2 ≤ lnZ w) (h : ¬ chA T n (p + 1) = chZ w 1) : mwZ T n w p ≤ 1 := by
  rw [mw_1 hl]
  split
  · rw [show (lnZ w - 1).toNat = (lnZ w - 2).toNat + 1 by omega]
    show (if chA T n (p + 1) = chZ w 1 then _ else _) ≤ _
    rw [if_neg h]
    omega
  · omega
/-- how far the word at p is read -/
def qZ (T : Int → Int) (n p : Int) : Int := if cmdK T n p = -1 then 0 else mwZ T n (cmdK T n p).toNat p
theorem qZ_0 (T : Int → Int) (n p : Int) : 0 ≤ qZ T n p := by
  unfold qZ
  split
  · omega
  · exact (mw_b _ _ _ _).1
theorem qZ_9 (T : Int → Int) (n p : Int) : qZ T n p ≤ 9 := by
  unfold qZ
  split
  · omega
  · have h := (mw_b T n (cmdK T n p).toNat p).2
    have h2 := lnZ_r (cmdK T n p).toNat
    omega
theorem mw_c (T : Int → Int) (n p : Int) {j : Nat} (hj : j < 10) : mwZ T n j p ≤ qZ T n p ∧ (mwZ T n j p = lnZ j → cmdK T n p = j) := by
  rcases (show j = 0 ∨ j = 1 ∨ j = 2 ∨ j = 3 ∨ j = 4 ∨ j = 5 ∨ j = 6 ∨ j = 7 ∨ j = 8 ∨ j = 9 by omega) with rfl | rfl | rfl | rfl | rfl | rfl | rfl | rfl | rfl | rfl
  · have e0 : chZ 0 0 = 98 := by decide +kernel
    have hz := mw_z (T := T) (n := n) (p := p) (w := 0) (by decide)
    rw [e0] at hz
    by_cases h : chA T n p = 98
    · have hk : cmdK T n p = 0 := by
        unfold cmdK
        (repeat (first | rw [if_pos (by omega)] | rw [if_neg (by omega)]))
      exact ⟨by unfold qZ; rw [hk]; exact Int.le_refl _, fun _ => hk⟩
    · have h0 := hz.1 h
      exact ⟨by rw [h0]; exact qZ_0 T n p, fun q => by rw [h0] at q; exact absurd q (by decide)⟩
  · have e0 : chZ 1 0 = 102 := by decide +kernel
    have hz := mw_z (T := T) (n := n) (p := p) (w := 1) (by decide)
    rw [e0] at hz
    by_cases h : chA T n p = 102
    · have hk : cmdK T n p = 1 := by
        unfold cmdK
        (repeat (first | rw [if_pos (by omega)] | rw [if_neg (by omega)]))
      exact ⟨by unfold qZ; rw [hk]; exact Int.le_refl _, fun _ => hk⟩
    · have h0 := hz.1 h
      exact ⟨by rw [h0]; exact qZ_0 T n p, fun q => by rw [h0] at q; exact absurd q (by decide)⟩
  · have e0 : chZ 2 0 = 116 := by decide +kernel
    have hz := mw_z (T := T) (n := n) (p := p) (w := 2) (by decide)
    rw [e0] at hz
    by_cases h : chA T n p = 116
    · have hk : cmdK T n p = 2 := by
        unfold cmdK
        (repeat (first | rw [if_pos (by omega)] | rw [if_neg (by omega)]))
      exact ⟨by unfold qZ; rw [hk]; exact Int.le_refl _, fun _ => hk⟩
    · have h0 := hz.1 h
      exact ⟨by rw [h0]; exact qZ_0 T n p, fun q => by rw [h0] at q; exact absurd q (by decide)⟩
  · have e0 : chZ 3 0 = 103 := by decide +kernel
    have hz := mw_z (T := T) (n := n) (p := p) (w := 3) (by decide)
    rw [e0] at hz
    by_cases h : chA T n p = 103
    · have hk : cmdK T n p = 3 := by
        unfold cmdK
        (repeat (first | rw [if_pos (by omega)] | rw [if_neg (by omega)]))
      exact ⟨by unfold qZ; rw [hk]; exact Int.le_refl _, fun _ => hk⟩
    · have h0 := hz.1 h
      exact ⟨by rw [h0]; exact qZ_0 T n p, fun q => by rw [h0] at q; exact absurd q (by decide)⟩
  · have e0 : chZ 4 0 = 108 := by decide +kernel
    have hz := mw_z (T := T) (n := n) (p := p) (w := 4) (by decide)
    rw [e0] at hz
    have e1 : chZ 4 1 = 101 := by decide +kernel
    have eo : chZ 8 0 = 108 := by decide +kernel
    have ho := mw_z (T := T) (n := n) (p := p) (w := 8) (by decide)
    have hs := mw_2 (T := T) (n := n) (p := p) (w := 4) (by decide)
    rw [e1] at hs
    rw [eo] at ho
    by_cases h : chA T n p = 108
    · by_cases h2 : chA T n (p + 1) = 105
      · have hk : cmdK T n p = 8 := by
          unfold cmdK
          (repeat (first | rw [if_pos (by omega)] | rw [if_neg (by omega)]))
        have h3 := hs (by omega); have h4 := ho.2 h; exact ⟨by unfold qZ; rw [hk]; show _ ≤ mwZ T n 8 p; omega, fun q => by rw [q] at h3; exact absurd h3 (by decide)⟩
      · have hk : cmdK T n p = 4 := by
          unfold cmdK
          (repeat (first | rw [if_pos (by omega)] | rw [if_neg (by omega)]))
        exact ⟨by unfold qZ; rw [hk]; exact Int.le_refl _, fun _ => hk⟩
    · have h0 := hz.1 h
      exact ⟨by rw [h0]; exact qZ_0 T n p, fun q => by rw [h0] at q; exact absurd q (by decide)⟩
  · have e0 : chZ 5 0 = 101 := by decide +kernel
    have hz := mw_z (T := T) (n := n) (p := p) (w := 5) (by decide)
    rw [e0] at hz
    by_cases h : chA T n p = 101
    · have hk : cmdK T n p = 5 := by
        unfold cmdK
        (repeat (first | rw [if_pos (by omega)] | rw [if_neg (by omega)]))
      exact ⟨by unfold qZ; rw [hk]; exact Int.le_refl _, fun _ => hk⟩
    · have h0 := hz.1 h
      exact ⟨by rw [h0]; exact qZ_0 T n p, fun q => by rw [h0] at q; exact absurd q (by decide)⟩
  · have e0 : chZ 6 0 = 114 := by decide +kernel
    have hz := mw_z (T := T) (n := n) (p := p) (w := 6) (by decide)
    rw [e0] at hz
    by_cases h : chA T n p = 114
    · have hk : cmdK T n p = 6 := by
        unfold cmdK
        (repeat (first | rw [if_pos (by omega)] | rw [if_neg (by omega)]))
      exact ⟨by unfold qZ; rw [hk]; exact Int.le_refl _, fun _ => hk⟩
    · have h0 := hz.1 h
      exact ⟨by rw [h0]; exact qZ_0 T n p, fun q => by rw [h0] at q; exact absurd q (by decide)⟩
  · have e0 : chZ 7 0 = 115 := by decide +kernel
    have hz := mw_z (T := T) (n := n) (p := p) (w := 7) (by decide)
    rw [e0] at hz
    by_cases h : chA T n p = 115
    · have hk : cmdK T n p = 7 := by
        unfold cmdK
        (repeat (first | rw [if_pos (by omega)] | rw [if_neg (by omega)]))
      exact ⟨by unfold qZ; rw [hk]; exact Int.le_refl _, fun _ => hk⟩
    · have h0 := hz.1 h
      exact ⟨by rw [h0]; exact qZ_0 T n p, fun q => by rw [h0] at q; exact absurd q (by decide)⟩
  · have e0 : chZ 8 0 = 108 := by decide +kernel
    have hz := mw_z (T := T) (n := n) (p := p) (w := 8) (by decide)
    rw [e0] at hz
    have e1 : chZ 8 1 = 105 := by decide +kernel
    have eo : chZ 4 0 = 108 := by decide +kernel
    have ho := mw_z (T := T) (n := n) (p := p) (w := 4) (by decide)
    have hs := mw_2 (T := T) (n := n) (p := p) (w := 8) (by decide)
    rw [e1] at hs
    rw [eo] at ho
    by_cases h : chA T n p = 108
    · by_cases h2 : chA T n (p + 1) = 105
      · have hk : cmdK T n p = 8 := by
          unfold cmdK
          (repeat (first | rw [if_pos (by omega)] | rw [if_neg (by omega)]))
        exact ⟨by unfold qZ; rw [hk]; exact Int.le_refl _, fun _ => hk⟩
      · have hk : cmdK T n p = 4 := by
          unfold cmdK
          (repeat (first | rw [if_pos (by omega)] | rw [if_neg (by omega)]))
        have h3 := hs (by omega); have h4 := ho.2 h; exact ⟨by unfold qZ; rw [hk]; show _ ≤ mwZ T n 4 p; omega, fun q => by rw [q] at h3; exact absurd h3 (by decide)⟩
    · have h0 := hz.1 h
      exact ⟨by rw [h0]; exact qZ_0 T n p, fun q => by rw [h0] at q; exact absurd q (by decide)⟩
  · have e0 : chZ 9 0 = 112 := by decide +kernel
    have hz := mw_z (T := T) (n := n) (p := p) (w := 9) (by decide)
    rw [e0] at hz
    by_cases h : chA T n p = 112
    · have hk : cmdK T n p = 9 := by
        unfold cmdK
        (repeat (first | rw [if_pos (by omega)] | rw [if_neg (by omega)]))
      exact ⟨by unfold qZ; rw [hk]; exact Int.le_refl _, fun _ => hk⟩
    · have h0 := hz.1 h
      exact ⟨by rw [h0]; exact qZ_0 T n p, fun q => by rw [h0] at q; exact absurd q (by decide)⟩

/-- a word is read whole -/
abbrev fuW (T : Int → Int) (n p : Int) : Prop := cmdK T n p ≠ -1 ∧ mwZ T n (cmdK T n p).toNat p = lnZ (cmdK T n p).toNat
def rwI (I : St) : St := upS (if fuW (I 1) (I 0 0) (I 0 1) then upS I 0 2 (cmdK (I 1) (I 0 0) (I 0 1)) else I) 0 1 (I 0 1 + qZ (I 1) (I 0 0) (I 0 1))

set_option maxHeartbeats 4000000 in
set_option maxRecDepth 100000 in
/-- BenchBroker$Input.readWord -/
theorem i_readWord (l : Launch) (dg : va_G) (ck : Nat → ClassId) (ka : Nat → Nat) (wa : Nat → Nat) (I : St) (sz : Nat)  (hp0 : 0 ≤ I 0 1 ∧ I 0 1 ≤ I 0 0 ∧ I 0 0 ≤ 60) (htx : ∀ i, 0 ≤ i → i < 60 → 0 ≤ I 1 i ∧ I 1 i ≤ 126) : Met l yX3_readWord (.code yX3_readWord cX3_readWord 7 (some .boolean) :: GW) ({ frames := 5, cells := 0, slots := 0, locals := 107 }) (va_Pc [.ref (wa 0)] (wrK dg ck ka sz (inputC ck ka wa I))) (va_Qi (fun r (_ : Unit) => r = zI (bI (fuW (I 1) (I 0 0) (I 0 1)))) (fun _ t9 => wrQ dg sz (inputC ck ka wa I) (inputC ck ka wa (rwI I)) t9) (va_A (inputC ck ka wa I) sz)) 0 0 (va_A (inputC ck ka wa I) sz) := by
  refine Met.ofW (cc := cX3_readWord) (maxL := 7) (ret := (some .boolean)) (by decide) rfl ?_
  intro p e s m args below meth c s₁ B hml hv
  obtain ⟨rfl, ⟨hsz, hP, hK, hD0⟩, hC⟩ := hv
  have hx := B.exec
  have hb := B.bytes
  have hr := B.returns
  have hts := atoms_spec (ws := .code yX3_readWord cX3_readWord 7 (some .boolean) :: GW) B.pre
  have htg : ∀ w ∈ GW, w.before _ s = true := fun w h => hts w (List.mem_cons_of_mem _ h)
  have hown : s.vm.findClass RX3 = some m.cls := findClass_of_methodNamed B.named
  have hlocks := B.notSynchronized
  subst hsz
  have hD := hD0.self (sz := s.heap.size)
  generalize hAe : va_A (inputC ck ka wa I) s.heap.size = A at hD hC ⊢
  have hA : ∀ q : Nat, s.heap.size ≤ q → A q := fun q h => by rw [← hAe]; exact Or.inr h
  have hS : va_S A s.heap s.heap [] := va_S.rf
  have hP : va_P dg vwCl (inputC ck ka wa I) s.heap := hP
  have hl := lv_entry ([.ref (wa 0)]) (n := 7) (Nat.le_of_ble_eq_true rfl)
  rw [lg_entry_eq]
  generalize (lg_sl ([.ref (wa 0)]) ++ List.replicate (7 - (lg_sl ([.ref (wa 0)])).length) Slot.unset).toArray = ls at hl ⊢
  have hl : lv_has ls 7 [(0, .ref (wa 0))] := hl
  have hq9 := qZ_9 (I 1) (I 0 0) (I 0 1)
  refine x_iconst hx hb dX3_readWord_0 ?_
  refine lv_istore_n (lv' := [(1, .int (zI 0)), (0, .ref (wa 0))]) hx hb dX3_readWord_1 rfl hl (by decide) rfl (fun ls hl => ?_)
  refine va_getsN (v := .ref (ka 2)) hx hb hC.all.1 hS hown (va_Nw.use rfl (hC.nw (w := .fieldLinkNest "BenchBroker$Input" 49 "BenchBroker$Verb" "ALL" "[LBenchBroker$Verb;" "BenchBroker") (by decide +kernel))) (fun _ h9 => h9) dX3_readWord_2 ?_
  refine lv_astore_n (lv' := [(2, .ref (ka 2)), (1, .int (zI 0)), (0, .ref (wa 0))]) hx hb dX3_readWord_5 rfl hl (by decide) rfl (fun ls hl => ?_)
  refine lv_aload_n hx hb dX3_readWord_6 rfl (lv_at hl 0 rfl) ?_
  refine x_tlen hx hb hC.all.2 hS dX3_readWord_7 ?_
  refine lv_istore_n (lv' := [(3, .int (zI 10)), (2, .ref (ka 2)), (1, .int (zI 0)), (0, .ref (wa 0))]) hx hb dX3_readWord_8 rfl hl (by decide) rfl (fun ls hl => ?_)
  refine x_iconst hx hb dX3_readWord_9 ?_
  refine lv_istore (lv' := [(4, .int (zI 0)), (3, .int (zI 10)), (2, .ref (ka 2)), (1, .int (zI 0)), (0, .ref (wa 0))]) hx hb dX3_readWord_10 hl (by decide) rfl (fun ls hl => ?_)
  refine x_loopW (ι := Int × Int) (fun v => (0 ≤ v.2 ∧ v.2 ≤ 10) ∧ (0 ≤ v.1 ∧ v.1 ≤ qZ (I 1) (I 0 0) (I 0 1)) ∧ (∀ j : Nat, (j : Int) < v.2 → mwZ (I 1) (I 0 0) j (I 0 1) ≤ v.1) ∧ (∀ j : Nat, (j : Int) < v.2 → mwZ (I 1) (I 0 0) j (I 0 1) ≠ lnZ j)) (fun v => (10 - v.2).toNat) (fun v => [(0, .ref (wa 0)), (1, .int (zI v.1)), (2, .ref (ka 2)), (3, .int (zI 10)), (4, .int (zI v.2))]) (fun v => inputC ck ka wa I) (0, 0) (show (0 ≤ (0 : Int) ∧ (0 : Int) ≤ 10) ∧ (0 ≤ (0 : Int) ∧ (0 : Int) ≤ qZ (I 1) (I 0 0) (I 0 1)) ∧ (∀ j : Nat, (j : Int) < (0 : Int) → mwZ (I 1) (I 0 0) j (I 0 1) ≤ (0 : Int)) ∧ (∀ j : Nat, (j : Int) < (0 : Int) → mwZ (I 1) (I 0 0) j (I 0 1) ≠ lnZ j) from ⟨by omega, ⟨by omega, qZ_0 _ _ _⟩, fun j hj => by omega, fun j hj => by omega⟩) (lv_sub hl [4, 3, 2, 1, 0] rfl) hP hD hS ?_
  intro v hv ih_12 ls H locs hl hP hD hS
  obtain ⟨u, i⟩ := v
  have hl : lv_has ls 7 [(0, .ref (wa 0)), (1, .int (zI u)), (2, .ref (ka 2)), (3, .int (zI 10)), (4, .int (zI i))] := hl
  have hv : (0 ≤ i ∧ i ≤ 10) ∧ (0 ≤ u ∧ u ≤ qZ (I 1) (I 0 0) (I 0 1)) ∧ (∀ j : Nat, (j : Int) < i → mwZ (I 1) (I 0 0) j (I 0 1) ≤ u) ∧ (∀ j : Nat, (j : Int) < i → mwZ (I 1) (I 0 0) j (I 0 1) ≠ lnZ j) := hv
  have hP : va_P dg vwCl (inputC ck ka wa I) H := hP
  have hD : va_D A (inputC ck ka wa I) := hD
  obtain ⟨hi, hu, hall, hno⟩ := hv
  refine lv_iload hx hb dX3_readWord_12 (lv_at hl 4 rfl) ?_
  refine lv_iload_n hx hb dX3_readWord_14 rfl (lv_at hl 3 rfl) ?_
  refine x_icmp_ge (tgt := 80) hx hb dX3_readWord_15 (by decide) (by omega) (by omega) (fun c15 => ?_) (fun c15 => ?_)
  · have hck := cmdK_r (I 1) (I 0 0) (I 0 1)
    have hfu : ¬ fuW (I 1) (I 0 0) (I 0 1) := fun q => absurd q.2 (hno _ (by have := q.1; omega))
    have hq : qZ (I 1) (I 0 0) (I 0 1) = u := (Classical.em (cmdK (I 1) (I 0 0) (I 0 1) = -1)).elim (fun ec => by have h0 : qZ (I 1) (I 0 0) (I 0 1) = 0 := (by unfold qZ; rw [if_pos ec]); omega) (fun ec => by have h0 : qZ (I 1) (I 0 0) (I 0 1) = mwZ (I 1) (I 0 0) (cmdK (I 1) (I 0 0) (I 0 1)).toNat (I 0 1) := (by unfold qZ; rw [if_neg ec]); have := hall (cmdK (I 1) (I 0 0) (I 0 1)).toNat (by omega); omega)
    refine lv_aload_n hx hb dX3_readWord_80 rfl (lv_at hl 0 rfl) ?_
    refine lv_dup hx hb dX3_readWord_81 rfl ?_
    refine va_get (D := dg) (ci := 6) (v := .int (zI (I 0 1))) (C := RX3) (T := TX3) (N := 5) hx hb htg inG_X3 hown hK hP 0 rfl rfl 2 (Nat.le_of_ble_eq_true rfl) (htg _ wq_228) (fun _ h9 => h9) rfl dX3_readWord_82 ?_
    refine lv_iload_n hx hb dX3_readWord_85 rfl (lv_at hl 1 rfl) ?_
    refine x_iadd hx hb dX3_readWord_86 ?_
    refine va_put (D := dg) (ci := 6) (v := .int (zI ((I 0 1) + u))) (ty := .int) (C := RX3) (T := TX3) (N := 5) hx hb htg inG_X3 tyX3 tyX3_ok nmX3 hown hK hP hD hS 0 rfl rfl 2 (Nat.le_of_ble_eq_true rfl) (htg _ wq_228) (fun _ h9 => h9) rfl (by decide +kernel) rfl rfl (Nat.le_of_ble_eq_true rfl) dX3_readWord_87 (fun H locs hP hD hS => ?_)
    have hP : va_P dg vwCl (inputC ck ka wa (upS I 0 1 ((I 0 1) + u))) H := hP
    have hD : va_D A (inputC ck ka wa (upS I 0 1 ((I 0 1) + u))) := hD
    refine x_iconst hx hb dX3_readWord_90 ?_
    have hEq : inputC ck ka wa (rwI I) = inputC ck ka wa (upS I 0 1 ((I 0 1) + u)) := (by unfold rwI; rw [if_neg hfu, hq])
    exact W.zret (v := _) hx hb hr (by first | rfl | rfl) (fun t9 ht9 hW9 => ⟨⟨_, (), rfl, (by rw [bI_f hfu]), by rw [ht9, hEq]; exact hP, by rw [hEq, hAe]; exact hD⟩, hS.F ht9⟩) hS.2.2 dX3_readWord_91
  · have hcc := mw_c (I 1) (I 0 0) (I 0 1) (j := i.toNat) (by omega)
    have hmb := mw_b (I 1) (I 0 0) (i).toNat (I 0 1)
    have hlr := lnZ_r (i).toNat
    have hit : ((i.toNat : Nat) : Int) = i := Int.toNat_of_nonneg (by omega)
    refine lv_aload_n hx hb dX3_readWord_18 rfl (lv_at hl 2 rfl) ?_
    refine lv_iload hx hb dX3_readWord_19 (lv_at hl 4 rfl) ?_
    refine vb_tq hx hb hC.all.2 hS (zI_in (by omega) (by decide)) (v := .ref (ka (10 + (i).toNat))) (by rw [zI_clamp (by omega)]) dX3_readWord_21 ?_
    refine lv_astore (lv' := [(5, .ref (ka (10 + (i).toNat))), (0, .ref (wa 0)), (1, .int (zI u)), (2, .ref (ka 2)), (3, .int (zI 10)), (4, .int (zI i))]) hx hb dX3_readWord_22 hl (by decide) rfl (fun ls hl => ?_)
    refine lv_aload_n hx hb dX3_readWord_24 rfl (lv_at hl 1 rfl) ?_
    refine lv_aload hx hb dX3_readWord_25 (lv_at hl 0 rfl) ?_
    refine vk_getf (v := .ref (ka (20 + (i).toNat))) hx hb (hC.word (show (i).toNat < 10 by omega)) hS hown (htg _ wq_1602) (fun _ h9 => h9) dX3_readWord_27 ?_
    refine vp_callSi (W.runV (As := [.ref (ka (20 + (i).toNat))]) (rest := []) ⟨hx, hb, hml, hown, htg⟩ (i_matching l dg ck ka wa I (i).toNat (by omega) (show 0 ≤ (I 0 1) ∧ (I 0 1) ≤ (I 0 0) ∧ (I 0 0) ≤ 60 by omega) htx) (cwV 1 htg (gwV wq_1137 wq_1139 wp_14 wq_8 wq_1140) rfl rfl rfl (by decide +kernel) ⟨Nat.le_of_ble_eq_true rfl, Nat.le_of_ble_eq_true rfl⟩) (rdK_preV hK hP hC hS 0 6 rfl rfl) rfl rfl hl.1 rfl (lv_room (Nat.le_of_ble_eq_true rfl)) dX3_readWord_30 ⟨Nat.zero_le _, Nat.zero_le _⟩) (fun r30 hr30 => ?_)
    subst hr30
    refine x_top _ (fun v33 e_v33 => ?_)
    refine lv_istore (lv' := [(6, .int (zI v33)), (5, .ref (ka (10 + (i).toNat))), (0, .ref (wa 0)), (1, .int (zI u)), (2, .ref (ka 2)), (3, .int (zI 10)), (4, .int (zI i))]) hx hb dX3_readWord_33 hl (by decide) rfl (fun ls hl => ?_)
    refine lv_iload_n hx hb dX3_readWord_35 rfl (lv_at hl 3 rfl) ?_
    refine lv_iload hx hb dX3_readWord_36 (lv_at hl 0 rfl) ?_
    refine x_mmax hx hb (hml.trans hl.1.symm) hown (htg _ wq_1143) (htg _ wq_466) (htg _ wq_23) (htg _ wq_467) (Nat.le_of_ble_eq_true rfl) (Nat.le_of_ble_eq_true rfl) (Nat.zero_le _) (Nat.zero_le _) (by omega) (by omega) dX3_readWord_38 (fun m38 hm38 => ?_)
    refine lv_istore_n (lv' := [(1, .int (zI m38)), (6, .int (zI v33)), (5, .ref (ka (10 + (i).toNat))), (0, .ref (wa 0)), (2, .ref (ka 2)), (3, .int (zI 10)), (4, .int (zI i))]) hx hb dX3_readWord_41 rfl hl (by decide) rfl (fun ls hl => ?_)
    refine lv_iload hx hb dX3_readWord_42 (lv_at hl 1 rfl) ?_
    refine lv_aload hx hb dX3_readWord_44 (lv_at hl 2 rfl) ?_
    refine vk_getf (v := .ref (ka (20 + (i).toNat))) hx hb (hC.word (show (i).toNat < 10 by omega)) hS hown (htg _ wq_1602) (fun _ h9 => h9) dX3_readWord_46 ?_
    refine vp_callSi (W.runV (As := []) (rest := [.int (zI v33)]) ⟨hx, hb, hml, hown, htg⟩ (j_slen l dg ck ka (i).toNat (by omega)) (cwV 0 htg (gwV wq_1141 wq_926 wq_927 wq_13 wq_928) rfl rfl rfl (by decide +kernel) ⟨Nat.le_of_ble_eq_true rfl, Nat.le_of_ble_eq_true rfl⟩) (rdK_preR (C := "java/lang/String") hK va_P_nil hC hS (hC.srecv (show okS (i).toNat by omega) hS)) rfl rfl hl.1 rfl (lv_room (Nat.le_of_ble_eq_true rfl)) dX3_readWord_49 ⟨Nat.zero_le _, Nat.zero_le _⟩) (fun r49 hr49 => ?_)
    subst hr49
    refine x_icmp_ne (tgt := 74) hx hb dX3_readWord_52 (by decide) (by omega) (by omega) (fun c52 => ?_) (fun c52 => ?_)
    · obtain ⟨v74, e_v74⟩ : ∃ y : Int, y = i + 1 := ⟨_, rfl⟩
      refine lv_iinc (v := zI v74) (lv' := [(4, .int (zI v74)), (1, .int (zI m38)), (6, .int (zI v33)), (5, .ref (ka (10 + (i).toNat))), (0, .ref (wa 0)), (2, .ref (ka 2)), (3, .int (zI 10))]) hx hb dX3_readWord_74 hl (k := 6) rfl (by rw [e_v74]; exact zI_add _ _) (by decide) rfl (fun ls hl => ?_)
      refine lv_goto (tgt := 12) hx hb dX3_readWord_77 (by decide) ?_
      exact ih_12 (m38, v74) (show (0 ≤ v74 ∧ v74 ≤ 10) ∧ (0 ≤ m38 ∧ m38 ≤ qZ (I 1) (I 0 0) (I 0 1)) ∧ (∀ j : Nat, (j : Int) < v74 → mwZ (I 1) (I 0 0) j (I 0 1) ≤ m38) ∧ (∀ j : Nat, (j : Int) < v74 → mwZ (I 1) (I 0 0) j (I 0 1) ≠ lnZ j) from ⟨by omega, by omega, fun j hj => (Classical.em ((j : Int) < i)).elim (fun ej => by have := hall j ej; omega) (fun ej => by obtain rfl : j = i.toNat := (by omega); omega), fun j hj => (Classical.em ((j : Int) < i)).elim (fun ej => hno j ej) (fun ej => by obtain rfl : j = i.toNat := (by omega); omega)⟩) (show (10 - v74).toNat < (10 - i).toNat from by omega) ls H locs (lv_sub hl [4, 1, 5, 6, 0] rfl) hP hD hS
    · have hcK : cmdK (I 1) (I 0 0) (I 0 1) = i := (hcc.2 (by omega)).trans hit
      have hfu : fuW (I 1) (I 0 0) (I 0 1) := ⟨by omega, by rw [hcK]; omega⟩
      have hq : qZ (I 1) (I 0 0) (I 0 1) = v33 := by unfold qZ; rw [hcK, if_neg (by omega), e_v33]
      refine lv_aload_n hx hb dX3_readWord_55 rfl (lv_at hl 3 rfl) ?_
      refine lv_aload hx hb dX3_readWord_56 (lv_at hl 2 rfl) ?_
      refine va_put (D := dg) (ci := 6) (v := .ref (ka (10 + (i).toNat))) (ty := (.object "BenchBroker$Verb")) (C := RX3) (T := TX3) (N := 5) hx hb htg inG_X3 tyX3 tyX3_ok nmX3 hown hK hP hD hS 0 rfl rfl 3 (Nat.le_of_ble_eq_true rfl) (htg _ wq_230) (fun _ h9 => h9) rfl (by decide +kernel) rfl rfl (Nat.le_of_ble_eq_true rfl) dX3_readWord_58 (fun H locs hP hD hS => ?_)
      have hP : va_P dg vwCl (inputC ck ka wa (upS I 0 2 i)) H := hP
      have hD : va_D A (inputC ck ka wa (upS I 0 2 i)) := hD
      refine lv_aload_n hx hb dX3_readWord_61 rfl (lv_at hl 3 rfl) ?_
      refine lv_dup hx hb dX3_readWord_62 rfl ?_
      refine va_get (D := dg) (ci := 6) (v := .int (zI (I 0 1))) (C := RX3) (T := TX3) (N := 5) hx hb htg inG_X3 hown hK hP 0 rfl rfl 2 (Nat.le_of_ble_eq_true rfl) (htg _ wq_228) (fun _ h9 => h9) rfl dX3_readWord_63 ?_
      refine lv_iload hx hb dX3_readWord_66 (lv_at hl 1 rfl) ?_
      refine x_iadd hx hb dX3_readWord_68 ?_
      refine va_put (D := dg) (ci := 6) (v := .int (zI ((I 0 1) + v33))) (ty := .int) (C := RX3) (T := TX3) (N := 5) hx hb htg inG_X3 tyX3 tyX3_ok nmX3 hown hK hP hD hS 0 rfl rfl 2 (Nat.le_of_ble_eq_true rfl) (htg _ wq_228) (fun _ h9 => h9) rfl (by decide +kernel) rfl rfl (Nat.le_of_ble_eq_true rfl) dX3_readWord_69 (fun H locs hP hD hS => ?_)
      have hP : va_P dg vwCl (inputC ck ka wa (upS (upS I 0 2 i) 0 1 ((I 0 1) + v33))) H := hP
      have hD : va_D A (inputC ck ka wa (upS (upS I 0 2 i) 0 1 ((I 0 1) + v33))) := hD
      refine x_iconst hx hb dX3_readWord_72 ?_
      have hEq : inputC ck ka wa (rwI I) = inputC ck ka wa (upS (upS I 0 2 i) 0 1 ((I 0 1) + v33)) := (by unfold rwI; rw [if_pos hfu, hq, hcK])
      exact W.zret (v := _) hx hb hr (by first | rfl | rfl) (fun t9 ht9 hW9 => ⟨⟨_, (), rfl, (by rw [bI_t hfu]), by rw [ht9, hEq]; exact hP, by rw [hEq, hAe]; exact hD⟩, hS.F ht9⟩) hS.2.2 dX3_readWord_73
