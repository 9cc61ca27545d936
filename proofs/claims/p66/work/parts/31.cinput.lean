/-! the class: its reader -/
section LIBUB
variable {p : Program} {l : Launch} {e : Env} {R : Room} {s : State} {m : MethodId} {args : Array Value} {below : List Frame} {meth : Method} {c : Code} {H : Heap} {locs : List Loc} {cells slots : Nat} {Q : State → Prop}
variable {pc : Nat} {ls : Array Slot} {rest st0 : List Value} {a : Array Value} {A0 : Nat → Prop} {H0 : Heap} {mc ms : Nat} {dg : va_G} {ws M N : va_W}
theorem x_callvUB {S : Type} {post : S → Prop} {Mf wf : S → va_W} (e1 : ws.Perm (M ++ N)) (e2 : ∀ u, (wf u).Perm (Mf u ++ N)) (hP : va_P dg vwCl ws H) (hD : va_D A0 ws) (hS : va_S A0 H0 H locs) (hA : ∀ q, H0.size ≤ q → A0 q)
    (hr : va_P dg vwCl M H → va_D A0 M → va_Run p l e R s m args below meth c H locs cells slots mc ms (F0 m pc ls st0) rest (va_Qv post (fun u t => wrQ dg H.size M (Mf u) t) (va_A M H.size) a) (va_A M H.size))
    (kk : ∀ (u : S) (H1 : Heap) (locs1 : List Loc), post u → va_P dg vwCl (wf u) H1 → va_D A0 (wf u) → va_S A0 H0 H1 locs1 → W p l e R s m args below meth c H1 locs1 (cells + mc) (slots + ms) Q (F0 m (pc + 3) ls rest)) : W p l e R s m args below meth c H locs cells slots Q (F0 m pc ls st0) := by
  have hP' : va_P dg vwCl ([] ++ (M ++ N)) H := va_P_perm e1 hP
  have hD' : va_D A0 ([] ++ (M ++ N)) := va_D_perm e1 hD
  have hF := fr_F (dg := dg) (L := []) (M := M) (N := N) hD' hS hA
  refine va_callv (hr (va_P_l hP') (va_D_l hD')) hS (fun q _ h => hF q h) hF (fun u t H1 locs1 ht hvm hw hB hz1 hk1 hS1 => ?_)
  obtain ⟨hP1, hD1⟩ := hB
  rw [ht] at hP1
  obtain ⟨g1, g2⟩ := fr_mid hP' hD' hk1 hF hP1 hD1
  exact kk u H1 locs1 hw (va_P_perm (e2 u).symm g1) (va_D_perm (e2 u).symm g2) hS1
theorem x_calliUB {S : Type} {post : Int32 → S → Prop} {Mf wf : S → va_W} (e1 : ws.Perm (M ++ N)) (e2 : ∀ u, (wf u).Perm (Mf u ++ N)) (hP : va_P dg vwCl ws H) (hD : va_D A0 ws) (hS : va_S A0 H0 H locs) (hA : ∀ q, H0.size ≤ q → A0 q)
    (hr : va_P dg vwCl M H → va_D A0 M → va_Run p l e R s m args below meth c H locs cells slots mc ms (F0 m pc ls st0) rest (va_Qi post (fun u t => wrQ dg H.size M (Mf u) t) (va_A M H.size) a) (va_A M H.size))
    (kk : ∀ (r : Int32) (u : S) (H1 : Heap) (locs1 : List Loc), post r u → va_P dg vwCl (wf u) H1 → va_D A0 (wf u) → va_S A0 H0 H1 locs1 → W p l e R s m args below meth c H1 locs1 (cells + mc) (slots + ms) Q (F0 m (pc + 3) ls (.int r :: rest))) : W p l e R s m args below meth c H locs cells slots Q (F0 m pc ls st0) := by
  have hP' : va_P dg vwCl ([] ++ (M ++ N)) H := va_P_perm e1 hP
  have hD' : va_D A0 ([] ++ (M ++ N)) := va_D_perm e1 hD
  have hF := fr_F (dg := dg) (L := []) (M := M) (N := N) hD' hS hA
  refine va_calli (hr (va_P_l hP') (va_D_l hD')) hS (fun q _ h => hF q h) hF (fun r u t H1 locs1 ht hvm hw hB hz1 hk1 hS1 => ?_)
  obtain ⟨hP1, hD1⟩ := hB
  rw [ht] at hP1
  obtain ⟨g1, g2⟩ := fr_mid hP' hD' hk1 hF hP1 hD1
  exact kk r u H1 locs1 hw (va_P_perm (e2 u).symm g1) (va_D_perm (e2 u).symm g2) hS1
end LIBUB
def inputC (ck : Nat → ClassId) (ka wa : Nat → Nat) (I : St) : va_W := [(wa 0, .inr (6, [.ref (wa 1), .int (zI (I 0 0)), .int (zI (I 0 1)), .ref (ka (10 + (I 0 2).toNat)), .ref (wa 2)])), (wa 1, .inl (ck 2, 60, .inl (ar I 1))), (wa 2, .inl (ck 0, 3, .inl (ar I 2)))]
/-- how many letters of the word match, from the k-th on -/
def mlZ (T : Int → Int) (n : Int) (w : Nat) (p : Int) : Nat → Int → Int
  | 0, k => k
  | f + 1, k => if chA T n (p + k) = chZ w k then mlZ T n w p f (k + 1) else k
theorem mlZ_s {T : Int → Int} {n p k K : Int} {w : Nat} (hk : 0 ≤ k ∧ k < K) : mlZ T n w p (K - k).toNat k = if chA T n (p + k) = chZ w k then mlZ T n w p (K - (k + 1)).toNat (k + 1) else k := by
  rw [show (K - k).toNat = (K - (k + 1)).toNat + 1 by omega]
  rfl
theorem mlZ_b {T : Int → Int} {n p : Int} {w : Nat} : ∀ (f : Nat) (k : Int), 0 ≤ k → k ≤ n - p ∨ p ≤ n → k ≤ mlZ T n w p f k ∧ mlZ T n w p f k ≤ k + f
  | 0, k, _, _ => ⟨Int.le_refl _, by show k ≤ _; omega⟩
  | f + 1, k, h, h2 => by
    unfold mlZ
    split
    · have := mlZ_b (T := T) (n := n) (p := p) (w := w) f (k + 1) (by omega) (by
        rename_i h3
        have hc := chZ_r w k
        have := chA_lt h3 hc.1
        omega)
      omega
    · omega
theorem mlZ_n {T : Int → Int} {n p : Int} {w : Nat} : ∀ (f : Nat) (k : Int), 0 ≤ k → p + k ≤ n → p + mlZ T n w p f k ≤ n
  | 0, k, _, h2 => h2
  | f + 1, k, h, h2 => by
    unfold mlZ
    split
    · rename_i h3
      have hc := chZ_r w k
      have := chA_lt h3 hc.1
      exact mlZ_n f (k + 1) (by omega) (by omega)
    · exact h2
/-- all of the word's letters -/
def mwZ (T : Int → Int) (n : Int) (w : Nat) (p : Int) : Int := mlZ T n w p (lnZ w).toNat 0

set_option maxHeartbeats 4000000 in
set_option maxRecDepth 100000 in
/-- BenchBroker$Input.readSign -/
theorem i_readSign (l : Launch) (dg : va_G) (ck : Nat → ClassId) (ka : Nat → Nat) (wa : Nat → Nat) (I : St) (x : Int) (sz : Nat) (hx0 : 0 ≤ x ∧ x ≤ 126) (hp0 : 0 ≤ I 0 1 ∧ I 0 1 ≤ I 0 0 ∧ I 0 0 ≤ 60) (htx : ∀ i, 0 ≤ i → i < 60 → 0 ≤ I 1 i ∧ I 1 i ≤ 126) : Met l yX3_readSign (.code yX3_readSign cX3_readSign 2 (some .boolean) :: GW) ({ frames := 0, cells := 0, slots := 0, locals := 0 }) (va_Pc [.ref (wa 0), .int (zI x)] (wrK dg ck ka sz (inputC ck ka wa I))) (va_Qi (fun r (_ : Unit) => r = zI (bI ((chA (I 1) (I 0 0) (I 0 1)) = x))) (fun _ t9 => wrQ dg sz (inputC ck ka wa I) (inputC ck ka wa (upS I 0 1 (I 0 1 + bI ((chA (I 1) (I 0 0) (I 0 1)) = x)))) t9) (va_A (inputC ck ka wa I) sz)) 0 0 (va_A (inputC ck ka wa I) sz) := by
  refine Met.ofW (cc := cX3_readSign) (maxL := 2) (ret := (some .boolean)) (by decide) rfl ?_
  intro p e s m args below meth c s₁ B hml hv
  obtain ⟨rfl, ⟨hsz, hP, hK, hD0⟩, hC⟩ := hv
  have hx := B.exec
  have hb := B.bytes
  have hr := B.returns
  have hts := atoms_spec (ws := .code yX3_readSign cX3_readSign 2 (some .boolean) :: GW) B.pre
  have htg : ∀ w ∈ GW, w.before _ s = true := fun w h => hts w (List.mem_cons_of_mem _ h)
  have hown : s.vm.findClass RX3 = some m.cls := findClass_of_methodNamed B.named
  have hlocks := B.notSynchronized
  subst hsz
  have hD := hD0.self (sz := s.heap.size)
  generalize hAe : va_A (inputC ck ka wa I) s.heap.size = A at hD hC ⊢
  have hA : ∀ q : Nat, s.heap.size ≤ q → A q := fun q h => by rw [← hAe]; exact Or.inr h
  have hS : va_S A s.heap s.heap [] := va_S.rf
  have hP : va_P dg vwCl (inputC ck ka wa I) s.heap := hP
  have hl := lv_entry ([.ref (wa 0), .int (zI x)]) (n := 2) (Nat.le_of_ble_eq_true rfl)
  rw [lg_entry_eq]
  generalize (lg_sl ([.ref (wa 0), .int (zI x)]) ++ List.replicate (2 - (lg_sl ([.ref (wa 0), .int (zI x)])).length) Slot.unset).toArray = ls at hl ⊢
  have hl : lv_has ls 2 [(0, .ref (wa 0)), (1, .int (zI x))] := hl
  have htp := htx (I 0 1)
  refine lv_aload_n hx hb dX3_readSign_0 rfl (lv_at hl 0 rfl) ?_
  refine va_get (D := dg) (ci := 6) (v := .int (zI (I 0 1))) (C := RX3) (T := TX3) (N := 5) hx hb htg inG_X3 hown hK hP 0 rfl rfl 2 (Nat.le_of_ble_eq_true rfl) (htg _ wq_228) (fun _ h9 => h9) rfl dX3_readSign_1 ?_
  refine lv_aload_n hx hb dX3_readSign_4 rfl (lv_at hl 0 rfl) ?_
  refine va_get (D := dg) (ci := 6) (v := .int (zI (I 0 0))) (C := RX3) (T := TX3) (N := 5) hx hb htg inG_X3 hown hK hP 0 rfl rfl 1 (Nat.le_of_ble_eq_true rfl) (htg _ wq_226) (fun _ h9 => h9) rfl dX3_readSign_5 ?_
  refine x_icmp_ge (tgt := 24) hx hb dX3_readSign_8 (by decide) (by omega) (by omega) (fun c8 => ?_) (fun c8 => ?_)
  · refine x_iconst hx hb dX3_readSign_24 ?_
    have hc : (chA (I 1) (I 0 0) (I 0 1)) = (chA (I 1) (I 0 0) (I 0 1)) ∧ (chA (I 1) (I 0 0) (I 0 1)) ≠ x := ⟨rfl, by unfold chA; first | (rw [if_neg (by omega)]; omega) | (rw [if_pos (by omega)]; omega)⟩
    have hEq : inputC ck ka wa (upS I 0 1 (I 0 1 + bI ((chA (I 1) (I 0 0) (I 0 1)) = x))) = inputC ck ka wa I := (by rw [bI_f hc.2, Int.add_zero, upS_id rfl])
    exact W.zret (v := _) hx hb hr (by first | rfl | rfl) (fun t9 ht9 hW9 => ⟨⟨_, (), rfl, (by rw [bI_f hc.2]), by rw [ht9, hEq]; exact hP, by rw [hEq, hAe]; exact hD⟩, hS.F ht9⟩) hS.2.2 dX3_readSign_25
  · refine lv_aload_n hx hb dX3_readSign_11 rfl (lv_at hl 0 rfl) ?_
    refine va_get (D := dg) (ci := 6) (v := .ref (wa 1)) (C := RX3) (T := TX3) (N := 5) hx hb htg inG_X3 hown hK hP 0 rfl rfl 0 (Nat.le_of_ble_eq_true rfl) (htg _ wq_224) (fun _ h9 => h9) rfl dX3_readSign_12 ?_
    refine lv_aload_n hx hb dX3_readSign_15 rfl (lv_at hl 0 rfl) ?_
    refine va_get (D := dg) (ci := 6) (v := .int (zI (I 0 1))) (C := RX3) (T := TX3) (N := 5) hx hb htg inG_X3 hown hK hP 0 rfl rfl 2 (Nat.le_of_ble_eq_true rfl) (htg _ wq_228) (fun _ h9 => h9) rfl dX3_readSign_16 ?_
    refine x_cald hx hb hK hP 1 2 (I 1) rfl rfl (fun _ => rfl) (P := fun y => True) (fun _ => trivial) (by decide) (by omega) dX3_readSign_19 (fun g19 => ?_)
    refine lv_iload_n hx hb dX3_readSign_20 rfl (lv_at hl 1 rfl) ?_
    refine x_icmp_eq (tgt := 26) hx hb dX3_readSign_21 (by decide) (by omega) (by omega) (fun c21 => ?_) (fun c21 => ?_)
    · refine lv_aload_n hx hb dX3_readSign_26 rfl (lv_at hl 0 rfl) ?_
      refine lv_dup hx hb dX3_readSign_27 rfl ?_
      refine va_get (D := dg) (ci := 6) (v := .int (zI (I 0 1))) (C := RX3) (T := TX3) (N := 5) hx hb htg inG_X3 hown hK hP 0 rfl rfl 2 (Nat.le_of_ble_eq_true rfl) (htg _ wq_228) (fun _ h9 => h9) rfl dX3_readSign_28 ?_
      refine x_iconst hx hb dX3_readSign_31 ?_
      refine x_iadd hx hb dX3_readSign_32 ?_
      refine va_put (D := dg) (ci := 6) (v := .int (zI ((I 0 1) + 1))) (ty := .int) (C := RX3) (T := TX3) (N := 5) hx hb htg inG_X3 tyX3 tyX3_ok nmX3 hown hK hP hD hS 0 rfl rfl 2 (Nat.le_of_ble_eq_true rfl) (htg _ wq_228) (fun _ h9 => h9) rfl (by decide +kernel) rfl rfl (Nat.le_of_ble_eq_true rfl) dX3_readSign_33 (fun H locs hP hD hS => ?_)
      have hP : va_P dg vwCl (inputC ck ka wa (upS I 0 1 ((I 0 1) + 1))) H := hP
      have hD : va_D A (inputC ck ka wa (upS I 0 1 ((I 0 1) + 1))) := hD
      refine x_iconst hx hb dX3_readSign_36 ?_
      have hc : (chA (I 1) (I 0 0) (I 0 1)) = I 1 (I 0 1) ∧ I 1 (I 0 1) = x := ⟨if_pos (by omega), by omega⟩
      have hEq : inputC ck ka wa (upS I 0 1 (I 0 1 + bI ((chA (I 1) (I 0 0) (I 0 1)) = x))) = inputC ck ka wa (upS I 0 1 ((I 0 1) + 1)) := (by rw [bI_t (hc.1.trans hc.2)])
      exact W.zret (v := _) hx hb hr (by first | rfl | rfl) (fun t9 ht9 hW9 => ⟨⟨_, (), rfl, (by rw [bI_t (hc.1.trans hc.2)]), by rw [ht9, hEq]; exact hP, by rw [hEq, hAe]; exact hD⟩, hS.F ht9⟩) hS.2.2 dX3_readSign_37
    · refine x_iconst hx hb dX3_readSign_24 ?_
      have hc : (chA (I 1) (I 0 0) (I 0 1)) = (chA (I 1) (I 0 0) (I 0 1)) ∧ (chA (I 1) (I 0 0) (I 0 1)) ≠ x := ⟨rfl, by unfold chA; first | (rw [if_neg (by omega)]; omega) | (rw [if_pos (by omega)]; omega)⟩
      have hEq : inputC ck ka wa (upS I 0 1 (I 0 1 + bI ((chA (I 1) (I 0 0) (I 0 1)) = x))) = inputC ck ka wa I := (by rw [bI_f hc.2, Int.add_zero, upS_id rfl])
      exact W.zret (v := _) hx hb hr (by first | rfl | rfl) (fun t9 ht9 hW9 => ⟨⟨_, (), rfl, (by rw [bI_f hc.2]), by rw [ht9, hEq]; exact hP, by rw [hEq, hAe]; exact hD⟩, hS.F ht9⟩) hS.2.2 dX3_readSign_25

set_option maxHeartbeats 4000000 in
set_option maxRecDepth 100000 in
/-- BenchBroker$Input.atDigit -/
theorem i_atDigit (l : Launch) (dg : va_G) (ck : Nat → ClassId) (ka : Nat → Nat) (wa : Nat → Nat) (I : St)  (hp0 : 0 ≤ I 0 1 ∧ I 0 1 ≤ I 0 0 ∧ I 0 0 ≤ 60) (htx : ∀ i, 0 ≤ i → i < 60 → 0 ≤ I 1 i ∧ I 1 i ≤ 126) : Met l yX3_atDigit (.code yX3_atDigit cX3_atDigit 1 (some .boolean) :: GW) ({ frames := 0, cells := 0, slots := 0, locals := 0 }) (va_Pc [.ref (wa 0)] (rdK dg ck ka (inputC ck ka wa I))) (vp_Si (fun r => r = zI (bI (dgt (chA (I 1) (I 0 0) (I 0 1)))))) 0 0 (fun _ => False) := by
  refine Met.ofW (cc := cX3_atDigit) (maxL := 1) (ret := (some .boolean)) (by decide) rfl ?_
  intro p e s m args below meth c s₁ B hml hv
  obtain ⟨rfl, ⟨hP, hK⟩, hC⟩ := hv
  have hx := B.exec
  have hb := B.bytes
  have hr := B.returns
  have hts := atoms_spec (ws := .code yX3_atDigit cX3_atDigit 1 (some .boolean) :: GW) B.pre
  have htg : ∀ w ∈ GW, w.before _ s = true := fun w h => hts w (List.mem_cons_of_mem _ h)
  have hown : s.vm.findClass RX3 = some m.cls := findClass_of_methodNamed B.named
  have hlocks := B.notSynchronized
  have hS : va_S (fun _ => False) s.heap s.heap [] := va_S.rf
  have hl := lv_entry ([.ref (wa 0)]) (n := 1) (Nat.le_of_ble_eq_true rfl)
  rw [lg_entry_eq]
  generalize (lg_sl ([.ref (wa 0)]) ++ List.replicate (1 - (lg_sl ([.ref (wa 0)])).length) Slot.unset).toArray = ls at hl ⊢
  have hl : lv_has ls 1 [(0, .ref (wa 0))] := hl
  have htp := htx (I 0 1)
  refine lv_aload_n hx hb dX3_atDigit_0 rfl (lv_at hl 0 rfl) ?_
  refine va_get (D := dg) (ci := 6) (v := .int (zI (I 0 1))) (C := RX3) (T := TX3) (N := 5) hx hb htg inG_X3 hown hK hP 0 rfl rfl 2 (Nat.le_of_ble_eq_true rfl) (htg _ wq_228) (fun _ h9 => h9) rfl dX3_atDigit_1 ?_
  refine lv_aload_n hx hb dX3_atDigit_4 rfl (lv_at hl 0 rfl) ?_
  refine va_get (D := dg) (ci := 6) (v := .int (zI (I 0 0))) (C := RX3) (T := TX3) (N := 5) hx hb htg inG_X3 hown hK hP 0 rfl rfl 1 (Nat.le_of_ble_eq_true rfl) (htg _ wq_226) (fun _ h9 => h9) rfl dX3_atDigit_5 ?_
  refine x_icmp_ge (tgt := 43) hx hb dX3_atDigit_8 (by decide) (by omega) (by omega) (fun c8 => ?_) (fun c8 => ?_)
  · refine x_iconst hx hb dX3_atDigit_43 ?_
    exact W.zret (v := _) hx hb hr (by first | rfl | rfl) (fun t9 ht9 hW9 => ⟨_, rfl, (congrArg zI (by unfold chA; first | (rw [if_neg (show ¬ I 0 1 < I 0 0 by omega)]; exact (bI_f (by omega)).symm) | (rw [if_pos (show I 0 1 < I 0 0 by omega)]; first | exact (bI_t (by omega)).symm | exact (bI_f (by omega)).symm))), ht9⟩) (fun _ h => by cases h) dX3_atDigit_44
  · refine lv_aload_n hx hb dX3_atDigit_11 rfl (lv_at hl 0 rfl) ?_
    refine va_get (D := dg) (ci := 6) (v := .ref (wa 1)) (C := RX3) (T := TX3) (N := 5) hx hb htg inG_X3 hown hK hP 0 rfl rfl 0 (Nat.le_of_ble_eq_true rfl) (htg _ wq_224) (fun _ h9 => h9) rfl dX3_atDigit_12 ?_
    refine lv_aload_n hx hb dX3_atDigit_15 rfl (lv_at hl 0 rfl) ?_
    refine va_get (D := dg) (ci := 6) (v := .int (zI (I 0 1))) (C := RX3) (T := TX3) (N := 5) hx hb htg inG_X3 hown hK hP 0 rfl rfl 2 (Nat.le_of_ble_eq_true rfl) (htg _ wq_228) (fun _ h9 => h9) rfl dX3_atDigit_16 ?_
    refine x_cald hx hb hK hP 1 2 (I 1) rfl rfl (fun _ => rfl) (P := fun y => True) (fun _ => trivial) (by decide) (by omega) dX3_atDigit_19 (fun g19 => ?_)
    refine x_bipush hx hb dX3_atDigit_20 (by decide) ?_
    refine x_icmp_lt (tgt := 43) hx hb dX3_atDigit_22 (by decide) (by omega) (by omega) (fun c22 => ?_) (fun c22 => ?_)
    · refine x_iconst hx hb dX3_atDigit_43 ?_
      exact W.zret (v := _) hx hb hr (by first | rfl | rfl) (fun t9 ht9 hW9 => ⟨_, rfl, (congrArg zI (by unfold chA; first | (rw [if_neg (show ¬ I 0 1 < I 0 0 by omega)]; exact (bI_f (by omega)).symm) | (rw [if_pos (show I 0 1 < I 0 0 by omega)]; first | exact (bI_t (by omega)).symm | exact (bI_f (by omega)).symm))), ht9⟩) (fun _ h => by cases h) dX3_atDigit_44
    · refine lv_aload_n hx hb dX3_atDigit_25 rfl (lv_at hl 0 rfl) ?_
      refine va_get (D := dg) (ci := 6) (v := .ref (wa 1)) (C := RX3) (T := TX3) (N := 5) hx hb htg inG_X3 hown hK hP 0 rfl rfl 0 (Nat.le_of_ble_eq_true rfl) (htg _ wq_224) (fun _ h9 => h9) rfl dX3_atDigit_26 ?_
      refine lv_aload_n hx hb dX3_atDigit_29 rfl (lv_at hl 0 rfl) ?_
      refine va_get (D := dg) (ci := 6) (v := .int (zI (I 0 1))) (C := RX3) (T := TX3) (N := 5) hx hb htg inG_X3 hown hK hP 0 rfl rfl 2 (Nat.le_of_ble_eq_true rfl) (htg _ wq_228) (fun _ h9 => h9) rfl dX3_atDigit_30 ?_
      refine x_cald hx hb hK hP 1 2 (I 1) rfl rfl (fun _ => rfl) (P := fun y => True) (fun _ => trivial) (by decide) (by omega) dX3_atDigit_33 (fun g33 => ?_)
      refine x_bipush hx hb dX3_atDigit_34 (by decide) ?_
      refine x_icmp_gt (tgt := 43) hx hb dX3_atDigit_36 (by decide) (by omega) (by omega) (fun c36 => ?_) (fun c36 => ?_)
      · refine x_iconst hx hb dX3_atDigit_43 ?_
        exact W.zret (v := _) hx hb hr (by first | rfl | rfl) (fun t9 ht9 hW9 => ⟨_, rfl, (congrArg zI (by unfold chA; first | (rw [if_neg (show ¬ I 0 1 < I 0 0 by omega)]; exact (bI_f (by omega)).symm) | (rw [if_pos (show I 0 1 < I 0 0 by omega)]; first | exact (bI_t (by omega)).symm | exact (bI_f (by omega)).symm))), ht9⟩) (fun _ h => by cases h) dX3_atDigit_44
      · refine x_iconst hx hb dX3_atDigit_39 ?_
        refine lv_goto (tgt := 44) hx hb dX3_atDigit_40 (by decide) ?_
        exact W.zret (v := _) hx hb hr (by first | rfl | rfl) (fun t9 ht9 hW9 => ⟨_, rfl, (congrArg zI (by unfold chA; first | (rw [if_neg (show ¬ I 0 1 < I 0 0 by omega)]; exact (bI_f (by omega)).symm) | (rw [if_pos (show I 0 1 < I 0 0 by omega)]; first | exact (bI_t (by omega)).symm | exact (bI_f (by omega)).symm))), ht9⟩) (fun _ h => by cases h) dX3_atDigit_44

set_option maxHeartbeats 4000000 in
set_option maxRecDepth 100000 in
/-- BenchBroker$Input.readDigit -/
theorem i_readDigit (l : Launch) (dg : va_G) (ck : Nat → ClassId) (ka : Nat → Nat) (wa : Nat → Nat) (I : St) (sz : Nat) (hlt : I 0 1 < I 0 0) (hp0 : 0 ≤ I 0 1 ∧ I 0 1 ≤ I 0 0 ∧ I 0 0 ≤ 60) (htx : ∀ i, 0 ≤ i → i < 60 → 0 ≤ I 1 i ∧ I 1 i ≤ 126) : Met l yX3_readDigit (.code yX3_readDigit cX3_readDigit 2 (some .int) :: GW) ({ frames := 0, cells := 0, slots := 0, locals := 0 }) (va_Pc [.ref (wa 0)] (wrK dg ck ka sz (inputC ck ka wa I))) (va_Qi (fun r (_ : Unit) => r = zI ((chA (I 1) (I 0 0) (I 0 1)) - 48)) (fun _ t9 => wrQ dg sz (inputC ck ka wa I) (inputC ck ka wa (upS I 0 1 (I 0 1 + 1))) t9) (va_A (inputC ck ka wa I) sz)) 0 0 (va_A (inputC ck ka wa I) sz) := by
  refine Met.ofW (cc := cX3_readDigit) (maxL := 2) (ret := (some .int)) (by decide) rfl ?_
  intro p e s m args below meth c s₁ B hml hv
  obtain ⟨rfl, ⟨hsz, hP, hK, hD0⟩, hC⟩ := hv
  have hx := B.exec
  have hb := B.bytes
  have hr := B.returns
  have hts := atoms_spec (ws := .code yX3_readDigit cX3_readDigit 2 (some .int) :: GW) B.pre
  have htg : ∀ w ∈ GW, w.before _ s = true := fun w h => hts w (List.mem_cons_of_mem _ h)
  have hown : s.vm.findClass RX3 = some m.cls := findClass_of_methodNamed B.named
  have hlocks := B.notSynchronized
  subst hsz
  have hD := hD0.self (sz := s.heap.size)
  generalize hAe : va_A (inputC ck ka wa I) s.heap.size = A at hD hC ⊢
  have hA : ∀ q : Nat, s.heap.size ≤ q → A q := fun q h => by rw [← hAe]; exact Or.inr h
  have hS : va_S A s.heap s.heap [] := va_S.rf
  have hP : va_P dg vwCl (inputC ck ka wa I) s.heap := hP
  have hl := lv_entry ([.ref (wa 0)]) (n := 2) (Nat.le_of_ble_eq_true rfl)
  rw [lg_entry_eq]
  generalize (lg_sl ([.ref (wa 0)]) ++ List.replicate (2 - (lg_sl ([.ref (wa 0)])).length) Slot.unset).toArray = ls at hl ⊢
  have hl : lv_has ls 2 [(0, .ref (wa 0))] := hl
  have htp := htx (I 0 1)
  refine lv_aload_n hx hb dX3_readDigit_0 rfl (lv_at hl 0 rfl) ?_
  refine va_get (D := dg) (ci := 6) (v := .ref (wa 1)) (C := RX3) (T := TX3) (N := 5) hx hb htg inG_X3 hown hK hP 0 rfl rfl 0 (Nat.le_of_ble_eq_true rfl) (htg _ wq_224) (fun _ h9 => h9) rfl dX3_readDigit_1 ?_
  refine lv_aload_n hx hb dX3_readDigit_4 rfl (lv_at hl 0 rfl) ?_
  refine va_get (D := dg) (ci := 6) (v := .int (zI (I 0 1))) (C := RX3) (T := TX3) (N := 5) hx hb htg inG_X3 hown hK hP 0 rfl rfl 2 (Nat.le_of_ble_eq_true rfl) (htg _ wq_228) (fun _ h9 => h9) rfl dX3_readDigit_5 ?_
  refine x_cald hx hb hK hP 1 2 (I 1) rfl rfl (fun _ => rfl) (P := fun y => True) (fun _ => trivial) (by decide) (by omega) dX3_readDigit_8 (fun g8 => ?_)
  refine x_bipush hx hb dX3_readDigit_9 (by decide) ?_
  refine x_isub hx hb dX3_readDigit_11 ?_
  refine x_top _ (fun v12 e_v12 => ?_)
  refine lv_istore_n (lv' := [(1, .int (zI v12)), (0, .ref (wa 0))]) hx hb dX3_readDigit_12 rfl hl (by decide) rfl (fun ls hl => ?_)
  refine lv_aload_n hx hb dX3_readDigit_13 rfl (lv_at hl 1 rfl) ?_
  refine lv_dup hx hb dX3_readDigit_14 rfl ?_
  refine va_get (D := dg) (ci := 6) (v := .int (zI (I 0 1))) (C := RX3) (T := TX3) (N := 5) hx hb htg inG_X3 hown hK hP 0 rfl rfl 2 (Nat.le_of_ble_eq_true rfl) (htg _ wq_228) (fun _ h9 => h9) rfl dX3_readDigit_15 ?_
  refine x_iconst hx hb dX3_readDigit_18 ?_
  refine x_iadd hx hb dX3_readDigit_19 ?_
  refine va_put (D := dg) (ci := 6) (v := .int (zI ((I 0 1) + 1))) (ty := .int) (C := RX3) (T := TX3) (N := 5) hx hb htg inG_X3 tyX3 tyX3_ok nmX3 hown hK hP hD hS 0 rfl rfl 2 (Nat.le_of_ble_eq_true rfl) (htg _ wq_228) (fun _ h9 => h9) rfl (by decide +kernel) rfl rfl (Nat.le_of_ble_eq_true rfl) dX3_readDigit_20 (fun H locs hP hD hS => ?_)
  have hP : va_P dg vwCl (inputC ck ka wa (upS I 0 1 ((I 0 1) + 1))) H := hP
  have hD : va_D A (inputC ck ka wa (upS I 0 1 ((I 0 1) + 1))) := hD
  refine lv_iload_n hx hb dX3_readDigit_23 rfl (lv_at hl 0 rfl) ?_
  have hEq : inputC ck ka wa (upS I 0 1 (I 0 1 + 1)) = inputC ck ka wa (upS I 0 1 ((I 0 1) + 1)) := rfl
  exact W.iret (v := _) hx hb hr (fun t9 ht9 hW9 => ⟨⟨_, (), rfl, (by rw [e_v12, show (chA (I 1) (I 0 0) (I 0 1)) = I 1 (I 0 1) from if_pos hlt]), by rw [ht9, hEq]; exact hP, by rw [hEq, hAe]; exact hD⟩, hS.F ht9⟩) hS.2.2 dX3_readDigit_24

set_option maxHeartbeats 4000000 in
set_option maxRecDepth 100000 in
/-- BenchBroker$Input.matchingLetters -/
theorem i_matching (l : Launch) (dg : va_G) (ck : Nat → ClassId) (ka : Nat → Nat) (wa : Nat → Nat) (I : St) (w : Nat) (hw : okS w) (hp0 : 0 ≤ I 0 1 ∧ I 0 1 ≤ I 0 0 ∧ I 0 0 ≤ 60) (htx : ∀ i, 0 ≤ i → i < 60 → 0 ≤ I 1 i ∧ I 1 i ≤ 126) : Met l yX3_matchingLetters (.code yX3_matchingLetters cX3_matchingLetters 3 (some .int) :: GW) ({ frames := 4, cells := 0, slots := 0, locals := 85 }) (va_Pc [.ref (wa 0), .ref (ka (20 + w))] (rdK dg ck ka (inputC ck ka wa I))) (vp_Si (fun r => r = zI (mwZ (I 1) (I 0 0) w (I 0 1)))) 0 0 (fun _ => False) := by
  refine Met.ofW (cc := cX3_matchingLetters) (maxL := 3) (ret := (some .int)) (by decide) rfl ?_
  intro p e s m args below meth c s₁ B hml hv
  obtain ⟨rfl, ⟨hP, hK⟩, hC⟩ := hv
  have hx := B.exec
  have hb := B.bytes
  have hr := B.returns
  have hts := atoms_spec (ws := .code yX3_matchingLetters cX3_matchingLetters 3 (some .int) :: GW) B.pre
  have htg : ∀ w ∈ GW, w.before _ s = true := fun w h => hts w (List.mem_cons_of_mem _ h)
  have hown : s.vm.findClass RX3 = some m.cls := findClass_of_methodNamed B.named
  have hlocks := B.notSynchronized
  have hS : va_S (fun _ => False) s.heap s.heap [] := va_S.rf
  have hl := lv_entry ([.ref (wa 0), .ref (ka (20 + w))]) (n := 3) (Nat.le_of_ble_eq_true rfl)
  rw [lg_entry_eq]
  generalize (lg_sl ([.ref (wa 0), .ref (ka (20 + w))]) ++ List.replicate (3 - (lg_sl ([.ref (wa 0), .ref (ka (20 + w))])).length) Slot.unset).toArray = ls at hl ⊢
  have hl : lv_has ls 3 [(0, .ref (wa 0)), (1, .ref (ka (20 + w)))] := hl
  have hlr := lnZ_r w
  refine x_iconst hx hb dX3_matchingLetters_0 ?_
  refine lv_istore_n (lv' := [(2, .int (zI 0)), (0, .ref (wa 0)), (1, .ref (ka (20 + w)))]) hx hb dX3_matchingLetters_1 rfl hl (by decide) rfl (fun ls hl => ?_)
  refine x_loop (ι := Int) (fun v => (0 ≤ v ∧ v ≤ lnZ w) ∧ (mwZ (I 1) (I 0 0) w (I 0 1)) = mlZ (I 1) (I 0 0) w (I 0 1) (lnZ w - v).toNat v) (fun v => (lnZ w - v).toNat) (fun v => [(0, .ref (wa 0)), (1, .ref (ka (20 + w))), (2, .int (zI v))]) (0) (show (0 ≤ (0 : Int) ∧ (0 : Int) ≤ lnZ w) ∧ (mwZ (I 1) (I 0 0) w (I 0 1)) = mlZ (I 1) (I 0 0) w (I 0 1) (lnZ w - (0 : Int)).toNat (0 : Int) from ⟨by omega, by rw [Int.sub_zero]; rfl⟩) (lv_sub hl [1, 2, 0] rfl) ?_
  intro v hv ih_2 ls hl
  obtain ⟨k, rfl⟩ : ∃ z : Int, z = v := ⟨_, rfl⟩
  have hl : lv_has ls 3 [(0, .ref (wa 0)), (1, .ref (ka (20 + w))), (2, .int (zI k))] := hl
  have hv : (0 ≤ k ∧ k ≤ lnZ w) ∧ (mwZ (I 1) (I 0 0) w (I 0 1)) = mlZ (I 1) (I 0 0) w (I 0 1) (lnZ w - k).toNat k := hv
  obtain ⟨hk, hM⟩ := hv
  refine lv_iload_n hx hb dX3_matchingLetters_2 rfl (lv_at hl 2 rfl) ?_
  refine lv_aload_n hx hb dX3_matchingLetters_3 rfl (lv_at hl 1 rfl) ?_
  refine vp_callSi (W.runV (As := []) (rest := [.int (zI k)]) ⟨hx, hb, hml, hown, htg⟩ (j_slen l dg ck ka w (by omega)) (cwV 0 htg (gwV wq_1141 wq_926 wq_927 wq_13 wq_928) rfl rfl rfl (by decide +kernel) ⟨Nat.le_of_ble_eq_true rfl, Nat.le_of_ble_eq_true rfl⟩) (rdK_preR (C := "java/lang/String") hK va_P_nil hC hS (hC.srecv hw hS)) rfl rfl hl.1 rfl (lv_room (Nat.le_of_ble_eq_true rfl)) dX3_matchingLetters_4 ⟨Nat.zero_le _, Nat.zero_le _⟩) (fun r4 hr4 => ?_)
  subst hr4
  refine x_icmp_ge (tgt := 48) hx hb dX3_matchingLetters_7 (by decide) (by omega) (by omega) (fun c7 => ?_) (fun c7 => ?_)
  · refine lv_iload_n hx hb dX3_matchingLetters_48 rfl (lv_at hl 2 rfl) ?_
    exact W.iret (v := _) hx hb hr (fun t9 ht9 hW9 => ⟨_, rfl, (congrArg zI (by rw [hM]; first | (rw [show (lnZ w - k).toNat = 0 by omega]; rfl) | (rw [mlZ_s (by omega), if_neg (by unfold chA; first | (rw [if_neg (by omega)]; have hcr := chZ_r w k; omega) | (rw [if_pos (by omega)]; omega))]))), ht9⟩) (fun _ h => by cases h) dX3_matchingLetters_49
  · refine lv_aload_n hx hb dX3_matchingLetters_10 rfl (lv_at hl 0 rfl) ?_
    refine va_get (D := dg) (ci := 6) (v := .int (zI (I 0 1))) (C := RX3) (T := TX3) (N := 5) hx hb htg inG_X3 hown hK hP 0 rfl rfl 2 (Nat.le_of_ble_eq_true rfl) (htg _ wq_228) (fun _ h9 => h9) rfl dX3_matchingLetters_11 ?_
    refine lv_iload_n hx hb dX3_matchingLetters_14 rfl (lv_at hl 2 rfl) ?_
    refine x_iadd hx hb dX3_matchingLetters_15 ?_
    refine lv_aload_n hx hb dX3_matchingLetters_16 rfl (lv_at hl 0 rfl) ?_
    refine va_get (D := dg) (ci := 6) (v := .int (zI (I 0 0))) (C := RX3) (T := TX3) (N := 5) hx hb htg inG_X3 hown hK hP 0 rfl rfl 1 (Nat.le_of_ble_eq_true rfl) (htg _ wq_226) (fun _ h9 => h9) rfl dX3_matchingLetters_17 ?_
    refine x_icmp_ge (tgt := 48) hx hb dX3_matchingLetters_20 (by decide) (by omega) (by omega) (fun c20 => ?_) (fun c20 => ?_)
    · refine lv_iload_n hx hb dX3_matchingLetters_48 rfl (lv_at hl 2 rfl) ?_
      exact W.iret (v := _) hx hb hr (fun t9 ht9 hW9 => ⟨_, rfl, (congrArg zI (by rw [hM]; first | (rw [show (lnZ w - k).toNat = 0 by omega]; rfl) | (rw [mlZ_s (by omega), if_neg (by unfold chA; first | (rw [if_neg (by omega)]; have hcr := chZ_r w k; omega) | (rw [if_pos (by omega)]; omega))]))), ht9⟩) (fun _ h => by cases h) dX3_matchingLetters_49
    · refine lv_aload_n hx hb dX3_matchingLetters_23 rfl (lv_at hl 0 rfl) ?_
      refine va_get (D := dg) (ci := 6) (v := .ref (wa 1)) (C := RX3) (T := TX3) (N := 5) hx hb htg inG_X3 hown hK hP 0 rfl rfl 0 (Nat.le_of_ble_eq_true rfl) (htg _ wq_224) (fun _ h9 => h9) rfl dX3_matchingLetters_24 ?_
      refine lv_aload_n hx hb dX3_matchingLetters_27 rfl (lv_at hl 0 rfl) ?_
      refine va_get (D := dg) (ci := 6) (v := .int (zI (I 0 1))) (C := RX3) (T := TX3) (N := 5) hx hb htg inG_X3 hown hK hP 0 rfl rfl 2 (Nat.le_of_ble_eq_true rfl) (htg _ wq_228) (fun _ h9 => h9) rfl dX3_matchingLetters_28 ?_
      refine lv_iload_n hx hb dX3_matchingLetters_31 rfl (lv_at hl 2 rfl) ?_
      refine x_iadd hx hb dX3_matchingLetters_32 ?_
      have htp := htx (I 0 1 + k) (by omega) (by omega)
      have hcr := chZ_r w k
      refine x_cald hx hb hK hP 1 2 (I 1) rfl rfl (fun _ => rfl) (P := fun y => True) (fun _ => trivial) (by decide) (by omega) dX3_matchingLetters_33 (fun g33 => ?_)
      refine lv_aload_n hx hb dX3_matchingLetters_34 rfl (lv_at hl 1 rfl) ?_
      refine lv_iload_n hx hb dX3_matchingLetters_35 rfl (lv_at hl 2 rfl) ?_
      refine vp_callSi (W.runV (As := [.int (zI k)]) (rest := [.int (zI (I 1 ((I 0 1) + k)))]) ⟨hx, hb, hml, hown, htg⟩ (j_charAt l dg ck ka w k (by omega) (by omega)) (cwV 1 htg (gwV wq_1142 wq_1070 wq_1071 wq_13 wq_1072) rfl rfl rfl (by decide +kernel) ⟨Nat.le_of_ble_eq_true rfl, Nat.le_of_ble_eq_true rfl⟩) (rdK_preR (C := "java/lang/String") hK va_P_nil hC hS (hC.srecv hw hS)) rfl rfl hl.1 rfl (lv_room (Nat.le_of_ble_eq_true rfl)) dX3_matchingLetters_36 ⟨Nat.zero_le _, Nat.zero_le _⟩) (fun r36 hr36 => ?_)
      subst hr36
      refine x_icmp_ne (tgt := 48) hx hb dX3_matchingLetters_39 (by decide) (by omega) (by omega) (fun c39 => ?_) (fun c39 => ?_)
      · refine lv_iload_n hx hb dX3_matchingLetters_48 rfl (lv_at hl 2 rfl) ?_
        exact W.iret (v := _) hx hb hr (fun t9 ht9 hW9 => ⟨_, rfl, (congrArg zI (by rw [hM]; first | (rw [show (lnZ w - k).toNat = 0 by omega]; rfl) | (rw [mlZ_s (by omega), if_neg (by unfold chA; first | (rw [if_neg (by omega)]; have hcr := chZ_r w k; omega) | (rw [if_pos (by omega)]; omega))]))), ht9⟩) (fun _ h => by cases h) dX3_matchingLetters_49
      · obtain ⟨v42, e_v42⟩ : ∃ y : Int, y = k + 1 := ⟨_, rfl⟩
        refine lv_iinc (v := zI v42) (lv' := [(2, .int (zI v42)), (0, .ref (wa 0)), (1, .ref (ka (20 + w)))]) hx hb dX3_matchingLetters_42 hl (k := 2) rfl (by rw [e_v42]; exact zI_add _ _) (by decide) rfl (fun ls hl => ?_)
        refine lv_goto (tgt := 2) hx hb dX3_matchingLetters_45 (by decide) ?_
        exact ih_2 (v42) (show (0 ≤ v42 ∧ v42 ≤ lnZ w) ∧ (mwZ (I 1) (I 0 0) w (I 0 1)) = mlZ (I 1) (I 0 0) w (I 0 1) (lnZ w - v42).toNat v42 from ⟨by omega, by rw [hM, mlZ_s (by omega), if_pos (by rw [show chA (I 1) (I 0 0) (I 0 1 + k) = I 1 (I 0 1 + k) from if_pos (by omega)]; omega), e_v42]⟩) (show (lnZ w - v42).toNat < (lnZ w - k).toNat from by omega) ls (lv_sub hl [1, 2, 0] rfl)
