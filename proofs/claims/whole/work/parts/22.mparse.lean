/-! reading commands: what is read, from the row T of n letters -/
def chA (T : Int → Int) (n z : Int) : Int := if z < n then T z else -1
theorem chA_lt {T : Int → Int} {n z x : Int} (h : chA T n z = x) (hx : 0 ≤ x) : z < n := by
  unfold chA at h
  by_cases c : z < n
  · exact c
  · rw [if_neg c] at h; omega
theorem chA_r {T : Int → Int} {n z : Int} (h : ∀ i, 0 ≤ i → i < 60 → 0 ≤ T i ∧ T i ≤ 126) (hn : n ≤ 60) (hz : 0 ≤ z) : -1 ≤ chA T n z ∧ chA T n z ≤ 126 := by
  unfold chA
  split
  · have := h z hz (by omega)
    omega
  · omega
/-- a word letter by letter: whether it went wrong, and where -/
def sayN (T : Int → Int) (n : Int) (w : Nat) (r p : Int) : Nat → Int × Int
  | 0 => (r, p)
  | k + 1 => if (sayN T n w r p k).1 ≠ 0 then sayN T n w r p k else if chA T n (sayN T n w r p k).2 = chZ w k then (0, (sayN T n w r p k).2 + 1) else (1, (sayN T n w r p k).2)
theorem sayN_s {T : Int → Int} {n : Int} {w : Nat} {r p k : Int} (hk : 0 ≤ k) : sayN T n w r p (k + 1).toNat = if (sayN T n w r p k.toNat).1 ≠ 0 then sayN T n w r p k.toNat else if chA T n (sayN T n w r p k.toNat).2 = chZ w k then (0, (sayN T n w r p k.toNat).2 + 1) else (1, (sayN T n w r p k.toNat).2) := by
  rw [show (k + 1).toNat = k.toNat + 1 by omega]
  show (if (sayN T n w r p k.toNat).1 ≠ 0 then sayN T n w r p k.toNat else if chA T n (sayN T n w r p k.toNat).2 = chZ w (k.toNat : Int) then (0, (sayN T n w r p k.toNat).2 + 1) else (1, (sayN T n w r p k.toNat).2)) = _
  rw [Int.toNat_of_nonneg hk]
theorem sayN_stop {T : Int → Int} {n : Int} {w : Nat} {r p : Int} : ∀ {k m : Nat}, k ≤ m → (sayN T n w r p k).1 ≠ 0 → sayN T n w r p m = sayN T n w r p k
  | k, 0, h, _ => by rw [show k = 0 by omega]
  | k, m + 1, h, h1 => by
    by_cases e : k = m + 1
    · rw [e]
    · have h2 := sayN_stop (k := k) (m := m) (by omega) h1
      show (if (sayN T n w r p m).1 ≠ 0 then sayN T n w r p m else _) = _
      rw [h2, if_pos h1]
theorem sayN_b {T : Int → Int} {n : Int} {w : Nat} {r p : Int} (hr : 0 ≤ r ∧ r ≤ 1) (hp : p ≤ n) : ∀ k : Nat, (0 ≤ (sayN T n w r p k).1 ∧ (sayN T n w r p k).1 ≤ 1) ∧ p ≤ (sayN T n w r p k).2 ∧ (sayN T n w r p k).2 ≤ n
  | 0 => ⟨hr, Int.le_refl _, hp⟩
  | k + 1 => by
    have h := sayN_b (T := T) (w := w) hr hp k
    have hc := chZ_r w k
    unfold sayN
    split
    · exact h
    · split
      · rename_i h3
        have h4 := chA_lt h3 hc.1
        exact ⟨by dsimp only; omega, by show p ≤ (sayN T n w r p k).2 + 1; omega, by show (sayN T n w r p k).2 + 1 ≤ n; omega⟩
      · exact ⟨by dsimp only; omega, h.2⟩
theorem nrm2 {M : St} {a c d : Int} : upS (upS M 8 14 d) 8 11 c = upS (upS (upS M 8 14 a) 8 11 c) 8 14 d := by
  rw [upS_cm (S := upS M 8 14 a) (k := 8) (i := 11) (k' := 8) (i' := 14) (by omega), upS_up]
theorem up_say {M : St} {a b c d : Int} : upS (upS M 8 14 c) 8 11 d = upS (upS (upS (upS M 8 14 a) 8 11 b) 8 14 c) 8 11 d := by
  rw [upS_cm (S := upS M 8 14 a) (k := 8) (i := 11) (k' := 8) (i' := 14) (by omega), upS_up, upS_up]
abbrev dgt (c : Int) : Prop := 48 ≤ c ∧ c ≤ 57
theorem dgt_lt {T : Int → Int} {n z : Int} (h : dgt (chA T n z)) : z < n := chA_lt (x := chA T n z) rfl (by omega)
/-- a blank and one or two digits: whether it went wrong, where, the number -/
def numZ (T : Int → Int) (n r p k : Int) : Int × Int × Int :=
  let q := sayN T n 10 r p (lnZ 10).toNat
  if q.1 ≠ 0 then (1, q.2, 0) else if ¬ dgt (chA T n q.2) then (1, q.2, 0) else if k = 2 ∧ dgt (chA T n (q.2 + 1)) then (0, q.2 + 1 + 1, 10 * (10 * 0 + chA T n q.2 - 48) + chA T n (q.2 + 1) - 48) else (0, q.2 + 1, 10 * 0 + chA T n q.2 - 48)
theorem numZ_b {T : Int → Int} {n r p k : Int} (hr : 0 ≤ r ∧ r ≤ 1) (hp : p ≤ n) : (0 ≤ (numZ T n r p k).1 ∧ (numZ T n r p k).1 ≤ 1) ∧ p ≤ (numZ T n r p k).2.1 ∧ (numZ T n r p k).2.1 ≤ n ∧ 0 ≤ (numZ T n r p k).2.2 ∧ (numZ T n r p k).2.2 ≤ 99 := by
  have h := sayN_b (T := T) (w := 10) hr hp (lnZ 10).toNat
  unfold numZ
  dsimp only
  split
  · exact ⟨by dsimp only; omega, h.2.1, h.2.2, by dsimp only; omega, by dsimp only; omega⟩
  · split
    · exact ⟨by dsimp only; omega, h.2.1, h.2.2, by dsimp only; omega, by dsimp only; omega⟩
    · rename_i h2 h3
      have d0 : dgt (chA T n (sayN T n 10 r p (lnZ 10).toNat).2) := Classical.byContradiction h3
      have l0 := dgt_lt d0
      split
      · rename_i h4
        have l1 := dgt_lt h4.2
        have d1 := h4.2
        exact ⟨by dsimp only; omega, by dsimp only; omega, by dsimp only; omega, by dsimp only; omega, by dsimp only; omega⟩
      · exact ⟨by dsimp only; omega, by dsimp only; omega, by dsimp only; omega, by dsimp only; omega, by dsimp only; omega⟩

set_option maxHeartbeats 4000000 in
set_option maxRecDepth 100000 in
/-- BenchBrokerModel.here -/
theorem m_here (l : Launch) (dg : va_G) (ck : Nat → ClassId) (mo : Nat → Nat) (S : St) (F1 F2 F3 F4 : Int → Int) (M : St) (k : Int) (hk : 0 ≤ k ∧ k ≤ 1) (hp0 : 0 ≤ M 8 11 ∧ M 8 11 ≤ M 8 12 ∧ M 8 12 ≤ 60) : Met l yX9_here (.code yX9_here cX9_here 2 (some .int) :: GW) ({ frames := 0, cells := 0, slots := 0, locals := 0 }) (va_Pc [.ref (mo 0), .int (zI k)] (rdP dg ck (modelC ck mo (encZ S) F1 F2 F3 F4 M))) (vp_Si (fun r => r = zI (chA (M 5) (M 8 12) (M 8 11 + k)))) 0 0 (fun _ => False) := by
  refine Met.ofW (cc := cX9_here) (maxL := 2) (ret := (some .int)) (by decide) rfl ?_
  intro p e s m args below meth c s₁ B hml hv
  obtain ⟨rfl, hP, hK⟩ := hv
  have hx := B.exec
  have hb := B.bytes
  have hr := B.returns
  have hts := atoms_spec (ws := .code yX9_here cX9_here 2 (some .int) :: GW) B.pre
  have htg : ∀ w ∈ GW, w.before _ s = true := fun w h => hts w (List.mem_cons_of_mem _ h)
  have hown : s.vm.findClass RX9 = some m.cls := findClass_of_methodNamed B.named
  have hlocks := B.notSynchronized
  have hl := lv_entry ([.ref (mo 0), .int (zI k)]) (n := 2) (Nat.le_of_ble_eq_true rfl)
  rw [lg_entry_eq]
  generalize (lg_sl ([.ref (mo 0), .int (zI k)]) ++ List.replicate (2 - (lg_sl ([.ref (mo 0), .int (zI k)])).length) Slot.unset).toArray = ls at hl ⊢
  have hl : lv_has ls 2 [(0, .ref (mo 0)), (1, .int (zI k))] := hl
  refine lv_aload_n hx hb dX9_here_0 rfl (lv_at hl 0 rfl) ?_
  refine va_get (D := dg) (ci := 11) (v := .int (zI (M 8 11))) (C := RX9) (T := TX9) (N := 23) hx hb htg inG_X9 hown hK hP 0 rfl rfl 19 (Nat.le_of_ble_eq_true rfl) (htg _ wq_1576) (fun _ h9 => h9) rfl dX9_here_1 ?_
  refine lv_iload_n hx hb dX9_here_4 rfl (lv_at hl 1 rfl) ?_
  refine x_iadd hx hb dX9_here_5 ?_
  refine lv_aload_n hx hb dX9_here_6 rfl (lv_at hl 0 rfl) ?_
  refine va_get (D := dg) (ci := 11) (v := .int (zI (M 8 12))) (C := RX9) (T := TX9) (N := 23) hx hb htg inG_X9 hown hK hP 0 rfl rfl 20 (Nat.le_of_ble_eq_true rfl) (htg _ wq_1577) (fun _ h9 => h9) rfl dX9_here_7 ?_
  refine x_icmp_ge (tgt := 27) hx hb dX9_here_10 (by decide) (by omega) (by omega) (fun c10 => ?_) (fun c10 => ?_)
  · refine x_iconst hx hb dX9_here_27 ?_
    exact W.iret (v := _) hx hb hr (fun t9 ht9 hW9 => ⟨_, rfl, (congrArg zI (by unfold chA; first | rw [if_pos (by omega)] | rw [if_neg (by omega)])), ht9⟩) (fun _ h => by cases h) dX9_here_28
  · refine lv_aload_n hx hb dX9_here_13 rfl (lv_at hl 0 rfl) ?_
    refine va_get (D := dg) (ci := 11) (v := .ref (mo 6)) (C := RX9) (T := TX9) (N := 23) hx hb htg inG_X9 hown hK hP 0 rfl rfl 8 (Nat.le_of_ble_eq_true rfl) (htg _ wq_1565) (fun _ h9 => h9) rfl dX9_here_14 ?_
    refine lv_aload_n hx hb dX9_here_17 rfl (lv_at hl 0 rfl) ?_
    refine va_get (D := dg) (ci := 11) (v := .int (zI (M 8 11))) (C := RX9) (T := TX9) (N := 23) hx hb htg inG_X9 hown hK hP 0 rfl rfl 19 (Nat.le_of_ble_eq_true rfl) (htg _ wq_1576) (fun _ h9 => h9) rfl dX9_here_18 ?_
    refine lv_iload_n hx hb dX9_here_21 rfl (lv_at hl 1 rfl) ?_
    refine x_iadd hx hb dX9_here_22 ?_
    refine x_iald hx hb hK hP 6 0 (M 5) rfl rfl (fun _ => rfl) (P := fun y => True) (fun _ => trivial) (by decide) (by omega) dX9_here_23 (fun g23 => ?_)
    refine lv_goto (tgt := 28) hx hb dX9_here_24 (by decide) ?_
    exact W.iret (v := _) hx hb hr (fun t9 ht9 hW9 => ⟨_, rfl, (congrArg zI (by unfold chA; first | rw [if_pos (by omega)] | rw [if_neg (by omega)])), ht9⟩) (fun _ h => by cases h) dX9_here_28

set_option maxHeartbeats 4000000 in
set_option maxRecDepth 100000 in
/-- BenchBrokerModel.says -/
theorem m_says (l : Launch) (dg : va_G) (ck : Nat → ClassId) (ka : Nat → Nat) (mo : Nat → Nat) (S : St) (F1 F2 F3 F4 : Int → Int) (M : St) (w : Nat) (sz : Nat) (hw : w < 21) (hp0 : 0 ≤ M 8 11 ∧ M 8 11 ≤ M 8 12 ∧ M 8 12 ≤ 60) (hwr : 0 ≤ M 8 14 ∧ M 8 14 ≤ 1) (htx : ∀ i, 0 ≤ i → i < 60 → 0 ≤ M 5 i ∧ M 5 i ≤ 126) : Met l yX9_says (.code yX9_says cX9_says 3 none :: GW) ({ frames := 4, cells := 0, slots := 0, locals := 85 }) (va_Pc [.ref (mo 0), .ref (ka (20 + w))] (wrK dg ck ka sz (modelC ck mo (encZ S) F1 F2 F3 F4 M))) (va_Qv (fun _ : Unit => True) (fun _ t9 => wrQ dg sz (modelC ck mo (encZ S) F1 F2 F3 F4 M) (modelC ck mo (encZ S) F1 F2 F3 F4 (upS (upS M 8 14 ((sayN (M 5) (M 8 12) w (M 8 14) (M 8 11) (lnZ w).toNat).1)) 8 11 ((sayN (M 5) (M 8 12) w (M 8 14) (M 8 11) (lnZ w).toNat).2))) t9) (va_A (modelC ck mo (encZ S) F1 F2 F3 F4 M) sz)) 0 0 (va_A (modelC ck mo (encZ S) F1 F2 F3 F4 M) sz) := by
  refine Met.ofW (cc := cX9_says) (maxL := 3) (ret := none) (by decide) rfl ?_
  intro p e s m args below meth c s₁ B hml hv
  obtain ⟨rfl, ⟨hsz, hP, hK, hD0⟩, hC⟩ := hv
  have hx := B.exec
  have hb := B.bytes
  have hr := B.returns
  have hts := atoms_spec (ws := .code yX9_says cX9_says 3 none :: GW) B.pre
  have htg : ∀ w ∈ GW, w.before _ s = true := fun w h => hts w (List.mem_cons_of_mem _ h)
  have hown : s.vm.findClass RX9 = some m.cls := findClass_of_methodNamed B.named
  have hlocks := B.notSynchronized
  subst hsz
  have hD := hD0.self (sz := s.heap.size)
  generalize hAe : va_A (modelC ck mo (encZ S) F1 F2 F3 F4 M) s.heap.size = A at hD hC ⊢
  have hA : ∀ q : Nat, s.heap.size ≤ q → A q := fun q h => by rw [← hAe]; exact Or.inr h
  have hS : va_S A s.heap s.heap [] := va_S.rf
  have hP : va_P dg vwCl (modelC ck mo (encZ S) F1 F2 F3 F4 M) s.heap := hP
  have hl := lv_entry ([.ref (mo 0), .ref (ka (20 + w))]) (n := 3) (Nat.le_of_ble_eq_true rfl)
  rw [lg_entry_eq]
  generalize (lg_sl ([.ref (mo 0), .ref (ka (20 + w))]) ++ List.replicate (3 - (lg_sl ([.ref (mo 0), .ref (ka (20 + w))])).length) Slot.unset).toArray = ls at hl ⊢
  have hl : lv_has ls 3 [(0, .ref (mo 0)), (1, .ref (ka (20 + w)))] := hl
  have hlr := lnZ_r w
  have hCe : (upS (upS M 8 14 (M 8 14)) 8 11 (M 8 11)) = M := (by rw [upS_id (S := M) (k := 8) (i := 14) rfl, upS_id rfl])
  have hP : va_P dg vwCl (modelC ck mo (encZ S) F1 F2 F3 F4 (upS (upS M 8 14 (M 8 14)) 8 11 (M 8 11))) _ := va_P_eq (by rw [hCe]) hP
  have hD : va_D A (modelC ck mo (encZ S) F1 F2 F3 F4 (upS (upS M 8 14 (M 8 14)) 8 11 (M 8 11))) := va_D_eq (by rw [hCe]) hD
  refine x_iconst hx hb dX9_says_0 ?_
  refine lv_istore_n (lv' := [(2, .int (zI 0)), (0, .ref (mo 0)), (1, .ref (ka (20 + w)))]) hx hb dX9_says_1 rfl hl (by decide) rfl (fun ls hl => ?_)
  refine x_loopW (ι := Int) (fun v => 0 ≤ v ∧ v ≤ lnZ w) (fun v => (lnZ w - v).toNat) (fun v => [(0, .ref (mo 0)), (1, .ref (ka (20 + w))), (2, .int (zI v))]) (fun v => modelC ck mo (encZ S) F1 F2 F3 F4 (upS (upS M 8 14 ((sayN (M 5) (M 8 12) w (M 8 14) (M 8 11) v.toNat).1)) 8 11 ((sayN (M 5) (M 8 12) w (M 8 14) (M 8 11) v.toNat).2))) (0) (show 0 ≤ (0 : Int) ∧ (0 : Int) ≤ lnZ w from (by omega)) (lv_sub hl [1, 2, 0] rfl) hP hD hS ?_
  intro v hv ih_2 ls H locs hl hP hD hS
  obtain ⟨k, rfl⟩ : ∃ z : Int, z = v := ⟨_, rfl⟩
  have hl : lv_has ls 3 [(0, .ref (mo 0)), (1, .ref (ka (20 + w))), (2, .int (zI k))] := hl
  have hv : 0 ≤ k ∧ k ≤ lnZ w := hv
  have hP : va_P dg vwCl (modelC ck mo (encZ S) F1 F2 F3 F4 (upS (upS M 8 14 ((sayN (M 5) (M 8 12) w (M 8 14) (M 8 11) k.toNat).1)) 8 11 ((sayN (M 5) (M 8 12) w (M 8 14) (M 8 11) k.toNat).2))) H := hP
  have hD : va_D A (modelC ck mo (encZ S) F1 F2 F3 F4 (upS (upS M 8 14 ((sayN (M 5) (M 8 12) w (M 8 14) (M 8 11) k.toNat).1)) 8 11 ((sayN (M 5) (M 8 12) w (M 8 14) (M 8 11) k.toNat).2))) := hD
  obtain ⟨hk0, hk9⟩ := hv
  have hsb := sayN_b (T := M 5) (n := M 8 12) (w := w) (r := M 8 14) (p := M 8 11) hwr hp0.2.1 k.toNat
  refine lv_iload_n hx hb dX9_says_2 rfl (lv_at hl 2 rfl) ?_
  refine lv_aload_n hx hb dX9_says_3 rfl (lv_at hl 1 rfl) ?_
  refine vp_callSi (W.runV (As := []) (rest := [.int (zI k)]) ⟨hx, hb, hml, hown, htg⟩ (j_slen l dg ck ka w (by omega)) (cwV 0 htg (gwV wq_2051 wq_1187 wq_1188 wq_13 wq_1189) rfl rfl rfl (by decide +kernel) ⟨Nat.le_of_ble_eq_true rfl, Nat.le_of_ble_eq_true rfl⟩) (rdK_preR (C := "java/lang/String") hK va_P_nil hC hS (hC.srecv hw hS)) rfl rfl hl.1 rfl (lv_room (Nat.le_of_ble_eq_true rfl)) dX9_says_4 ⟨Nat.zero_le _, Nat.zero_le _⟩) (fun r4 hr4 => ?_)
  subst hr4
  refine x_icmp_ge (tgt := 66) hx hb dX9_says_7 (by decide) (by omega) (by omega) (fun c7 => ?_) (fun c7 => ?_)
  · have hz : (sayN (M 5) (M 8 12) w (M 8 14) (M 8 11) (lnZ w).toNat) = (sayN (M 5) (M 8 12) w (M 8 14) (M 8 11) k.toNat) := by first | (rw [show lnZ w = k by omega]) | exact sayN_stop (by omega) (by omega)
    have hEq : modelC ck mo (encZ S) F1 F2 F3 F4 (upS (upS M 8 14 ((sayN (M 5) (M 8 12) w (M 8 14) (M 8 11) (lnZ w).toNat).1)) 8 11 ((sayN (M 5) (M 8 12) w (M 8 14) (M 8 11) (lnZ w).toNat).2)) = modelC ck mo (encZ S) F1 F2 F3 F4 (upS (upS M 8 14 ((sayN (M 5) (M 8 12) w (M 8 14) (M 8 11) k.toNat).1)) 8 11 ((sayN (M 5) (M 8 12) w (M 8 14) (M 8 11) k.toNat).2)) := (by rw [hz])
    exact W.vret hx hb hr (fun t9 ht9 hW9 => ⟨⟨(), rfl, trivial, by rw [ht9, hEq]; exact hP, by rw [hEq, hAe]; exact hD⟩, hS.F ht9⟩) hS.2.2 dX9_says_66
  · refine lv_aload_n hx hb dX9_says_10 rfl (lv_at hl 0 rfl) ?_
    refine va_get (D := dg) (ci := 11) (v := .int (zI ((sayN (M 5) (M 8 12) w (M 8 14) (M 8 11) k.toNat).1))) (C := RX9) (T := TX9) (N := 23) hx hb htg inG_X9 hown hK hP 0 rfl rfl 22 (Nat.le_of_ble_eq_true rfl) (htg _ wq_1579) (fun _ h9 => h9) rfl dX9_says_11 ?_
    refine x_if_ne (tgt := 66) hx hb dX9_says_14 (by decide) (by omega) (fun c14 => ?_) (fun c14 => ?_)
    · have hz : (sayN (M 5) (M 8 12) w (M 8 14) (M 8 11) (lnZ w).toNat) = (sayN (M 5) (M 8 12) w (M 8 14) (M 8 11) k.toNat) := by first | (rw [show lnZ w = k by omega]) | exact sayN_stop (by omega) (by omega)
      have hEq : modelC ck mo (encZ S) F1 F2 F3 F4 (upS (upS M 8 14 ((sayN (M 5) (M 8 12) w (M 8 14) (M 8 11) (lnZ w).toNat).1)) 8 11 ((sayN (M 5) (M 8 12) w (M 8 14) (M 8 11) (lnZ w).toNat).2)) = modelC ck mo (encZ S) F1 F2 F3 F4 (upS (upS M 8 14 ((sayN (M 5) (M 8 12) w (M 8 14) (M 8 11) k.toNat).1)) 8 11 ((sayN (M 5) (M 8 12) w (M 8 14) (M 8 11) k.toNat).2)) := (by rw [hz])
      exact W.vret hx hb hr (fun t9 ht9 hW9 => ⟨⟨(), rfl, trivial, by rw [ht9, hEq]; exact hP, by rw [hEq, hAe]; exact hD⟩, hS.F ht9⟩) hS.2.2 dX9_says_66
    · have hc0 := chZ_r w k
      have hca := chA_r htx hp0.2.2 (z := (sayN (M 5) (M 8 12) w (M 8 14) (M 8 11) k.toNat).2) (by omega)
      refine lv_aload_n hx hb dX9_says_17 rfl (lv_at hl 0 rfl) ?_
      refine lv_aload_n hx hb dX9_says_18 rfl (lv_at hl 0 rfl) ?_
      refine x_iconst hx hb dX9_says_19 ?_
      refine vp_callSi (W.runV (As := [.int (zI 0)]) (rest := [.ref (mo 0)]) ⟨hx, hb, hml, hown, htg⟩ (m_here l dg ck mo S F1 F2 F3 F4 (upS (upS M 8 14 ((sayN (M 5) (M 8 12) w (M 8 14) (M 8 11) k.toNat).1)) 8 11 ((sayN (M 5) (M 8 12) w (M 8 14) (M 8 11) k.toNat).2)) 0 (by omega) (show 0 ≤ ((sayN (M 5) (M 8 12) w (M 8 14) (M 8 11) k.toNat).2) ∧ ((sayN (M 5) (M 8 12) w (M 8 14) (M 8 11) k.toNat).2) ≤ (M 8 12) ∧ (M 8 12) ≤ 60 by omega)) (cwV 1 htg (gwV wq_2038 wq_2040 wp_74 wq_15 wq_2041) rfl rfl rfl (by decide +kernel) ⟨Nat.le_of_ble_eq_true rfl, Nat.le_of_ble_eq_true rfl⟩) (rd_preV hK hP 0 11 rfl rfl) rfl rfl hl.1 rfl (lv_room (Nat.le_of_ble_eq_true rfl)) dX9_says_20 ⟨Nat.zero_le _, Nat.zero_le _⟩) (fun r20 hr20 => ?_)
      subst hr20
      refine x_is (show (chA ((upS (upS M 8 14 ((sayN (M 5) (M 8 12) w (M 8 14) (M 8 11) k.toNat).1)) 8 11 ((sayN (M 5) (M 8 12) w (M 8 14) (M 8 11) k.toNat).2)) 5) ((upS (upS M 8 14 ((sayN (M 5) (M 8 12) w (M 8 14) (M 8 11) k.toNat).1)) 8 11 ((sayN (M 5) (M 8 12) w (M 8 14) (M 8 11) k.toNat).2)) 8 12) ((upS (upS M 8 14 ((sayN (M 5) (M 8 12) w (M 8 14) (M 8 11) k.toNat).1)) 8 11 ((sayN (M 5) (M 8 12) w (M 8 14) (M 8 11) k.toNat).2)) 8 11 + 0)) = (chA (M 5) (M 8 12) ((sayN (M 5) (M 8 12) w (M 8 14) (M 8 11) k.toNat).2)) from (congrArg (chA (M 5) (M 8 12)) (Int.add_zero ((sayN (M 5) (M 8 12) w (M 8 14) (M 8 11) k.toNat).2)))) ?_
      refine lv_aload_n hx hb dX9_says_23 rfl (lv_at hl 1 rfl) ?_
      refine lv_iload_n hx hb dX9_says_24 rfl (lv_at hl 2 rfl) ?_
      refine vp_callSi (W.runV (As := [.int (zI k)]) (rest := [.int (zI (chA (M 5) (M 8 12) ((sayN (M 5) (M 8 12) w (M 8 14) (M 8 11) k.toNat).2))), .ref (mo 0)]) ⟨hx, hb, hml, hown, htg⟩ (j_charAt l dg ck ka w k (by omega) (by omega)) (cwV 1 htg (gwV wq_2052 wq_1456 wq_1457 wq_13 wq_1458) rfl rfl rfl (by decide +kernel) ⟨Nat.le_of_ble_eq_true rfl, Nat.le_of_ble_eq_true rfl⟩) (rdK_preR (C := "java/lang/String") hK va_P_nil hC hS (hC.srecv hw hS)) rfl rfl hl.1 rfl (lv_room (Nat.le_of_ble_eq_true rfl)) dX9_says_25 ⟨Nat.zero_le _, Nat.zero_le _⟩) (fun r25 hr25 => ?_)
      subst hr25
      refine x_icmp_eq (tgt := 35) hx hb dX9_says_28 (by decide) (by omega) (by omega) (fun c28 => ?_) (fun c28 => ?_)
      · refine x_iconst hx hb dX9_says_35 ?_
        refine va_put (D := dg) (ci := 11) (v := .int (zI 0)) (ty := .boolean) (C := RX9) (T := TX9) (N := 23) hx hb htg inG_X9 tyX9 tyX9_ok nmX9 hown hK hP hD hS 0 rfl rfl 22 (Nat.le_of_ble_eq_true rfl) (htg _ wq_1579) (fun _ h9 => h9) rfl (by decide +kernel) rfl rfl (Nat.le_of_ble_eq_true rfl) dX9_says_36 (fun H locs hP hD hS => ?_)
        have hP : va_P dg vwCl (modelC ck mo (encZ S) F1 F2 F3 F4 (upS (upS (upS M 8 14 ((sayN (M 5) (M 8 12) w (M 8 14) (M 8 11) k.toNat).1)) 8 11 ((sayN (M 5) (M 8 12) w (M 8 14) (M 8 11) k.toNat).2)) 8 14 0)) H := hP
        have hD : va_D A (modelC ck mo (encZ S) F1 F2 F3 F4 (upS (upS (upS M 8 14 ((sayN (M 5) (M 8 12) w (M 8 14) (M 8 11) k.toNat).1)) 8 11 ((sayN (M 5) (M 8 12) w (M 8 14) (M 8 11) k.toNat).2)) 8 14 0)) := hD
        refine lv_aload_n hx hb dX9_says_39 rfl (lv_at hl 0 rfl) ?_
        refine lv_dup hx hb dX9_says_40 rfl ?_
        refine va_get (D := dg) (ci := 11) (v := .int (zI ((sayN (M 5) (M 8 12) w (M 8 14) (M 8 11) k.toNat).2))) (C := RX9) (T := TX9) (N := 23) hx hb htg inG_X9 hown hK hP 0 rfl rfl 19 (Nat.le_of_ble_eq_true rfl) (htg _ wq_1576) (fun _ h9 => h9) rfl dX9_says_41 ?_
        refine lv_aload_n hx hb dX9_says_44 rfl (lv_at hl 0 rfl) ?_
        refine va_get (D := dg) (ci := 11) (v := .int (zI 0)) (C := RX9) (T := TX9) (N := 23) hx hb htg inG_X9 hown hK hP 0 rfl rfl 22 (Nat.le_of_ble_eq_true rfl) (htg _ wq_1579) (fun _ h9 => h9) rfl dX9_says_45 ?_
        refine x_if_eq (tgt := 55) hx hb dX9_says_48 (by decide) (by omega) (fun c48 => ?_) (fun c48 => absurd c48 (by decide))
        refine x_iconst hx hb dX9_says_55 ?_
        refine x_iadd hx hb dX9_says_56 ?_
        refine va_put (D := dg) (ci := 11) (v := .int (zI (((sayN (M 5) (M 8 12) w (M 8 14) (M 8 11) k.toNat).2) + 1))) (ty := .int) (C := RX9) (T := TX9) (N := 23) hx hb htg inG_X9 tyX9 tyX9_ok nmX9 hown hK hP hD hS 0 rfl rfl 19 (Nat.le_of_ble_eq_true rfl) (htg _ wq_1576) (fun _ h9 => h9) rfl (by decide +kernel) rfl rfl (Nat.le_of_ble_eq_true rfl) dX9_says_57 (fun H locs hP hD hS => ?_)
        have hP : va_P dg vwCl (modelC ck mo (encZ S) F1 F2 F3 F4 (upS (upS (upS (upS M 8 14 ((sayN (M 5) (M 8 12) w (M 8 14) (M 8 11) k.toNat).1)) 8 11 ((sayN (M 5) (M 8 12) w (M 8 14) (M 8 11) k.toNat).2)) 8 14 0) 8 11 (((sayN (M 5) (M 8 12) w (M 8 14) (M 8 11) k.toNat).2) + 1))) H := hP
        have hD : va_D A (modelC ck mo (encZ S) F1 F2 F3 F4 (upS (upS (upS (upS M 8 14 ((sayN (M 5) (M 8 12) w (M 8 14) (M 8 11) k.toNat).1)) 8 11 ((sayN (M 5) (M 8 12) w (M 8 14) (M 8 11) k.toNat).2)) 8 14 0) 8 11 (((sayN (M 5) (M 8 12) w (M 8 14) (M 8 11) k.toNat).2) + 1))) := hD
        have hCe : (upS (upS M 8 14 ((sayN (M 5) (M 8 12) w (M 8 14) (M 8 11) (k + 1).toNat).1)) 8 11 ((sayN (M 5) (M 8 12) w (M 8 14) (M 8 11) (k + 1).toNat).2)) = (upS (upS (upS (upS M 8 14 ((sayN (M 5) (M 8 12) w (M 8 14) (M 8 11) k.toNat).1)) 8 11 ((sayN (M 5) (M 8 12) w (M 8 14) (M 8 11) k.toNat).2)) 8 14 0) 8 11 (((sayN (M 5) (M 8 12) w (M 8 14) (M 8 11) k.toNat).2) + 1)) := (by rw [sayN_s hk0]; first | (rw [if_neg (by omega), if_pos (by omega)]; exact up_say) | (rw [if_neg (by omega), if_neg (by omega), Int.add_zero]; exact up_say))
        have hP : va_P dg vwCl (modelC ck mo (encZ S) F1 F2 F3 F4 (upS (upS M 8 14 ((sayN (M 5) (M 8 12) w (M 8 14) (M 8 11) (k + 1).toNat).1)) 8 11 ((sayN (M 5) (M 8 12) w (M 8 14) (M 8 11) (k + 1).toNat).2))) _ := va_P_eq (by rw [hCe]) hP
        have hD : va_D A (modelC ck mo (encZ S) F1 F2 F3 F4 (upS (upS M 8 14 ((sayN (M 5) (M 8 12) w (M 8 14) (M 8 11) (k + 1).toNat).1)) 8 11 ((sayN (M 5) (M 8 12) w (M 8 14) (M 8 11) (k + 1).toNat).2))) := va_D_eq (by rw [hCe]) hD
        refine lv_iinc (v := zI (k + 1)) (lv' := [(2, .int (zI (k + 1))), (0, .ref (mo 0)), (1, .ref (ka (20 + w)))]) hx hb dX9_says_60 hl (k := 2) rfl (zI_add _ _) (by decide) rfl (fun ls hl => ?_)
        refine lv_goto (tgt := 2) hx hb dX9_says_63 (by decide) ?_
        exact ih_2 ((k + 1)) (show 0 ≤ (k + 1) ∧ (k + 1) ≤ lnZ w from (by omega)) (show (lnZ w - (k + 1)).toNat < (lnZ w - k).toNat from by omega) ls H locs (lv_sub hl [1, 2, 0] rfl) hP hD hS
      · refine x_iconst hx hb dX9_says_31 ?_
        refine lv_goto (tgt := 36) hx hb dX9_says_32 (by decide) ?_
        refine va_put (D := dg) (ci := 11) (v := .int (zI 1)) (ty := .boolean) (C := RX9) (T := TX9) (N := 23) hx hb htg inG_X9 tyX9 tyX9_ok nmX9 hown hK hP hD hS 0 rfl rfl 22 (Nat.le_of_ble_eq_true rfl) (htg _ wq_1579) (fun _ h9 => h9) rfl (by decide +kernel) rfl rfl (Nat.le_of_ble_eq_true rfl) dX9_says_36 (fun H locs hP hD hS => ?_)
        have hP : va_P dg vwCl (modelC ck mo (encZ S) F1 F2 F3 F4 (upS (upS (upS M 8 14 ((sayN (M 5) (M 8 12) w (M 8 14) (M 8 11) k.toNat).1)) 8 11 ((sayN (M 5) (M 8 12) w (M 8 14) (M 8 11) k.toNat).2)) 8 14 1)) H := hP
        have hD : va_D A (modelC ck mo (encZ S) F1 F2 F3 F4 (upS (upS (upS M 8 14 ((sayN (M 5) (M 8 12) w (M 8 14) (M 8 11) k.toNat).1)) 8 11 ((sayN (M 5) (M 8 12) w (M 8 14) (M 8 11) k.toNat).2)) 8 14 1)) := hD
        refine lv_aload_n hx hb dX9_says_39 rfl (lv_at hl 0 rfl) ?_
        refine lv_dup hx hb dX9_says_40 rfl ?_
        refine va_get (D := dg) (ci := 11) (v := .int (zI ((sayN (M 5) (M 8 12) w (M 8 14) (M 8 11) k.toNat).2))) (C := RX9) (T := TX9) (N := 23) hx hb htg inG_X9 hown hK hP 0 rfl rfl 19 (Nat.le_of_ble_eq_true rfl) (htg _ wq_1576) (fun _ h9 => h9) rfl dX9_says_41 ?_
        refine lv_aload_n hx hb dX9_says_44 rfl (lv_at hl 0 rfl) ?_
        refine va_get (D := dg) (ci := 11) (v := .int (zI 1)) (C := RX9) (T := TX9) (N := 23) hx hb htg inG_X9 hown hK hP 0 rfl rfl 22 (Nat.le_of_ble_eq_true rfl) (htg _ wq_1579) (fun _ h9 => h9) rfl dX9_says_45 ?_
        refine x_if_eq (tgt := 55) hx hb dX9_says_48 (by decide) (by omega) (fun c48 => absurd c48 (by decide)) (fun c48 => ?_)
        refine x_iconst hx hb dX9_says_51 ?_
        refine lv_goto (tgt := 56) hx hb dX9_says_52 (by decide) ?_
        refine x_iadd hx hb dX9_says_56 ?_
        refine va_put (D := dg) (ci := 11) (v := .int (zI (((sayN (M 5) (M 8 12) w (M 8 14) (M 8 11) k.toNat).2) + 0))) (ty := .int) (C := RX9) (T := TX9) (N := 23) hx hb htg inG_X9 tyX9 tyX9_ok nmX9 hown hK hP hD hS 0 rfl rfl 19 (Nat.le_of_ble_eq_true rfl) (htg _ wq_1576) (fun _ h9 => h9) rfl (by decide +kernel) rfl rfl (Nat.le_of_ble_eq_true rfl) dX9_says_57 (fun H locs hP hD hS => ?_)
        have hP : va_P dg vwCl (modelC ck mo (encZ S) F1 F2 F3 F4 (upS (upS (upS (upS M 8 14 ((sayN (M 5) (M 8 12) w (M 8 14) (M 8 11) k.toNat).1)) 8 11 ((sayN (M 5) (M 8 12) w (M 8 14) (M 8 11) k.toNat).2)) 8 14 1) 8 11 (((sayN (M 5) (M 8 12) w (M 8 14) (M 8 11) k.toNat).2) + 0))) H := hP
        have hD : va_D A (modelC ck mo (encZ S) F1 F2 F3 F4 (upS (upS (upS (upS M 8 14 ((sayN (M 5) (M 8 12) w (M 8 14) (M 8 11) k.toNat).1)) 8 11 ((sayN (M 5) (M 8 12) w (M 8 14) (M 8 11) k.toNat).2)) 8 14 1) 8 11 (((sayN (M 5) (M 8 12) w (M 8 14) (M 8 11) k.toNat).2) + 0))) := hD
        have hCe : (upS (upS M 8 14 ((sayN (M 5) (M 8 12) w (M 8 14) (M 8 11) (k + 1).toNat).1)) 8 11 ((sayN (M 5) (M 8 12) w (M 8 14) (M 8 11) (k + 1).toNat).2)) = (upS (upS (upS (upS M 8 14 ((sayN (M 5) (M 8 12) w (M 8 14) (M 8 11) k.toNat).1)) 8 11 ((sayN (M 5) (M 8 12) w (M 8 14) (M 8 11) k.toNat).2)) 8 14 1) 8 11 (((sayN (M 5) (M 8 12) w (M 8 14) (M 8 11) k.toNat).2) + 0)) := (by rw [sayN_s hk0]; first | (rw [if_neg (by omega), if_pos (by omega)]; exact up_say) | (rw [if_neg (by omega), if_neg (by omega), Int.add_zero]; exact up_say))
        have hP : va_P dg vwCl (modelC ck mo (encZ S) F1 F2 F3 F4 (upS (upS M 8 14 ((sayN (M 5) (M 8 12) w (M 8 14) (M 8 11) (k + 1).toNat).1)) 8 11 ((sayN (M 5) (M 8 12) w (M 8 14) (M 8 11) (k + 1).toNat).2))) _ := va_P_eq (by rw [hCe]) hP
        have hD : va_D A (modelC ck mo (encZ S) F1 F2 F3 F4 (upS (upS M 8 14 ((sayN (M 5) (M 8 12) w (M 8 14) (M 8 11) (k + 1).toNat).1)) 8 11 ((sayN (M 5) (M 8 12) w (M 8 14) (M 8 11) (k + 1).toNat).2))) := va_D_eq (by rw [hCe]) hD
        refine lv_iinc (v := zI (k + 1)) (lv' := [(2, .int (zI (k + 1))), (0, .ref (mo 0)), (1, .ref (ka (20 + w)))]) hx hb dX9_says_60 hl (k := 2) rfl (zI_add _ _) (by decide) rfl (fun ls hl => ?_)
        refine lv_goto (tgt := 2) hx hb dX9_says_63 (by decide) ?_
        exact ih_2 ((k + 1)) (show 0 ≤ (k + 1) ∧ (k + 1) ≤ lnZ w from (by omega)) (show (lnZ w - (k + 1)).toNat < (lnZ w - k).toNat from by omega) ls H locs (lv_sub hl [1, 2, 0] rfl) hP hD hS

set_option maxHeartbeats 4000000 in
set_option maxRecDepth 100000 in
/-- BenchBrokerModel.number -/
theorem m_number (l : Launch) (dg : va_G) (ck : Nat → ClassId) (ka : Nat → Nat) (mo : Nat → Nat) (S : St) (F1 F2 F3 F4 : Int → Int) (M : St) (k d : Int) (sz : Nat) (hk : 1 ≤ k ∧ k ≤ 3) (hd : 1 ≤ d ∧ d ≤ 2) (hcm : 0 ≤ M 8 13 ∧ M 8 13 ≤ 59) (hp0 : 0 ≤ M 8 11 ∧ M 8 11 ≤ M 8 12 ∧ M 8 12 ≤ 60) (hwr : 0 ≤ M 8 14 ∧ M 8 14 ≤ 1) (htx : ∀ i, 0 ≤ i → i < 60 → 0 ≤ M 5 i ∧ M 5 i ≤ 126) : Met l yX9_number (.code yX9_number cX9_number 5 none :: GW) ({ frames := 5, cells := 0, slots := 0, locals := 107 }) (va_Pc [.ref (mo 0), .int (zI k), .int (zI d)] (wrK dg ck ka sz (modelC ck mo (encZ S) F1 F2 F3 F4 M))) (va_Qv (fun _ : Unit => True) (fun _ t9 => wrQ dg sz (modelC ck mo (encZ S) F1 F2 F3 F4 M) (modelC ck mo (encZ S) F1 F2 F3 F4 (upS (upS (upS M 8 14 (numZ (M 5) (M 8 12) (M 8 14) (M 8 11) d).1) 8 11 (numZ (M 5) (M 8 12) (M 8 14) (M 8 11) d).2.1) 6 (4 * M 8 13 + k) (numZ (M 5) (M 8 12) (M 8 14) (M 8 11) d).2.2)) t9) (va_A (modelC ck mo (encZ S) F1 F2 F3 F4 M) sz)) 0 0 (va_A (modelC ck mo (encZ S) F1 F2 F3 F4 M) sz) := by
  refine Met.ofW (cc := cX9_number) (maxL := 5) (ret := none) (by decide) rfl ?_
  intro p e s m args below meth c s₁ B hml hv
  obtain ⟨rfl, ⟨hsz, hP, hK, hD0⟩, hC⟩ := hv
  have hx := B.exec
  have hb := B.bytes
  have hr := B.returns
  have hts := atoms_spec (ws := .code yX9_number cX9_number 5 none :: GW) B.pre
  have htg : ∀ w ∈ GW, w.before _ s = true := fun w h => hts w (List.mem_cons_of_mem _ h)
  have hown : s.vm.findClass RX9 = some m.cls := findClass_of_methodNamed B.named
  have hlocks := B.notSynchronized
  subst hsz
  have hD := hD0.self (sz := s.heap.size)
  generalize hAe : va_A (modelC ck mo (encZ S) F1 F2 F3 F4 M) s.heap.size = A at hD hC ⊢
  have hA : ∀ q : Nat, s.heap.size ≤ q → A q := fun q h => by rw [← hAe]; exact Or.inr h
  have hS : va_S A s.heap s.heap [] := va_S.rf
  have hP : va_P dg vwCl (modelC ck mo (encZ S) F1 F2 F3 F4 M) s.heap := hP
  have hl := lv_entry ([.ref (mo 0), .int (zI k), .int (zI d)]) (n := 5) (Nat.le_of_ble_eq_true rfl)
  rw [lg_entry_eq]
  generalize (lg_sl ([.ref (mo 0), .int (zI k), .int (zI d)]) ++ List.replicate (5 - (lg_sl ([.ref (mo 0), .int (zI k), .int (zI d)])).length) Slot.unset).toArray = ls at hl ⊢
  have hl : lv_has ls 5 [(0, .ref (mo 0)), (1, .int (zI k)), (2, .int (zI d))] := hl
  have hsb := sayN_b (T := M 5) (n := M 8 12) (w := 10) (r := M 8 14) (p := M 8 11) hwr hp0.2.1 (lnZ 10).toNat
  refine lv_aload_n hx hb dX9_number_0 rfl (lv_at hl 0 rfl) ?_
  refine va_ldcS hx hb hown hC.mr10 dX9_number_1 ?_
  refine x_callv (ws' := modelC ck mo (encZ S) F1 F2 F3 F4 (upS (upS M 8 14 ((sayN (M 5) (M 8 12) 10 (M 8 14) (M 8 11) (lnZ 10).toNat).1)) 8 11 ((sayN (M 5) (M 8 12) 10 (M 8 14) (M 8 11) (lnZ 10).toNat).2))) [] (M := modelC ck mo (encZ S) F1 F2 F3 F4 M) (M' := modelC ck mo (encZ S) F1 F2 F3 F4 (upS (upS M 8 14 ((sayN (M 5) (M 8 12) 10 (M 8 14) (M 8 11) (lnZ 10).toNat).1)) 8 11 ((sayN (M 5) (M 8 12) 10 (M 8 14) (M 8 11) (lnZ 10).toNat).2))) ([]) (List.append_nil _).symm (List.append_nil _).symm hP hD hS hA (fun hPm hDm => va_runV (As := [.ref (ka (20 + 10))]) (rest := []) ⟨hx, hb, hml, hown, htg⟩ (m_says l dg ck ka mo S F1 F2 F3 F4 M 10 _ (by omega) (by refine ⟨?_, ?_, ?_⟩ <;> omega) hwr htx) (cwV 1 htg (gwV wq_2047 wq_2049 wp_76 wq_15 wq_2050) rfl rfl rfl (by decide +kernel) ⟨Nat.le_of_ble_eq_true rfl, Nat.le_of_ble_eq_true rfl⟩) (wrK_preV hK hPm hDm hC hS hA 0 11 rfl rfl) rfl rfl hl.1 rfl (lv_room (Nat.le_of_ble_eq_true rfl)) dX9_number_3 ⟨Nat.zero_le _, Nat.zero_le _⟩) (fun H locs hP hD hS => ?_)
  refine x_iconst hx hb dX9_number_6 ?_
  refine lv_istore_n (lv' := [(3, .int (zI 0)), (0, .ref (mo 0)), (1, .int (zI k)), (2, .int (zI d))]) hx hb dX9_number_7 rfl hl (by decide) rfl (fun ls hl => ?_)
  refine x_iconst hx hb dX9_number_8 ?_
  refine lv_istore (lv' := [(4, .int (zI 0)), (3, .int (zI 0)), (0, .ref (mo 0)), (1, .int (zI k)), (2, .int (zI d))]) hx hb dX9_number_9 hl (by decide) rfl (fun ls hl => ?_)
  refine lv_aload_n hx hb dX9_number_11 rfl (lv_at hl 2 rfl) ?_
  refine va_get (D := dg) (ci := 11) (v := .int (zI ((sayN (M 5) (M 8 12) 10 (M 8 14) (M 8 11) (lnZ 10).toNat).1))) (C := RX9) (T := TX9) (N := 23) hx hb htg inG_X9 hown hK hP 0 rfl rfl 22 (Nat.le_of_ble_eq_true rfl) (htg _ wq_1579) (fun _ h9 => h9) rfl dX9_number_12 ?_
  refine x_if_ne (tgt := 69) hx hb dX9_number_15 (by decide) (by omega) (fun c15 => ?_) (fun c15 => ?_)
  · refine lv_aload_n hx hb dX9_number_69 rfl (lv_at hl 2 rfl) ?_
    refine lv_aload_n hx hb dX9_number_70 rfl (lv_at hl 2 rfl) ?_
    refine va_get (D := dg) (ci := 11) (v := .int (zI ((sayN (M 5) (M 8 12) 10 (M 8 14) (M 8 11) (lnZ 10).toNat).1))) (C := RX9) (T := TX9) (N := 23) hx hb htg inG_X9 hown hK hP 0 rfl rfl 22 (Nat.le_of_ble_eq_true rfl) (htg _ wq_1579) (fun _ h9 => h9) rfl dX9_number_71 ?_
    refine x_if_ne (tgt := 82) hx hb dX9_number_74 (by decide) (by omega) (fun c74 => ?_) (fun c74 => ?_)
    · refine x_iconst hx hb dX9_number_82 ?_
      refine lv_goto (tgt := 87) hx hb dX9_number_83 (by decide) ?_
      refine va_put (D := dg) (ci := 11) (v := .int (zI 1)) (ty := .boolean) (C := RX9) (T := TX9) (N := 23) hx hb htg inG_X9 tyX9 tyX9_ok nmX9 hown hK hP hD hS 0 rfl rfl 22 (Nat.le_of_ble_eq_true rfl) (htg _ wq_1579) (fun _ h9 => h9) rfl (by decide +kernel) rfl rfl (Nat.le_of_ble_eq_true rfl) dX9_number_87 (fun H locs hP hD hS => ?_)
      have hP : va_P dg vwCl (modelC ck mo (encZ S) F1 F2 F3 F4 (upS (upS (upS M 8 14 ((sayN (M 5) (M 8 12) 10 (M 8 14) (M 8 11) (lnZ 10).toNat).1)) 8 11 ((sayN (M 5) (M 8 12) 10 (M 8 14) (M 8 11) (lnZ 10).toNat).2)) 8 14 1)) H := hP
      have hD : va_D A (modelC ck mo (encZ S) F1 F2 F3 F4 (upS (upS (upS M 8 14 ((sayN (M 5) (M 8 12) 10 (M 8 14) (M 8 11) (lnZ 10).toNat).1)) 8 11 ((sayN (M 5) (M 8 12) 10 (M 8 14) (M 8 11) (lnZ 10).toNat).2)) 8 14 1)) := hD
      have hCe : (upS (upS M 8 14 1) 8 11 ((sayN (M 5) (M 8 12) 10 (M 8 14) (M 8 11) (lnZ 10).toNat).2)) = (upS (upS (upS M 8 14 ((sayN (M 5) (M 8 12) 10 (M 8 14) (M 8 11) (lnZ 10).toNat).1)) 8 11 ((sayN (M 5) (M 8 12) 10 (M 8 14) (M 8 11) (lnZ 10).toNat).2)) 8 14 1) := nrm2
      have hP : va_P dg vwCl (modelC ck mo (encZ S) F1 F2 F3 F4 (upS (upS M 8 14 1) 8 11 ((sayN (M 5) (M 8 12) 10 (M 8 14) (M 8 11) (lnZ 10).toNat).2))) _ := va_P_eq (by rw [hCe]) hP
      have hD : va_D A (modelC ck mo (encZ S) F1 F2 F3 F4 (upS (upS M 8 14 1) 8 11 ((sayN (M 5) (M 8 12) 10 (M 8 14) (M 8 11) (lnZ 10).toNat).2))) := va_D_eq (by rw [hCe]) hD
      refine lv_aload_n hx hb dX9_number_90 rfl (lv_at hl 2 rfl) ?_
      refine va_get (D := dg) (ci := 11) (v := .ref (mo 7)) (C := RX9) (T := TX9) (N := 23) hx hb htg inG_X9 hown hK hP 0 rfl rfl 9 (Nat.le_of_ble_eq_true rfl) (htg _ wq_1566) (fun _ h9 => h9) rfl dX9_number_91 ?_
      refine x_iconst hx hb dX9_number_94 ?_
      refine lv_aload_n hx hb dX9_number_95 rfl (lv_at hl 2 rfl) ?_
      refine va_get (D := dg) (ci := 11) (v := .int (zI (M 8 13))) (C := RX9) (T := TX9) (N := 23) hx hb htg inG_X9 hown hK hP 0 rfl rfl 21 (Nat.le_of_ble_eq_true rfl) (htg _ wq_1578) (fun _ h9 => h9) rfl dX9_number_96 ?_
      refine x_imul hx hb dX9_number_99 ?_
      refine lv_iload_n hx hb dX9_number_100 rfl (lv_at hl 3 rfl) ?_
      refine x_iadd hx hb dX9_number_101 ?_
      refine lv_iload_n hx hb dX9_number_102 rfl (lv_at hl 1 rfl) ?_
      refine x_iast (ws' := modelC ck mo (encZ S) F1 F2 F3 F4 (upS (upS (upS M 8 14 1) 8 11 ((sayN (M 5) (M 8 12) 10 (M 8 14) (M 8 11) (lnZ 10).toNat).2)) 6 ((4 * (M 8 13)) + k) 0)) hx hb hK hP hD hS 7 0 rfl rfl (by decide) (by omega) (by rw [zM_up (by omega)]; rfl) dX9_number_103 (fun H locs hP hD hS => ?_)
      have hc : numZ (M 5) (M 8 12) (M 8 14) (M 8 11) d = (1, ((sayN (M 5) (M 8 12) 10 (M 8 14) (M 8 11) (lnZ 10).toNat).2), 0) := by first | (exfalso; omega) | (unfold numZ; dsimp only; (repeat (first | rw [if_pos (by omega)] | rw [if_neg (by omega)])))
      have hEq : modelC ck mo (encZ S) F1 F2 F3 F4 (upS (upS (upS M 8 14 (numZ (M 5) (M 8 12) (M 8 14) (M 8 11) d).1) 8 11 (numZ (M 5) (M 8 12) (M 8 14) (M 8 11) d).2.1) 6 (4 * M 8 13 + k) (numZ (M 5) (M 8 12) (M 8 14) (M 8 11) d).2.2) = modelC ck mo (encZ S) F1 F2 F3 F4 (upS (upS (upS M 8 14 1) 8 11 ((sayN (M 5) (M 8 12) 10 (M 8 14) (M 8 11) (lnZ 10).toNat).2)) 6 ((4 * (M 8 13)) + k) 0) := (by rw [hc] <;> rfl)
      exact W.vret hx hb hr (fun t9 ht9 hW9 => ⟨⟨(), rfl, trivial, by rw [ht9, hEq]; exact hP, by rw [hEq, hAe]; exact hD⟩, hS.F ht9⟩) hS.2.2 dX9_number_104
    · refine lv_iload hx hb dX9_number_77 (lv_at hl 0 rfl) ?_
      refine x_if_ne (tgt := 86) hx hb dX9_number_79 (by decide) (by omega) (fun c79 => absurd c79 (by decide)) (fun c79 => ?_)
      refine x_iconst hx hb dX9_number_82 ?_
      refine lv_goto (tgt := 87) hx hb dX9_number_83 (by decide) ?_
      refine va_put (D := dg) (ci := 11) (v := .int (zI 1)) (ty := .boolean) (C := RX9) (T := TX9) (N := 23) hx hb htg inG_X9 tyX9 tyX9_ok nmX9 hown hK hP hD hS 0 rfl rfl 22 (Nat.le_of_ble_eq_true rfl) (htg _ wq_1579) (fun _ h9 => h9) rfl (by decide +kernel) rfl rfl (Nat.le_of_ble_eq_true rfl) dX9_number_87 (fun H locs hP hD hS => ?_)
      have hP : va_P dg vwCl (modelC ck mo (encZ S) F1 F2 F3 F4 (upS (upS (upS M 8 14 ((sayN (M 5) (M 8 12) 10 (M 8 14) (M 8 11) (lnZ 10).toNat).1)) 8 11 ((sayN (M 5) (M 8 12) 10 (M 8 14) (M 8 11) (lnZ 10).toNat).2)) 8 14 1)) H := hP
      have hD : va_D A (modelC ck mo (encZ S) F1 F2 F3 F4 (upS (upS (upS M 8 14 ((sayN (M 5) (M 8 12) 10 (M 8 14) (M 8 11) (lnZ 10).toNat).1)) 8 11 ((sayN (M 5) (M 8 12) 10 (M 8 14) (M 8 11) (lnZ 10).toNat).2)) 8 14 1)) := hD
      have hCe : (upS (upS M 8 14 1) 8 11 ((sayN (M 5) (M 8 12) 10 (M 8 14) (M 8 11) (lnZ 10).toNat).2)) = (upS (upS (upS M 8 14 ((sayN (M 5) (M 8 12) 10 (M 8 14) (M 8 11) (lnZ 10).toNat).1)) 8 11 ((sayN (M 5) (M 8 12) 10 (M 8 14) (M 8 11) (lnZ 10).toNat).2)) 8 14 1) := nrm2
      have hP : va_P dg vwCl (modelC ck mo (encZ S) F1 F2 F3 F4 (upS (upS M 8 14 1) 8 11 ((sayN (M 5) (M 8 12) 10 (M 8 14) (M 8 11) (lnZ 10).toNat).2))) _ := va_P_eq (by rw [hCe]) hP
      have hD : va_D A (modelC ck mo (encZ S) F1 F2 F3 F4 (upS (upS M 8 14 1) 8 11 ((sayN (M 5) (M 8 12) 10 (M 8 14) (M 8 11) (lnZ 10).toNat).2))) := va_D_eq (by rw [hCe]) hD
      refine lv_aload_n hx hb dX9_number_90 rfl (lv_at hl 2 rfl) ?_
      refine va_get (D := dg) (ci := 11) (v := .ref (mo 7)) (C := RX9) (T := TX9) (N := 23) hx hb htg inG_X9 hown hK hP 0 rfl rfl 9 (Nat.le_of_ble_eq_true rfl) (htg _ wq_1566) (fun _ h9 => h9) rfl dX9_number_91 ?_
      refine x_iconst hx hb dX9_number_94 ?_
      refine lv_aload_n hx hb dX9_number_95 rfl (lv_at hl 2 rfl) ?_
      refine va_get (D := dg) (ci := 11) (v := .int (zI (M 8 13))) (C := RX9) (T := TX9) (N := 23) hx hb htg inG_X9 hown hK hP 0 rfl rfl 21 (Nat.le_of_ble_eq_true rfl) (htg _ wq_1578) (fun _ h9 => h9) rfl dX9_number_96 ?_
      refine x_imul hx hb dX9_number_99 ?_
      refine lv_iload_n hx hb dX9_number_100 rfl (lv_at hl 3 rfl) ?_
      refine x_iadd hx hb dX9_number_101 ?_
      refine lv_iload_n hx hb dX9_number_102 rfl (lv_at hl 1 rfl) ?_
      refine x_iast (ws' := modelC ck mo (encZ S) F1 F2 F3 F4 (upS (upS (upS M 8 14 1) 8 11 ((sayN (M 5) (M 8 12) 10 (M 8 14) (M 8 11) (lnZ 10).toNat).2)) 6 ((4 * (M 8 13)) + k) 0)) hx hb hK hP hD hS 7 0 rfl rfl (by decide) (by omega) (by rw [zM_up (by omega)]; rfl) dX9_number_103 (fun H locs hP hD hS => ?_)
      have hc : numZ (M 5) (M 8 12) (M 8 14) (M 8 11) d = (1, ((sayN (M 5) (M 8 12) 10 (M 8 14) (M 8 11) (lnZ 10).toNat).2), 0) := by first | (exfalso; omega) | (unfold numZ; dsimp only; (repeat (first | rw [if_pos (by omega)] | rw [if_neg (by omega)])))
      have hEq : modelC ck mo (encZ S) F1 F2 F3 F4 (upS (upS (upS M 8 14 (numZ (M 5) (M 8 12) (M 8 14) (M 8 11) d).1) 8 11 (numZ (M 5) (M 8 12) (M 8 14) (M 8 11) d).2.1) 6 (4 * M 8 13 + k) (numZ (M 5) (M 8 12) (M 8 14) (M 8 11) d).2.2) = modelC ck mo (encZ S) F1 F2 F3 F4 (upS (upS (upS M 8 14 1) 8 11 ((sayN (M 5) (M 8 12) 10 (M 8 14) (M 8 11) (lnZ 10).toNat).2)) 6 ((4 * (M 8 13)) + k) 0) := (by rw [hc] <;> rfl)
      exact W.vret hx hb hr (fun t9 ht9 hW9 => ⟨⟨(), rfl, trivial, by rw [ht9, hEq]; exact hP, by rw [hEq, hAe]; exact hD⟩, hS.F ht9⟩) hS.2.2 dX9_number_104
  · refine lv_iload hx hb dX9_number_18 (lv_at hl 0 rfl) ?_
    refine lv_iload_n hx hb dX9_number_20 rfl (lv_at hl 4 rfl) ?_
    refine x_icmp_ge (tgt := 69) hx hb dX9_number_21 (by decide) (by omega) (by omega) (fun c21 => ?_) (fun c21 => ?_)
    · refine lv_aload_n hx hb dX9_number_69 rfl (lv_at hl 2 rfl) ?_
      refine lv_aload_n hx hb dX9_number_70 rfl (lv_at hl 2 rfl) ?_
      refine va_get (D := dg) (ci := 11) (v := .int (zI ((sayN (M 5) (M 8 12) 10 (M 8 14) (M 8 11) (lnZ 10).toNat).1))) (C := RX9) (T := TX9) (N := 23) hx hb htg inG_X9 hown hK hP 0 rfl rfl 22 (Nat.le_of_ble_eq_true rfl) (htg _ wq_1579) (fun _ h9 => h9) rfl dX9_number_71 ?_
      refine x_if_ne (tgt := 82) hx hb dX9_number_74 (by decide) (by omega) (fun c74 => ?_) (fun c74 => ?_)
      · refine x_iconst hx hb dX9_number_82 ?_
        refine lv_goto (tgt := 87) hx hb dX9_number_83 (by decide) ?_
        refine va_put (D := dg) (ci := 11) (v := .int (zI 1)) (ty := .boolean) (C := RX9) (T := TX9) (N := 23) hx hb htg inG_X9 tyX9 tyX9_ok nmX9 hown hK hP hD hS 0 rfl rfl 22 (Nat.le_of_ble_eq_true rfl) (htg _ wq_1579) (fun _ h9 => h9) rfl (by decide +kernel) rfl rfl (Nat.le_of_ble_eq_true rfl) dX9_number_87 (fun H locs hP hD hS => ?_)
        have hP : va_P dg vwCl (modelC ck mo (encZ S) F1 F2 F3 F4 (upS (upS (upS M 8 14 ((sayN (M 5) (M 8 12) 10 (M 8 14) (M 8 11) (lnZ 10).toNat).1)) 8 11 ((sayN (M 5) (M 8 12) 10 (M 8 14) (M 8 11) (lnZ 10).toNat).2)) 8 14 1)) H := hP
        have hD : va_D A (modelC ck mo (encZ S) F1 F2 F3 F4 (upS (upS (upS M 8 14 ((sayN (M 5) (M 8 12) 10 (M 8 14) (M 8 11) (lnZ 10).toNat).1)) 8 11 ((sayN (M 5) (M 8 12) 10 (M 8 14) (M 8 11) (lnZ 10).toNat).2)) 8 14 1)) := hD
        have hCe : (upS (upS M 8 14 1) 8 11 ((sayN (M 5) (M 8 12) 10 (M 8 14) (M 8 11) (lnZ 10).toNat).2)) = (upS (upS (upS M 8 14 ((sayN (M 5) (M 8 12) 10 (M 8 14) (M 8 11) (lnZ 10).toNat).1)) 8 11 ((sayN (M 5) (M 8 12) 10 (M 8 14) (M 8 11) (lnZ 10).toNat).2)) 8 14 1) := nrm2
        have hP : va_P dg vwCl (modelC ck mo (encZ S) F1 F2 F3 F4 (upS (upS M 8 14 1) 8 11 ((sayN (M 5) (M 8 12) 10 (M 8 14) (M 8 11) (lnZ 10).toNat).2))) _ := va_P_eq (by rw [hCe]) hP
        have hD : va_D A (modelC ck mo (encZ S) F1 F2 F3 F4 (upS (upS M 8 14 1) 8 11 ((sayN (M 5) (M 8 12) 10 (M 8 14) (M 8 11) (lnZ 10).toNat).2))) := va_D_eq (by rw [hCe]) hD
        refine lv_aload_n hx hb dX9_number_90 rfl (lv_at hl 2 rfl) ?_
        refine va_get (D := dg) (ci := 11) (v := .ref (mo 7)) (C := RX9) (T := TX9) (N := 23) hx hb htg inG_X9 hown hK hP 0 rfl rfl 9 (Nat.le_of_ble_eq_true rfl) (htg _ wq_1566) (fun _ h9 => h9) rfl dX9_number_91 ?_
        refine x_iconst hx hb dX9_number_94 ?_
        refine lv_aload_n hx hb dX9_number_95 rfl (lv_at hl 2 rfl) ?_
        refine va_get (D := dg) (ci := 11) (v := .int (zI (M 8 13))) (C := RX9) (T := TX9) (N := 23) hx hb htg inG_X9 hown hK hP 0 rfl rfl 21 (Nat.le_of_ble_eq_true rfl) (htg _ wq_1578) (fun _ h9 => h9) rfl dX9_number_96 ?_
        refine x_imul hx hb dX9_number_99 ?_
        refine lv_iload_n hx hb dX9_number_100 rfl (lv_at hl 3 rfl) ?_
        refine x_iadd hx hb dX9_number_101 ?_
        refine lv_iload_n hx hb dX9_number_102 rfl (lv_at hl 1 rfl) ?_
        refine x_iast (ws' := modelC ck mo (encZ S) F1 F2 F3 F4 (upS (upS (upS M 8 14 1) 8 11 ((sayN (M 5) (M 8 12) 10 (M 8 14) (M 8 11) (lnZ 10).toNat).2)) 6 ((4 * (M 8 13)) + k) 0)) hx hb hK hP hD hS 7 0 rfl rfl (by decide) (by omega) (by rw [zM_up (by omega)]; rfl) dX9_number_103 (fun H locs hP hD hS => ?_)
        have hc : numZ (M 5) (M 8 12) (M 8 14) (M 8 11) d = (1, ((sayN (M 5) (M 8 12) 10 (M 8 14) (M 8 11) (lnZ 10).toNat).2), 0) := by first | (exfalso; omega) | (unfold numZ; dsimp only; (repeat (first | rw [if_pos (by omega)] | rw [if_neg (by omega)])))
        have hEq : modelC ck mo (encZ S) F1 F2 F3 F4 (upS (upS (upS M 8 14 (numZ (M 5) (M 8 12) (M 8 14) (M 8 11) d).1) 8 11 (numZ (M 5) (M 8 12) (M 8 14) (M 8 11) d).2.1) 6 (4 * M 8 13 + k) (numZ (M 5) (M 8 12) (M 8 14) (M 8 11) d).2.2) = modelC ck mo (encZ S) F1 F2 F3 F4 (upS (upS (upS M 8 14 1) 8 11 ((sayN (M 5) (M 8 12) 10 (M 8 14) (M 8 11) (lnZ 10).toNat).2)) 6 ((4 * (M 8 13)) + k) 0) := (by rw [hc] <;> rfl)
        exact W.vret hx hb hr (fun t9 ht9 hW9 => ⟨⟨(), rfl, trivial, by rw [ht9, hEq]; exact hP, by rw [hEq, hAe]; exact hD⟩, hS.F ht9⟩) hS.2.2 dX9_number_104
      · refine lv_iload hx hb dX9_number_77 (lv_at hl 0 rfl) ?_
        refine x_if_ne (tgt := 86) hx hb dX9_number_79 (by decide) (by omega) (fun c79 => absurd c79 (by decide)) (fun c79 => ?_)
        refine x_iconst hx hb dX9_number_82 ?_
        refine lv_goto (tgt := 87) hx hb dX9_number_83 (by decide) ?_
        refine va_put (D := dg) (ci := 11) (v := .int (zI 1)) (ty := .boolean) (C := RX9) (T := TX9) (N := 23) hx hb htg inG_X9 tyX9 tyX9_ok nmX9 hown hK hP hD hS 0 rfl rfl 22 (Nat.le_of_ble_eq_true rfl) (htg _ wq_1579) (fun _ h9 => h9) rfl (by decide +kernel) rfl rfl (Nat.le_of_ble_eq_true rfl) dX9_number_87 (fun H locs hP hD hS => ?_)
        have hP : va_P dg vwCl (modelC ck mo (encZ S) F1 F2 F3 F4 (upS (upS (upS M 8 14 ((sayN (M 5) (M 8 12) 10 (M 8 14) (M 8 11) (lnZ 10).toNat).1)) 8 11 ((sayN (M 5) (M 8 12) 10 (M 8 14) (M 8 11) (lnZ 10).toNat).2)) 8 14 1)) H := hP
        have hD : va_D A (modelC ck mo (encZ S) F1 F2 F3 F4 (upS (upS (upS M 8 14 ((sayN (M 5) (M 8 12) 10 (M 8 14) (M 8 11) (lnZ 10).toNat).1)) 8 11 ((sayN (M 5) (M 8 12) 10 (M 8 14) (M 8 11) (lnZ 10).toNat).2)) 8 14 1)) := hD
        have hCe : (upS (upS M 8 14 1) 8 11 ((sayN (M 5) (M 8 12) 10 (M 8 14) (M 8 11) (lnZ 10).toNat).2)) = (upS (upS (upS M 8 14 ((sayN (M 5) (M 8 12) 10 (M 8 14) (M 8 11) (lnZ 10).toNat).1)) 8 11 ((sayN (M 5) (M 8 12) 10 (M 8 14) (M 8 11) (lnZ 10).toNat).2)) 8 14 1) := nrm2
        have hP : va_P dg vwCl (modelC ck mo (encZ S) F1 F2 F3 F4 (upS (upS M 8 14 1) 8 11 ((sayN (M 5) (M 8 12) 10 (M 8 14) (M 8 11) (lnZ 10).toNat).2))) _ := va_P_eq (by rw [hCe]) hP
        have hD : va_D A (modelC ck mo (encZ S) F1 F2 F3 F4 (upS (upS M 8 14 1) 8 11 ((sayN (M 5) (M 8 12) 10 (M 8 14) (M 8 11) (lnZ 10).toNat).2))) := va_D_eq (by rw [hCe]) hD
        refine lv_aload_n hx hb dX9_number_90 rfl (lv_at hl 2 rfl) ?_
        refine va_get (D := dg) (ci := 11) (v := .ref (mo 7)) (C := RX9) (T := TX9) (N := 23) hx hb htg inG_X9 hown hK hP 0 rfl rfl 9 (Nat.le_of_ble_eq_true rfl) (htg _ wq_1566) (fun _ h9 => h9) rfl dX9_number_91 ?_
        refine x_iconst hx hb dX9_number_94 ?_
        refine lv_aload_n hx hb dX9_number_95 rfl (lv_at hl 2 rfl) ?_
        refine va_get (D := dg) (ci := 11) (v := .int (zI (M 8 13))) (C := RX9) (T := TX9) (N := 23) hx hb htg inG_X9 hown hK hP 0 rfl rfl 21 (Nat.le_of_ble_eq_true rfl) (htg _ wq_1578) (fun _ h9 => h9) rfl dX9_number_96 ?_
        refine x_imul hx hb dX9_number_99 ?_
        refine lv_iload_n hx hb dX9_number_100 rfl (lv_at hl 3 rfl) ?_
        refine x_iadd hx hb dX9_number_101 ?_
        refine lv_iload_n hx hb dX9_number_102 rfl (lv_at hl 1 rfl) ?_
        refine x_iast (ws' := modelC ck mo (encZ S) F1 F2 F3 F4 (upS (upS (upS M 8 14 1) 8 11 ((sayN (M 5) (M 8 12) 10 (M 8 14) (M 8 11) (lnZ 10).toNat).2)) 6 ((4 * (M 8 13)) + k) 0)) hx hb hK hP hD hS 7 0 rfl rfl (by decide) (by omega) (by rw [zM_up (by omega)]; rfl) dX9_number_103 (fun H locs hP hD hS => ?_)
        have hc : numZ (M 5) (M 8 12) (M 8 14) (M 8 11) d = (1, ((sayN (M 5) (M 8 12) 10 (M 8 14) (M 8 11) (lnZ 10).toNat).2), 0) := by first | (exfalso; omega) | (unfold numZ; dsimp only; (repeat (first | rw [if_pos (by omega)] | rw [if_neg (by omega)])))
        have hEq : modelC ck mo (encZ S) F1 F2 F3 F4 (upS (upS (upS M 8 14 (numZ (M 5) (M 8 12) (M 8 14) (M 8 11) d).1) 8 11 (numZ (M 5) (M 8 12) (M 8 14) (M 8 11) d).2.1) 6 (4 * M 8 13 + k) (numZ (M 5) (M 8 12) (M 8 14) (M 8 11) d).2.2) = modelC ck mo (encZ S) F1 F2 F3 F4 (upS (upS (upS M 8 14 1) 8 11 ((sayN (M 5) (M 8 12) 10 (M 8 14) (M 8 11) (lnZ 10).toNat).2)) 6 ((4 * (M 8 13)) + k) 0) := (by rw [hc] <;> rfl)
        exact W.vret hx hb hr (fun t9 ht9 hW9 => ⟨⟨(), rfl, trivial, by rw [ht9, hEq]; exact hP, by rw [hEq, hAe]; exact hD⟩, hS.F ht9⟩) hS.2.2 dX9_number_104
    · have hca := chA_r htx hp0.2.2 (z := ((sayN (M 5) (M 8 12) 10 (M 8 14) (M 8 11) (lnZ 10).toNat).2)) (by omega)
      refine lv_aload_n hx hb dX9_number_24 rfl (lv_at hl 2 rfl) ?_
      refine x_iconst hx hb dX9_number_25 ?_
      refine vp_callSi (W.runV (As := [.int (zI 0)]) (rest := []) ⟨hx, hb, hml, hown, htg⟩ (m_here l dg ck mo S F1 F2 F3 F4 (upS (upS M 8 14 ((sayN (M 5) (M 8 12) 10 (M 8 14) (M 8 11) (lnZ 10).toNat).1)) 8 11 ((sayN (M 5) (M 8 12) 10 (M 8 14) (M 8 11) (lnZ 10).toNat).2)) 0 (by omega) (show 0 ≤ ((sayN (M 5) (M 8 12) 10 (M 8 14) (M 8 11) (lnZ 10).toNat).2) ∧ ((sayN (M 5) (M 8 12) 10 (M 8 14) (M 8 11) (lnZ 10).toNat).2) ≤ (M 8 12) ∧ (M 8 12) ≤ 60 by omega)) (cwV 1 htg (gwV wq_2038 wq_2040 wp_74 wq_15 wq_2041) rfl rfl rfl (by decide +kernel) ⟨Nat.le_of_ble_eq_true rfl, Nat.le_of_ble_eq_true rfl⟩) (rd_preV hK hP 0 11 rfl rfl) rfl rfl hl.1 rfl (lv_room (Nat.le_of_ble_eq_true rfl)) dX9_number_26 ⟨Nat.zero_le _, Nat.zero_le _⟩) (fun r26 hr26 => ?_)
      subst hr26
      refine x_is (show (chA ((upS (upS M 8 14 ((sayN (M 5) (M 8 12) 10 (M 8 14) (M 8 11) (lnZ 10).toNat).1)) 8 11 ((sayN (M 5) (M 8 12) 10 (M 8 14) (M 8 11) (lnZ 10).toNat).2)) 5) ((upS (upS M 8 14 ((sayN (M 5) (M 8 12) 10 (M 8 14) (M 8 11) (lnZ 10).toNat).1)) 8 11 ((sayN (M 5) (M 8 12) 10 (M 8 14) (M 8 11) (lnZ 10).toNat).2)) 8 12) ((upS (upS M 8 14 ((sayN (M 5) (M 8 12) 10 (M 8 14) (M 8 11) (lnZ 10).toNat).1)) 8 11 ((sayN (M 5) (M 8 12) 10 (M 8 14) (M 8 11) (lnZ 10).toNat).2)) 8 11 + 0)) = (chA (M 5) (M 8 12) ((sayN (M 5) (M 8 12) 10 (M 8 14) (M 8 11) (lnZ 10).toNat).2)) from (congrArg (chA (M 5) (M 8 12)) (Int.add_zero ((sayN (M 5) (M 8 12) 10 (M 8 14) (M 8 11) (lnZ 10).toNat).2)))) ?_
      refine x_bipush hx hb dX9_number_29 (by decide) ?_
      refine x_bipush hx hb dX9_number_31 (by decide) ?_
      refine vp_callSi (W.runS (As := [.int (zI (chA (M 5) (M 8 12) ((sayN (M 5) (M 8 12) 10 (M 8 14) (M 8 11) (lnZ 10).toNat).2))), .int (zI 48), .int (zI 57)]) (rest := []) ⟨hx, hb, hml, hown, htg⟩ (m_in l dg ck (chA (M 5) (M 8 12) ((sayN (M 5) (M 8 12) 10 (M 8 14) (M 8 11) (lnZ 10).toNat).2)) 48 57 (by omega) (by omega) (by omega)) (cwS 3 htg (gwS wq_1646 wq_1647 wq_15 wq_1648) rfl rfl rfl (by decide +kernel) ⟨Nat.le_of_ble_eq_true rfl, Nat.le_of_ble_eq_true rfl⟩) (rd_preS hK va_P_nil) rfl rfl hl.1 rfl (lv_room (Nat.le_of_ble_eq_true rfl)) dX9_number_33 ⟨Nat.zero_le _, Nat.zero_le _⟩) (fun r33 hr33 => ?_)
      subst hr33
      refine x_bz_eq (tgt := 69) hx hb dX9_number_36 (by decide) (fun c36 => ?_) (fun c36 => ?_)
      · refine lv_aload_n hx hb dX9_number_69 rfl (lv_at hl 2 rfl) ?_
        refine lv_aload_n hx hb dX9_number_70 rfl (lv_at hl 2 rfl) ?_
        refine va_get (D := dg) (ci := 11) (v := .int (zI ((sayN (M 5) (M 8 12) 10 (M 8 14) (M 8 11) (lnZ 10).toNat).1))) (C := RX9) (T := TX9) (N := 23) hx hb htg inG_X9 hown hK hP 0 rfl rfl 22 (Nat.le_of_ble_eq_true rfl) (htg _ wq_1579) (fun _ h9 => h9) rfl dX9_number_71 ?_
        refine x_if_ne (tgt := 82) hx hb dX9_number_74 (by decide) (by omega) (fun c74 => ?_) (fun c74 => ?_)
        · refine x_iconst hx hb dX9_number_82 ?_
          refine lv_goto (tgt := 87) hx hb dX9_number_83 (by decide) ?_
          refine va_put (D := dg) (ci := 11) (v := .int (zI 1)) (ty := .boolean) (C := RX9) (T := TX9) (N := 23) hx hb htg inG_X9 tyX9 tyX9_ok nmX9 hown hK hP hD hS 0 rfl rfl 22 (Nat.le_of_ble_eq_true rfl) (htg _ wq_1579) (fun _ h9 => h9) rfl (by decide +kernel) rfl rfl (Nat.le_of_ble_eq_true rfl) dX9_number_87 (fun H locs hP hD hS => ?_)
          have hP : va_P dg vwCl (modelC ck mo (encZ S) F1 F2 F3 F4 (upS (upS (upS M 8 14 ((sayN (M 5) (M 8 12) 10 (M 8 14) (M 8 11) (lnZ 10).toNat).1)) 8 11 ((sayN (M 5) (M 8 12) 10 (M 8 14) (M 8 11) (lnZ 10).toNat).2)) 8 14 1)) H := hP
          have hD : va_D A (modelC ck mo (encZ S) F1 F2 F3 F4 (upS (upS (upS M 8 14 ((sayN (M 5) (M 8 12) 10 (M 8 14) (M 8 11) (lnZ 10).toNat).1)) 8 11 ((sayN (M 5) (M 8 12) 10 (M 8 14) (M 8 11) (lnZ 10).toNat).2)) 8 14 1)) := hD
          have hCe : (upS (upS M 8 14 1) 8 11 ((sayN (M 5) (M 8 12) 10 (M 8 14) (M 8 11) (lnZ 10).toNat).2)) = (upS (upS (upS M 8 14 ((sayN (M 5) (M 8 12) 10 (M 8 14) (M 8 11) (lnZ 10).toNat).1)) 8 11 ((sayN (M 5) (M 8 12) 10 (M 8 14) (M 8 11) (lnZ 10).toNat).2)) 8 14 1) := nrm2
          have hP : va_P dg vwCl (modelC ck mo (encZ S) F1 F2 F3 F4 (upS (upS M 8 14 1) 8 11 ((sayN (M 5) (M 8 12) 10 (M 8 14) (M 8 11) (lnZ 10).toNat).2))) _ := va_P_eq (by rw [hCe]) hP
          have hD : va_D A (modelC ck mo (encZ S) F1 F2 F3 F4 (upS (upS M 8 14 1) 8 11 ((sayN (M 5) (M 8 12) 10 (M 8 14) (M 8 11) (lnZ 10).toNat).2))) := va_D_eq (by rw [hCe]) hD
          refine lv_aload_n hx hb dX9_number_90 rfl (lv_at hl 2 rfl) ?_
          refine va_get (D := dg) (ci := 11) (v := .ref (mo 7)) (C := RX9) (T := TX9) (N := 23) hx hb htg inG_X9 hown hK hP 0 rfl rfl 9 (Nat.le_of_ble_eq_true rfl) (htg _ wq_1566) (fun _ h9 => h9) rfl dX9_number_91 ?_
          refine x_iconst hx hb dX9_number_94 ?_
          refine lv_aload_n hx hb dX9_number_95 rfl (lv_at hl 2 rfl) ?_
          refine va_get (D := dg) (ci := 11) (v := .int (zI (M 8 13))) (C := RX9) (T := TX9) (N := 23) hx hb htg inG_X9 hown hK hP 0 rfl rfl 21 (Nat.le_of_ble_eq_true rfl) (htg _ wq_1578) (fun _ h9 => h9) rfl dX9_number_96 ?_
          refine x_imul hx hb dX9_number_99 ?_
          refine lv_iload_n hx hb dX9_number_100 rfl (lv_at hl 3 rfl) ?_
          refine x_iadd hx hb dX9_number_101 ?_
          refine lv_iload_n hx hb dX9_number_102 rfl (lv_at hl 1 rfl) ?_
          refine x_iast (ws' := modelC ck mo (encZ S) F1 F2 F3 F4 (upS (upS (upS M 8 14 1) 8 11 ((sayN (M 5) (M 8 12) 10 (M 8 14) (M 8 11) (lnZ 10).toNat).2)) 6 ((4 * (M 8 13)) + k) 0)) hx hb hK hP hD hS 7 0 rfl rfl (by decide) (by omega) (by rw [zM_up (by omega)]; rfl) dX9_number_103 (fun H locs hP hD hS => ?_)
          have hc : numZ (M 5) (M 8 12) (M 8 14) (M 8 11) d = (1, ((sayN (M 5) (M 8 12) 10 (M 8 14) (M 8 11) (lnZ 10).toNat).2), 0) := by first | (exfalso; omega) | (unfold numZ; dsimp only; (repeat (first | rw [if_pos (by omega)] | rw [if_neg (by omega)])))
          have hEq : modelC ck mo (encZ S) F1 F2 F3 F4 (upS (upS (upS M 8 14 (numZ (M 5) (M 8 12) (M 8 14) (M 8 11) d).1) 8 11 (numZ (M 5) (M 8 12) (M 8 14) (M 8 11) d).2.1) 6 (4 * M 8 13 + k) (numZ (M 5) (M 8 12) (M 8 14) (M 8 11) d).2.2) = modelC ck mo (encZ S) F1 F2 F3 F4 (upS (upS (upS M 8 14 1) 8 11 ((sayN (M 5) (M 8 12) 10 (M 8 14) (M 8 11) (lnZ 10).toNat).2)) 6 ((4 * (M 8 13)) + k) 0) := (by rw [hc] <;> rfl)
          exact W.vret hx hb hr (fun t9 ht9 hW9 => ⟨⟨(), rfl, trivial, by rw [ht9, hEq]; exact hP, by rw [hEq, hAe]; exact hD⟩, hS.F ht9⟩) hS.2.2 dX9_number_104
        · refine lv_iload hx hb dX9_number_77 (lv_at hl 0 rfl) ?_
          refine x_if_ne (tgt := 86) hx hb dX9_number_79 (by decide) (by omega) (fun c79 => absurd c79 (by decide)) (fun c79 => ?_)
          refine x_iconst hx hb dX9_number_82 ?_
          refine lv_goto (tgt := 87) hx hb dX9_number_83 (by decide) ?_
          refine va_put (D := dg) (ci := 11) (v := .int (zI 1)) (ty := .boolean) (C := RX9) (T := TX9) (N := 23) hx hb htg inG_X9 tyX9 tyX9_ok nmX9 hown hK hP hD hS 0 rfl rfl 22 (Nat.le_of_ble_eq_true rfl) (htg _ wq_1579) (fun _ h9 => h9) rfl (by decide +kernel) rfl rfl (Nat.le_of_ble_eq_true rfl) dX9_number_87 (fun H locs hP hD hS => ?_)
          have hP : va_P dg vwCl (modelC ck mo (encZ S) F1 F2 F3 F4 (upS (upS (upS M 8 14 ((sayN (M 5) (M 8 12) 10 (M 8 14) (M 8 11) (lnZ 10).toNat).1)) 8 11 ((sayN (M 5) (M 8 12) 10 (M 8 14) (M 8 11) (lnZ 10).toNat).2)) 8 14 1)) H := hP
          have hD : va_D A (modelC ck mo (encZ S) F1 F2 F3 F4 (upS (upS (upS M 8 14 ((sayN (M 5) (M 8 12) 10 (M 8 14) (M 8 11) (lnZ 10).toNat).1)) 8 11 ((sayN (M 5) (M 8 12) 10 (M 8 14) (M 8 11) (lnZ 10).toNat).2)) 8 14 1)) := hD
          have hCe : (upS (upS M 8 14 1) 8 11 ((sayN (M 5) (M 8 12) 10 (M 8 14) (M 8 11) (lnZ 10).toNat).2)) = (upS (upS (upS M 8 14 ((sayN (M 5) (M 8 12) 10 (M 8 14) (M 8 11) (lnZ 10).toNat).1)) 8 11 ((sayN (M 5) (M 8 12) 10 (M 8 14) (M 8 11) (lnZ 10).toNat).2)) 8 14 1) := nrm2
          have hP : va_P dg vwCl (modelC ck mo (encZ S) F1 F2 F3 F4 (upS (upS M 8 14 1) 8 11 ((sayN (M 5) (M 8 12) 10 (M 8 14) (M 8 11) (lnZ 10).toNat).2))) _ := va_P_eq (by rw [hCe]) hP
          have hD : va_D A (modelC ck mo (encZ S) F1 F2 F3 F4 (upS (upS M 8 14 1) 8 11 ((sayN (M 5) (M 8 12) 10 (M 8 14) (M 8 11) (lnZ 10).toNat).2))) := va_D_eq (by rw [hCe]) hD
          refine lv_aload_n hx hb dX9_number_90 rfl (lv_at hl 2 rfl) ?_
          refine va_get (D := dg) (ci := 11) (v := .ref (mo 7)) (C := RX9) (T := TX9) (N := 23) hx hb htg inG_X9 hown hK hP 0 rfl rfl 9 (Nat.le_of_ble_eq_true rfl) (htg _ wq_1566) (fun _ h9 => h9) rfl dX9_number_91 ?_
          refine x_iconst hx hb dX9_number_94 ?_
          refine lv_aload_n hx hb dX9_number_95 rfl (lv_at hl 2 rfl) ?_
          refine va_get (D := dg) (ci := 11) (v := .int (zI (M 8 13))) (C := RX9) (T := TX9) (N := 23) hx hb htg inG_X9 hown hK hP 0 rfl rfl 21 (Nat.le_of_ble_eq_true rfl) (htg _ wq_1578) (fun _ h9 => h9) rfl dX9_number_96 ?_
          refine x_imul hx hb dX9_number_99 ?_
          refine lv_iload_n hx hb dX9_number_100 rfl (lv_at hl 3 rfl) ?_
          refine x_iadd hx hb dX9_number_101 ?_
          refine lv_iload_n hx hb dX9_number_102 rfl (lv_at hl 1 rfl) ?_
          refine x_iast (ws' := modelC ck mo (encZ S) F1 F2 F3 F4 (upS (upS (upS M 8 14 1) 8 11 ((sayN (M 5) (M 8 12) 10 (M 8 14) (M 8 11) (lnZ 10).toNat).2)) 6 ((4 * (M 8 13)) + k) 0)) hx hb hK hP hD hS 7 0 rfl rfl (by decide) (by omega) (by rw [zM_up (by omega)]; rfl) dX9_number_103 (fun H locs hP hD hS => ?_)
          have hc : numZ (M 5) (M 8 12) (M 8 14) (M 8 11) d = (1, ((sayN (M 5) (M 8 12) 10 (M 8 14) (M 8 11) (lnZ 10).toNat).2), 0) := by first | (exfalso; omega) | (unfold numZ; dsimp only; (repeat (first | rw [if_pos (by omega)] | rw [if_neg (by omega)])))
          have hEq : modelC ck mo (encZ S) F1 F2 F3 F4 (upS (upS (upS M 8 14 (numZ (M 5) (M 8 12) (M 8 14) (M 8 11) d).1) 8 11 (numZ (M 5) (M 8 12) (M 8 14) (M 8 11) d).2.1) 6 (4 * M 8 13 + k) (numZ (M 5) (M 8 12) (M 8 14) (M 8 11) d).2.2) = modelC ck mo (encZ S) F1 F2 F3 F4 (upS (upS (upS M 8 14 1) 8 11 ((sayN (M 5) (M 8 12) 10 (M 8 14) (M 8 11) (lnZ 10).toNat).2)) 6 ((4 * (M 8 13)) + k) 0) := (by rw [hc] <;> rfl)
          exact W.vret hx hb hr (fun t9 ht9 hW9 => ⟨⟨(), rfl, trivial, by rw [ht9, hEq]; exact hP, by rw [hEq, hAe]; exact hD⟩, hS.F ht9⟩) hS.2.2 dX9_number_104
      · have hdl := dgt_lt (show dgt (chA (M 5) (M 8 12) ((sayN (M 5) (M 8 12) 10 (M 8 14) (M 8 11) (lnZ 10).toNat).2)) by omega)
        refine x_bipush hx hb dX9_number_39 (by decide) ?_
        refine lv_iload_n hx hb dX9_number_41 rfl (lv_at hl 1 rfl) ?_
        refine x_imul hx hb dX9_number_42 ?_
        refine lv_aload_n hx hb dX9_number_43 rfl (lv_at hl 2 rfl) ?_
        refine x_iconst hx hb dX9_number_44 ?_
        refine vp_callSi (W.runV (As := [.int (zI 0)]) (rest := [.int (zI (10 * 0))]) ⟨hx, hb, hml, hown, htg⟩ (m_here l dg ck mo S F1 F2 F3 F4 (upS (upS M 8 14 ((sayN (M 5) (M 8 12) 10 (M 8 14) (M 8 11) (lnZ 10).toNat).1)) 8 11 ((sayN (M 5) (M 8 12) 10 (M 8 14) (M 8 11) (lnZ 10).toNat).2)) 0 (by omega) (show 0 ≤ ((sayN (M 5) (M 8 12) 10 (M 8 14) (M 8 11) (lnZ 10).toNat).2) ∧ ((sayN (M 5) (M 8 12) 10 (M 8 14) (M 8 11) (lnZ 10).toNat).2) ≤ (M 8 12) ∧ (M 8 12) ≤ 60 by omega)) (cwV 1 htg (gwV wq_2038 wq_2040 wp_74 wq_15 wq_2041) rfl rfl rfl (by decide +kernel) ⟨Nat.le_of_ble_eq_true rfl, Nat.le_of_ble_eq_true rfl⟩) (rd_preV hK hP 0 11 rfl rfl) rfl rfl hl.1 rfl (lv_room (Nat.le_of_ble_eq_true rfl)) dX9_number_45 ⟨Nat.zero_le _, Nat.zero_le _⟩) (fun r45 hr45 => ?_)
        subst hr45
        refine x_is (show (chA ((upS (upS M 8 14 ((sayN (M 5) (M 8 12) 10 (M 8 14) (M 8 11) (lnZ 10).toNat).1)) 8 11 ((sayN (M 5) (M 8 12) 10 (M 8 14) (M 8 11) (lnZ 10).toNat).2)) 5) ((upS (upS M 8 14 ((sayN (M 5) (M 8 12) 10 (M 8 14) (M 8 11) (lnZ 10).toNat).1)) 8 11 ((sayN (M 5) (M 8 12) 10 (M 8 14) (M 8 11) (lnZ 10).toNat).2)) 8 12) ((upS (upS M 8 14 ((sayN (M 5) (M 8 12) 10 (M 8 14) (M 8 11) (lnZ 10).toNat).1)) 8 11 ((sayN (M 5) (M 8 12) 10 (M 8 14) (M 8 11) (lnZ 10).toNat).2)) 8 11 + 0)) = (chA (M 5) (M 8 12) ((sayN (M 5) (M 8 12) 10 (M 8 14) (M 8 11) (lnZ 10).toNat).2)) from (congrArg (chA (M 5) (M 8 12)) (Int.add_zero ((sayN (M 5) (M 8 12) 10 (M 8 14) (M 8 11) (lnZ 10).toNat).2)))) ?_
        refine x_iadd hx hb dX9_number_48 ?_
        refine x_bipush hx hb dX9_number_49 (by decide) ?_
        refine x_isub hx hb dX9_number_51 ?_
        refine lv_istore_n (lv' := [(3, .int (zI (((10 * 0) + (chA (M 5) (M 8 12) ((sayN (M 5) (M 8 12) 10 (M 8 14) (M 8 11) (lnZ 10).toNat).2))) - 48))), (4, .int (zI 0)), (0, .ref (mo 0)), (1, .int (zI k)), (2, .int (zI d))]) hx hb dX9_number_52 rfl hl (by decide) rfl (fun ls hl => ?_)
        refine lv_aload_n hx hb dX9_number_53 rfl (lv_at hl 2 rfl) ?_
        refine lv_dup hx hb dX9_number_54 rfl ?_
        refine va_get (D := dg) (ci := 11) (v := .int (zI ((sayN (M 5) (M 8 12) 10 (M 8 14) (M 8 11) (lnZ 10).toNat).2))) (C := RX9) (T := TX9) (N := 23) hx hb htg inG_X9 hown hK hP 0 rfl rfl 19 (Nat.le_of_ble_eq_true rfl) (htg _ wq_1576) (fun _ h9 => h9) rfl dX9_number_55 ?_
        refine x_iconst hx hb dX9_number_58 ?_
        refine x_iadd hx hb dX9_number_59 ?_
        refine va_put (D := dg) (ci := 11) (v := .int (zI (((sayN (M 5) (M 8 12) 10 (M 8 14) (M 8 11) (lnZ 10).toNat).2) + 1))) (ty := .int) (C := RX9) (T := TX9) (N := 23) hx hb htg inG_X9 tyX9 tyX9_ok nmX9 hown hK hP hD hS 0 rfl rfl 19 (Nat.le_of_ble_eq_true rfl) (htg _ wq_1576) (fun _ h9 => h9) rfl (by decide +kernel) rfl rfl (Nat.le_of_ble_eq_true rfl) dX9_number_60 (fun H locs hP hD hS => ?_)
        have hP : va_P dg vwCl (modelC ck mo (encZ S) F1 F2 F3 F4 (upS (upS (upS M 8 14 ((sayN (M 5) (M 8 12) 10 (M 8 14) (M 8 11) (lnZ 10).toNat).1)) 8 11 ((sayN (M 5) (M 8 12) 10 (M 8 14) (M 8 11) (lnZ 10).toNat).2)) 8 11 (((sayN (M 5) (M 8 12) 10 (M 8 14) (M 8 11) (lnZ 10).toNat).2) + 1))) H := hP
        have hD : va_D A (modelC ck mo (encZ S) F1 F2 F3 F4 (upS (upS (upS M 8 14 ((sayN (M 5) (M 8 12) 10 (M 8 14) (M 8 11) (lnZ 10).toNat).1)) 8 11 ((sayN (M 5) (M 8 12) 10 (M 8 14) (M 8 11) (lnZ 10).toNat).2)) 8 11 (((sayN (M 5) (M 8 12) 10 (M 8 14) (M 8 11) (lnZ 10).toNat).2) + 1))) := hD
        have hCe : (upS (upS M 8 14 ((sayN (M 5) (M 8 12) 10 (M 8 14) (M 8 11) (lnZ 10).toNat).1)) 8 11 (((sayN (M 5) (M 8 12) 10 (M 8 14) (M 8 11) (lnZ 10).toNat).2) + 1)) = (upS (upS (upS M 8 14 ((sayN (M 5) (M 8 12) 10 (M 8 14) (M 8 11) (lnZ 10).toNat).1)) 8 11 ((sayN (M 5) (M 8 12) 10 (M 8 14) (M 8 11) (lnZ 10).toNat).2)) 8 11 (((sayN (M 5) (M 8 12) 10 (M 8 14) (M 8 11) (lnZ 10).toNat).2) + 1)) := upS_up.symm
        have hP : va_P dg vwCl (modelC ck mo (encZ S) F1 F2 F3 F4 (upS (upS M 8 14 ((sayN (M 5) (M 8 12) 10 (M 8 14) (M 8 11) (lnZ 10).toNat).1)) 8 11 (((sayN (M 5) (M 8 12) 10 (M 8 14) (M 8 11) (lnZ 10).toNat).2) + 1))) _ := va_P_eq (by rw [hCe]) hP
        have hD : va_D A (modelC ck mo (encZ S) F1 F2 F3 F4 (upS (upS M 8 14 ((sayN (M 5) (M 8 12) 10 (M 8 14) (M 8 11) (lnZ 10).toNat).1)) 8 11 (((sayN (M 5) (M 8 12) 10 (M 8 14) (M 8 11) (lnZ 10).toNat).2) + 1))) := va_D_eq (by rw [hCe]) hD
        refine lv_iinc (v := zI 1) (lv' := [(4, .int (zI 1)), (3, .int (zI (((10 * 0) + (chA (M 5) (M 8 12) ((sayN (M 5) (M 8 12) 10 (M 8 14) (M 8 11) (lnZ 10).toNat).2))) - 48))), (0, .ref (mo 0)), (1, .int (zI k)), (2, .int (zI d))]) hx hb dX9_number_63 hl (k := 1) rfl (by decide) (by decide) rfl (fun ls hl => ?_)
        refine lv_goto (tgt := 11) hx hb dX9_number_66 (by decide) ?_
        refine lv_aload_n hx hb dX9_number_11 rfl (lv_at hl 2 rfl) ?_
        refine va_get (D := dg) (ci := 11) (v := .int (zI ((sayN (M 5) (M 8 12) 10 (M 8 14) (M 8 11) (lnZ 10).toNat).1))) (C := RX9) (T := TX9) (N := 23) hx hb htg inG_X9 hown hK hP 0 rfl rfl 22 (Nat.le_of_ble_eq_true rfl) (htg _ wq_1579) (fun _ h9 => h9) rfl dX9_number_12 ?_
        refine x_if_ne (tgt := 69) hx hb dX9_number_15 (by decide) (by omega) (fun c15 => ?_) (fun c15 => ?_)
        · refine lv_aload_n hx hb dX9_number_69 rfl (lv_at hl 2 rfl) ?_
          refine lv_aload_n hx hb dX9_number_70 rfl (lv_at hl 2 rfl) ?_
          refine va_get (D := dg) (ci := 11) (v := .int (zI ((sayN (M 5) (M 8 12) 10 (M 8 14) (M 8 11) (lnZ 10).toNat).1))) (C := RX9) (T := TX9) (N := 23) hx hb htg inG_X9 hown hK hP 0 rfl rfl 22 (Nat.le_of_ble_eq_true rfl) (htg _ wq_1579) (fun _ h9 => h9) rfl dX9_number_71 ?_
          refine x_if_ne (tgt := 82) hx hb dX9_number_74 (by decide) (by omega) (fun c74 => ?_) (fun c74 => ?_)
          · refine x_iconst hx hb dX9_number_82 ?_
            refine lv_goto (tgt := 87) hx hb dX9_number_83 (by decide) ?_
            refine va_put (D := dg) (ci := 11) (v := .int (zI 1)) (ty := .boolean) (C := RX9) (T := TX9) (N := 23) hx hb htg inG_X9 tyX9 tyX9_ok nmX9 hown hK hP hD hS 0 rfl rfl 22 (Nat.le_of_ble_eq_true rfl) (htg _ wq_1579) (fun _ h9 => h9) rfl (by decide +kernel) rfl rfl (Nat.le_of_ble_eq_true rfl) dX9_number_87 (fun H locs hP hD hS => ?_)
            have hP : va_P dg vwCl (modelC ck mo (encZ S) F1 F2 F3 F4 (upS (upS (upS M 8 14 ((sayN (M 5) (M 8 12) 10 (M 8 14) (M 8 11) (lnZ 10).toNat).1)) 8 11 (((sayN (M 5) (M 8 12) 10 (M 8 14) (M 8 11) (lnZ 10).toNat).2) + 1)) 8 14 1)) H := hP
            have hD : va_D A (modelC ck mo (encZ S) F1 F2 F3 F4 (upS (upS (upS M 8 14 ((sayN (M 5) (M 8 12) 10 (M 8 14) (M 8 11) (lnZ 10).toNat).1)) 8 11 (((sayN (M 5) (M 8 12) 10 (M 8 14) (M 8 11) (lnZ 10).toNat).2) + 1)) 8 14 1)) := hD
            have hCe : (upS (upS M 8 14 1) 8 11 (((sayN (M 5) (M 8 12) 10 (M 8 14) (M 8 11) (lnZ 10).toNat).2) + 1)) = (upS (upS (upS M 8 14 ((sayN (M 5) (M 8 12) 10 (M 8 14) (M 8 11) (lnZ 10).toNat).1)) 8 11 (((sayN (M 5) (M 8 12) 10 (M 8 14) (M 8 11) (lnZ 10).toNat).2) + 1)) 8 14 1) := nrm2
            have hP : va_P dg vwCl (modelC ck mo (encZ S) F1 F2 F3 F4 (upS (upS M 8 14 1) 8 11 (((sayN (M 5) (M 8 12) 10 (M 8 14) (M 8 11) (lnZ 10).toNat).2) + 1))) _ := va_P_eq (by rw [hCe]) hP
            have hD : va_D A (modelC ck mo (encZ S) F1 F2 F3 F4 (upS (upS M 8 14 1) 8 11 (((sayN (M 5) (M 8 12) 10 (M 8 14) (M 8 11) (lnZ 10).toNat).2) + 1))) := va_D_eq (by rw [hCe]) hD
            refine lv_aload_n hx hb dX9_number_90 rfl (lv_at hl 2 rfl) ?_
            refine va_get (D := dg) (ci := 11) (v := .ref (mo 7)) (C := RX9) (T := TX9) (N := 23) hx hb htg inG_X9 hown hK hP 0 rfl rfl 9 (Nat.le_of_ble_eq_true rfl) (htg _ wq_1566) (fun _ h9 => h9) rfl dX9_number_91 ?_
            refine x_iconst hx hb dX9_number_94 ?_
            refine lv_aload_n hx hb dX9_number_95 rfl (lv_at hl 2 rfl) ?_
            refine va_get (D := dg) (ci := 11) (v := .int (zI (M 8 13))) (C := RX9) (T := TX9) (N := 23) hx hb htg inG_X9 hown hK hP 0 rfl rfl 21 (Nat.le_of_ble_eq_true rfl) (htg _ wq_1578) (fun _ h9 => h9) rfl dX9_number_96 ?_
            refine x_imul hx hb dX9_number_99 ?_
            refine lv_iload_n hx hb dX9_number_100 rfl (lv_at hl 3 rfl) ?_
            refine x_iadd hx hb dX9_number_101 ?_
            refine lv_iload_n hx hb dX9_number_102 rfl (lv_at hl 1 rfl) ?_
            refine x_iast (ws' := modelC ck mo (encZ S) F1 F2 F3 F4 (upS (upS (upS M 8 14 1) 8 11 (((sayN (M 5) (M 8 12) 10 (M 8 14) (M 8 11) (lnZ 10).toNat).2) + 1)) 6 ((4 * (M 8 13)) + k) (((10 * 0) + (chA (M 5) (M 8 12) ((sayN (M 5) (M 8 12) 10 (M 8 14) (M 8 11) (lnZ 10).toNat).2))) - 48))) hx hb hK hP hD hS 7 0 rfl rfl (by decide) (by omega) (by rw [zM_up (by omega)]; rfl) dX9_number_103 (fun H locs hP hD hS => ?_)
            have hc : numZ (M 5) (M 8 12) (M 8 14) (M 8 11) d = (1, (((sayN (M 5) (M 8 12) 10 (M 8 14) (M 8 11) (lnZ 10).toNat).2) + 1), (((10 * 0) + (chA (M 5) (M 8 12) ((sayN (M 5) (M 8 12) 10 (M 8 14) (M 8 11) (lnZ 10).toNat).2))) - 48)) := by first | (exfalso; omega) | (unfold numZ; dsimp only; (repeat (first | rw [if_pos (by omega)] | rw [if_neg (by omega)])))
            have hEq : modelC ck mo (encZ S) F1 F2 F3 F4 (upS (upS (upS M 8 14 (numZ (M 5) (M 8 12) (M 8 14) (M 8 11) d).1) 8 11 (numZ (M 5) (M 8 12) (M 8 14) (M 8 11) d).2.1) 6 (4 * M 8 13 + k) (numZ (M 5) (M 8 12) (M 8 14) (M 8 11) d).2.2) = modelC ck mo (encZ S) F1 F2 F3 F4 (upS (upS (upS M 8 14 1) 8 11 (((sayN (M 5) (M 8 12) 10 (M 8 14) (M 8 11) (lnZ 10).toNat).2) + 1)) 6 ((4 * (M 8 13)) + k) (((10 * 0) + (chA (M 5) (M 8 12) ((sayN (M 5) (M 8 12) 10 (M 8 14) (M 8 11) (lnZ 10).toNat).2))) - 48)) := (by rw [hc] <;> rfl)
            exact W.vret hx hb hr (fun t9 ht9 hW9 => ⟨⟨(), rfl, trivial, by rw [ht9, hEq]; exact hP, by rw [hEq, hAe]; exact hD⟩, hS.F ht9⟩) hS.2.2 dX9_number_104
          · refine lv_iload hx hb dX9_number_77 (lv_at hl 0 rfl) ?_
            refine x_if_ne (tgt := 86) hx hb dX9_number_79 (by decide) (by omega) (fun c79 => ?_) (fun c79 => absurd c79 (by decide))
            refine x_iconst hx hb dX9_number_86 ?_
            refine va_put (D := dg) (ci := 11) (v := .int (zI 0)) (ty := .boolean) (C := RX9) (T := TX9) (N := 23) hx hb htg inG_X9 tyX9 tyX9_ok nmX9 hown hK hP hD hS 0 rfl rfl 22 (Nat.le_of_ble_eq_true rfl) (htg _ wq_1579) (fun _ h9 => h9) rfl (by decide +kernel) rfl rfl (Nat.le_of_ble_eq_true rfl) dX9_number_87 (fun H locs hP hD hS => ?_)
            have hP : va_P dg vwCl (modelC ck mo (encZ S) F1 F2 F3 F4 (upS (upS (upS M 8 14 ((sayN (M 5) (M 8 12) 10 (M 8 14) (M 8 11) (lnZ 10).toNat).1)) 8 11 (((sayN (M 5) (M 8 12) 10 (M 8 14) (M 8 11) (lnZ 10).toNat).2) + 1)) 8 14 0)) H := hP
            have hD : va_D A (modelC ck mo (encZ S) F1 F2 F3 F4 (upS (upS (upS M 8 14 ((sayN (M 5) (M 8 12) 10 (M 8 14) (M 8 11) (lnZ 10).toNat).1)) 8 11 (((sayN (M 5) (M 8 12) 10 (M 8 14) (M 8 11) (lnZ 10).toNat).2) + 1)) 8 14 0)) := hD
            have hCe : (upS (upS M 8 14 0) 8 11 (((sayN (M 5) (M 8 12) 10 (M 8 14) (M 8 11) (lnZ 10).toNat).2) + 1)) = (upS (upS (upS M 8 14 ((sayN (M 5) (M 8 12) 10 (M 8 14) (M 8 11) (lnZ 10).toNat).1)) 8 11 (((sayN (M 5) (M 8 12) 10 (M 8 14) (M 8 11) (lnZ 10).toNat).2) + 1)) 8 14 0) := nrm2
            have hP : va_P dg vwCl (modelC ck mo (encZ S) F1 F2 F3 F4 (upS (upS M 8 14 0) 8 11 (((sayN (M 5) (M 8 12) 10 (M 8 14) (M 8 11) (lnZ 10).toNat).2) + 1))) _ := va_P_eq (by rw [hCe]) hP
            have hD : va_D A (modelC ck mo (encZ S) F1 F2 F3 F4 (upS (upS M 8 14 0) 8 11 (((sayN (M 5) (M 8 12) 10 (M 8 14) (M 8 11) (lnZ 10).toNat).2) + 1))) := va_D_eq (by rw [hCe]) hD
            refine lv_aload_n hx hb dX9_number_90 rfl (lv_at hl 2 rfl) ?_
            refine va_get (D := dg) (ci := 11) (v := .ref (mo 7)) (C := RX9) (T := TX9) (N := 23) hx hb htg inG_X9 hown hK hP 0 rfl rfl 9 (Nat.le_of_ble_eq_true rfl) (htg _ wq_1566) (fun _ h9 => h9) rfl dX9_number_91 ?_
            refine x_iconst hx hb dX9_number_94 ?_
            refine lv_aload_n hx hb dX9_number_95 rfl (lv_at hl 2 rfl) ?_
            refine va_get (D := dg) (ci := 11) (v := .int (zI (M 8 13))) (C := RX9) (T := TX9) (N := 23) hx hb htg inG_X9 hown hK hP 0 rfl rfl 21 (Nat.le_of_ble_eq_true rfl) (htg _ wq_1578) (fun _ h9 => h9) rfl dX9_number_96 ?_
            refine x_imul hx hb dX9_number_99 ?_
            refine lv_iload_n hx hb dX9_number_100 rfl (lv_at hl 3 rfl) ?_
            refine x_iadd hx hb dX9_number_101 ?_
            refine lv_iload_n hx hb dX9_number_102 rfl (lv_at hl 1 rfl) ?_
            refine x_iast (ws' := modelC ck mo (encZ S) F1 F2 F3 F4 (upS (upS (upS M 8 14 0) 8 11 (((sayN (M 5) (M 8 12) 10 (M 8 14) (M 8 11) (lnZ 10).toNat).2) + 1)) 6 ((4 * (M 8 13)) + k) (((10 * 0) + (chA (M 5) (M 8 12) ((sayN (M 5) (M 8 12) 10 (M 8 14) (M 8 11) (lnZ 10).toNat).2))) - 48))) hx hb hK hP hD hS 7 0 rfl rfl (by decide) (by omega) (by rw [zM_up (by omega)]; rfl) dX9_number_103 (fun H locs hP hD hS => ?_)
            have hc : numZ (M 5) (M 8 12) (M 8 14) (M 8 11) d = (0, (((sayN (M 5) (M 8 12) 10 (M 8 14) (M 8 11) (lnZ 10).toNat).2) + 1), (((10 * 0) + (chA (M 5) (M 8 12) ((sayN (M 5) (M 8 12) 10 (M 8 14) (M 8 11) (lnZ 10).toNat).2))) - 48)) := by first | (exfalso; omega) | (unfold numZ; dsimp only; (repeat (first | rw [if_pos (by omega)] | rw [if_neg (by omega)])))
            have hEq : modelC ck mo (encZ S) F1 F2 F3 F4 (upS (upS (upS M 8 14 (numZ (M 5) (M 8 12) (M 8 14) (M 8 11) d).1) 8 11 (numZ (M 5) (M 8 12) (M 8 14) (M 8 11) d).2.1) 6 (4 * M 8 13 + k) (numZ (M 5) (M 8 12) (M 8 14) (M 8 11) d).2.2) = modelC ck mo (encZ S) F1 F2 F3 F4 (upS (upS (upS M 8 14 0) 8 11 (((sayN (M 5) (M 8 12) 10 (M 8 14) (M 8 11) (lnZ 10).toNat).2) + 1)) 6 ((4 * (M 8 13)) + k) (((10 * 0) + (chA (M 5) (M 8 12) ((sayN (M 5) (M 8 12) 10 (M 8 14) (M 8 11) (lnZ 10).toNat).2))) - 48)) := (by rw [hc] <;> rfl)
            exact W.vret hx hb hr (fun t9 ht9 hW9 => ⟨⟨(), rfl, trivial, by rw [ht9, hEq]; exact hP, by rw [hEq, hAe]; exact hD⟩, hS.F ht9⟩) hS.2.2 dX9_number_104
        · refine lv_iload hx hb dX9_number_18 (lv_at hl 0 rfl) ?_
          refine lv_iload_n hx hb dX9_number_20 rfl (lv_at hl 4 rfl) ?_
          refine x_icmp_ge (tgt := 69) hx hb dX9_number_21 (by decide) (by omega) (by omega) (fun c21 => ?_) (fun c21 => ?_)
          · refine lv_aload_n hx hb dX9_number_69 rfl (lv_at hl 2 rfl) ?_
            refine lv_aload_n hx hb dX9_number_70 rfl (lv_at hl 2 rfl) ?_
            refine va_get (D := dg) (ci := 11) (v := .int (zI ((sayN (M 5) (M 8 12) 10 (M 8 14) (M 8 11) (lnZ 10).toNat).1))) (C := RX9) (T := TX9) (N := 23) hx hb htg inG_X9 hown hK hP 0 rfl rfl 22 (Nat.le_of_ble_eq_true rfl) (htg _ wq_1579) (fun _ h9 => h9) rfl dX9_number_71 ?_
            refine x_if_ne (tgt := 82) hx hb dX9_number_74 (by decide) (by omega) (fun c74 => ?_) (fun c74 => ?_)
            · refine x_iconst hx hb dX9_number_82 ?_
              refine lv_goto (tgt := 87) hx hb dX9_number_83 (by decide) ?_
              refine va_put (D := dg) (ci := 11) (v := .int (zI 1)) (ty := .boolean) (C := RX9) (T := TX9) (N := 23) hx hb htg inG_X9 tyX9 tyX9_ok nmX9 hown hK hP hD hS 0 rfl rfl 22 (Nat.le_of_ble_eq_true rfl) (htg _ wq_1579) (fun _ h9 => h9) rfl (by decide +kernel) rfl rfl (Nat.le_of_ble_eq_true rfl) dX9_number_87 (fun H locs hP hD hS => ?_)
              have hP : va_P dg vwCl (modelC ck mo (encZ S) F1 F2 F3 F4 (upS (upS (upS M 8 14 ((sayN (M 5) (M 8 12) 10 (M 8 14) (M 8 11) (lnZ 10).toNat).1)) 8 11 (((sayN (M 5) (M 8 12) 10 (M 8 14) (M 8 11) (lnZ 10).toNat).2) + 1)) 8 14 1)) H := hP
              have hD : va_D A (modelC ck mo (encZ S) F1 F2 F3 F4 (upS (upS (upS M 8 14 ((sayN (M 5) (M 8 12) 10 (M 8 14) (M 8 11) (lnZ 10).toNat).1)) 8 11 (((sayN (M 5) (M 8 12) 10 (M 8 14) (M 8 11) (lnZ 10).toNat).2) + 1)) 8 14 1)) := hD
              have hCe : (upS (upS M 8 14 1) 8 11 (((sayN (M 5) (M 8 12) 10 (M 8 14) (M 8 11) (lnZ 10).toNat).2) + 1)) = (upS (upS (upS M 8 14 ((sayN (M 5) (M 8 12) 10 (M 8 14) (M 8 11) (lnZ 10).toNat).1)) 8 11 (((sayN (M 5) (M 8 12) 10 (M 8 14) (M 8 11) (lnZ 10).toNat).2) + 1)) 8 14 1) := nrm2
              have hP : va_P dg vwCl (modelC ck mo (encZ S) F1 F2 F3 F4 (upS (upS M 8 14 1) 8 11 (((sayN (M 5) (M 8 12) 10 (M 8 14) (M 8 11) (lnZ 10).toNat).2) + 1))) _ := va_P_eq (by rw [hCe]) hP
              have hD : va_D A (modelC ck mo (encZ S) F1 F2 F3 F4 (upS (upS M 8 14 1) 8 11 (((sayN (M 5) (M 8 12) 10 (M 8 14) (M 8 11) (lnZ 10).toNat).2) + 1))) := va_D_eq (by rw [hCe]) hD
              refine lv_aload_n hx hb dX9_number_90 rfl (lv_at hl 2 rfl) ?_
              refine va_get (D := dg) (ci := 11) (v := .ref (mo 7)) (C := RX9) (T := TX9) (N := 23) hx hb htg inG_X9 hown hK hP 0 rfl rfl 9 (Nat.le_of_ble_eq_true rfl) (htg _ wq_1566) (fun _ h9 => h9) rfl dX9_number_91 ?_
              refine x_iconst hx hb dX9_number_94 ?_
              refine lv_aload_n hx hb dX9_number_95 rfl (lv_at hl 2 rfl) ?_
              refine va_get (D := dg) (ci := 11) (v := .int (zI (M 8 13))) (C := RX9) (T := TX9) (N := 23) hx hb htg inG_X9 hown hK hP 0 rfl rfl 21 (Nat.le_of_ble_eq_true rfl) (htg _ wq_1578) (fun _ h9 => h9) rfl dX9_number_96 ?_
              refine x_imul hx hb dX9_number_99 ?_
              refine lv_iload_n hx hb dX9_number_100 rfl (lv_at hl 3 rfl) ?_
              refine x_iadd hx hb dX9_number_101 ?_
              refine lv_iload_n hx hb dX9_number_102 rfl (lv_at hl 1 rfl) ?_
              refine x_iast (ws' := modelC ck mo (encZ S) F1 F2 F3 F4 (upS (upS (upS M 8 14 1) 8 11 (((sayN (M 5) (M 8 12) 10 (M 8 14) (M 8 11) (lnZ 10).toNat).2) + 1)) 6 ((4 * (M 8 13)) + k) (((10 * 0) + (chA (M 5) (M 8 12) ((sayN (M 5) (M 8 12) 10 (M 8 14) (M 8 11) (lnZ 10).toNat).2))) - 48))) hx hb hK hP hD hS 7 0 rfl rfl (by decide) (by omega) (by rw [zM_up (by omega)]; rfl) dX9_number_103 (fun H locs hP hD hS => ?_)
              have hc : numZ (M 5) (M 8 12) (M 8 14) (M 8 11) d = (1, (((sayN (M 5) (M 8 12) 10 (M 8 14) (M 8 11) (lnZ 10).toNat).2) + 1), (((10 * 0) + (chA (M 5) (M 8 12) ((sayN (M 5) (M 8 12) 10 (M 8 14) (M 8 11) (lnZ 10).toNat).2))) - 48)) := by first | (exfalso; omega) | (unfold numZ; dsimp only; (repeat (first | rw [if_pos (by omega)] | rw [if_neg (by omega)])))
              have hEq : modelC ck mo (encZ S) F1 F2 F3 F4 (upS (upS (upS M 8 14 (numZ (M 5) (M 8 12) (M 8 14) (M 8 11) d).1) 8 11 (numZ (M 5) (M 8 12) (M 8 14) (M 8 11) d).2.1) 6 (4 * M 8 13 + k) (numZ (M 5) (M 8 12) (M 8 14) (M 8 11) d).2.2) = modelC ck mo (encZ S) F1 F2 F3 F4 (upS (upS (upS M 8 14 1) 8 11 (((sayN (M 5) (M 8 12) 10 (M 8 14) (M 8 11) (lnZ 10).toNat).2) + 1)) 6 ((4 * (M 8 13)) + k) (((10 * 0) + (chA (M 5) (M 8 12) ((sayN (M 5) (M 8 12) 10 (M 8 14) (M 8 11) (lnZ 10).toNat).2))) - 48)) := (by rw [hc] <;> rfl)
              exact W.vret hx hb hr (fun t9 ht9 hW9 => ⟨⟨(), rfl, trivial, by rw [ht9, hEq]; exact hP, by rw [hEq, hAe]; exact hD⟩, hS.F ht9⟩) hS.2.2 dX9_number_104
            · refine lv_iload hx hb dX9_number_77 (lv_at hl 0 rfl) ?_
              refine x_if_ne (tgt := 86) hx hb dX9_number_79 (by decide) (by omega) (fun c79 => ?_) (fun c79 => absurd c79 (by decide))
              refine x_iconst hx hb dX9_number_86 ?_
              refine va_put (D := dg) (ci := 11) (v := .int (zI 0)) (ty := .boolean) (C := RX9) (T := TX9) (N := 23) hx hb htg inG_X9 tyX9 tyX9_ok nmX9 hown hK hP hD hS 0 rfl rfl 22 (Nat.le_of_ble_eq_true rfl) (htg _ wq_1579) (fun _ h9 => h9) rfl (by decide +kernel) rfl rfl (Nat.le_of_ble_eq_true rfl) dX9_number_87 (fun H locs hP hD hS => ?_)
              have hP : va_P dg vwCl (modelC ck mo (encZ S) F1 F2 F3 F4 (upS (upS (upS M 8 14 ((sayN (M 5) (M 8 12) 10 (M 8 14) (M 8 11) (lnZ 10).toNat).1)) 8 11 (((sayN (M 5) (M 8 12) 10 (M 8 14) (M 8 11) (lnZ 10).toNat).2) + 1)) 8 14 0)) H := hP
              have hD : va_D A (modelC ck mo (encZ S) F1 F2 F3 F4 (upS (upS (upS M 8 14 ((sayN (M 5) (M 8 12) 10 (M 8 14) (M 8 11) (lnZ 10).toNat).1)) 8 11 (((sayN (M 5) (M 8 12) 10 (M 8 14) (M 8 11) (lnZ 10).toNat).2) + 1)) 8 14 0)) := hD
              have hCe : (upS (upS M 8 14 0) 8 11 (((sayN (M 5) (M 8 12) 10 (M 8 14) (M 8 11) (lnZ 10).toNat).2) + 1)) = (upS (upS (upS M 8 14 ((sayN (M 5) (M 8 12) 10 (M 8 14) (M 8 11) (lnZ 10).toNat).1)) 8 11 (((sayN (M 5) (M 8 12) 10 (M 8 14) (M 8 11) (lnZ 10).toNat).2) + 1)) 8 14 0) := nrm2
              have hP : va_P dg vwCl (modelC ck mo (encZ S) F1 F2 F3 F4 (upS (upS M 8 14 0) 8 11 (((sayN (M 5) (M 8 12) 10 (M 8 14) (M 8 11) (lnZ 10).toNat).2) + 1))) _ := va_P_eq (by rw [hCe]) hP
              have hD : va_D A (modelC ck mo (encZ S) F1 F2 F3 F4 (upS (upS M 8 14 0) 8 11 (((sayN (M 5) (M 8 12) 10 (M 8 14) (M 8 11) (lnZ 10).toNat).2) + 1))) := va_D_eq (by rw [hCe]) hD
              refine lv_aload_n hx hb dX9_number_90 rfl (lv_at hl 2 rfl) ?_
              refine va_get (D := dg) (ci := 11) (v := .ref (mo 7)) (C := RX9) (T := TX9) (N := 23) hx hb htg inG_X9 hown hK hP 0 rfl rfl 9 (Nat.le_of_ble_eq_true rfl) (htg _ wq_1566) (fun _ h9 => h9) rfl dX9_number_91 ?_
              refine x_iconst hx hb dX9_number_94 ?_
              refine lv_aload_n hx hb dX9_number_95 rfl (lv_at hl 2 rfl) ?_
              refine va_get (D := dg) (ci := 11) (v := .int (zI (M 8 13))) (C := RX9) (T := TX9) (N := 23) hx hb htg inG_X9 hown hK hP 0 rfl rfl 21 (Nat.le_of_ble_eq_true rfl) (htg _ wq_1578) (fun _ h9 => h9) rfl dX9_number_96 ?_
              refine x_imul hx hb dX9_number_99 ?_
              refine lv_iload_n hx hb dX9_number_100 rfl (lv_at hl 3 rfl) ?_
              refine x_iadd hx hb dX9_number_101 ?_
              refine lv_iload_n hx hb dX9_number_102 rfl (lv_at hl 1 rfl) ?_
              refine x_iast (ws' := modelC ck mo (encZ S) F1 F2 F3 F4 (upS (upS (upS M 8 14 0) 8 11 (((sayN (M 5) (M 8 12) 10 (M 8 14) (M 8 11) (lnZ 10).toNat).2) + 1)) 6 ((4 * (M 8 13)) + k) (((10 * 0) + (chA (M 5) (M 8 12) ((sayN (M 5) (M 8 12) 10 (M 8 14) (M 8 11) (lnZ 10).toNat).2))) - 48))) hx hb hK hP hD hS 7 0 rfl rfl (by decide) (by omega) (by rw [zM_up (by omega)]; rfl) dX9_number_103 (fun H locs hP hD hS => ?_)
              have hc : numZ (M 5) (M 8 12) (M 8 14) (M 8 11) d = (0, (((sayN (M 5) (M 8 12) 10 (M 8 14) (M 8 11) (lnZ 10).toNat).2) + 1), (((10 * 0) + (chA (M 5) (M 8 12) ((sayN (M 5) (M 8 12) 10 (M 8 14) (M 8 11) (lnZ 10).toNat).2))) - 48)) := by first | (exfalso; omega) | (unfold numZ; dsimp only; (repeat (first | rw [if_pos (by omega)] | rw [if_neg (by omega)])))
              have hEq : modelC ck mo (encZ S) F1 F2 F3 F4 (upS (upS (upS M 8 14 (numZ (M 5) (M 8 12) (M 8 14) (M 8 11) d).1) 8 11 (numZ (M 5) (M 8 12) (M 8 14) (M 8 11) d).2.1) 6 (4 * M 8 13 + k) (numZ (M 5) (M 8 12) (M 8 14) (M 8 11) d).2.2) = modelC ck mo (encZ S) F1 F2 F3 F4 (upS (upS (upS M 8 14 0) 8 11 (((sayN (M 5) (M 8 12) 10 (M 8 14) (M 8 11) (lnZ 10).toNat).2) + 1)) 6 ((4 * (M 8 13)) + k) (((10 * 0) + (chA (M 5) (M 8 12) ((sayN (M 5) (M 8 12) 10 (M 8 14) (M 8 11) (lnZ 10).toNat).2))) - 48)) := (by rw [hc] <;> rfl)
              exact W.vret hx hb hr (fun t9 ht9 hW9 => ⟨⟨(), rfl, trivial, by rw [ht9, hEq]; exact hP, by rw [hEq, hAe]; exact hD⟩, hS.F ht9⟩) hS.2.2 dX9_number_104
          · have hca := chA_r htx hp0.2.2 (z := (((sayN (M 5) (M 8 12) 10 (M 8 14) (M 8 11) (lnZ 10).toNat).2) + 1)) (by omega)
            refine lv_aload_n hx hb dX9_number_24 rfl (lv_at hl 2 rfl) ?_
            refine x_iconst hx hb dX9_number_25 ?_
            refine vp_callSi (W.runV (As := [.int (zI 0)]) (rest := []) ⟨hx, hb, hml, hown, htg⟩ (m_here l dg ck mo S F1 F2 F3 F4 (upS (upS M 8 14 ((sayN (M 5) (M 8 12) 10 (M 8 14) (M 8 11) (lnZ 10).toNat).1)) 8 11 (((sayN (M 5) (M 8 12) 10 (M 8 14) (M 8 11) (lnZ 10).toNat).2) + 1)) 0 (by omega) (show 0 ≤ (((sayN (M 5) (M 8 12) 10 (M 8 14) (M 8 11) (lnZ 10).toNat).2) + 1) ∧ (((sayN (M 5) (M 8 12) 10 (M 8 14) (M 8 11) (lnZ 10).toNat).2) + 1) ≤ (M 8 12) ∧ (M 8 12) ≤ 60 by omega)) (cwV 1 htg (gwV wq_2038 wq_2040 wp_74 wq_15 wq_2041) rfl rfl rfl (by decide +kernel) ⟨Nat.le_of_ble_eq_true rfl, Nat.le_of_ble_eq_true rfl⟩) (rd_preV hK hP 0 11 rfl rfl) rfl rfl hl.1 rfl (lv_room (Nat.le_of_ble_eq_true rfl)) dX9_number_26 ⟨Nat.zero_le _, Nat.zero_le _⟩) (fun r26 hr26 => ?_)
            subst hr26
            refine x_is (show (chA ((upS (upS M 8 14 ((sayN (M 5) (M 8 12) 10 (M 8 14) (M 8 11) (lnZ 10).toNat).1)) 8 11 (((sayN (M 5) (M 8 12) 10 (M 8 14) (M 8 11) (lnZ 10).toNat).2) + 1)) 5) ((upS (upS M 8 14 ((sayN (M 5) (M 8 12) 10 (M 8 14) (M 8 11) (lnZ 10).toNat).1)) 8 11 (((sayN (M 5) (M 8 12) 10 (M 8 14) (M 8 11) (lnZ 10).toNat).2) + 1)) 8 12) ((upS (upS M 8 14 ((sayN (M 5) (M 8 12) 10 (M 8 14) (M 8 11) (lnZ 10).toNat).1)) 8 11 (((sayN (M 5) (M 8 12) 10 (M 8 14) (M 8 11) (lnZ 10).toNat).2) + 1)) 8 11 + 0)) = (chA (M 5) (M 8 12) (((sayN (M 5) (M 8 12) 10 (M 8 14) (M 8 11) (lnZ 10).toNat).2) + 1)) from (congrArg (chA (M 5) (M 8 12)) (Int.add_zero (((sayN (M 5) (M 8 12) 10 (M 8 14) (M 8 11) (lnZ 10).toNat).2) + 1)))) ?_
            refine x_bipush hx hb dX9_number_29 (by decide) ?_
            refine x_bipush hx hb dX9_number_31 (by decide) ?_
            refine vp_callSi (W.runS (As := [.int (zI (chA (M 5) (M 8 12) (((sayN (M 5) (M 8 12) 10 (M 8 14) (M 8 11) (lnZ 10).toNat).2) + 1))), .int (zI 48), .int (zI 57)]) (rest := []) ⟨hx, hb, hml, hown, htg⟩ (m_in l dg ck (chA (M 5) (M 8 12) (((sayN (M 5) (M 8 12) 10 (M 8 14) (M 8 11) (lnZ 10).toNat).2) + 1)) 48 57 (by omega) (by omega) (by omega)) (cwS 3 htg (gwS wq_1646 wq_1647 wq_15 wq_1648) rfl rfl rfl (by decide +kernel) ⟨Nat.le_of_ble_eq_true rfl, Nat.le_of_ble_eq_true rfl⟩) (rd_preS hK va_P_nil) rfl rfl hl.1 rfl (lv_room (Nat.le_of_ble_eq_true rfl)) dX9_number_33 ⟨Nat.zero_le _, Nat.zero_le _⟩) (fun r33 hr33 => ?_)
            subst hr33
            refine x_bz_eq (tgt := 69) hx hb dX9_number_36 (by decide) (fun c36 => ?_) (fun c36 => ?_)
            · refine lv_aload_n hx hb dX9_number_69 rfl (lv_at hl 2 rfl) ?_
              refine lv_aload_n hx hb dX9_number_70 rfl (lv_at hl 2 rfl) ?_
              refine va_get (D := dg) (ci := 11) (v := .int (zI ((sayN (M 5) (M 8 12) 10 (M 8 14) (M 8 11) (lnZ 10).toNat).1))) (C := RX9) (T := TX9) (N := 23) hx hb htg inG_X9 hown hK hP 0 rfl rfl 22 (Nat.le_of_ble_eq_true rfl) (htg _ wq_1579) (fun _ h9 => h9) rfl dX9_number_71 ?_
              refine x_if_ne (tgt := 82) hx hb dX9_number_74 (by decide) (by omega) (fun c74 => ?_) (fun c74 => ?_)
              · refine x_iconst hx hb dX9_number_82 ?_
                refine lv_goto (tgt := 87) hx hb dX9_number_83 (by decide) ?_
                refine va_put (D := dg) (ci := 11) (v := .int (zI 1)) (ty := .boolean) (C := RX9) (T := TX9) (N := 23) hx hb htg inG_X9 tyX9 tyX9_ok nmX9 hown hK hP hD hS 0 rfl rfl 22 (Nat.le_of_ble_eq_true rfl) (htg _ wq_1579) (fun _ h9 => h9) rfl (by decide +kernel) rfl rfl (Nat.le_of_ble_eq_true rfl) dX9_number_87 (fun H locs hP hD hS => ?_)
                have hP : va_P dg vwCl (modelC ck mo (encZ S) F1 F2 F3 F4 (upS (upS (upS M 8 14 ((sayN (M 5) (M 8 12) 10 (M 8 14) (M 8 11) (lnZ 10).toNat).1)) 8 11 (((sayN (M 5) (M 8 12) 10 (M 8 14) (M 8 11) (lnZ 10).toNat).2) + 1)) 8 14 1)) H := hP
                have hD : va_D A (modelC ck mo (encZ S) F1 F2 F3 F4 (upS (upS (upS M 8 14 ((sayN (M 5) (M 8 12) 10 (M 8 14) (M 8 11) (lnZ 10).toNat).1)) 8 11 (((sayN (M 5) (M 8 12) 10 (M 8 14) (M 8 11) (lnZ 10).toNat).2) + 1)) 8 14 1)) := hD
                have hCe : (upS (upS M 8 14 1) 8 11 (((sayN (M 5) (M 8 12) 10 (M 8 14) (M 8 11) (lnZ 10).toNat).2) + 1)) = (upS (upS (upS M 8 14 ((sayN (M 5) (M 8 12) 10 (M 8 14) (M 8 11) (lnZ 10).toNat).1)) 8 11 (((sayN (M 5) (M 8 12) 10 (M 8 14) (M 8 11) (lnZ 10).toNat).2) + 1)) 8 14 1) := nrm2
                have hP : va_P dg vwCl (modelC ck mo (encZ S) F1 F2 F3 F4 (upS (upS M 8 14 1) 8 11 (((sayN (M 5) (M 8 12) 10 (M 8 14) (M 8 11) (lnZ 10).toNat).2) + 1))) _ := va_P_eq (by rw [hCe]) hP
                have hD : va_D A (modelC ck mo (encZ S) F1 F2 F3 F4 (upS (upS M 8 14 1) 8 11 (((sayN (M 5) (M 8 12) 10 (M 8 14) (M 8 11) (lnZ 10).toNat).2) + 1))) := va_D_eq (by rw [hCe]) hD
                refine lv_aload_n hx hb dX9_number_90 rfl (lv_at hl 2 rfl) ?_
                refine va_get (D := dg) (ci := 11) (v := .ref (mo 7)) (C := RX9) (T := TX9) (N := 23) hx hb htg inG_X9 hown hK hP 0 rfl rfl 9 (Nat.le_of_ble_eq_true rfl) (htg _ wq_1566) (fun _ h9 => h9) rfl dX9_number_91 ?_
                refine x_iconst hx hb dX9_number_94 ?_
                refine lv_aload_n hx hb dX9_number_95 rfl (lv_at hl 2 rfl) ?_
                refine va_get (D := dg) (ci := 11) (v := .int (zI (M 8 13))) (C := RX9) (T := TX9) (N := 23) hx hb htg inG_X9 hown hK hP 0 rfl rfl 21 (Nat.le_of_ble_eq_true rfl) (htg _ wq_1578) (fun _ h9 => h9) rfl dX9_number_96 ?_
                refine x_imul hx hb dX9_number_99 ?_
                refine lv_iload_n hx hb dX9_number_100 rfl (lv_at hl 3 rfl) ?_
                refine x_iadd hx hb dX9_number_101 ?_
                refine lv_iload_n hx hb dX9_number_102 rfl (lv_at hl 1 rfl) ?_
                refine x_iast (ws' := modelC ck mo (encZ S) F1 F2 F3 F4 (upS (upS (upS M 8 14 1) 8 11 (((sayN (M 5) (M 8 12) 10 (M 8 14) (M 8 11) (lnZ 10).toNat).2) + 1)) 6 ((4 * (M 8 13)) + k) (((10 * 0) + (chA (M 5) (M 8 12) ((sayN (M 5) (M 8 12) 10 (M 8 14) (M 8 11) (lnZ 10).toNat).2))) - 48))) hx hb hK hP hD hS 7 0 rfl rfl (by decide) (by omega) (by rw [zM_up (by omega)]; rfl) dX9_number_103 (fun H locs hP hD hS => ?_)
                have hc : numZ (M 5) (M 8 12) (M 8 14) (M 8 11) d = (1, (((sayN (M 5) (M 8 12) 10 (M 8 14) (M 8 11) (lnZ 10).toNat).2) + 1), (((10 * 0) + (chA (M 5) (M 8 12) ((sayN (M 5) (M 8 12) 10 (M 8 14) (M 8 11) (lnZ 10).toNat).2))) - 48)) := by first | (exfalso; omega) | (unfold numZ; dsimp only; (repeat (first | rw [if_pos (by omega)] | rw [if_neg (by omega)])))
                have hEq : modelC ck mo (encZ S) F1 F2 F3 F4 (upS (upS (upS M 8 14 (numZ (M 5) (M 8 12) (M 8 14) (M 8 11) d).1) 8 11 (numZ (M 5) (M 8 12) (M 8 14) (M 8 11) d).2.1) 6 (4 * M 8 13 + k) (numZ (M 5) (M 8 12) (M 8 14) (M 8 11) d).2.2) = modelC ck mo (encZ S) F1 F2 F3 F4 (upS (upS (upS M 8 14 1) 8 11 (((sayN (M 5) (M 8 12) 10 (M 8 14) (M 8 11) (lnZ 10).toNat).2) + 1)) 6 ((4 * (M 8 13)) + k) (((10 * 0) + (chA (M 5) (M 8 12) ((sayN (M 5) (M 8 12) 10 (M 8 14) (M 8 11) (lnZ 10).toNat).2))) - 48)) := (by rw [hc] <;> rfl)
                exact W.vret hx hb hr (fun t9 ht9 hW9 => ⟨⟨(), rfl, trivial, by rw [ht9, hEq]; exact hP, by rw [hEq, hAe]; exact hD⟩, hS.F ht9⟩) hS.2.2 dX9_number_104
              · refine lv_iload hx hb dX9_number_77 (lv_at hl 0 rfl) ?_
                refine x_if_ne (tgt := 86) hx hb dX9_number_79 (by decide) (by omega) (fun c79 => ?_) (fun c79 => absurd c79 (by decide))
                refine x_iconst hx hb dX9_number_86 ?_
                refine va_put (D := dg) (ci := 11) (v := .int (zI 0)) (ty := .boolean) (C := RX9) (T := TX9) (N := 23) hx hb htg inG_X9 tyX9 tyX9_ok nmX9 hown hK hP hD hS 0 rfl rfl 22 (Nat.le_of_ble_eq_true rfl) (htg _ wq_1579) (fun _ h9 => h9) rfl (by decide +kernel) rfl rfl (Nat.le_of_ble_eq_true rfl) dX9_number_87 (fun H locs hP hD hS => ?_)
                have hP : va_P dg vwCl (modelC ck mo (encZ S) F1 F2 F3 F4 (upS (upS (upS M 8 14 ((sayN (M 5) (M 8 12) 10 (M 8 14) (M 8 11) (lnZ 10).toNat).1)) 8 11 (((sayN (M 5) (M 8 12) 10 (M 8 14) (M 8 11) (lnZ 10).toNat).2) + 1)) 8 14 0)) H := hP
                have hD : va_D A (modelC ck mo (encZ S) F1 F2 F3 F4 (upS (upS (upS M 8 14 ((sayN (M 5) (M 8 12) 10 (M 8 14) (M 8 11) (lnZ 10).toNat).1)) 8 11 (((sayN (M 5) (M 8 12) 10 (M 8 14) (M 8 11) (lnZ 10).toNat).2) + 1)) 8 14 0)) := hD
                have hCe : (upS (upS M 8 14 0) 8 11 (((sayN (M 5) (M 8 12) 10 (M 8 14) (M 8 11) (lnZ 10).toNat).2) + 1)) = (upS (upS (upS M 8 14 ((sayN (M 5) (M 8 12) 10 (M 8 14) (M 8 11) (lnZ 10).toNat).1)) 8 11 (((sayN (M 5) (M 8 12) 10 (M 8 14) (M 8 11) (lnZ 10).toNat).2) + 1)) 8 14 0) := nrm2
                have hP : va_P dg vwCl (modelC ck mo (encZ S) F1 F2 F3 F4 (upS (upS M 8 14 0) 8 11 (((sayN (M 5) (M 8 12) 10 (M 8 14) (M 8 11) (lnZ 10).toNat).2) + 1))) _ := va_P_eq (by rw [hCe]) hP
                have hD : va_D A (modelC ck mo (encZ S) F1 F2 F3 F4 (upS (upS M 8 14 0) 8 11 (((sayN (M 5) (M 8 12) 10 (M 8 14) (M 8 11) (lnZ 10).toNat).2) + 1))) := va_D_eq (by rw [hCe]) hD
                refine lv_aload_n hx hb dX9_number_90 rfl (lv_at hl 2 rfl) ?_
                refine va_get (D := dg) (ci := 11) (v := .ref (mo 7)) (C := RX9) (T := TX9) (N := 23) hx hb htg inG_X9 hown hK hP 0 rfl rfl 9 (Nat.le_of_ble_eq_true rfl) (htg _ wq_1566) (fun _ h9 => h9) rfl dX9_number_91 ?_
                refine x_iconst hx hb dX9_number_94 ?_
                refine lv_aload_n hx hb dX9_number_95 rfl (lv_at hl 2 rfl) ?_
                refine va_get (D := dg) (ci := 11) (v := .int (zI (M 8 13))) (C := RX9) (T := TX9) (N := 23) hx hb htg inG_X9 hown hK hP 0 rfl rfl 21 (Nat.le_of_ble_eq_true rfl) (htg _ wq_1578) (fun _ h9 => h9) rfl dX9_number_96 ?_
                refine x_imul hx hb dX9_number_99 ?_
                refine lv_iload_n hx hb dX9_number_100 rfl (lv_at hl 3 rfl) ?_
                refine x_iadd hx hb dX9_number_101 ?_
                refine lv_iload_n hx hb dX9_number_102 rfl (lv_at hl 1 rfl) ?_
                refine x_iast (ws' := modelC ck mo (encZ S) F1 F2 F3 F4 (upS (upS (upS M 8 14 0) 8 11 (((sayN (M 5) (M 8 12) 10 (M 8 14) (M 8 11) (lnZ 10).toNat).2) + 1)) 6 ((4 * (M 8 13)) + k) (((10 * 0) + (chA (M 5) (M 8 12) ((sayN (M 5) (M 8 12) 10 (M 8 14) (M 8 11) (lnZ 10).toNat).2))) - 48))) hx hb hK hP hD hS 7 0 rfl rfl (by decide) (by omega) (by rw [zM_up (by omega)]; rfl) dX9_number_103 (fun H locs hP hD hS => ?_)
                have hc : numZ (M 5) (M 8 12) (M 8 14) (M 8 11) d = (0, (((sayN (M 5) (M 8 12) 10 (M 8 14) (M 8 11) (lnZ 10).toNat).2) + 1), (((10 * 0) + (chA (M 5) (M 8 12) ((sayN (M 5) (M 8 12) 10 (M 8 14) (M 8 11) (lnZ 10).toNat).2))) - 48)) := by first | (exfalso; omega) | (unfold numZ; dsimp only; (repeat (first | rw [if_pos (by omega)] | rw [if_neg (by omega)])))
                have hEq : modelC ck mo (encZ S) F1 F2 F3 F4 (upS (upS (upS M 8 14 (numZ (M 5) (M 8 12) (M 8 14) (M 8 11) d).1) 8 11 (numZ (M 5) (M 8 12) (M 8 14) (M 8 11) d).2.1) 6 (4 * M 8 13 + k) (numZ (M 5) (M 8 12) (M 8 14) (M 8 11) d).2.2) = modelC ck mo (encZ S) F1 F2 F3 F4 (upS (upS (upS M 8 14 0) 8 11 (((sayN (M 5) (M 8 12) 10 (M 8 14) (M 8 11) (lnZ 10).toNat).2) + 1)) 6 ((4 * (M 8 13)) + k) (((10 * 0) + (chA (M 5) (M 8 12) ((sayN (M 5) (M 8 12) 10 (M 8 14) (M 8 11) (lnZ 10).toNat).2))) - 48)) := (by rw [hc] <;> rfl)
                exact W.vret hx hb hr (fun t9 ht9 hW9 => ⟨⟨(), rfl, trivial, by rw [ht9, hEq]; exact hP, by rw [hEq, hAe]; exact hD⟩, hS.F ht9⟩) hS.2.2 dX9_number_104
            · have hdl := dgt_lt (show dgt (chA (M 5) (M 8 12) (((sayN (M 5) (M 8 12) 10 (M 8 14) (M 8 11) (lnZ 10).toNat).2) + 1)) by omega)
              refine x_bipush hx hb dX9_number_39 (by decide) ?_
              refine lv_iload_n hx hb dX9_number_41 rfl (lv_at hl 1 rfl) ?_
              refine x_imul hx hb dX9_number_42 ?_
              refine lv_aload_n hx hb dX9_number_43 rfl (lv_at hl 2 rfl) ?_
              refine x_iconst hx hb dX9_number_44 ?_
              refine vp_callSi (W.runV (As := [.int (zI 0)]) (rest := [.int (zI (10 * (((10 * 0) + (chA (M 5) (M 8 12) ((sayN (M 5) (M 8 12) 10 (M 8 14) (M 8 11) (lnZ 10).toNat).2))) - 48)))]) ⟨hx, hb, hml, hown, htg⟩ (m_here l dg ck mo S F1 F2 F3 F4 (upS (upS M 8 14 ((sayN (M 5) (M 8 12) 10 (M 8 14) (M 8 11) (lnZ 10).toNat).1)) 8 11 (((sayN (M 5) (M 8 12) 10 (M 8 14) (M 8 11) (lnZ 10).toNat).2) + 1)) 0 (by omega) (show 0 ≤ (((sayN (M 5) (M 8 12) 10 (M 8 14) (M 8 11) (lnZ 10).toNat).2) + 1) ∧ (((sayN (M 5) (M 8 12) 10 (M 8 14) (M 8 11) (lnZ 10).toNat).2) + 1) ≤ (M 8 12) ∧ (M 8 12) ≤ 60 by omega)) (cwV 1 htg (gwV wq_2038 wq_2040 wp_74 wq_15 wq_2041) rfl rfl rfl (by decide +kernel) ⟨Nat.le_of_ble_eq_true rfl, Nat.le_of_ble_eq_true rfl⟩) (rd_preV hK hP 0 11 rfl rfl) rfl rfl hl.1 rfl (lv_room (Nat.le_of_ble_eq_true rfl)) dX9_number_45 ⟨Nat.zero_le _, Nat.zero_le _⟩) (fun r45 hr45 => ?_)
              subst hr45
              refine x_is (show (chA ((upS (upS M 8 14 ((sayN (M 5) (M 8 12) 10 (M 8 14) (M 8 11) (lnZ 10).toNat).1)) 8 11 (((sayN (M 5) (M 8 12) 10 (M 8 14) (M 8 11) (lnZ 10).toNat).2) + 1)) 5) ((upS (upS M 8 14 ((sayN (M 5) (M 8 12) 10 (M 8 14) (M 8 11) (lnZ 10).toNat).1)) 8 11 (((sayN (M 5) (M 8 12) 10 (M 8 14) (M 8 11) (lnZ 10).toNat).2) + 1)) 8 12) ((upS (upS M 8 14 ((sayN (M 5) (M 8 12) 10 (M 8 14) (M 8 11) (lnZ 10).toNat).1)) 8 11 (((sayN (M 5) (M 8 12) 10 (M 8 14) (M 8 11) (lnZ 10).toNat).2) + 1)) 8 11 + 0)) = (chA (M 5) (M 8 12) (((sayN (M 5) (M 8 12) 10 (M 8 14) (M 8 11) (lnZ 10).toNat).2) + 1)) from (congrArg (chA (M 5) (M 8 12)) (Int.add_zero (((sayN (M 5) (M 8 12) 10 (M 8 14) (M 8 11) (lnZ 10).toNat).2) + 1)))) ?_
              refine x_iadd hx hb dX9_number_48 ?_
              refine x_bipush hx hb dX9_number_49 (by decide) ?_
              refine x_isub hx hb dX9_number_51 ?_
              refine lv_istore_n (lv' := [(3, .int (zI (((10 * (((10 * 0) + (chA (M 5) (M 8 12) ((sayN (M 5) (M 8 12) 10 (M 8 14) (M 8 11) (lnZ 10).toNat).2))) - 48)) + (chA (M 5) (M 8 12) (((sayN (M 5) (M 8 12) 10 (M 8 14) (M 8 11) (lnZ 10).toNat).2) + 1))) - 48))), (4, .int (zI 1)), (0, .ref (mo 0)), (1, .int (zI k)), (2, .int (zI d))]) hx hb dX9_number_52 rfl hl (by decide) rfl (fun ls hl => ?_)
              refine lv_aload_n hx hb dX9_number_53 rfl (lv_at hl 2 rfl) ?_
              refine lv_dup hx hb dX9_number_54 rfl ?_
              refine va_get (D := dg) (ci := 11) (v := .int (zI (((sayN (M 5) (M 8 12) 10 (M 8 14) (M 8 11) (lnZ 10).toNat).2) + 1))) (C := RX9) (T := TX9) (N := 23) hx hb htg inG_X9 hown hK hP 0 rfl rfl 19 (Nat.le_of_ble_eq_true rfl) (htg _ wq_1576) (fun _ h9 => h9) rfl dX9_number_55 ?_
              refine x_iconst hx hb dX9_number_58 ?_
              refine x_iadd hx hb dX9_number_59 ?_
              refine va_put (D := dg) (ci := 11) (v := .int (zI ((((sayN (M 5) (M 8 12) 10 (M 8 14) (M 8 11) (lnZ 10).toNat).2) + 1) + 1))) (ty := .int) (C := RX9) (T := TX9) (N := 23) hx hb htg inG_X9 tyX9 tyX9_ok nmX9 hown hK hP hD hS 0 rfl rfl 19 (Nat.le_of_ble_eq_true rfl) (htg _ wq_1576) (fun _ h9 => h9) rfl (by decide +kernel) rfl rfl (Nat.le_of_ble_eq_true rfl) dX9_number_60 (fun H locs hP hD hS => ?_)
              have hP : va_P dg vwCl (modelC ck mo (encZ S) F1 F2 F3 F4 (upS (upS (upS M 8 14 ((sayN (M 5) (M 8 12) 10 (M 8 14) (M 8 11) (lnZ 10).toNat).1)) 8 11 (((sayN (M 5) (M 8 12) 10 (M 8 14) (M 8 11) (lnZ 10).toNat).2) + 1)) 8 11 ((((sayN (M 5) (M 8 12) 10 (M 8 14) (M 8 11) (lnZ 10).toNat).2) + 1) + 1))) H := hP
              have hD : va_D A (modelC ck mo (encZ S) F1 F2 F3 F4 (upS (upS (upS M 8 14 ((sayN (M 5) (M 8 12) 10 (M 8 14) (M 8 11) (lnZ 10).toNat).1)) 8 11 (((sayN (M 5) (M 8 12) 10 (M 8 14) (M 8 11) (lnZ 10).toNat).2) + 1)) 8 11 ((((sayN (M 5) (M 8 12) 10 (M 8 14) (M 8 11) (lnZ 10).toNat).2) + 1) + 1))) := hD
              have hCe : (upS (upS M 8 14 ((sayN (M 5) (M 8 12) 10 (M 8 14) (M 8 11) (lnZ 10).toNat).1)) 8 11 ((((sayN (M 5) (M 8 12) 10 (M 8 14) (M 8 11) (lnZ 10).toNat).2) + 1) + 1)) = (upS (upS (upS M 8 14 ((sayN (M 5) (M 8 12) 10 (M 8 14) (M 8 11) (lnZ 10).toNat).1)) 8 11 (((sayN (M 5) (M 8 12) 10 (M 8 14) (M 8 11) (lnZ 10).toNat).2) + 1)) 8 11 ((((sayN (M 5) (M 8 12) 10 (M 8 14) (M 8 11) (lnZ 10).toNat).2) + 1) + 1)) := upS_up.symm
              have hP : va_P dg vwCl (modelC ck mo (encZ S) F1 F2 F3 F4 (upS (upS M 8 14 ((sayN (M 5) (M 8 12) 10 (M 8 14) (M 8 11) (lnZ 10).toNat).1)) 8 11 ((((sayN (M 5) (M 8 12) 10 (M 8 14) (M 8 11) (lnZ 10).toNat).2) + 1) + 1))) _ := va_P_eq (by rw [hCe]) hP
              have hD : va_D A (modelC ck mo (encZ S) F1 F2 F3 F4 (upS (upS M 8 14 ((sayN (M 5) (M 8 12) 10 (M 8 14) (M 8 11) (lnZ 10).toNat).1)) 8 11 ((((sayN (M 5) (M 8 12) 10 (M 8 14) (M 8 11) (lnZ 10).toNat).2) + 1) + 1))) := va_D_eq (by rw [hCe]) hD
              refine lv_iinc (v := zI 2) (lv' := [(4, .int (zI 2)), (3, .int (zI (((10 * (((10 * 0) + (chA (M 5) (M 8 12) ((sayN (M 5) (M 8 12) 10 (M 8 14) (M 8 11) (lnZ 10).toNat).2))) - 48)) + (chA (M 5) (M 8 12) (((sayN (M 5) (M 8 12) 10 (M 8 14) (M 8 11) (lnZ 10).toNat).2) + 1))) - 48))), (0, .ref (mo 0)), (1, .int (zI k)), (2, .int (zI d))]) hx hb dX9_number_63 hl (k := 1) rfl (by decide) (by decide) rfl (fun ls hl => ?_)
              refine lv_goto (tgt := 11) hx hb dX9_number_66 (by decide) ?_
              refine lv_aload_n hx hb dX9_number_11 rfl (lv_at hl 2 rfl) ?_
              refine va_get (D := dg) (ci := 11) (v := .int (zI ((sayN (M 5) (M 8 12) 10 (M 8 14) (M 8 11) (lnZ 10).toNat).1))) (C := RX9) (T := TX9) (N := 23) hx hb htg inG_X9 hown hK hP 0 rfl rfl 22 (Nat.le_of_ble_eq_true rfl) (htg _ wq_1579) (fun _ h9 => h9) rfl dX9_number_12 ?_
              refine x_if_ne (tgt := 69) hx hb dX9_number_15 (by decide) (by omega) (fun c15 => ?_) (fun c15 => ?_)
              · refine lv_aload_n hx hb dX9_number_69 rfl (lv_at hl 2 rfl) ?_
                refine lv_aload_n hx hb dX9_number_70 rfl (lv_at hl 2 rfl) ?_
                refine va_get (D := dg) (ci := 11) (v := .int (zI ((sayN (M 5) (M 8 12) 10 (M 8 14) (M 8 11) (lnZ 10).toNat).1))) (C := RX9) (T := TX9) (N := 23) hx hb htg inG_X9 hown hK hP 0 rfl rfl 22 (Nat.le_of_ble_eq_true rfl) (htg _ wq_1579) (fun _ h9 => h9) rfl dX9_number_71 ?_
                refine x_if_ne (tgt := 82) hx hb dX9_number_74 (by decide) (by omega) (fun c74 => ?_) (fun c74 => ?_)
                · refine x_iconst hx hb dX9_number_82 ?_
                  refine lv_goto (tgt := 87) hx hb dX9_number_83 (by decide) ?_
                  refine va_put (D := dg) (ci := 11) (v := .int (zI 1)) (ty := .boolean) (C := RX9) (T := TX9) (N := 23) hx hb htg inG_X9 tyX9 tyX9_ok nmX9 hown hK hP hD hS 0 rfl rfl 22 (Nat.le_of_ble_eq_true rfl) (htg _ wq_1579) (fun _ h9 => h9) rfl (by decide +kernel) rfl rfl (Nat.le_of_ble_eq_true rfl) dX9_number_87 (fun H locs hP hD hS => ?_)
                  have hP : va_P dg vwCl (modelC ck mo (encZ S) F1 F2 F3 F4 (upS (upS (upS M 8 14 ((sayN (M 5) (M 8 12) 10 (M 8 14) (M 8 11) (lnZ 10).toNat).1)) 8 11 ((((sayN (M 5) (M 8 12) 10 (M 8 14) (M 8 11) (lnZ 10).toNat).2) + 1) + 1)) 8 14 1)) H := hP
                  have hD : va_D A (modelC ck mo (encZ S) F1 F2 F3 F4 (upS (upS (upS M 8 14 ((sayN (M 5) (M 8 12) 10 (M 8 14) (M 8 11) (lnZ 10).toNat).1)) 8 11 ((((sayN (M 5) (M 8 12) 10 (M 8 14) (M 8 11) (lnZ 10).toNat).2) + 1) + 1)) 8 14 1)) := hD
                  have hCe : (upS (upS M 8 14 1) 8 11 ((((sayN (M 5) (M 8 12) 10 (M 8 14) (M 8 11) (lnZ 10).toNat).2) + 1) + 1)) = (upS (upS (upS M 8 14 ((sayN (M 5) (M 8 12) 10 (M 8 14) (M 8 11) (lnZ 10).toNat).1)) 8 11 ((((sayN (M 5) (M 8 12) 10 (M 8 14) (M 8 11) (lnZ 10).toNat).2) + 1) + 1)) 8 14 1) := nrm2
                  have hP : va_P dg vwCl (modelC ck mo (encZ S) F1 F2 F3 F4 (upS (upS M 8 14 1) 8 11 ((((sayN (M 5) (M 8 12) 10 (M 8 14) (M 8 11) (lnZ 10).toNat).2) + 1) + 1))) _ := va_P_eq (by rw [hCe]) hP
                  have hD : va_D A (modelC ck mo (encZ S) F1 F2 F3 F4 (upS (upS M 8 14 1) 8 11 ((((sayN (M 5) (M 8 12) 10 (M 8 14) (M 8 11) (lnZ 10).toNat).2) + 1) + 1))) := va_D_eq (by rw [hCe]) hD
                  refine lv_aload_n hx hb dX9_number_90 rfl (lv_at hl 2 rfl) ?_
                  refine va_get (D := dg) (ci := 11) (v := .ref (mo 7)) (C := RX9) (T := TX9) (N := 23) hx hb htg inG_X9 hown hK hP 0 rfl rfl 9 (Nat.le_of_ble_eq_true rfl) (htg _ wq_1566) (fun _ h9 => h9) rfl dX9_number_91 ?_
                  refine x_iconst hx hb dX9_number_94 ?_
                  refine lv_aload_n hx hb dX9_number_95 rfl (lv_at hl 2 rfl) ?_
                  refine va_get (D := dg) (ci := 11) (v := .int (zI (M 8 13))) (C := RX9) (T := TX9) (N := 23) hx hb htg inG_X9 hown hK hP 0 rfl rfl 21 (Nat.le_of_ble_eq_true rfl) (htg _ wq_1578) (fun _ h9 => h9) rfl dX9_number_96 ?_
                  refine x_imul hx hb dX9_number_99 ?_
                  refine lv_iload_n hx hb dX9_number_100 rfl (lv_at hl 3 rfl) ?_
                  refine x_iadd hx hb dX9_number_101 ?_
                  refine lv_iload_n hx hb dX9_number_102 rfl (lv_at hl 1 rfl) ?_
                  refine x_iast (ws' := modelC ck mo (encZ S) F1 F2 F3 F4 (upS (upS (upS M 8 14 1) 8 11 ((((sayN (M 5) (M 8 12) 10 (M 8 14) (M 8 11) (lnZ 10).toNat).2) + 1) + 1)) 6 ((4 * (M 8 13)) + k) (((10 * (((10 * 0) + (chA (M 5) (M 8 12) ((sayN (M 5) (M 8 12) 10 (M 8 14) (M 8 11) (lnZ 10).toNat).2))) - 48)) + (chA (M 5) (M 8 12) (((sayN (M 5) (M 8 12) 10 (M 8 14) (M 8 11) (lnZ 10).toNat).2) + 1))) - 48))) hx hb hK hP hD hS 7 0 rfl rfl (by decide) (by omega) (by rw [zM_up (by omega)]; rfl) dX9_number_103 (fun H locs hP hD hS => ?_)
                  have hc : numZ (M 5) (M 8 12) (M 8 14) (M 8 11) d = (1, ((((sayN (M 5) (M 8 12) 10 (M 8 14) (M 8 11) (lnZ 10).toNat).2) + 1) + 1), (((10 * (((10 * 0) + (chA (M 5) (M 8 12) ((sayN (M 5) (M 8 12) 10 (M 8 14) (M 8 11) (lnZ 10).toNat).2))) - 48)) + (chA (M 5) (M 8 12) (((sayN (M 5) (M 8 12) 10 (M 8 14) (M 8 11) (lnZ 10).toNat).2) + 1))) - 48)) := by first | (exfalso; omega) | (unfold numZ; dsimp only; (repeat (first | rw [if_pos (by omega)] | rw [if_neg (by omega)])))
                  have hEq : modelC ck mo (encZ S) F1 F2 F3 F4 (upS (upS (upS M 8 14 (numZ (M 5) (M 8 12) (M 8 14) (M 8 11) d).1) 8 11 (numZ (M 5) (M 8 12) (M 8 14) (M 8 11) d).2.1) 6 (4 * M 8 13 + k) (numZ (M 5) (M 8 12) (M 8 14) (M 8 11) d).2.2) = modelC ck mo (encZ S) F1 F2 F3 F4 (upS (upS (upS M 8 14 1) 8 11 ((((sayN (M 5) (M 8 12) 10 (M 8 14) (M 8 11) (lnZ 10).toNat).2) + 1) + 1)) 6 ((4 * (M 8 13)) + k) (((10 * (((10 * 0) + (chA (M 5) (M 8 12) ((sayN (M 5) (M 8 12) 10 (M 8 14) (M 8 11) (lnZ 10).toNat).2))) - 48)) + (chA (M 5) (M 8 12) (((sayN (M 5) (M 8 12) 10 (M 8 14) (M 8 11) (lnZ 10).toNat).2) + 1))) - 48)) := (by rw [hc] <;> rfl)
                  exact W.vret hx hb hr (fun t9 ht9 hW9 => ⟨⟨(), rfl, trivial, by rw [ht9, hEq]; exact hP, by rw [hEq, hAe]; exact hD⟩, hS.F ht9⟩) hS.2.2 dX9_number_104
                · refine lv_iload hx hb dX9_number_77 (lv_at hl 0 rfl) ?_
                  refine x_if_ne (tgt := 86) hx hb dX9_number_79 (by decide) (by omega) (fun c79 => ?_) (fun c79 => absurd c79 (by decide))
                  refine x_iconst hx hb dX9_number_86 ?_
                  refine va_put (D := dg) (ci := 11) (v := .int (zI 0)) (ty := .boolean) (C := RX9) (T := TX9) (N := 23) hx hb htg inG_X9 tyX9 tyX9_ok nmX9 hown hK hP hD hS 0 rfl rfl 22 (Nat.le_of_ble_eq_true rfl) (htg _ wq_1579) (fun _ h9 => h9) rfl (by decide +kernel) rfl rfl (Nat.le_of_ble_eq_true rfl) dX9_number_87 (fun H locs hP hD hS => ?_)
                  have hP : va_P dg vwCl (modelC ck mo (encZ S) F1 F2 F3 F4 (upS (upS (upS M 8 14 ((sayN (M 5) (M 8 12) 10 (M 8 14) (M 8 11) (lnZ 10).toNat).1)) 8 11 ((((sayN (M 5) (M 8 12) 10 (M 8 14) (M 8 11) (lnZ 10).toNat).2) + 1) + 1)) 8 14 0)) H := hP
                  have hD : va_D A (modelC ck mo (encZ S) F1 F2 F3 F4 (upS (upS (upS M 8 14 ((sayN (M 5) (M 8 12) 10 (M 8 14) (M 8 11) (lnZ 10).toNat).1)) 8 11 ((((sayN (M 5) (M 8 12) 10 (M 8 14) (M 8 11) (lnZ 10).toNat).2) + 1) + 1)) 8 14 0)) := hD
                  have hCe : (upS (upS M 8 14 0) 8 11 ((((sayN (M 5) (M 8 12) 10 (M 8 14) (M 8 11) (lnZ 10).toNat).2) + 1) + 1)) = (upS (upS (upS M 8 14 ((sayN (M 5) (M 8 12) 10 (M 8 14) (M 8 11) (lnZ 10).toNat).1)) 8 11 ((((sayN (M 5) (M 8 12) 10 (M 8 14) (M 8 11) (lnZ 10).toNat).2) + 1) + 1)) 8 14 0) := nrm2
                  have hP : va_P dg vwCl (modelC ck mo (encZ S) F1 F2 F3 F4 (upS (upS M 8 14 0) 8 11 ((((sayN (M 5) (M 8 12) 10 (M 8 14) (M 8 11) (lnZ 10).toNat).2) + 1) + 1))) _ := va_P_eq (by rw [hCe]) hP
                  have hD : va_D A (modelC ck mo (encZ S) F1 F2 F3 F4 (upS (upS M 8 14 0) 8 11 ((((sayN (M 5) (M 8 12) 10 (M 8 14) (M 8 11) (lnZ 10).toNat).2) + 1) + 1))) := va_D_eq (by rw [hCe]) hD
                  refine lv_aload_n hx hb dX9_number_90 rfl (lv_at hl 2 rfl) ?_
                  refine va_get (D := dg) (ci := 11) (v := .ref (mo 7)) (C := RX9) (T := TX9) (N := 23) hx hb htg inG_X9 hown hK hP 0 rfl rfl 9 (Nat.le_of_ble_eq_true rfl) (htg _ wq_1566) (fun _ h9 => h9) rfl dX9_number_91 ?_
                  refine x_iconst hx hb dX9_number_94 ?_
                  refine lv_aload_n hx hb dX9_number_95 rfl (lv_at hl 2 rfl) ?_
                  refine va_get (D := dg) (ci := 11) (v := .int (zI (M 8 13))) (C := RX9) (T := TX9) (N := 23) hx hb htg inG_X9 hown hK hP 0 rfl rfl 21 (Nat.le_of_ble_eq_true rfl) (htg _ wq_1578) (fun _ h9 => h9) rfl dX9_number_96 ?_
                  refine x_imul hx hb dX9_number_99 ?_
                  refine lv_iload_n hx hb dX9_number_100 rfl (lv_at hl 3 rfl) ?_
                  refine x_iadd hx hb dX9_number_101 ?_
                  refine lv_iload_n hx hb dX9_number_102 rfl (lv_at hl 1 rfl) ?_
                  refine x_iast (ws' := modelC ck mo (encZ S) F1 F2 F3 F4 (upS (upS (upS M 8 14 0) 8 11 ((((sayN (M 5) (M 8 12) 10 (M 8 14) (M 8 11) (lnZ 10).toNat).2) + 1) + 1)) 6 ((4 * (M 8 13)) + k) (((10 * (((10 * 0) + (chA (M 5) (M 8 12) ((sayN (M 5) (M 8 12) 10 (M 8 14) (M 8 11) (lnZ 10).toNat).2))) - 48)) + (chA (M 5) (M 8 12) (((sayN (M 5) (M 8 12) 10 (M 8 14) (M 8 11) (lnZ 10).toNat).2) + 1))) - 48))) hx hb hK hP hD hS 7 0 rfl rfl (by decide) (by omega) (by rw [zM_up (by omega)]; rfl) dX9_number_103 (fun H locs hP hD hS => ?_)
                  have hc : numZ (M 5) (M 8 12) (M 8 14) (M 8 11) d = (0, ((((sayN (M 5) (M 8 12) 10 (M 8 14) (M 8 11) (lnZ 10).toNat).2) + 1) + 1), (((10 * (((10 * 0) + (chA (M 5) (M 8 12) ((sayN (M 5) (M 8 12) 10 (M 8 14) (M 8 11) (lnZ 10).toNat).2))) - 48)) + (chA (M 5) (M 8 12) (((sayN (M 5) (M 8 12) 10 (M 8 14) (M 8 11) (lnZ 10).toNat).2) + 1))) - 48)) := by first | (exfalso; omega) | (unfold numZ; dsimp only; (repeat (first | rw [if_pos (by omega)] | rw [if_neg (by omega)])))
                  have hEq : modelC ck mo (encZ S) F1 F2 F3 F4 (upS (upS (upS M 8 14 (numZ (M 5) (M 8 12) (M 8 14) (M 8 11) d).1) 8 11 (numZ (M 5) (M 8 12) (M 8 14) (M 8 11) d).2.1) 6 (4 * M 8 13 + k) (numZ (M 5) (M 8 12) (M 8 14) (M 8 11) d).2.2) = modelC ck mo (encZ S) F1 F2 F3 F4 (upS (upS (upS M 8 14 0) 8 11 ((((sayN (M 5) (M 8 12) 10 (M 8 14) (M 8 11) (lnZ 10).toNat).2) + 1) + 1)) 6 ((4 * (M 8 13)) + k) (((10 * (((10 * 0) + (chA (M 5) (M 8 12) ((sayN (M 5) (M 8 12) 10 (M 8 14) (M 8 11) (lnZ 10).toNat).2))) - 48)) + (chA (M 5) (M 8 12) (((sayN (M 5) (M 8 12) 10 (M 8 14) (M 8 11) (lnZ 10).toNat).2) + 1))) - 48)) := (by rw [hc] <;> rfl)
                  exact W.vret hx hb hr (fun t9 ht9 hW9 => ⟨⟨(), rfl, trivial, by rw [ht9, hEq]; exact hP, by rw [hEq, hAe]; exact hD⟩, hS.F ht9⟩) hS.2.2 dX9_number_104
              · refine lv_iload hx hb dX9_number_18 (lv_at hl 0 rfl) ?_
                refine lv_iload_n hx hb dX9_number_20 rfl (lv_at hl 4 rfl) ?_
                refine x_icmp_ge (tgt := 69) hx hb dX9_number_21 (by decide) (by omega) (by omega) (fun c21 => ?_) (fun c21 => ?_)
                · refine lv_aload_n hx hb dX9_number_69 rfl (lv_at hl 2 rfl) ?_
                  refine lv_aload_n hx hb dX9_number_70 rfl (lv_at hl 2 rfl) ?_
                  refine va_get (D := dg) (ci := 11) (v := .int (zI ((sayN (M 5) (M 8 12) 10 (M 8 14) (M 8 11) (lnZ 10).toNat).1))) (C := RX9) (T := TX9) (N := 23) hx hb htg inG_X9 hown hK hP 0 rfl rfl 22 (Nat.le_of_ble_eq_true rfl) (htg _ wq_1579) (fun _ h9 => h9) rfl dX9_number_71 ?_
                  refine x_if_ne (tgt := 82) hx hb dX9_number_74 (by decide) (by omega) (fun c74 => ?_) (fun c74 => ?_)
                  · refine x_iconst hx hb dX9_number_82 ?_
                    refine lv_goto (tgt := 87) hx hb dX9_number_83 (by decide) ?_
                    refine va_put (D := dg) (ci := 11) (v := .int (zI 1)) (ty := .boolean) (C := RX9) (T := TX9) (N := 23) hx hb htg inG_X9 tyX9 tyX9_ok nmX9 hown hK hP hD hS 0 rfl rfl 22 (Nat.le_of_ble_eq_true rfl) (htg _ wq_1579) (fun _ h9 => h9) rfl (by decide +kernel) rfl rfl (Nat.le_of_ble_eq_true rfl) dX9_number_87 (fun H locs hP hD hS => ?_)
                    have hP : va_P dg vwCl (modelC ck mo (encZ S) F1 F2 F3 F4 (upS (upS (upS M 8 14 ((sayN (M 5) (M 8 12) 10 (M 8 14) (M 8 11) (lnZ 10).toNat).1)) 8 11 ((((sayN (M 5) (M 8 12) 10 (M 8 14) (M 8 11) (lnZ 10).toNat).2) + 1) + 1)) 8 14 1)) H := hP
                    have hD : va_D A (modelC ck mo (encZ S) F1 F2 F3 F4 (upS (upS (upS M 8 14 ((sayN (M 5) (M 8 12) 10 (M 8 14) (M 8 11) (lnZ 10).toNat).1)) 8 11 ((((sayN (M 5) (M 8 12) 10 (M 8 14) (M 8 11) (lnZ 10).toNat).2) + 1) + 1)) 8 14 1)) := hD
                    have hCe : (upS (upS M 8 14 1) 8 11 ((((sayN (M 5) (M 8 12) 10 (M 8 14) (M 8 11) (lnZ 10).toNat).2) + 1) + 1)) = (upS (upS (upS M 8 14 ((sayN (M 5) (M 8 12) 10 (M 8 14) (M 8 11) (lnZ 10).toNat).1)) 8 11 ((((sayN (M 5) (M 8 12) 10 (M 8 14) (M 8 11) (lnZ 10).toNat).2) + 1) + 1)) 8 14 1) := nrm2
                    have hP : va_P dg vwCl (modelC ck mo (encZ S) F1 F2 F3 F4 (upS (upS M 8 14 1) 8 11 ((((sayN (M 5) (M 8 12) 10 (M 8 14) (M 8 11) (lnZ 10).toNat).2) + 1) + 1))) _ := va_P_eq (by rw [hCe]) hP
                    have hD : va_D A (modelC ck mo (encZ S) F1 F2 F3 F4 (upS (upS M 8 14 1) 8 11 ((((sayN (M 5) (M 8 12) 10 (M 8 14) (M 8 11) (lnZ 10).toNat).2) + 1) + 1))) := va_D_eq (by rw [hCe]) hD
                    refine lv_aload_n hx hb dX9_number_90 rfl (lv_at hl 2 rfl) ?_
                    refine va_get (D := dg) (ci := 11) (v := .ref (mo 7)) (C := RX9) (T := TX9) (N := 23) hx hb htg inG_X9 hown hK hP 0 rfl rfl 9 (Nat.le_of_ble_eq_true rfl) (htg _ wq_1566) (fun _ h9 => h9) rfl dX9_number_91 ?_
                    refine x_iconst hx hb dX9_number_94 ?_
                    refine lv_aload_n hx hb dX9_number_95 rfl (lv_at hl 2 rfl) ?_
                    refine va_get (D := dg) (ci := 11) (v := .int (zI (M 8 13))) (C := RX9) (T := TX9) (N := 23) hx hb htg inG_X9 hown hK hP 0 rfl rfl 21 (Nat.le_of_ble_eq_true rfl) (htg _ wq_1578) (fun _ h9 => h9) rfl dX9_number_96 ?_
                    refine x_imul hx hb dX9_number_99 ?_
                    refine lv_iload_n hx hb dX9_number_100 rfl (lv_at hl 3 rfl) ?_
                    refine x_iadd hx hb dX9_number_101 ?_
                    refine lv_iload_n hx hb dX9_number_102 rfl (lv_at hl 1 rfl) ?_
                    refine x_iast (ws' := modelC ck mo (encZ S) F1 F2 F3 F4 (upS (upS (upS M 8 14 1) 8 11 ((((sayN (M 5) (M 8 12) 10 (M 8 14) (M 8 11) (lnZ 10).toNat).2) + 1) + 1)) 6 ((4 * (M 8 13)) + k) (((10 * (((10 * 0) + (chA (M 5) (M 8 12) ((sayN (M 5) (M 8 12) 10 (M 8 14) (M 8 11) (lnZ 10).toNat).2))) - 48)) + (chA (M 5) (M 8 12) (((sayN (M 5) (M 8 12) 10 (M 8 14) (M 8 11) (lnZ 10).toNat).2) + 1))) - 48))) hx hb hK hP hD hS 7 0 rfl rfl (by decide) (by omega) (by rw [zM_up (by omega)]; rfl) dX9_number_103 (fun H locs hP hD hS => ?_)
                    have hc : numZ (M 5) (M 8 12) (M 8 14) (M 8 11) d = (1, ((((sayN (M 5) (M 8 12) 10 (M 8 14) (M 8 11) (lnZ 10).toNat).2) + 1) + 1), (((10 * (((10 * 0) + (chA (M 5) (M 8 12) ((sayN (M 5) (M 8 12) 10 (M 8 14) (M 8 11) (lnZ 10).toNat).2))) - 48)) + (chA (M 5) (M 8 12) (((sayN (M 5) (M 8 12) 10 (M 8 14) (M 8 11) (lnZ 10).toNat).2) + 1))) - 48)) := by first | (exfalso; omega) | (unfold numZ; dsimp only; (repeat (first | rw [if_pos (by omega)] | rw [if_neg (by omega)])))
                    have hEq : modelC ck mo (encZ S) F1 F2 F3 F4 (upS (upS (upS M 8 14 (numZ (M 5) (M 8 12) (M 8 14) (M 8 11) d).1) 8 11 (numZ (M 5) (M 8 12) (M 8 14) (M 8 11) d).2.1) 6 (4 * M 8 13 + k) (numZ (M 5) (M 8 12) (M 8 14) (M 8 11) d).2.2) = modelC ck mo (encZ S) F1 F2 F3 F4 (upS (upS (upS M 8 14 1) 8 11 ((((sayN (M 5) (M 8 12) 10 (M 8 14) (M 8 11) (lnZ 10).toNat).2) + 1) + 1)) 6 ((4 * (M 8 13)) + k) (((10 * (((10 * 0) + (chA (M 5) (M 8 12) ((sayN (M 5) (M 8 12) 10 (M 8 14) (M 8 11) (lnZ 10).toNat).2))) - 48)) + (chA (M 5) (M 8 12) (((sayN (M 5) (M 8 12) 10 (M 8 14) (M 8 11) (lnZ 10).toNat).2) + 1))) - 48)) := (by rw [hc] <;> rfl)
                    exact W.vret hx hb hr (fun t9 ht9 hW9 => ⟨⟨(), rfl, trivial, by rw [ht9, hEq]; exact hP, by rw [hEq, hAe]; exact hD⟩, hS.F ht9⟩) hS.2.2 dX9_number_104
                  · refine lv_iload hx hb dX9_number_77 (lv_at hl 0 rfl) ?_
                    refine x_if_ne (tgt := 86) hx hb dX9_number_79 (by decide) (by omega) (fun c79 => ?_) (fun c79 => absurd c79 (by decide))
                    refine x_iconst hx hb dX9_number_86 ?_
                    refine va_put (D := dg) (ci := 11) (v := .int (zI 0)) (ty := .boolean) (C := RX9) (T := TX9) (N := 23) hx hb htg inG_X9 tyX9 tyX9_ok nmX9 hown hK hP hD hS 0 rfl rfl 22 (Nat.le_of_ble_eq_true rfl) (htg _ wq_1579) (fun _ h9 => h9) rfl (by decide +kernel) rfl rfl (Nat.le_of_ble_eq_true rfl) dX9_number_87 (fun H locs hP hD hS => ?_)
                    have hP : va_P dg vwCl (modelC ck mo (encZ S) F1 F2 F3 F4 (upS (upS (upS M 8 14 ((sayN (M 5) (M 8 12) 10 (M 8 14) (M 8 11) (lnZ 10).toNat).1)) 8 11 ((((sayN (M 5) (M 8 12) 10 (M 8 14) (M 8 11) (lnZ 10).toNat).2) + 1) + 1)) 8 14 0)) H := hP
                    have hD : va_D A (modelC ck mo (encZ S) F1 F2 F3 F4 (upS (upS (upS M 8 14 ((sayN (M 5) (M 8 12) 10 (M 8 14) (M 8 11) (lnZ 10).toNat).1)) 8 11 ((((sayN (M 5) (M 8 12) 10 (M 8 14) (M 8 11) (lnZ 10).toNat).2) + 1) + 1)) 8 14 0)) := hD
                    have hCe : (upS (upS M 8 14 0) 8 11 ((((sayN (M 5) (M 8 12) 10 (M 8 14) (M 8 11) (lnZ 10).toNat).2) + 1) + 1)) = (upS (upS (upS M 8 14 ((sayN (M 5) (M 8 12) 10 (M 8 14) (M 8 11) (lnZ 10).toNat).1)) 8 11 ((((sayN (M 5) (M 8 12) 10 (M 8 14) (M 8 11) (lnZ 10).toNat).2) + 1) + 1)) 8 14 0) := nrm2
                    have hP : va_P dg vwCl (modelC ck mo (encZ S) F1 F2 F3 F4 (upS (upS M 8 14 0) 8 11 ((((sayN (M 5) (M 8 12) 10 (M 8 14) (M 8 11) (lnZ 10).toNat).2) + 1) + 1))) _ := va_P_eq (by rw [hCe]) hP
                    have hD : va_D A (modelC ck mo (encZ S) F1 F2 F3 F4 (upS (upS M 8 14 0) 8 11 ((((sayN (M 5) (M 8 12) 10 (M 8 14) (M 8 11) (lnZ 10).toNat).2) + 1) + 1))) := va_D_eq (by rw [hCe]) hD
                    refine lv_aload_n hx hb dX9_number_90 rfl (lv_at hl 2 rfl) ?_
                    refine va_get (D := dg) (ci := 11) (v := .ref (mo 7)) (C := RX9) (T := TX9) (N := 23) hx hb htg inG_X9 hown hK hP 0 rfl rfl 9 (Nat.le_of_ble_eq_true rfl) (htg _ wq_1566) (fun _ h9 => h9) rfl dX9_number_91 ?_
                    refine x_iconst hx hb dX9_number_94 ?_
                    refine lv_aload_n hx hb dX9_number_95 rfl (lv_at hl 2 rfl) ?_
                    refine va_get (D := dg) (ci := 11) (v := .int (zI (M 8 13))) (C := RX9) (T := TX9) (N := 23) hx hb htg inG_X9 hown hK hP 0 rfl rfl 21 (Nat.le_of_ble_eq_true rfl) (htg _ wq_1578) (fun _ h9 => h9) rfl dX9_number_96 ?_
                    refine x_imul hx hb dX9_number_99 ?_
                    refine lv_iload_n hx hb dX9_number_100 rfl (lv_at hl 3 rfl) ?_
                    refine x_iadd hx hb dX9_number_101 ?_
                    refine lv_iload_n hx hb dX9_number_102 rfl (lv_at hl 1 rfl) ?_
                    refine x_iast (ws' := modelC ck mo (encZ S) F1 F2 F3 F4 (upS (upS (upS M 8 14 0) 8 11 ((((sayN (M 5) (M 8 12) 10 (M 8 14) (M 8 11) (lnZ 10).toNat).2) + 1) + 1)) 6 ((4 * (M 8 13)) + k) (((10 * (((10 * 0) + (chA (M 5) (M 8 12) ((sayN (M 5) (M 8 12) 10 (M 8 14) (M 8 11) (lnZ 10).toNat).2))) - 48)) + (chA (M 5) (M 8 12) (((sayN (M 5) (M 8 12) 10 (M 8 14) (M 8 11) (lnZ 10).toNat).2) + 1))) - 48))) hx hb hK hP hD hS 7 0 rfl rfl (by decide) (by omega) (by rw [zM_up (by omega)]; rfl) dX9_number_103 (fun H locs hP hD hS => ?_)
                    have hc : numZ (M 5) (M 8 12) (M 8 14) (M 8 11) d = (0, ((((sayN (M 5) (M 8 12) 10 (M 8 14) (M 8 11) (lnZ 10).toNat).2) + 1) + 1), (((10 * (((10 * 0) + (chA (M 5) (M 8 12) ((sayN (M 5) (M 8 12) 10 (M 8 14) (M 8 11) (lnZ 10).toNat).2))) - 48)) + (chA (M 5) (M 8 12) (((sayN (M 5) (M 8 12) 10 (M 8 14) (M 8 11) (lnZ 10).toNat).2) + 1))) - 48)) := by first | (exfalso; omega) | (unfold numZ; dsimp only; (repeat (first | rw [if_pos (by omega)] | rw [if_neg (by omega)])))
                    have hEq : modelC ck mo (encZ S) F1 F2 F3 F4 (upS (upS (upS M 8 14 (numZ (M 5) (M 8 12) (M 8 14) (M 8 11) d).1) 8 11 (numZ (M 5) (M 8 12) (M 8 14) (M 8 11) d).2.1) 6 (4 * M 8 13 + k) (numZ (M 5) (M 8 12) (M 8 14) (M 8 11) d).2.2) = modelC ck mo (encZ S) F1 F2 F3 F4 (upS (upS (upS M 8 14 0) 8 11 ((((sayN (M 5) (M 8 12) 10 (M 8 14) (M 8 11) (lnZ 10).toNat).2) + 1) + 1)) 6 ((4 * (M 8 13)) + k) (((10 * (((10 * 0) + (chA (M 5) (M 8 12) ((sayN (M 5) (M 8 12) 10 (M 8 14) (M 8 11) (lnZ 10).toNat).2))) - 48)) + (chA (M 5) (M 8 12) (((sayN (M 5) (M 8 12) 10 (M 8 14) (M 8 11) (lnZ 10).toNat).2) + 1))) - 48)) := (by rw [hc] <;> rfl)
                    exact W.vret hx hb hr (fun t9 ht9 hW9 => ⟨⟨(), rfl, trivial, by rw [ht9, hEq]; exact hP, by rw [hEq, hAe]; exact hD⟩, hS.F ht9⟩) hS.2.2 dX9_number_104
                · exfalso; omega
