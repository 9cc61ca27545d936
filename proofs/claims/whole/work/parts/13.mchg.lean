/-! the reference: what changes it -/
theorem upS_cm {S : St} {k k' : Nat} {i i' v v' : Int} (h : ¬ (k = k' ∧ i = i')) : upS (upS S k i v) k' i' v' = upS (upS S k' i' v') k i v := by
  funext a j
  unfold upS
  by_cases h1 : a = k' ∧ j = i'
  · rw [if_pos h1]
    by_cases h2 : a = k ∧ j = i
    · exact absurd ⟨h2.1.symm.trans h1.1, h2.2.symm.trans h1.2⟩ h
    · rw [if_neg h2, if_pos h1]
  · rw [if_neg h1]
    by_cases h2 : a = k ∧ j = i
    · rw [if_pos h2, if_pos h2]
    · rw [if_neg h2, if_neg h2, if_neg h1]
theorem clS_cm {S : St} {b w j v : Int} (hj : j ≠ 5) : upS (clS S b w) 0 j v = clS (upS S 0 j v) b w := by
  unfold clS
  rw [upS_cm (k := 6) (k' := 0) (by omega), upS_cm (k := 5) (k' := 0) (by omega), upS_cm (k := 4) (k' := 0) (by omega), upS_cm (k := 0) (k' := 0) (by omega), upS_cm (k := 11) (k' := 0) (by omega)]
  have e : upS S 0 j v 0 5 = S 0 5 := upS_n (by omega)
  rw [e]
  rfl
/-- the first k numbers of a bench are 0 -/
def zrB (S : St) (b k : Int) : St := fun k' i => if 1 ≤ k' ∧ (k' : Int) ≤ k ∧ i = b then 0 else S k' i
theorem zrB_0 (S : St) (b : Int) : zrB S b 0 = S := by
  funext k' i
  unfold zrB
  rw [if_neg (by omega)]
theorem zrB_s (S : St) (b k : Int) (hk : 0 ≤ k) : zrB S b (k + 1) = upS (zrB S b k) (1 + k.toNat) b 0 := by
  funext k' i
  show (if 1 ≤ k' ∧ (k' : Int) ≤ k + 1 ∧ i = b then 0 else S k' i) = if k' = 1 + k.toNat ∧ i = b then 0 else if 1 ≤ k' ∧ (k' : Int) ≤ k ∧ i = b then 0 else S k' i
  by_cases h : k' = 1 + k.toNat ∧ i = b
  · rw [if_pos h, if_pos (by omega)]
  · rw [if_neg h]
    by_cases h2 : 1 ≤ k' ∧ (k' : Int) ≤ k ∧ i = b
    · rw [if_pos h2, if_pos (by omega)]
    · rw [if_neg h2, if_neg (by omega)]
theorem zrB_put {S : St} {b k : Int} (hb : 0 ≤ b ∧ b < 10) (hk : 0 ≤ k ∧ k < 6) (j : Nat) (hj : j < 102) : upd (zz (encZ (zrB S b k))) ((10 + (6 * b)) + k).toNat (zI 0) j = zz (encZ (zrB S b (k + 1))) j := by
  rw [zrB_s S b k hk.1]
  exact encW (k := 1 + k.toNat) (i := b) (by omega) (by unfold encP; omega) j hj
theorem zrB_6 {S : St} {b k x y v w : Int} (hk : k = 6) (h4 : S 4 b = 0) (h5 : S 5 b = 0) (h6 : S 6 b = 0) : upS (upS (upS (upS (zrB S b k) 1 b x) 2 b y) 3 b v) 0 0 w = upS (upS (upS (upS S 1 b x) 2 b y) 3 b v) 0 0 w := by
  subst hk
  funext k' i
  unfold upS zrB
  by_cases e0 : k' = 0 ∧ i = 0
  · rw [if_pos e0, if_pos e0]
  · rw [if_neg e0, if_neg e0]
    by_cases e3 : k' = 3 ∧ i = b
    · rw [if_pos e3, if_pos e3]
    · rw [if_neg e3, if_neg e3]
      by_cases e2 : k' = 2 ∧ i = b
      · rw [if_pos e2, if_pos e2]
      · rw [if_neg e2, if_neg e2]
        by_cases e1 : k' = 1 ∧ i = b
        · rw [if_pos e1, if_pos e1]
        · rw [if_neg e1, if_neg e1]
          by_cases c : 1 ≤ k' ∧ (k' : Int) ≤ 6 ∧ i = b
          · rw [if_pos c]
            obtain ⟨c1, c2, rfl⟩ := c
            rcases (show k' = 4 ∨ k' = 5 ∨ k' = 6 by omega) with rfl | rfl | rfl
            · exact h4.symm
            · exact h5.symm
            · exact h6.symm
          · rw [if_neg c]
theorem Inv.top {Mx : Int} {S : St} (h : Inv Mx S) : S 4 (S 0 0) = 0 ∧ S 5 (S 0 0) = 0 ∧ S 6 (S 0 0) = 0 := by
  have h7 := h.2.2.2.2.2.2.2.2.1
  have h6 := h.2.2.2.2.2.2.2.1
  have e : S 4 (S 0 0) = 0 := by
    by_cases c : S 4 (S 0 0) = 0
    · exact c
    · have := h7 _ c
      omega
  exact ⟨e, h6 _ e⟩
theorem Bd_11 {S : St} {i v : Int} (h : Bd S) (hv : 0 ≤ v ∧ v ≤ 4000000) : Bd (upS S 11 i v) := by
  obtain ⟨h0, h1, h2, h3, g1, g2, g3, g4, g5, g6, g7, g8, g9, g10, g11, g12⟩ := h
  refine ⟨h0, h1, h2, h3, g1, g2, g3, g4, g5, g6, g7, g8, g9, g10, fun j => ?_, g12⟩
  rw [upS_k]
  split
  · exact hv
  · exact g11 j
/-- an act of the reference: what it leaves as its answer or as what the rejection is about -/
def mAns (M : St) (c x : Int) : St := if c = 0 then upS M 8 10 x else if c < 0 then M else upS M 8 9 x
def mcd (c : Int) : Int := if c < 0 then -1 else c
def barM (S M : St) (t b : Int) : St := if obst S t b = 0 then M else upS M 8 9 (obsD S (obst S t b) t b)
theorem mAns_b {S M : St} {t b : Int} (h : obst S t b ≠ 0) : mAns M (obst S t b) (obsD S (obst S t b) t b) = barM S M t b := by
  have := obst_r S t b
  unfold mAns barM
  rw [if_neg h, if_neg (by omega), if_neg h]

set_option maxHeartbeats 4000000 in
set_option maxRecDepth 100000 in
/-- BenchBrokerModel.rejected -/
theorem m_rejected (l : Launch) (dg : va_G) (ck : Nat → ClassId) (mo : Nat → Nat) (S : St) (F1 F2 F3 F4 : Int → Int) (M : St) (x y : Int) (sz : Nat)  : Met l yX9_rejected (.code yX9_rejected cX9_rejected 3 (some .int) :: GW) ({ frames := 0, cells := 0, slots := 0, locals := 0 }) (va_Pc [.ref (mo 0), .int (zI x), .int (zI y)] (wrP dg ck sz (modelC ck mo (encZ S) F1 F2 F3 F4 M))) (va_Qi (fun r (_ : Unit) => r = zI x) (fun _ t9 => wrQ dg sz (modelC ck mo (encZ S) F1 F2 F3 F4 M) (modelC ck mo (encZ S) F1 F2 F3 F4 (upS M 8 9 y)) t9) (va_A (modelC ck mo (encZ S) F1 F2 F3 F4 M) sz)) 0 0 (va_A (modelC ck mo (encZ S) F1 F2 F3 F4 M) sz) := by
  refine Met.ofW (cc := cX9_rejected) (maxL := 3) (ret := (some .int)) (by decide) rfl ?_
  intro p e s m args below meth c s₁ B hml hv
  obtain ⟨rfl, hsz, hP, hK, hD0⟩ := hv
  have hx := B.exec
  have hb := B.bytes
  have hr := B.returns
  have hts := atoms_spec (ws := .code yX9_rejected cX9_rejected 3 (some .int) :: GW) B.pre
  have htg : ∀ w ∈ GW, w.before _ s = true := fun w h => hts w (List.mem_cons_of_mem _ h)
  have hown : s.vm.findClass RX9 = some m.cls := findClass_of_methodNamed B.named
  have hlocks := B.notSynchronized
  subst hsz
  have hD := hD0.self (sz := s.heap.size)
  generalize hAe : va_A (modelC ck mo (encZ S) F1 F2 F3 F4 M) s.heap.size = A at hD ⊢
  have hA : ∀ q : Nat, s.heap.size ≤ q → A q := fun q h => by rw [← hAe]; exact Or.inr h
  have hS : va_S A s.heap s.heap [] := va_S.rf
  have hP : va_P dg vwCl (modelC ck mo (encZ S) F1 F2 F3 F4 M) s.heap := hP
  have hl := lv_entry ([.ref (mo 0), .int (zI x), .int (zI y)]) (n := 3) (Nat.le_of_ble_eq_true rfl)
  rw [lg_entry_eq]
  generalize (lg_sl ([.ref (mo 0), .int (zI x), .int (zI y)]) ++ List.replicate (3 - (lg_sl ([.ref (mo 0), .int (zI x), .int (zI y)])).length) Slot.unset).toArray = ls at hl ⊢
  have hl : lv_has ls 3 [(0, .ref (mo 0)), (1, .int (zI x)), (2, .int (zI y))] := hl
  refine lv_aload_n hx hb dX9_rejected_0 rfl (lv_at hl 0 rfl) ?_
  refine lv_iload_n hx hb dX9_rejected_1 rfl (lv_at hl 2 rfl) ?_
  refine va_put (D := dg) (ci := 11) (v := .int (zI y)) (ty := .int) (C := RX9) (T := TX9) (N := 23) hx hb htg inG_X9 tyX9 tyX9_ok nmX9 hown hK hP hD hS 0 rfl rfl 17 (Nat.le_of_ble_eq_true rfl) (htg _ wq_1574) (fun _ h9 => h9) rfl (by decide +kernel) rfl rfl (Nat.le_of_ble_eq_true rfl) dX9_rejected_2 (fun H locs hP hD hS => ?_)
  have hP : va_P dg vwCl (modelC ck mo (encZ S) F1 F2 F3 F4 (upS M 8 9 y)) H := hP
  have hD : va_D A (modelC ck mo (encZ S) F1 F2 F3 F4 (upS M 8 9 y)) := hD
  refine lv_iload_n hx hb dX9_rejected_5 rfl (lv_at hl 1 rfl) ?_
  have hEq : modelC ck mo (encZ S) F1 F2 F3 F4 (upS M 8 9 y) = modelC ck mo (encZ S) F1 F2 F3 F4 (upS M 8 9 y) := rfl
  exact W.iret (v := _) hx hb hr (fun t9 ht9 hW9 => ⟨⟨_, (), rfl, rfl, by rw [ht9, hEq]; exact hP, by rw [hEq, hAe]; exact hD⟩, hS.F ht9⟩) hS.2.2 dX9_rejected_6

set_option maxHeartbeats 4000000 in
set_option maxRecDepth 100000 in
/-- BenchBrokerModel.done -/
theorem m_done (l : Launch) (dg : va_G) (ck : Nat → ClassId) (mo : Nat → Nat) (S : St) (F1 F2 F3 F4 : Int → Int) (M : St) (x : Int) (sz : Nat)  : Met l yX9_done (.code yX9_done cX9_done 2 (some .int) :: GW) ({ frames := 0, cells := 0, slots := 0, locals := 0 }) (va_Pc [.ref (mo 0), .int (zI x)] (wrP dg ck sz (modelC ck mo (encZ S) F1 F2 F3 F4 M))) (va_Qi (fun r (_ : Unit) => r = zI 0) (fun _ t9 => wrQ dg sz (modelC ck mo (encZ S) F1 F2 F3 F4 M) (modelC ck mo (encZ S) F1 F2 F3 F4 (upS M 8 10 x)) t9) (va_A (modelC ck mo (encZ S) F1 F2 F3 F4 M) sz)) 0 0 (va_A (modelC ck mo (encZ S) F1 F2 F3 F4 M) sz) := by
  refine Met.ofW (cc := cX9_done) (maxL := 2) (ret := (some .int)) (by decide) rfl ?_
  intro p e s m args below meth c s₁ B hml hv
  obtain ⟨rfl, hsz, hP, hK, hD0⟩ := hv
  have hx := B.exec
  have hb := B.bytes
  have hr := B.returns
  have hts := atoms_spec (ws := .code yX9_done cX9_done 2 (some .int) :: GW) B.pre
  have htg : ∀ w ∈ GW, w.before _ s = true := fun w h => hts w (List.mem_cons_of_mem _ h)
  have hown : s.vm.findClass RX9 = some m.cls := findClass_of_methodNamed B.named
  have hlocks := B.notSynchronized
  subst hsz
  have hD := hD0.self (sz := s.heap.size)
  generalize hAe : va_A (modelC ck mo (encZ S) F1 F2 F3 F4 M) s.heap.size = A at hD ⊢
  have hA : ∀ q : Nat, s.heap.size ≤ q → A q := fun q h => by rw [← hAe]; exact Or.inr h
  have hS : va_S A s.heap s.heap [] := va_S.rf
  have hP : va_P dg vwCl (modelC ck mo (encZ S) F1 F2 F3 F4 M) s.heap := hP
  have hl := lv_entry ([.ref (mo 0), .int (zI x)]) (n := 2) (Nat.le_of_ble_eq_true rfl)
  rw [lg_entry_eq]
  generalize (lg_sl ([.ref (mo 0), .int (zI x)]) ++ List.replicate (2 - (lg_sl ([.ref (mo 0), .int (zI x)])).length) Slot.unset).toArray = ls at hl ⊢
  have hl : lv_has ls 2 [(0, .ref (mo 0)), (1, .int (zI x))] := hl
  refine lv_aload_n hx hb dX9_done_0 rfl (lv_at hl 0 rfl) ?_
  refine lv_iload_n hx hb dX9_done_1 rfl (lv_at hl 1 rfl) ?_
  refine va_put (D := dg) (ci := 11) (v := .int (zI x)) (ty := .int) (C := RX9) (T := TX9) (N := 23) hx hb htg inG_X9 tyX9 tyX9_ok nmX9 hown hK hP hD hS 0 rfl rfl 18 (Nat.le_of_ble_eq_true rfl) (htg _ wq_1575) (fun _ h9 => h9) rfl (by decide +kernel) rfl rfl (Nat.le_of_ble_eq_true rfl) dX9_done_2 (fun H locs hP hD hS => ?_)
  have hP : va_P dg vwCl (modelC ck mo (encZ S) F1 F2 F3 F4 (upS M 8 10 x)) H := hP
  have hD : va_D A (modelC ck mo (encZ S) F1 F2 F3 F4 (upS M 8 10 x)) := hD
  refine x_iconst hx hb dX9_done_5 ?_
  have hEq : modelC ck mo (encZ S) F1 F2 F3 F4 (upS M 8 10 x) = modelC ck mo (encZ S) F1 F2 F3 F4 (upS M 8 10 x) := rfl
  exact W.iret (v := _) hx hb hr (fun t9 ht9 hW9 => ⟨⟨_, (), rfl, rfl, by rw [ht9, hEq]; exact hP, by rw [hEq, hAe]; exact hD⟩, hS.F ht9⟩) hS.2.2 dX9_done_6

set_option maxHeartbeats 4000000 in
set_option maxRecDepth 100000 in
/-- BenchBrokerModel.fails -/
theorem m_fails (l : Launch) (dg : va_G) (ck : Nat → ClassId) (mo : Nat → Nat) (S : St) (F1 F2 F3 F4 : Int → Int) (M : St) (x : Int) (sz : Nat)  : Met l yX9_fails (.code yX9_fails cX9_fails 2 (some .int) :: GW) ({ frames := 0, cells := 0, slots := 0, locals := 0 }) (va_Pc [.ref (mo 0), .int (zI x)] (wrP dg ck sz (modelC ck mo (encZ S) F1 F2 F3 F4 M))) (va_Qi (fun r (_ : Unit) => r = zI 0) (fun _ t9 => wrQ dg sz (modelC ck mo (encZ S) F1 F2 F3 F4 M) (modelC ck mo (encZ S) F1 F2 F3 F4 (upS M 8 0 x)) t9) (va_A (modelC ck mo (encZ S) F1 F2 F3 F4 M) sz)) 0 0 (va_A (modelC ck mo (encZ S) F1 F2 F3 F4 M) sz) := by
  refine Met.ofW (cc := cX9_fails) (maxL := 2) (ret := (some .int)) (by decide) rfl ?_
  intro p e s m args below meth c s₁ B hml hv
  obtain ⟨rfl, hsz, hP, hK, hD0⟩ := hv
  have hx := B.exec
  have hb := B.bytes
  have hr := B.returns
  have hts := atoms_spec (ws := .code yX9_fails cX9_fails 2 (some .int) :: GW) B.pre
  have htg : ∀ w ∈ GW, w.before _ s = true := fun w h => hts w (List.mem_cons_of_mem _ h)
  have hown : s.vm.findClass RX9 = some m.cls := findClass_of_methodNamed B.named
  have hlocks := B.notSynchronized
  subst hsz
  have hD := hD0.self (sz := s.heap.size)
  generalize hAe : va_A (modelC ck mo (encZ S) F1 F2 F3 F4 M) s.heap.size = A at hD ⊢
  have hA : ∀ q : Nat, s.heap.size ≤ q → A q := fun q h => by rw [← hAe]; exact Or.inr h
  have hS : va_S A s.heap s.heap [] := va_S.rf
  have hP : va_P dg vwCl (modelC ck mo (encZ S) F1 F2 F3 F4 M) s.heap := hP
  have hl := lv_entry ([.ref (mo 0), .int (zI x)]) (n := 2) (Nat.le_of_ble_eq_true rfl)
  rw [lg_entry_eq]
  generalize (lg_sl ([.ref (mo 0), .int (zI x)]) ++ List.replicate (2 - (lg_sl ([.ref (mo 0), .int (zI x)])).length) Slot.unset).toArray = ls at hl ⊢
  have hl : lv_has ls 2 [(0, .ref (mo 0)), (1, .int (zI x))] := hl
  refine lv_aload_n hx hb dX9_fails_0 rfl (lv_at hl 0 rfl) ?_
  refine lv_iload_n hx hb dX9_fails_1 rfl (lv_at hl 1 rfl) ?_
  refine va_put (D := dg) (ci := 11) (v := .int (zI x)) (ty := .int) (C := RX9) (T := TX9) (N := 23) hx hb htg inG_X9 tyX9 tyX9_ok nmX9 hown hK hP hD hS 0 rfl rfl 0 (Nat.le_of_ble_eq_true rfl) (htg _ wq_1557) (fun _ h9 => h9) rfl (by decide +kernel) rfl rfl (Nat.le_of_ble_eq_true rfl) dX9_fails_2 (fun H locs hP hD hS => ?_)
  have hP : va_P dg vwCl (modelC ck mo (encZ S) F1 F2 F3 F4 (upS M 8 0 x)) H := hP
  have hD : va_D A (modelC ck mo (encZ S) F1 F2 F3 F4 (upS M 8 0 x)) := hD
  refine x_iconst hx hb dX9_fails_5 ?_
  have hEq : modelC ck mo (encZ S) F1 F2 F3 F4 (upS M 8 0 x) = modelC ck mo (encZ S) F1 F2 F3 F4 (upS M 8 0 x) := rfl
  exact W.iret (v := _) hx hb hr (fun t9 ht9 hW9 => ⟨⟨_, (), rfl, rfl, by rw [ht9, hEq]; exact hP, by rw [hEq, hAe]; exact hD⟩, hS.F ht9⟩) hS.2.2 dX9_fails_6

set_option maxHeartbeats 4000000 in
set_option maxRecDepth 100000 in
/-- BenchBrokerModel.barred -/
theorem m_barred (l : Launch) (dg : va_G) (ck : Nat → ClassId) (mo : Nat → Nat) (S : St) (F1 F2 F3 F4 : Int → Int) (M : St) (t b : Int) (sz : Nat) (hI : Bd S) (ht0 : 0 ≤ t ∧ t < 8) (hb0 : 0 ≤ b ∧ b < 10) : Met l yX9_barred (.code yX9_barred cX9_barred 3 (some .int) :: GW) ({ frames := 4, cells := 0, slots := 0, locals := 91 }) (va_Pc [.ref (mo 0), .int (zI t), .int (zI b)] (wrP dg ck sz (modelC ck mo (encZ S) F1 F2 F3 F4 M))) (va_Qi (fun r (_ : Unit) => r = zI (obst S t b)) (fun _ t9 => wrQ dg sz (modelC ck mo (encZ S) F1 F2 F3 F4 M) (modelC ck mo (encZ S) F1 F2 F3 F4 (barM S M t b)) t9) (va_A (modelC ck mo (encZ S) F1 F2 F3 F4 M) sz)) 0 0 (va_A (modelC ck mo (encZ S) F1 F2 F3 F4 M) sz) := by
  refine Met.ofW (cc := cX9_barred) (maxL := 3) (ret := (some .int)) (by decide) rfl ?_
  intro p e s m args below meth c s₁ B hml hv
  obtain ⟨rfl, hsz, hP, hK, hD0⟩ := hv
  have hx := B.exec
  have hb := B.bytes
  have hr := B.returns
  have hts := atoms_spec (ws := .code yX9_barred cX9_barred 3 (some .int) :: GW) B.pre
  have htg : ∀ w ∈ GW, w.before _ s = true := fun w h => hts w (List.mem_cons_of_mem _ h)
  have hown : s.vm.findClass RX9 = some m.cls := findClass_of_methodNamed B.named
  have hlocks := B.notSynchronized
  subst hsz
  have hD := hD0.self (sz := s.heap.size)
  generalize hAe : va_A (modelC ck mo (encZ S) F1 F2 F3 F4 M) s.heap.size = A at hD ⊢
  have hA : ∀ q : Nat, s.heap.size ≤ q → A q := fun q h => by rw [← hAe]; exact Or.inr h
  have hS : va_S A s.heap s.heap [] := va_S.rf
  have hP : va_P dg vwCl (modelC ck mo (encZ S) F1 F2 F3 F4 M) s.heap := hP
  have hl := lv_entry ([.ref (mo 0), .int (zI t), .int (zI b)]) (n := 3) (Nat.le_of_ble_eq_true rfl)
  rw [lg_entry_eq]
  generalize (lg_sl ([.ref (mo 0), .int (zI t), .int (zI b)]) ++ List.replicate (3 - (lg_sl ([.ref (mo 0), .int (zI t), .int (zI b)])).length) Slot.unset).toArray = ls at hl ⊢
  have hl : lv_has ls 3 [(0, .ref (mo 0)), (1, .int (zI t)), (2, .int (zI b))] := hl
  obtain ⟨b00, b01, b02, b03, b1, b2, b3, b4, b5, b6, b7, b8, b9, b10, b11, b12⟩ := id hI
  have hlb := lb_r hI t
  have hno := noiseB_r hI b
  have hre := rent_r hI b
  have h12 := b12 t
  refine lv_aload_n hx hb dX9_barred_0 rfl (lv_at hl 0 rfl) ?_
  refine lv_iload_n hx hb dX9_barred_1 rfl (lv_at hl 1 rfl) ?_
  refine x_iconst hx hb dX9_barred_2 ?_
  refine vp_callSi (W.runV (As := [.int (zI t), .int (zI 1)]) (rest := []) ⟨hx, hb, hml, hown, htg⟩ (m_tenant l dg ck mo S F1 F2 F3 F4 M t 1 (by omega) (by decide)) (cwV 2 htg (gwV wq_1825 wq_1827 wp_56 wq_15 wq_1828) rfl rfl rfl (by decide +kernel) ⟨Nat.le_of_ble_eq_true rfl, Nat.le_of_ble_eq_true rfl⟩) (rd_preV hK hP 0 11 rfl rfl) rfl rfl hl.1 rfl (lv_room (Nat.le_of_ble_eq_true rfl)) dX9_barred_3 ⟨Nat.zero_le _, Nat.zero_le _⟩) (fun r3 hr3 => ?_)
  subst hr3
  have q3 := b12 t
  refine x_is (show (S (11 + Int.toNat 1) t) = (S 12 t) from rfl) ?_
  refine x_iconst hx hb dX9_barred_6 ?_
  refine x_icmp_ne (tgt := 17) hx hb dX9_barred_7 (by decide) (by omega) (by omega) (fun c7 => ?_) (fun c7 => ?_)
  · refine lv_aload_n hx hb dX9_barred_17 rfl (lv_at hl 0 rfl) ?_
    refine lv_iload_n hx hb dX9_barred_18 rfl (lv_at hl 1 rfl) ?_
    refine vp_callSi (W.runV (As := [.int (zI t)]) (rest := []) ⟨hx, hb, hml, hown, htg⟩ (m_benchBy l dg ck mo S F1 F2 F3 F4 M t hI (by omega)) (cwV 1 htg (gwV wq_1849 wq_1851 wp_58 wq_15 wq_1852) rfl rfl rfl (by decide +kernel) ⟨Nat.le_of_ble_eq_true rfl, Nat.le_of_ble_eq_true rfl⟩) (rd_preV hK hP 0 11 rfl rfl) rfl rfl hl.1 rfl (lv_room (Nat.le_of_ble_eq_true rfl)) dX9_barred_19 ⟨Nat.zero_le _, Nat.zero_le _⟩) (fun r19 hr19 => ?_)
    subst hr19
    refine x_iconst hx hb dX9_barred_22 ?_
    refine x_icmp_eq (tgt := 38) hx hb dX9_barred_23 (by decide) (by omega) (by omega) (fun c23 => ?_) (fun c23 => ?_)
    · refine lv_aload_n hx hb dX9_barred_38 rfl (lv_at hl 0 rfl) ?_
      refine lv_iload_n hx hb dX9_barred_39 rfl (lv_at hl 2 rfl) ?_
      refine vp_callSi (W.runV (As := [.int (zI b)]) (rest := []) ⟨hx, hb, hml, hown, htg⟩ (m_by l dg ck mo S F1 F2 F3 F4 M b (by omega)) (cwV 1 htg (gwV wq_1853 wq_1855 wp_59 wq_15 wq_1856) rfl rfl rfl (by decide +kernel) ⟨Nat.le_of_ble_eq_true rfl, Nat.le_of_ble_eq_true rfl⟩) (rd_preV hK hP 0 11 rfl rfl) rfl rfl hl.1 rfl (lv_room (Nat.le_of_ble_eq_true rfl)) dX9_barred_40 ⟨Nat.zero_le _, Nat.zero_le _⟩) (fun r40 hr40 => ?_)
      subst hr40
      have q40 := b4 b
      refine x_is (show (S 4 b - 1) = ((S 4 b) - 1) from rfl) ?_
      refine x_iconst hx hb dX9_barred_43 ?_
      refine x_icmp_eq (tgt := 59) hx hb dX9_barred_44 (by decide) (by omega) (by omega) (fun c44 => ?_) (fun c44 => ?_)
      · refine lv_aload_n hx hb dX9_barred_59 rfl (lv_at hl 0 rfl) ?_
        refine lv_iload_n hx hb dX9_barred_60 rfl (lv_at hl 2 rfl) ?_
        refine vp_callSi (W.runV (As := [.int (zI b)]) (rest := []) ⟨hx, hb, hml, hown, htg⟩ (m_quiet l dg ck mo S F1 F2 F3 F4 M b hI (by omega)) (cwV 1 htg (gwV wq_1797 wq_1799 wp_52 wq_15 wq_1800) rfl rfl rfl (by decide +kernel) ⟨Nat.le_of_ble_eq_true rfl, Nat.le_of_ble_eq_true rfl⟩) (rd_preV hK hP 0 11 rfl rfl) rfl rfl hl.1 rfl (lv_room (Nat.le_of_ble_eq_true rfl)) dX9_barred_61 ⟨Nat.zero_le _, Nat.zero_le _⟩) (fun r61 hr61 => ?_)
        subst hr61
        refine x_bz_ne (tgt := 79) hx hb dX9_barred_64 (by decide) (fun c64 => ?_) (fun c64 => ?_)
        · refine lv_aload_n hx hb dX9_barred_79 rfl (lv_at hl 0 rfl) ?_
          refine lv_iload_n hx hb dX9_barred_80 rfl (lv_at hl 1 rfl) ?_
          refine x_iconst hx hb dX9_barred_81 ?_
          refine vp_callSi (W.runV (As := [.int (zI t), .int (zI 0)]) (rest := []) ⟨hx, hb, hml, hown, htg⟩ (m_tenant l dg ck mo S F1 F2 F3 F4 M t 0 (by omega) (by decide)) (cwV 2 htg (gwV wq_1825 wq_1827 wp_56 wq_15 wq_1828) rfl rfl rfl (by decide +kernel) ⟨Nat.le_of_ble_eq_true rfl, Nat.le_of_ble_eq_true rfl⟩) (rd_preV hK hP 0 11 rfl rfl) rfl rfl hl.1 rfl (lv_room (Nat.le_of_ble_eq_true rfl)) dX9_barred_82 ⟨Nat.zero_le _, Nat.zero_le _⟩) (fun r82 hr82 => ?_)
          subst hr82
          have q82 := b11 t
          refine x_is (show (S (11 + Int.toNat 0) t) = (S 11 t) from rfl) ?_
          refine lv_aload_n hx hb dX9_barred_85 rfl (lv_at hl 0 rfl) ?_
          refine lv_iload_n hx hb dX9_barred_86 rfl (lv_at hl 2 rfl) ?_
          refine vp_callSi (W.runV (As := [.int (zI b)]) (rest := [.int (zI (S 11 t))]) ⟨hx, hb, hml, hown, htg⟩ (m_rent l dg ck mo S F1 F2 F3 F4 M b hI (by omega)) (cwV 1 htg (gwV wq_1753 wq_1755 wp_49 wq_15 wq_1756) rfl rfl rfl (by decide +kernel) ⟨Nat.le_of_ble_eq_true rfl, Nat.le_of_ble_eq_true rfl⟩) (rd_preV hK hP 0 11 rfl rfl) rfl rfl hl.1 rfl (lv_room (Nat.le_of_ble_eq_true rfl)) dX9_barred_87 ⟨Nat.zero_le _, Nat.zero_le _⟩) (fun r87 hr87 => ?_)
          subst hr87
          refine x_icmp_ge (tgt := 108) hx hb dX9_barred_90 (by decide) (by omega) (by omega) (fun c90 => ?_) (fun c90 => ?_)
          · refine x_iconst hx hb dX9_barred_108 ?_
            have hc : obst S t b = 0 := by unfold obst; repeat (first | rw [if_pos (by omega)] | rw [if_neg (by omega)])
            have hEq : modelC ck mo (encZ S) F1 F2 F3 F4 (barM S M t b) = modelC ck mo (encZ S) F1 F2 F3 F4 M := (by unfold barM; rw [hc] <;> rfl)
            exact W.iret (v := _) hx hb hr (fun t9 ht9 hW9 => ⟨⟨_, (), rfl, (congrArg zI hc.symm), by rw [ht9, hEq]; exact hP, by rw [hEq, hAe]; exact hD⟩, hS.F ht9⟩) hS.2.2 dX9_barred_109
          · refine lv_aload_n hx hb dX9_barred_93 rfl (lv_at hl 0 rfl) ?_
            refine x_bipush hx hb dX9_barred_94 (by decide) ?_
            refine lv_aload_n hx hb dX9_barred_96 rfl (lv_at hl 0 rfl) ?_
            refine lv_iload_n hx hb dX9_barred_97 rfl (lv_at hl 1 rfl) ?_
            refine x_iconst hx hb dX9_barred_98 ?_
            refine vp_callSi (W.runV (As := [.int (zI t), .int (zI 0)]) (rest := [.int (zI 9), .ref (mo 0)]) ⟨hx, hb, hml, hown, htg⟩ (m_tenant l dg ck mo S F1 F2 F3 F4 M t 0 (by omega) (by decide)) (cwV 2 htg (gwV wq_1825 wq_1827 wp_56 wq_15 wq_1828) rfl rfl rfl (by decide +kernel) ⟨Nat.le_of_ble_eq_true rfl, Nat.le_of_ble_eq_true rfl⟩) (rd_preV hK hP 0 11 rfl rfl) rfl rfl hl.1 rfl (lv_room (Nat.le_of_ble_eq_true rfl)) dX9_barred_99 ⟨Nat.zero_le _, Nat.zero_le _⟩) (fun r99 hr99 => ?_)
            subst hr99
            have q99 := b11 t
            refine x_is (show (S (11 + Int.toNat 0) t) = (S 11 t) from rfl) ?_
            refine x_calli (ws' := modelC ck mo (encZ S) F1 F2 F3 F4 (upS M 8 9 (S 11 t))) [] (M := modelC ck mo (encZ S) F1 F2 F3 F4 M) (M' := modelC ck mo (encZ S) F1 F2 F3 F4 (upS M 8 9 (S 11 t))) ([]) (List.append_nil _).symm (List.append_nil _).symm hP hD hS hA (fun hPm hDm => va_runV (As := [.int (zI 9), .int (zI (S 11 t))]) (rest := []) ⟨hx, hb, hml, hown, htg⟩ (m_rejected l dg ck mo S F1 F2 F3 F4 M 9 (S 11 t) _ ) (cwV 2 htg (gwV wq_1649 wq_1651 wp_33 wq_15 wq_1652) rfl rfl rfl (by decide +kernel) ⟨Nat.le_of_ble_eq_true rfl, Nat.le_of_ble_eq_true rfl⟩) (wr_preV hK hPm hDm 0 11 rfl rfl) rfl rfl hl.1 rfl (lv_room (Nat.le_of_ble_eq_true rfl)) dX9_barred_102 ⟨Nat.zero_le _, Nat.zero_le _⟩) (fun r102 H locs hr102 hP hD hS => ?_)
            subst hr102
            refine lv_goto (tgt := 109) hx hb dX9_barred_105 (by decide) ?_
            have hc : obst S t b = 9 := by unfold obst; repeat (first | rw [if_pos (by omega)] | rw [if_neg (by omega)])
            have hEq : modelC ck mo (encZ S) F1 F2 F3 F4 (barM S M t b) = modelC ck mo (encZ S) F1 F2 F3 F4 (upS M 8 9 (S 11 t)) := (by unfold barM; rw [hc] <;> rfl)
            exact W.iret (v := _) hx hb hr (fun t9 ht9 hW9 => ⟨⟨_, (), rfl, (congrArg zI hc.symm), by rw [ht9, hEq]; exact hP, by rw [hEq, hAe]; exact hD⟩, hS.F ht9⟩) hS.2.2 dX9_barred_109
        · refine lv_aload_n hx hb dX9_barred_67 rfl (lv_at hl 0 rfl) ?_
          refine x_bipush hx hb dX9_barred_68 (by decide) ?_
          refine lv_aload_n hx hb dX9_barred_70 rfl (lv_at hl 0 rfl) ?_
          refine lv_iload_n hx hb dX9_barred_71 rfl (lv_at hl 2 rfl) ?_
          refine vp_callSi (W.runV (As := [.int (zI b)]) (rest := [.int (zI 8), .ref (mo 0)]) ⟨hx, hb, hml, hown, htg⟩ (m_noiseOf l dg ck mo S F1 F2 F3 F4 M b hI (by omega)) (cwV 1 htg (gwV wq_1757 wq_1759 wp_50 wq_15 wq_1760) rfl rfl rfl (by decide +kernel) ⟨Nat.le_of_ble_eq_true rfl, Nat.le_of_ble_eq_true rfl⟩) (rd_preV hK hP 0 11 rfl rfl) rfl rfl hl.1 rfl (lv_room (Nat.le_of_ble_eq_true rfl)) dX9_barred_72 ⟨Nat.zero_le _, Nat.zero_le _⟩) (fun r72 hr72 => ?_)
          subst hr72
          refine x_calli (ws' := modelC ck mo (encZ S) F1 F2 F3 F4 (upS M 8 9 (noiseB S b))) [] (M := modelC ck mo (encZ S) F1 F2 F3 F4 M) (M' := modelC ck mo (encZ S) F1 F2 F3 F4 (upS M 8 9 (noiseB S b))) ([]) (List.append_nil _).symm (List.append_nil _).symm hP hD hS hA (fun hPm hDm => va_runV (As := [.int (zI 8), .int (zI (noiseB S b))]) (rest := []) ⟨hx, hb, hml, hown, htg⟩ (m_rejected l dg ck mo S F1 F2 F3 F4 M 8 (noiseB S b) _ ) (cwV 2 htg (gwV wq_1649 wq_1651 wp_33 wq_15 wq_1652) rfl rfl rfl (by decide +kernel) ⟨Nat.le_of_ble_eq_true rfl, Nat.le_of_ble_eq_true rfl⟩) (wr_preV hK hPm hDm 0 11 rfl rfl) rfl rfl hl.1 rfl (lv_room (Nat.le_of_ble_eq_true rfl)) dX9_barred_75 ⟨Nat.zero_le _, Nat.zero_le _⟩) (fun r75 H locs hr75 hP hD hS => ?_)
          subst hr75
          have hc : obst S t b = 8 := by unfold obst; repeat (first | rw [if_pos (by omega)] | rw [if_neg (by omega)])
          have hEq : modelC ck mo (encZ S) F1 F2 F3 F4 (barM S M t b) = modelC ck mo (encZ S) F1 F2 F3 F4 (upS M 8 9 (noiseB S b)) := (by unfold barM; rw [hc] <;> rfl)
          exact W.iret (v := _) hx hb hr (fun t9 ht9 hW9 => ⟨⟨_, (), rfl, (congrArg zI hc.symm), by rw [ht9, hEq]; exact hP, by rw [hEq, hAe]; exact hD⟩, hS.F ht9⟩) hS.2.2 dX9_barred_78
      · refine lv_aload_n hx hb dX9_barred_47 rfl (lv_at hl 0 rfl) ?_
        refine x_bipush hx hb dX9_barred_48 (by decide) ?_
        refine lv_aload_n hx hb dX9_barred_50 rfl (lv_at hl 0 rfl) ?_
        refine lv_iload_n hx hb dX9_barred_51 rfl (lv_at hl 2 rfl) ?_
        refine vp_callSi (W.runV (As := [.int (zI b)]) (rest := [.int (zI 7), .ref (mo 0)]) ⟨hx, hb, hml, hown, htg⟩ (m_by l dg ck mo S F1 F2 F3 F4 M b (by omega)) (cwV 1 htg (gwV wq_1853 wq_1855 wp_59 wq_15 wq_1856) rfl rfl rfl (by decide +kernel) ⟨Nat.le_of_ble_eq_true rfl, Nat.le_of_ble_eq_true rfl⟩) (rd_preV hK hP 0 11 rfl rfl) rfl rfl hl.1 rfl (lv_room (Nat.le_of_ble_eq_true rfl)) dX9_barred_52 ⟨Nat.zero_le _, Nat.zero_le _⟩) (fun r52 hr52 => ?_)
        subst hr52
        have q52 := b4 b
        refine x_is (show (S 4 b - 1) = ((S 4 b) - 1) from rfl) ?_
        refine x_calli (ws' := modelC ck mo (encZ S) F1 F2 F3 F4 (upS M 8 9 ((S 4 b) - 1))) [] (M := modelC ck mo (encZ S) F1 F2 F3 F4 M) (M' := modelC ck mo (encZ S) F1 F2 F3 F4 (upS M 8 9 ((S 4 b) - 1))) ([]) (List.append_nil _).symm (List.append_nil _).symm hP hD hS hA (fun hPm hDm => va_runV (As := [.int (zI 7), .int (zI ((S 4 b) - 1))]) (rest := []) ⟨hx, hb, hml, hown, htg⟩ (m_rejected l dg ck mo S F1 F2 F3 F4 M 7 ((S 4 b) - 1) _ ) (cwV 2 htg (gwV wq_1649 wq_1651 wp_33 wq_15 wq_1652) rfl rfl rfl (by decide +kernel) ⟨Nat.le_of_ble_eq_true rfl, Nat.le_of_ble_eq_true rfl⟩) (wr_preV hK hPm hDm 0 11 rfl rfl) rfl rfl hl.1 rfl (lv_room (Nat.le_of_ble_eq_true rfl)) dX9_barred_55 ⟨Nat.zero_le _, Nat.zero_le _⟩) (fun r55 H locs hr55 hP hD hS => ?_)
        subst hr55
        have hc : obst S t b = 7 := by unfold obst; repeat (first | rw [if_pos (by omega)] | rw [if_neg (by omega)])
        have hEq : modelC ck mo (encZ S) F1 F2 F3 F4 (barM S M t b) = modelC ck mo (encZ S) F1 F2 F3 F4 (upS M 8 9 ((S 4 b) - 1)) := (by unfold barM; rw [hc] <;> rfl)
        exact W.iret (v := _) hx hb hr (fun t9 ht9 hW9 => ⟨⟨_, (), rfl, (congrArg zI hc.symm), by rw [ht9, hEq]; exact hP, by rw [hEq, hAe]; exact hD⟩, hS.F ht9⟩) hS.2.2 dX9_barred_58
    · refine lv_aload_n hx hb dX9_barred_26 rfl (lv_at hl 0 rfl) ?_
      refine x_bipush hx hb dX9_barred_27 (by decide) ?_
      refine lv_aload_n hx hb dX9_barred_29 rfl (lv_at hl 0 rfl) ?_
      refine lv_iload_n hx hb dX9_barred_30 rfl (lv_at hl 1 rfl) ?_
      refine vp_callSi (W.runV (As := [.int (zI t)]) (rest := [.int (zI 6), .ref (mo 0)]) ⟨hx, hb, hml, hown, htg⟩ (m_benchBy l dg ck mo S F1 F2 F3 F4 M t hI (by omega)) (cwV 1 htg (gwV wq_1849 wq_1851 wp_58 wq_15 wq_1852) rfl rfl rfl (by decide +kernel) ⟨Nat.le_of_ble_eq_true rfl, Nat.le_of_ble_eq_true rfl⟩) (rd_preV hK hP 0 11 rfl rfl) rfl rfl hl.1 rfl (lv_room (Nat.le_of_ble_eq_true rfl)) dX9_barred_31 ⟨Nat.zero_le _, Nat.zero_le _⟩) (fun r31 hr31 => ?_)
      subst hr31
      refine x_calli (ws' := modelC ck mo (encZ S) F1 F2 F3 F4 (upS M 8 9 (lb S t))) [] (M := modelC ck mo (encZ S) F1 F2 F3 F4 M) (M' := modelC ck mo (encZ S) F1 F2 F3 F4 (upS M 8 9 (lb S t))) ([]) (List.append_nil _).symm (List.append_nil _).symm hP hD hS hA (fun hPm hDm => va_runV (As := [.int (zI 6), .int (zI (lb S t))]) (rest := []) ⟨hx, hb, hml, hown, htg⟩ (m_rejected l dg ck mo S F1 F2 F3 F4 M 6 (lb S t) _ ) (cwV 2 htg (gwV wq_1649 wq_1651 wp_33 wq_15 wq_1652) rfl rfl rfl (by decide +kernel) ⟨Nat.le_of_ble_eq_true rfl, Nat.le_of_ble_eq_true rfl⟩) (wr_preV hK hPm hDm 0 11 rfl rfl) rfl rfl hl.1 rfl (lv_room (Nat.le_of_ble_eq_true rfl)) dX9_barred_34 ⟨Nat.zero_le _, Nat.zero_le _⟩) (fun r34 H locs hr34 hP hD hS => ?_)
      subst hr34
      have hc : obst S t b = 6 := by unfold obst; repeat (first | rw [if_pos (by omega)] | rw [if_neg (by omega)])
      have hEq : modelC ck mo (encZ S) F1 F2 F3 F4 (barM S M t b) = modelC ck mo (encZ S) F1 F2 F3 F4 (upS M 8 9 (lb S t)) := (by unfold barM; rw [hc] <;> rfl)
      exact W.iret (v := _) hx hb hr (fun t9 ht9 hW9 => ⟨⟨_, (), rfl, (congrArg zI hc.symm), by rw [ht9, hEq]; exact hP, by rw [hEq, hAe]; exact hD⟩, hS.F ht9⟩) hS.2.2 dX9_barred_37
  · refine lv_aload_n hx hb dX9_barred_10 rfl (lv_at hl 0 rfl) ?_
    refine x_iconst hx hb dX9_barred_11 ?_
    refine lv_iload_n hx hb dX9_barred_12 rfl (lv_at hl 1 rfl) ?_
    refine x_calli (ws' := modelC ck mo (encZ S) F1 F2 F3 F4 (upS M 8 9 t)) [] (M := modelC ck mo (encZ S) F1 F2 F3 F4 M) (M' := modelC ck mo (encZ S) F1 F2 F3 F4 (upS M 8 9 t)) ([]) (List.append_nil _).symm (List.append_nil _).symm hP hD hS hA (fun hPm hDm => va_runV (As := [.int (zI 5), .int (zI t)]) (rest := []) ⟨hx, hb, hml, hown, htg⟩ (m_rejected l dg ck mo S F1 F2 F3 F4 M 5 t _ ) (cwV 2 htg (gwV wq_1649 wq_1651 wp_33 wq_15 wq_1652) rfl rfl rfl (by decide +kernel) ⟨Nat.le_of_ble_eq_true rfl, Nat.le_of_ble_eq_true rfl⟩) (wr_preV hK hPm hDm 0 11 rfl rfl) rfl rfl hl.1 rfl (lv_room (Nat.le_of_ble_eq_true rfl)) dX9_barred_13 ⟨Nat.zero_le _, Nat.zero_le _⟩) (fun r13 H locs hr13 hP hD hS => ?_)
    subst hr13
    have hc : obst S t b = 5 := by unfold obst; repeat (first | rw [if_pos (by omega)] | rw [if_neg (by omega)])
    have hEq : modelC ck mo (encZ S) F1 F2 F3 F4 (barM S M t b) = modelC ck mo (encZ S) F1 F2 F3 F4 (upS M 8 9 t) := (by unfold barM; rw [hc] <;> rfl)
    exact W.iret (v := _) hx hb hr (fun t9 ht9 hW9 => ⟨⟨_, (), rfl, (congrArg zI hc.symm), by rw [ht9, hEq]; exact hP, by rw [hEq, hAe]; exact hD⟩, hS.F ht9⟩) hS.2.2 dX9_barred_16

set_option maxHeartbeats 4000000 in
set_option maxRecDepth 100000 in
/-- BenchBrokerModel.addsBench -/
theorem m_addsBench (l : Launch) (dg : va_G) (ck : Nat → ClassId) (mo : Nat → Nat) (S : St) (F1 F2 F3 F4 : Int → Int) (M : St) (x y w : Int) (sz : Nat) {Mx : Int} (hV : Inv Mx S) (rg_x : -2147483648 ≤ x ∧ x < 2147483648) (rg_y : -2147483648 ≤ y ∧ y < 2147483648) (rg_w : -2147483648 ≤ w ∧ w < 2147483648) : Met l yX9_addsBench (.code yX9_addsBench cX9_addsBench 6 (some .int) :: GW) ({ frames := 2, cells := 0, slots := 0, locals := 45 }) (va_Pc [.ref (mo 0), .int (zI x), .int (zI y), .int (zI w)] (wrP dg ck sz (modelC ck mo (encZ S) F1 F2 F3 F4 M))) (va_Qi (fun r (_ : Unit) => r = zI (pbZ S x y w).1) (fun _ t9 => wrQ dg sz (modelC ck mo (encZ S) F1 F2 F3 F4 M) (modelC ck mo (encZ (pbZ S x y w).2.2) F1 F2 F3 F4 (mAns M (pbZ S x y w).1 (pbZ S x y w).2.1)) t9) (va_A (modelC ck mo (encZ S) F1 F2 F3 F4 M) sz)) 0 0 (va_A (modelC ck mo (encZ S) F1 F2 F3 F4 M) sz) := by
  refine Met.ofW (cc := cX9_addsBench) (maxL := 6) (ret := (some .int)) (by decide) rfl ?_
  intro p e s m args below meth c s₁ B hml hv
  obtain ⟨rfl, hsz, hP, hK, hD0⟩ := hv
  have hx := B.exec
  have hb := B.bytes
  have hr := B.returns
  have hts := atoms_spec (ws := .code yX9_addsBench cX9_addsBench 6 (some .int) :: GW) B.pre
  have htg : ∀ w ∈ GW, w.before _ s = true := fun w h => hts w (List.mem_cons_of_mem _ h)
  have hown : s.vm.findClass RX9 = some m.cls := findClass_of_methodNamed B.named
  have hlocks := B.notSynchronized
  subst hsz
  have hD := hD0.self (sz := s.heap.size)
  generalize hAe : va_A (modelC ck mo (encZ S) F1 F2 F3 F4 M) s.heap.size = A at hD ⊢
  have hA : ∀ q : Nat, s.heap.size ≤ q → A q := fun q h => by rw [← hAe]; exact Or.inr h
  have hS : va_S A s.heap s.heap [] := va_S.rf
  have hP : va_P dg vwCl (modelC ck mo (encZ S) F1 F2 F3 F4 M) s.heap := hP
  have hl := lv_entry ([.ref (mo 0), .int (zI x), .int (zI y), .int (zI w)]) (n := 6) (Nat.le_of_ble_eq_true rfl)
  rw [lg_entry_eq]
  generalize (lg_sl ([.ref (mo 0), .int (zI x), .int (zI y), .int (zI w)]) ++ List.replicate (6 - (lg_sl ([.ref (mo 0), .int (zI x), .int (zI y), .int (zI w)])).length) Slot.unset).toArray = ls at hl ⊢
  have hl : lv_has ls 6 [(0, .ref (mo 0)), (1, .int (zI x)), (2, .int (zI y)), (3, .int (zI w))] := hl
  have hI := hV.bd
  obtain ⟨b00, b01, b02, b03, b1, b2, b3, b4, b5, b6, b7, b8, b9, b10, b11, b12⟩ := id hI
  have hhr := holder_r hI x y
  have htop := hV.top
  refine lv_iload_n hx hb dX9_addsBench_0 rfl (lv_at hl 1 rfl) ?_
  refine lv_iload_n hx hb dX9_addsBench_1 rfl (lv_at hl 2 rfl) ?_
  refine vp_callSi (W.runS (As := [.int (zI x), .int (zI y)]) (rest := []) ⟨hx, hb, hml, hown, htg⟩ (m_isCell l dg ck x y (by omega) (by omega)) (cwS 2 htg (gwS wq_1643 wq_1644 wq_15 wq_1645) rfl rfl rfl (by decide +kernel) ⟨Nat.le_of_ble_eq_true rfl, Nat.le_of_ble_eq_true rfl⟩) (rd_preS hK va_P_nil) rfl rfl hl.1 rfl (lv_room (Nat.le_of_ble_eq_true rfl)) dX9_addsBench_2 ⟨Nat.zero_le _, Nat.zero_le _⟩) (fun r2 hr2 => ?_)
  subst hr2
  refine x_bz_ne (tgt := 10) hx hb dX9_addsBench_5 (by decide) (fun c5 => ?_) (fun c5 => ?_)
  · refine lv_iload_n hx hb dX9_addsBench_10 rfl (lv_at hl 3 rfl) ?_
    refine x_iconst hx hb dX9_addsBench_11 ?_
    refine x_bipush hx hb dX9_addsBench_12 (by decide) ?_
    refine vp_callSi (W.runS (As := [.int (zI w), .int (zI 1), .int (zI 20)]) (rest := []) ⟨hx, hb, hml, hown, htg⟩ (m_in l dg ck w 1 20 (by omega) (by omega) (by omega)) (cwS 3 htg (gwS wq_1646 wq_1647 wq_15 wq_1648) rfl rfl rfl (by decide +kernel) ⟨Nat.le_of_ble_eq_true rfl, Nat.le_of_ble_eq_true rfl⟩) (rd_preS hK va_P_nil) rfl rfl hl.1 rfl (lv_room (Nat.le_of_ble_eq_true rfl)) dX9_addsBench_14 ⟨Nat.zero_le _, Nat.zero_le _⟩) (fun r14 hr14 => ?_)
    subst hr14
    refine x_bz_ne (tgt := 23) hx hb dX9_addsBench_17 (by decide) (fun c17 => ?_) (fun c17 => ?_)
    · refine lv_aload_n hx hb dX9_addsBench_23 rfl (lv_at hl 0 rfl) ?_
      refine va_get (D := dg) (ci := 11) (v := .ref (mo 1)) (C := RX9) (T := TX9) (N := 23) hx hb htg inG_X9 hown hK hP 0 rfl rfl 1 (Nat.le_of_ble_eq_true rfl) (htg _ wq_1558) (fun _ h9 => h9) rfl dX9_addsBench_24 ?_
      refine x_iconst hx hb dX9_addsBench_27 ?_
      refine x_iald hx hb hK hP 1 0 (encZ S) rfl rfl (fun _ => rfl) (P := fun _ => True) (fun _ => trivial) (by decide) (by omega) dX9_addsBench_28 (fun _ => ?_)
      refine x_is (show (encZ S) 0 = (S 0 0) from (encV (k := 0) (i := 0) (Or.inl ⟨rfl, by decide, by decide, rfl⟩)).trans (rfl)) ?_
      refine lv_istore (lv' := [(4, .int (zI (S 0 0))), (0, .ref (mo 0)), (1, .int (zI x)), (2, .int (zI y)), (3, .int (zI w))]) hx hb dX9_addsBench_29 hl (by decide) rfl (fun ls hl => ?_)
      refine lv_iload hx hb dX9_addsBench_31 (lv_at hl 0 rfl) ?_
      refine x_bipush hx hb dX9_addsBench_33 (by decide) ?_
      refine x_icmp_ne (tgt := 46) hx hb dX9_addsBench_35 (by decide) (by omega) (by omega) (fun c35 => ?_) (fun c35 => ?_)
      · refine lv_aload_n hx hb dX9_addsBench_46 rfl (lv_at hl 1 rfl) ?_
        refine lv_iload_n hx hb dX9_addsBench_47 rfl (lv_at hl 2 rfl) ?_
        refine lv_iload_n hx hb dX9_addsBench_48 rfl (lv_at hl 3 rfl) ?_
        refine vp_callSi (W.runV (As := [.int (zI x), .int (zI y)]) (rest := []) ⟨hx, hb, hml, hown, htg⟩ (m_holder l dg ck mo S F1 F2 F3 F4 M x y hI (by omega) (by omega)) (cwV 2 htg (gwV wq_1653 wq_1655 wp_34 wq_15 wq_1656) rfl rfl rfl (by decide +kernel) ⟨Nat.le_of_ble_eq_true rfl, Nat.le_of_ble_eq_true rfl⟩) (rd_preV hK hP 0 11 rfl rfl) rfl rfl hl.1 rfl (lv_room (Nat.le_of_ble_eq_true rfl)) dX9_addsBench_49 ⟨Nat.zero_le _, Nat.zero_le _⟩) (fun r49 hr49 => ?_)
        subst hr49
        refine x_iconst hx hb dX9_addsBench_52 ?_
        refine x_icmp_eq (tgt := 68) hx hb dX9_addsBench_53 (by decide) (by omega) (by omega) (fun c53 => ?_) (fun c53 => ?_)
        · refine x_iconst hx hb dX9_addsBench_68 ?_
          refine lv_istore (lv' := [(5, .int (zI 0)), (4, .int (zI (S 0 0))), (0, .ref (mo 0)), (1, .int (zI x)), (2, .int (zI y)), (3, .int (zI w))]) hx hb dX9_addsBench_69 hl (by decide) rfl (fun ls hl => ?_)
          have hP : va_P dg vwCl (modelC ck mo (encZ (zrB S (S 0 0) 0)) F1 F2 F3 F4 M) _ := va_P_ch hP 1 rfl (fun j _ => by rw [zrB_0]) rfl
          have hD : va_D A (modelC ck mo (encZ (zrB S (S 0 0) 0)) F1 F2 F3 F4 M) := va_D_ch hD 1 rfl rfl
          refine x_loopW (ι := Int) (fun v => 0 ≤ v ∧ v ≤ 6) (fun v => (6 - v).toNat) (fun v => [(0, .ref (mo 0)), (1, .int (zI x)), (2, .int (zI y)), (3, .int (zI w)), (4, .int (zI (S 0 0))), (5, .int (zI v))]) (fun v => modelC ck mo (encZ (zrB S (S 0 0) v)) F1 F2 F3 F4 M) (0) (show 0 ≤ (0 : Int) ∧ (0 : Int) ≤ 6 from (by omega)) (lv_sub hl [2, 3, 4, 5, 1, 0] rfl) hP hD hS ?_
          intro v hv ih_71 ls H locs hl hP hD hS
          obtain ⟨k, rfl⟩ : ∃ z : Int, z = v := ⟨_, rfl⟩
          have hl : lv_has ls 6 [(0, .ref (mo 0)), (1, .int (zI x)), (2, .int (zI y)), (3, .int (zI w)), (4, .int (zI (S 0 0))), (5, .int (zI k))] := hl
          have hv : 0 ≤ k ∧ k ≤ 6 := hv
          have hP : va_P dg vwCl (modelC ck mo (encZ (zrB S (S 0 0) k)) F1 F2 F3 F4 M) H := hP
          have hD : va_D A (modelC ck mo (encZ (zrB S (S 0 0) k)) F1 F2 F3 F4 M) := hD
          obtain ⟨hk0, hk6⟩ := hv
          refine lv_iload hx hb dX9_addsBench_71 (lv_at hl 5 rfl) ?_
          refine x_bipush hx hb dX9_addsBench_73 (by decide) ?_
          refine x_icmp_ge (tgt := 101) hx hb dX9_addsBench_75 (by decide) (by omega) (by omega) (fun c75 => ?_) (fun c75 => ?_)
          · refine lv_aload_n hx hb dX9_addsBench_101 rfl (lv_at hl 0 rfl) ?_
            refine va_get (D := dg) (ci := 11) (v := .ref (mo 1)) (C := RX9) (T := TX9) (N := 23) hx hb htg inG_X9 hown hK hP 0 rfl rfl 1 (Nat.le_of_ble_eq_true rfl) (htg _ wq_1558) (fun _ h9 => h9) rfl dX9_addsBench_102 ?_
            refine x_bipush hx hb dX9_addsBench_105 (by decide) ?_
            refine x_bipush hx hb dX9_addsBench_107 (by decide) ?_
            refine lv_iload hx hb dX9_addsBench_109 (lv_at hl 4 rfl) ?_
            refine x_imul hx hb dX9_addsBench_111 ?_
            refine x_iadd hx hb dX9_addsBench_112 ?_
            refine x_iconst hx hb dX9_addsBench_113 ?_
            refine x_iadd hx hb dX9_addsBench_114 ?_
            refine lv_iload_n hx hb dX9_addsBench_115 rfl (lv_at hl 1 rfl) ?_
            refine x_iastC (ws' := modelC ck mo (encZ (upS (zrB S (S 0 0) k) 1 (S 0 0) x)) F1 F2 F3 F4 M) hx hb hK hP hD hS 1 0 rfl rfl (by decide) (by omega) (encW (k := 1) (i := (S 0 0)) (by omega) (by unfold encP; omega)) rfl dX9_addsBench_116 (fun H locs hP hD hS => ?_)
            refine lv_aload_n hx hb dX9_addsBench_117 rfl (lv_at hl 0 rfl) ?_
            refine va_get (D := dg) (ci := 11) (v := .ref (mo 1)) (C := RX9) (T := TX9) (N := 23) hx hb htg inG_X9 hown hK hP 0 rfl rfl 1 (Nat.le_of_ble_eq_true rfl) (htg _ wq_1558) (fun _ h9 => h9) rfl dX9_addsBench_118 ?_
            refine x_bipush hx hb dX9_addsBench_121 (by decide) ?_
            refine x_bipush hx hb dX9_addsBench_123 (by decide) ?_
            refine lv_iload hx hb dX9_addsBench_125 (lv_at hl 4 rfl) ?_
            refine x_imul hx hb dX9_addsBench_127 ?_
            refine x_iadd hx hb dX9_addsBench_128 ?_
            refine x_iconst hx hb dX9_addsBench_129 ?_
            refine x_iadd hx hb dX9_addsBench_130 ?_
            refine lv_iload_n hx hb dX9_addsBench_131 rfl (lv_at hl 2 rfl) ?_
            refine x_iastC (ws' := modelC ck mo (encZ (upS (upS (zrB S (S 0 0) k) 1 (S 0 0) x) 2 (S 0 0) y)) F1 F2 F3 F4 M) hx hb hK hP hD hS 1 0 rfl rfl (by decide) (by omega) (encW (k := 2) (i := (S 0 0)) (by omega) (by unfold encP; omega)) rfl dX9_addsBench_132 (fun H locs hP hD hS => ?_)
            refine lv_aload_n hx hb dX9_addsBench_133 rfl (lv_at hl 0 rfl) ?_
            refine va_get (D := dg) (ci := 11) (v := .ref (mo 1)) (C := RX9) (T := TX9) (N := 23) hx hb htg inG_X9 hown hK hP 0 rfl rfl 1 (Nat.le_of_ble_eq_true rfl) (htg _ wq_1558) (fun _ h9 => h9) rfl dX9_addsBench_134 ?_
            refine x_bipush hx hb dX9_addsBench_137 (by decide) ?_
            refine x_bipush hx hb dX9_addsBench_139 (by decide) ?_
            refine lv_iload hx hb dX9_addsBench_141 (lv_at hl 4 rfl) ?_
            refine x_imul hx hb dX9_addsBench_143 ?_
            refine x_iadd hx hb dX9_addsBench_144 ?_
            refine x_iconst hx hb dX9_addsBench_145 ?_
            refine x_iadd hx hb dX9_addsBench_146 ?_
            refine lv_iload_n hx hb dX9_addsBench_147 rfl (lv_at hl 3 rfl) ?_
            refine x_iastC (ws' := modelC ck mo (encZ (upS (upS (upS (zrB S (S 0 0) k) 1 (S 0 0) x) 2 (S 0 0) y) 3 (S 0 0) w)) F1 F2 F3 F4 M) hx hb hK hP hD hS 1 0 rfl rfl (by decide) (by omega) (encW (k := 3) (i := (S 0 0)) (by omega) (by unfold encP; omega)) rfl dX9_addsBench_148 (fun H locs hP hD hS => ?_)
            refine lv_aload_n hx hb dX9_addsBench_149 rfl (lv_at hl 0 rfl) ?_
            refine va_get (D := dg) (ci := 11) (v := .ref (mo 1)) (C := RX9) (T := TX9) (N := 23) hx hb htg inG_X9 hown hK hP 0 rfl rfl 1 (Nat.le_of_ble_eq_true rfl) (htg _ wq_1558) (fun _ h9 => h9) rfl dX9_addsBench_150 ?_
            refine x_iconst hx hb dX9_addsBench_153 ?_
            refine lv_iload hx hb dX9_addsBench_154 (lv_at hl 4 rfl) ?_
            refine x_iconst hx hb dX9_addsBench_156 ?_
            refine x_iadd hx hb dX9_addsBench_157 ?_
            refine x_iastC (ws' := modelC ck mo (encZ (upS (upS (upS (upS (zrB S (S 0 0) k) 1 (S 0 0) x) 2 (S 0 0) y) 3 (S 0 0) w) 0 0 ((S 0 0) + 1))) F1 F2 F3 F4 M) hx hb hK hP hD hS 1 0 rfl rfl (by decide) (by omega) (encW (k := 0) (i := 0) (by omega) (Or.inl ⟨rfl, by decide, by decide, rfl⟩)) rfl dX9_addsBench_158 (fun H locs hP hD hS => ?_)
            refine lv_aload_n hx hb dX9_addsBench_159 rfl (lv_at hl 0 rfl) ?_
            refine lv_iload hx hb dX9_addsBench_160 (lv_at hl 4 rfl) ?_
            refine x_calli (ws' := modelC ck mo (encZ (upS (upS (upS (upS (zrB S (S 0 0) k) 1 (S 0 0) x) 2 (S 0 0) y) 3 (S 0 0) w) 0 0 ((S 0 0) + 1))) F1 F2 F3 F4 (upS M 8 10 (S 0 0))) [] (M := modelC ck mo (encZ (upS (upS (upS (upS (zrB S (S 0 0) k) 1 (S 0 0) x) 2 (S 0 0) y) 3 (S 0 0) w) 0 0 ((S 0 0) + 1))) F1 F2 F3 F4 M) (M' := modelC ck mo (encZ (upS (upS (upS (upS (zrB S (S 0 0) k) 1 (S 0 0) x) 2 (S 0 0) y) 3 (S 0 0) w) 0 0 ((S 0 0) + 1))) F1 F2 F3 F4 (upS M 8 10 (S 0 0))) ([]) (List.append_nil _).symm (List.append_nil _).symm hP hD hS hA (fun hPm hDm => va_runV (As := [.int (zI (S 0 0))]) (rest := []) ⟨hx, hb, hml, hown, htg⟩ (m_done l dg ck mo (upS (upS (upS (upS (zrB S (S 0 0) k) 1 (S 0 0) x) 2 (S 0 0) y) 3 (S 0 0) w) 0 0 ((S 0 0) + 1)) F1 F2 F3 F4 M (S 0 0) _ ) (cwV 1 htg (gwV wq_1665 wq_1667 wp_37 wq_15 wq_1668) rfl rfl rfl (by decide +kernel) ⟨Nat.le_of_ble_eq_true rfl, Nat.le_of_ble_eq_true rfl⟩) (wr_preV hK hPm hDm 0 11 rfl rfl) rfl rfl hl.1 rfl (lv_room (Nat.le_of_ble_eq_true rfl)) dX9_addsBench_162 ⟨Nat.zero_le _, Nat.zero_le _⟩) (fun r162 H locs hr162 hP hD hS => ?_)
            subst hr162
            have hc : pbZ S x y w = (0, (S 0 0), (upS (upS (upS (upS (zrB S (S 0 0) k) 1 (S 0 0) x) 2 (S 0 0) y) 3 (S 0 0) w) 0 0 ((S 0 0) + 1))) := by unfold pbZ; (repeat (first | rw [if_pos (by omega)] | rw [if_neg (by omega)])); rw [zrB_6 (show k = 6 by omega) htop.1 htop.2.1 htop.2.2]
            have hEq : modelC ck mo (encZ (pbZ S x y w).2.2) F1 F2 F3 F4 (mAns M (pbZ S x y w).1 (pbZ S x y w).2.1) = modelC ck mo (encZ (upS (upS (upS (upS (zrB S (S 0 0) k) 1 (S 0 0) x) 2 (S 0 0) y) 3 (S 0 0) w) 0 0 ((S 0 0) + 1))) F1 F2 F3 F4 (upS M 8 10 (S 0 0)) := (by rw [hc] <;> rfl)
            exact W.iret (v := _) hx hb hr (fun t9 ht9 hW9 => ⟨⟨_, (), rfl, (by rw [hc] <;> rfl), by rw [ht9, hEq]; exact hP, by rw [hEq, hAe]; exact hD⟩, hS.F ht9⟩) hS.2.2 dX9_addsBench_165
          · refine lv_aload_n hx hb dX9_addsBench_78 rfl (lv_at hl 0 rfl) ?_
            refine va_get (D := dg) (ci := 11) (v := .ref (mo 1)) (C := RX9) (T := TX9) (N := 23) hx hb htg inG_X9 hown hK hP 0 rfl rfl 1 (Nat.le_of_ble_eq_true rfl) (htg _ wq_1558) (fun _ h9 => h9) rfl dX9_addsBench_79 ?_
            refine x_bipush hx hb dX9_addsBench_82 (by decide) ?_
            refine x_bipush hx hb dX9_addsBench_84 (by decide) ?_
            refine lv_iload hx hb dX9_addsBench_86 (lv_at hl 4 rfl) ?_
            refine x_imul hx hb dX9_addsBench_88 ?_
            refine x_iadd hx hb dX9_addsBench_89 ?_
            refine lv_iload hx hb dX9_addsBench_90 (lv_at hl 5 rfl) ?_
            refine x_iadd hx hb dX9_addsBench_92 ?_
            refine x_iconst hx hb dX9_addsBench_93 ?_
            refine x_iastC (ws' := modelC ck mo (encZ (zrB S (S 0 0) (k + 1))) F1 F2 F3 F4 M) hx hb hK hP hD hS 1 0 rfl rfl (by decide) (by omega) (zrB_put (by omega) (by omega)) rfl dX9_addsBench_94 (fun H locs hP hD hS => ?_)
            refine lv_iinc (v := zI (k + 1)) (lv' := [(5, .int (zI (k + 1))), (0, .ref (mo 0)), (1, .int (zI x)), (2, .int (zI y)), (3, .int (zI w)), (4, .int (zI (S 0 0)))]) hx hb dX9_addsBench_95 hl (k := 5) rfl (zI_add _ _) (by decide) rfl (fun ls hl => ?_)
            refine lv_goto (tgt := 71) hx hb dX9_addsBench_98 (by decide) ?_
            exact ih_71 ((k + 1)) (show 0 ≤ (k + 1) ∧ (k + 1) ≤ 6 from (by omega)) (show (6 - (k + 1)).toNat < (6 - k).toNat from by omega) ls H locs (lv_sub hl [1, 2, 3, 4, 5, 0] rfl) hP hD hS
        · refine lv_aload_n hx hb dX9_addsBench_56 rfl (lv_at hl 1 rfl) ?_
          refine x_iconst hx hb dX9_addsBench_57 ?_
          refine lv_aload_n hx hb dX9_addsBench_58 rfl (lv_at hl 1 rfl) ?_
          refine lv_iload_n hx hb dX9_addsBench_59 rfl (lv_at hl 2 rfl) ?_
          refine lv_iload_n hx hb dX9_addsBench_60 rfl (lv_at hl 3 rfl) ?_
          refine vp_callSi (W.runV (As := [.int (zI x), .int (zI y)]) (rest := [.int (zI 4), .ref (mo 0)]) ⟨hx, hb, hml, hown, htg⟩ (m_holder l dg ck mo S F1 F2 F3 F4 M x y hI (by omega) (by omega)) (cwV 2 htg (gwV wq_1653 wq_1655 wp_34 wq_15 wq_1656) rfl rfl rfl (by decide +kernel) ⟨Nat.le_of_ble_eq_true rfl, Nat.le_of_ble_eq_true rfl⟩) (rd_preV hK hP 0 11 rfl rfl) rfl rfl hl.1 rfl (lv_room (Nat.le_of_ble_eq_true rfl)) dX9_addsBench_61 ⟨Nat.zero_le _, Nat.zero_le _⟩) (fun r61 hr61 => ?_)
          subst hr61
          refine x_calli (ws' := modelC ck mo (encZ S) F1 F2 F3 F4 (upS M 8 9 (holder S x y))) [] (M := modelC ck mo (encZ S) F1 F2 F3 F4 M) (M' := modelC ck mo (encZ S) F1 F2 F3 F4 (upS M 8 9 (holder S x y))) ([]) (List.append_nil _).symm (List.append_nil _).symm hP hD hS hA (fun hPm hDm => va_runV (As := [.int (zI 4), .int (zI (holder S x y))]) (rest := []) ⟨hx, hb, hml, hown, htg⟩ (m_rejected l dg ck mo S F1 F2 F3 F4 M 4 (holder S x y) _ ) (cwV 2 htg (gwV wq_1649 wq_1651 wp_33 wq_15 wq_1652) rfl rfl rfl (by decide +kernel) ⟨Nat.le_of_ble_eq_true rfl, Nat.le_of_ble_eq_true rfl⟩) (wr_preV hK hPm hDm 0 11 rfl rfl) rfl rfl hl.1 rfl (lv_room (Nat.le_of_ble_eq_true rfl)) dX9_addsBench_64 ⟨Nat.zero_le _, Nat.zero_le _⟩) (fun r64 H locs hr64 hP hD hS => ?_)
          subst hr64
          have hc : pbZ S x y w = (4, (holder S x y), S) := by unfold pbZ; (repeat (first | rw [if_pos (by omega)] | rw [if_neg (by omega)]))
          have hEq : modelC ck mo (encZ (pbZ S x y w).2.2) F1 F2 F3 F4 (mAns M (pbZ S x y w).1 (pbZ S x y w).2.1) = modelC ck mo (encZ S) F1 F2 F3 F4 (upS M 8 9 (holder S x y)) := (by rw [hc] <;> rfl)
          exact W.iret (v := _) hx hb hr (fun t9 ht9 hW9 => ⟨⟨_, (), rfl, (by rw [hc] <;> rfl), by rw [ht9, hEq]; exact hP, by rw [hEq, hAe]; exact hD⟩, hS.F ht9⟩) hS.2.2 dX9_addsBench_67
      · refine lv_aload_n hx hb dX9_addsBench_38 rfl (lv_at hl 1 rfl) ?_
        refine x_iconst hx hb dX9_addsBench_39 ?_
        refine x_bipush hx hb dX9_addsBench_40 (by decide) ?_
        refine x_calli (ws' := modelC ck mo (encZ S) F1 F2 F3 F4 (upS M 8 9 10)) [] (M := modelC ck mo (encZ S) F1 F2 F3 F4 M) (M' := modelC ck mo (encZ S) F1 F2 F3 F4 (upS M 8 9 10)) ([]) (List.append_nil _).symm (List.append_nil _).symm hP hD hS hA (fun hPm hDm => va_runV (As := [.int (zI 1), .int (zI 10)]) (rest := []) ⟨hx, hb, hml, hown, htg⟩ (m_rejected l dg ck mo S F1 F2 F3 F4 M 1 10 _ ) (cwV 2 htg (gwV wq_1649 wq_1651 wp_33 wq_15 wq_1652) rfl rfl rfl (by decide +kernel) ⟨Nat.le_of_ble_eq_true rfl, Nat.le_of_ble_eq_true rfl⟩) (wr_preV hK hPm hDm 0 11 rfl rfl) rfl rfl hl.1 rfl (lv_room (Nat.le_of_ble_eq_true rfl)) dX9_addsBench_42 ⟨Nat.zero_le _, Nat.zero_le _⟩) (fun r42 H locs hr42 hP hD hS => ?_)
        subst hr42
        have hc : pbZ S x y w = (1, 10, S) := by unfold pbZ; (repeat (first | rw [if_pos (by omega)] | rw [if_neg (by omega)]))
        have hEq : modelC ck mo (encZ (pbZ S x y w).2.2) F1 F2 F3 F4 (mAns M (pbZ S x y w).1 (pbZ S x y w).2.1) = modelC ck mo (encZ S) F1 F2 F3 F4 (upS M 8 9 10) := (by rw [hc] <;> rfl)
        exact W.iret (v := _) hx hb hr (fun t9 ht9 hW9 => ⟨⟨_, (), rfl, (by rw [hc] <;> rfl), by rw [ht9, hEq]; exact hP, by rw [hEq, hAe]; exact hD⟩, hS.F ht9⟩) hS.2.2 dX9_addsBench_45
    · refine x_bipush hx hb dX9_addsBench_20 (by decide) ?_
      have hc : pbZ S x y w = ((-2), 0, S) := by unfold pbZ; (repeat (first | rw [if_pos (by omega)] | rw [if_neg (by omega)]))
      have hEq : modelC ck mo (encZ (pbZ S x y w).2.2) F1 F2 F3 F4 (mAns M (pbZ S x y w).1 (pbZ S x y w).2.1) = modelC ck mo (encZ S) F1 F2 F3 F4 M := (by rw [hc] <;> rfl)
      exact W.iret (v := _) hx hb hr (fun t9 ht9 hW9 => ⟨⟨_, (), rfl, (by rw [hc] <;> rfl), by rw [ht9, hEq]; exact hP, by rw [hEq, hAe]; exact hD⟩, hS.F ht9⟩) hS.2.2 dX9_addsBench_22
  · refine x_iconst hx hb dX9_addsBench_8 ?_
    have hc : pbZ S x y w = ((-1), 0, S) := by unfold pbZ; (repeat (first | rw [if_pos (by omega)] | rw [if_neg (by omega)]))
    have hEq : modelC ck mo (encZ (pbZ S x y w).2.2) F1 F2 F3 F4 (mAns M (pbZ S x y w).1 (pbZ S x y w).2.1) = modelC ck mo (encZ S) F1 F2 F3 F4 M := (by rw [hc] <;> rfl)
    exact W.iret (v := _) hx hb hr (fun t9 ht9 hW9 => ⟨⟨_, (), rfl, (by rw [hc] <;> rfl), by rw [ht9, hEq]; exact hP, by rw [hEq, hAe]; exact hD⟩, hS.F ht9⟩) hS.2.2 dX9_addsBench_9

set_option maxHeartbeats 4000000 in
set_option maxRecDepth 100000 in
/-- BenchBrokerModel.addsFountain -/
theorem m_addsFountain (l : Launch) (dg : va_G) (ck : Nat → ClassId) (mo : Nat → Nat) (S : St) (F1 F2 F3 F4 : Int → Int) (M : St) (x y v : Int) (sz : Nat) {Mx : Int} (hV : Inv Mx S) (rg_x : -2147483648 ≤ x ∧ x < 2147483648) (rg_y : -2147483648 ≤ y ∧ y < 2147483648) (rg_v : -2147483648 ≤ v ∧ v < 2147483648) : Met l yX9_addsFountain (.code yX9_addsFountain cX9_addsFountain 5 (some .int) :: GW) ({ frames := 2, cells := 0, slots := 0, locals := 45 }) (va_Pc [.ref (mo 0), .int (zI x), .int (zI y), .int (zI v)] (wrP dg ck sz (modelC ck mo (encZ S) F1 F2 F3 F4 M))) (va_Qi (fun r (_ : Unit) => r = zI (pfZ S x y v).1) (fun _ t9 => wrQ dg sz (modelC ck mo (encZ S) F1 F2 F3 F4 M) (modelC ck mo (encZ (pfZ S x y v).2.2) F1 F2 F3 F4 (mAns M (pfZ S x y v).1 (pfZ S x y v).2.1)) t9) (va_A (modelC ck mo (encZ S) F1 F2 F3 F4 M) sz)) 0 0 (va_A (modelC ck mo (encZ S) F1 F2 F3 F4 M) sz) := by
  refine Met.ofW (cc := cX9_addsFountain) (maxL := 5) (ret := (some .int)) (by decide) rfl ?_
  intro p e s m args below meth c s₁ B hml hv
  obtain ⟨rfl, hsz, hP, hK, hD0⟩ := hv
  have hx := B.exec
  have hb := B.bytes
  have hr := B.returns
  have hts := atoms_spec (ws := .code yX9_addsFountain cX9_addsFountain 5 (some .int) :: GW) B.pre
  have htg : ∀ w ∈ GW, w.before _ s = true := fun w h => hts w (List.mem_cons_of_mem _ h)
  have hown : s.vm.findClass RX9 = some m.cls := findClass_of_methodNamed B.named
  have hlocks := B.notSynchronized
  subst hsz
  have hD := hD0.self (sz := s.heap.size)
  generalize hAe : va_A (modelC ck mo (encZ S) F1 F2 F3 F4 M) s.heap.size = A at hD ⊢
  have hA : ∀ q : Nat, s.heap.size ≤ q → A q := fun q h => by rw [← hAe]; exact Or.inr h
  have hS : va_S A s.heap s.heap [] := va_S.rf
  have hP : va_P dg vwCl (modelC ck mo (encZ S) F1 F2 F3 F4 M) s.heap := hP
  have hl := lv_entry ([.ref (mo 0), .int (zI x), .int (zI y), .int (zI v)]) (n := 5) (Nat.le_of_ble_eq_true rfl)
  rw [lg_entry_eq]
  generalize (lg_sl ([.ref (mo 0), .int (zI x), .int (zI y), .int (zI v)]) ++ List.replicate (5 - (lg_sl ([.ref (mo 0), .int (zI x), .int (zI y), .int (zI v)])).length) Slot.unset).toArray = ls at hl ⊢
  have hl : lv_has ls 5 [(0, .ref (mo 0)), (1, .int (zI x)), (2, .int (zI y)), (3, .int (zI v))] := hl
  have hI := hV.bd
  obtain ⟨b00, b01, b02, b03, b1, b2, b3, b4, b5, b6, b7, b8, b9, b10, b11, b12⟩ := id hI
  have hhr := holder_r hI x y
  refine lv_iload_n hx hb dX9_addsFountain_0 rfl (lv_at hl 1 rfl) ?_
  refine lv_iload_n hx hb dX9_addsFountain_1 rfl (lv_at hl 2 rfl) ?_
  refine vp_callSi (W.runS (As := [.int (zI x), .int (zI y)]) (rest := []) ⟨hx, hb, hml, hown, htg⟩ (m_isCell l dg ck x y (by omega) (by omega)) (cwS 2 htg (gwS wq_1643 wq_1644 wq_15 wq_1645) rfl rfl rfl (by decide +kernel) ⟨Nat.le_of_ble_eq_true rfl, Nat.le_of_ble_eq_true rfl⟩) (rd_preS hK va_P_nil) rfl rfl hl.1 rfl (lv_room (Nat.le_of_ble_eq_true rfl)) dX9_addsFountain_2 ⟨Nat.zero_le _, Nat.zero_le _⟩) (fun r2 hr2 => ?_)
  subst hr2
  refine x_bz_ne (tgt := 10) hx hb dX9_addsFountain_5 (by decide) (fun c5 => ?_) (fun c5 => ?_)
  · refine lv_iload_n hx hb dX9_addsFountain_10 rfl (lv_at hl 3 rfl) ?_
    refine x_iconst hx hb dX9_addsFountain_11 ?_
    refine x_bipush hx hb dX9_addsFountain_12 (by decide) ?_
    refine vp_callSi (W.runS (As := [.int (zI v), .int (zI 1), .int (zI 9)]) (rest := []) ⟨hx, hb, hml, hown, htg⟩ (m_in l dg ck v 1 9 (by omega) (by omega) (by omega)) (cwS 3 htg (gwS wq_1646 wq_1647 wq_15 wq_1648) rfl rfl rfl (by decide +kernel) ⟨Nat.le_of_ble_eq_true rfl, Nat.le_of_ble_eq_true rfl⟩) (rd_preS hK va_P_nil) rfl rfl hl.1 rfl (lv_room (Nat.le_of_ble_eq_true rfl)) dX9_addsFountain_14 ⟨Nat.zero_le _, Nat.zero_le _⟩) (fun r14 hr14 => ?_)
    subst hr14
    refine x_bz_ne (tgt := 23) hx hb dX9_addsFountain_17 (by decide) (fun c17 => ?_) (fun c17 => ?_)
    · refine lv_aload_n hx hb dX9_addsFountain_23 rfl (lv_at hl 0 rfl) ?_
      refine va_get (D := dg) (ci := 11) (v := .ref (mo 1)) (C := RX9) (T := TX9) (N := 23) hx hb htg inG_X9 hown hK hP 0 rfl rfl 1 (Nat.le_of_ble_eq_true rfl) (htg _ wq_1558) (fun _ h9 => h9) rfl dX9_addsFountain_24 ?_
      refine x_iconst hx hb dX9_addsFountain_27 ?_
      refine x_iald hx hb hK hP 1 0 (encZ S) rfl rfl (fun _ => rfl) (P := fun _ => True) (fun _ => trivial) (by decide) (by omega) dX9_addsFountain_28 (fun _ => ?_)
      refine x_is (show (encZ S) 1 = (S 0 1) from (encV (k := 0) (i := 1) (Or.inl ⟨rfl, by decide, by decide, rfl⟩)).trans (rfl)) ?_
      refine lv_istore (lv' := [(4, .int (zI (S 0 1))), (0, .ref (mo 0)), (1, .int (zI x)), (2, .int (zI y)), (3, .int (zI v))]) hx hb dX9_addsFountain_29 hl (by decide) rfl (fun ls hl => ?_)
      refine lv_iload hx hb dX9_addsFountain_31 (lv_at hl 0 rfl) ?_
      refine x_iconst hx hb dX9_addsFountain_33 ?_
      refine x_icmp_ne (tgt := 44) hx hb dX9_addsFountain_34 (by decide) (by omega) (by omega) (fun c34 => ?_) (fun c34 => ?_)
      · refine lv_aload_n hx hb dX9_addsFountain_44 rfl (lv_at hl 1 rfl) ?_
        refine lv_iload_n hx hb dX9_addsFountain_45 rfl (lv_at hl 2 rfl) ?_
        refine lv_iload_n hx hb dX9_addsFountain_46 rfl (lv_at hl 3 rfl) ?_
        refine vp_callSi (W.runV (As := [.int (zI x), .int (zI y)]) (rest := []) ⟨hx, hb, hml, hown, htg⟩ (m_holder l dg ck mo S F1 F2 F3 F4 M x y hI (by omega) (by omega)) (cwV 2 htg (gwV wq_1653 wq_1655 wp_34 wq_15 wq_1656) rfl rfl rfl (by decide +kernel) ⟨Nat.le_of_ble_eq_true rfl, Nat.le_of_ble_eq_true rfl⟩) (rd_preV hK hP 0 11 rfl rfl) rfl rfl hl.1 rfl (lv_room (Nat.le_of_ble_eq_true rfl)) dX9_addsFountain_47 ⟨Nat.zero_le _, Nat.zero_le _⟩) (fun r47 hr47 => ?_)
        subst hr47
        refine x_iconst hx hb dX9_addsFountain_50 ?_
        refine x_icmp_eq (tgt := 66) hx hb dX9_addsFountain_51 (by decide) (by omega) (by omega) (fun c51 => ?_) (fun c51 => ?_)
        · refine lv_aload_n hx hb dX9_addsFountain_66 rfl (lv_at hl 1 rfl) ?_
          refine va_get (D := dg) (ci := 11) (v := .ref (mo 1)) (C := RX9) (T := TX9) (N := 23) hx hb htg inG_X9 hown hK hP 0 rfl rfl 1 (Nat.le_of_ble_eq_true rfl) (htg _ wq_1558) (fun _ h9 => h9) rfl dX9_addsFountain_67 ?_
          refine x_bipush hx hb dX9_addsFountain_70 (by decide) ?_
          refine x_iconst hx hb dX9_addsFountain_72 ?_
          refine lv_iload hx hb dX9_addsFountain_73 (lv_at hl 0 rfl) ?_
          refine x_imul hx hb dX9_addsFountain_75 ?_
          refine x_iadd hx hb dX9_addsFountain_76 ?_
          refine x_iconst hx hb dX9_addsFountain_77 ?_
          refine x_iadd hx hb dX9_addsFountain_78 ?_
          refine lv_iload_n hx hb dX9_addsFountain_79 rfl (lv_at hl 2 rfl) ?_
          refine x_iastC (ws' := modelC ck mo (encZ (upS S 7 (S 0 1) x)) F1 F2 F3 F4 M) hx hb hK hP hD hS 1 0 rfl rfl (by decide) (by omega) (encW (k := 7) (i := (S 0 1)) (by omega) (by unfold encP; omega)) rfl dX9_addsFountain_80 (fun H locs hP hD hS => ?_)
          refine lv_aload_n hx hb dX9_addsFountain_81 rfl (lv_at hl 1 rfl) ?_
          refine va_get (D := dg) (ci := 11) (v := .ref (mo 1)) (C := RX9) (T := TX9) (N := 23) hx hb htg inG_X9 hown hK hP 0 rfl rfl 1 (Nat.le_of_ble_eq_true rfl) (htg _ wq_1558) (fun _ h9 => h9) rfl dX9_addsFountain_82 ?_
          refine x_bipush hx hb dX9_addsFountain_85 (by decide) ?_
          refine x_iconst hx hb dX9_addsFountain_87 ?_
          refine lv_iload hx hb dX9_addsFountain_88 (lv_at hl 0 rfl) ?_
          refine x_imul hx hb dX9_addsFountain_90 ?_
          refine x_iadd hx hb dX9_addsFountain_91 ?_
          refine x_iconst hx hb dX9_addsFountain_92 ?_
          refine x_iadd hx hb dX9_addsFountain_93 ?_
          refine lv_iload_n hx hb dX9_addsFountain_94 rfl (lv_at hl 3 rfl) ?_
          refine x_iastC (ws' := modelC ck mo (encZ (upS (upS S 7 (S 0 1) x) 8 (S 0 1) y)) F1 F2 F3 F4 M) hx hb hK hP hD hS 1 0 rfl rfl (by decide) (by omega) (encW (k := 8) (i := (S 0 1)) (by omega) (by unfold encP; omega)) rfl dX9_addsFountain_95 (fun H locs hP hD hS => ?_)
          refine lv_aload_n hx hb dX9_addsFountain_96 rfl (lv_at hl 1 rfl) ?_
          refine va_get (D := dg) (ci := 11) (v := .ref (mo 1)) (C := RX9) (T := TX9) (N := 23) hx hb htg inG_X9 hown hK hP 0 rfl rfl 1 (Nat.le_of_ble_eq_true rfl) (htg _ wq_1558) (fun _ h9 => h9) rfl dX9_addsFountain_97 ?_
          refine x_bipush hx hb dX9_addsFountain_100 (by decide) ?_
          refine x_iconst hx hb dX9_addsFountain_102 ?_
          refine lv_iload hx hb dX9_addsFountain_103 (lv_at hl 0 rfl) ?_
          refine x_imul hx hb dX9_addsFountain_105 ?_
          refine x_iadd hx hb dX9_addsFountain_106 ?_
          refine x_iconst hx hb dX9_addsFountain_107 ?_
          refine x_iadd hx hb dX9_addsFountain_108 ?_
          refine lv_iload_n hx hb dX9_addsFountain_109 rfl (lv_at hl 4 rfl) ?_
          refine x_iastC (ws' := modelC ck mo (encZ (upS (upS (upS S 7 (S 0 1) x) 8 (S 0 1) y) 9 (S 0 1) v)) F1 F2 F3 F4 M) hx hb hK hP hD hS 1 0 rfl rfl (by decide) (by omega) (encW (k := 9) (i := (S 0 1)) (by omega) (by unfold encP; omega)) rfl dX9_addsFountain_110 (fun H locs hP hD hS => ?_)
          refine lv_aload_n hx hb dX9_addsFountain_111 rfl (lv_at hl 1 rfl) ?_
          refine va_get (D := dg) (ci := 11) (v := .ref (mo 1)) (C := RX9) (T := TX9) (N := 23) hx hb htg inG_X9 hown hK hP 0 rfl rfl 1 (Nat.le_of_ble_eq_true rfl) (htg _ wq_1558) (fun _ h9 => h9) rfl dX9_addsFountain_112 ?_
          refine x_bipush hx hb dX9_addsFountain_115 (by decide) ?_
          refine x_iconst hx hb dX9_addsFountain_117 ?_
          refine lv_iload hx hb dX9_addsFountain_118 (lv_at hl 0 rfl) ?_
          refine x_imul hx hb dX9_addsFountain_120 ?_
          refine x_iadd hx hb dX9_addsFountain_121 ?_
          refine x_iconst hx hb dX9_addsFountain_122 ?_
          refine x_iadd hx hb dX9_addsFountain_123 ?_
          refine x_iconst hx hb dX9_addsFountain_124 ?_
          refine x_iastC (ws' := modelC ck mo (encZ (upS (upS (upS (upS S 7 (S 0 1) x) 8 (S 0 1) y) 9 (S 0 1) v) 10 (S 0 1) 1)) F1 F2 F3 F4 M) hx hb hK hP hD hS 1 0 rfl rfl (by decide) (by omega) (encW (k := 10) (i := (S 0 1)) (by omega) (by unfold encP; omega)) rfl dX9_addsFountain_125 (fun H locs hP hD hS => ?_)
          refine lv_aload_n hx hb dX9_addsFountain_126 rfl (lv_at hl 1 rfl) ?_
          refine va_get (D := dg) (ci := 11) (v := .ref (mo 1)) (C := RX9) (T := TX9) (N := 23) hx hb htg inG_X9 hown hK hP 0 rfl rfl 1 (Nat.le_of_ble_eq_true rfl) (htg _ wq_1558) (fun _ h9 => h9) rfl dX9_addsFountain_127 ?_
          refine x_iconst hx hb dX9_addsFountain_130 ?_
          refine lv_iload hx hb dX9_addsFountain_131 (lv_at hl 0 rfl) ?_
          refine x_iconst hx hb dX9_addsFountain_133 ?_
          refine x_iadd hx hb dX9_addsFountain_134 ?_
          refine x_iastC (ws' := modelC ck mo (encZ (upS (upS (upS (upS (upS S 7 (S 0 1) x) 8 (S 0 1) y) 9 (S 0 1) v) 10 (S 0 1) 1) 0 1 ((S 0 1) + 1))) F1 F2 F3 F4 M) hx hb hK hP hD hS 1 0 rfl rfl (by decide) (by omega) (encW (k := 0) (i := 1) (by omega) (Or.inl ⟨rfl, by decide, by decide, rfl⟩)) rfl dX9_addsFountain_135 (fun H locs hP hD hS => ?_)
          refine lv_aload_n hx hb dX9_addsFountain_136 rfl (lv_at hl 1 rfl) ?_
          refine lv_iload hx hb dX9_addsFountain_137 (lv_at hl 0 rfl) ?_
          refine x_calli (ws' := modelC ck mo (encZ (upS (upS (upS (upS (upS S 7 (S 0 1) x) 8 (S 0 1) y) 9 (S 0 1) v) 10 (S 0 1) 1) 0 1 ((S 0 1) + 1))) F1 F2 F3 F4 (upS M 8 10 (S 0 1))) [] (M := modelC ck mo (encZ (upS (upS (upS (upS (upS S 7 (S 0 1) x) 8 (S 0 1) y) 9 (S 0 1) v) 10 (S 0 1) 1) 0 1 ((S 0 1) + 1))) F1 F2 F3 F4 M) (M' := modelC ck mo (encZ (upS (upS (upS (upS (upS S 7 (S 0 1) x) 8 (S 0 1) y) 9 (S 0 1) v) 10 (S 0 1) 1) 0 1 ((S 0 1) + 1))) F1 F2 F3 F4 (upS M 8 10 (S 0 1))) ([]) (List.append_nil _).symm (List.append_nil _).symm hP hD hS hA (fun hPm hDm => va_runV (As := [.int (zI (S 0 1))]) (rest := []) ⟨hx, hb, hml, hown, htg⟩ (m_done l dg ck mo (upS (upS (upS (upS (upS S 7 (S 0 1) x) 8 (S 0 1) y) 9 (S 0 1) v) 10 (S 0 1) 1) 0 1 ((S 0 1) + 1)) F1 F2 F3 F4 M (S 0 1) _ ) (cwV 1 htg (gwV wq_1665 wq_1667 wp_37 wq_15 wq_1668) rfl rfl rfl (by decide +kernel) ⟨Nat.le_of_ble_eq_true rfl, Nat.le_of_ble_eq_true rfl⟩) (wr_preV hK hPm hDm 0 11 rfl rfl) rfl rfl hl.1 rfl (lv_room (Nat.le_of_ble_eq_true rfl)) dX9_addsFountain_139 ⟨Nat.zero_le _, Nat.zero_le _⟩) (fun r139 H locs hr139 hP hD hS => ?_)
          subst hr139
          have hc : pfZ S x y v = (0, (S 0 1), (upS (upS (upS (upS (upS S 7 (S 0 1) x) 8 (S 0 1) y) 9 (S 0 1) v) 10 (S 0 1) 1) 0 1 ((S 0 1) + 1))) := by unfold pfZ; (repeat (first | rw [if_pos (by omega)] | rw [if_neg (by omega)]))
          have hEq : modelC ck mo (encZ (pfZ S x y v).2.2) F1 F2 F3 F4 (mAns M (pfZ S x y v).1 (pfZ S x y v).2.1) = modelC ck mo (encZ (upS (upS (upS (upS (upS S 7 (S 0 1) x) 8 (S 0 1) y) 9 (S 0 1) v) 10 (S 0 1) 1) 0 1 ((S 0 1) + 1))) F1 F2 F3 F4 (upS M 8 10 (S 0 1)) := (by rw [hc] <;> rfl)
          exact W.iret (v := _) hx hb hr (fun t9 ht9 hW9 => ⟨⟨_, (), rfl, (by rw [hc] <;> rfl), by rw [ht9, hEq]; exact hP, by rw [hEq, hAe]; exact hD⟩, hS.F ht9⟩) hS.2.2 dX9_addsFountain_142
        · refine lv_aload_n hx hb dX9_addsFountain_54 rfl (lv_at hl 1 rfl) ?_
          refine x_iconst hx hb dX9_addsFountain_55 ?_
          refine lv_aload_n hx hb dX9_addsFountain_56 rfl (lv_at hl 1 rfl) ?_
          refine lv_iload_n hx hb dX9_addsFountain_57 rfl (lv_at hl 2 rfl) ?_
          refine lv_iload_n hx hb dX9_addsFountain_58 rfl (lv_at hl 3 rfl) ?_
          refine vp_callSi (W.runV (As := [.int (zI x), .int (zI y)]) (rest := [.int (zI 4), .ref (mo 0)]) ⟨hx, hb, hml, hown, htg⟩ (m_holder l dg ck mo S F1 F2 F3 F4 M x y hI (by omega) (by omega)) (cwV 2 htg (gwV wq_1653 wq_1655 wp_34 wq_15 wq_1656) rfl rfl rfl (by decide +kernel) ⟨Nat.le_of_ble_eq_true rfl, Nat.le_of_ble_eq_true rfl⟩) (rd_preV hK hP 0 11 rfl rfl) rfl rfl hl.1 rfl (lv_room (Nat.le_of_ble_eq_true rfl)) dX9_addsFountain_59 ⟨Nat.zero_le _, Nat.zero_le _⟩) (fun r59 hr59 => ?_)
          subst hr59
          refine x_calli (ws' := modelC ck mo (encZ S) F1 F2 F3 F4 (upS M 8 9 (holder S x y))) [] (M := modelC ck mo (encZ S) F1 F2 F3 F4 M) (M' := modelC ck mo (encZ S) F1 F2 F3 F4 (upS M 8 9 (holder S x y))) ([]) (List.append_nil _).symm (List.append_nil _).symm hP hD hS hA (fun hPm hDm => va_runV (As := [.int (zI 4), .int (zI (holder S x y))]) (rest := []) ⟨hx, hb, hml, hown, htg⟩ (m_rejected l dg ck mo S F1 F2 F3 F4 M 4 (holder S x y) _ ) (cwV 2 htg (gwV wq_1649 wq_1651 wp_33 wq_15 wq_1652) rfl rfl rfl (by decide +kernel) ⟨Nat.le_of_ble_eq_true rfl, Nat.le_of_ble_eq_true rfl⟩) (wr_preV hK hPm hDm 0 11 rfl rfl) rfl rfl hl.1 rfl (lv_room (Nat.le_of_ble_eq_true rfl)) dX9_addsFountain_62 ⟨Nat.zero_le _, Nat.zero_le _⟩) (fun r62 H locs hr62 hP hD hS => ?_)
          subst hr62
          have hc : pfZ S x y v = (4, (holder S x y), S) := by unfold pfZ; (repeat (first | rw [if_pos (by omega)] | rw [if_neg (by omega)]))
          have hEq : modelC ck mo (encZ (pfZ S x y v).2.2) F1 F2 F3 F4 (mAns M (pfZ S x y v).1 (pfZ S x y v).2.1) = modelC ck mo (encZ S) F1 F2 F3 F4 (upS M 8 9 (holder S x y)) := (by rw [hc] <;> rfl)
          exact W.iret (v := _) hx hb hr (fun t9 ht9 hW9 => ⟨⟨_, (), rfl, (by rw [hc] <;> rfl), by rw [ht9, hEq]; exact hP, by rw [hEq, hAe]; exact hD⟩, hS.F ht9⟩) hS.2.2 dX9_addsFountain_65
      · refine lv_aload_n hx hb dX9_addsFountain_37 rfl (lv_at hl 1 rfl) ?_
        refine x_iconst hx hb dX9_addsFountain_38 ?_
        refine x_iconst hx hb dX9_addsFountain_39 ?_
        refine x_calli (ws' := modelC ck mo (encZ S) F1 F2 F3 F4 (upS M 8 9 4)) [] (M := modelC ck mo (encZ S) F1 F2 F3 F4 M) (M' := modelC ck mo (encZ S) F1 F2 F3 F4 (upS M 8 9 4)) ([]) (List.append_nil _).symm (List.append_nil _).symm hP hD hS hA (fun hPm hDm => va_runV (As := [.int (zI 2), .int (zI 4)]) (rest := []) ⟨hx, hb, hml, hown, htg⟩ (m_rejected l dg ck mo S F1 F2 F3 F4 M 2 4 _ ) (cwV 2 htg (gwV wq_1649 wq_1651 wp_33 wq_15 wq_1652) rfl rfl rfl (by decide +kernel) ⟨Nat.le_of_ble_eq_true rfl, Nat.le_of_ble_eq_true rfl⟩) (wr_preV hK hPm hDm 0 11 rfl rfl) rfl rfl hl.1 rfl (lv_room (Nat.le_of_ble_eq_true rfl)) dX9_addsFountain_40 ⟨Nat.zero_le _, Nat.zero_le _⟩) (fun r40 H locs hr40 hP hD hS => ?_)
        subst hr40
        have hc : pfZ S x y v = (2, 4, S) := by unfold pfZ; (repeat (first | rw [if_pos (by omega)] | rw [if_neg (by omega)]))
        have hEq : modelC ck mo (encZ (pfZ S x y v).2.2) F1 F2 F3 F4 (mAns M (pfZ S x y v).1 (pfZ S x y v).2.1) = modelC ck mo (encZ S) F1 F2 F3 F4 (upS M 8 9 4) := (by rw [hc] <;> rfl)
        exact W.iret (v := _) hx hb hr (fun t9 ht9 hW9 => ⟨⟨_, (), rfl, (by rw [hc] <;> rfl), by rw [ht9, hEq]; exact hP, by rw [hEq, hAe]; exact hD⟩, hS.F ht9⟩) hS.2.2 dX9_addsFountain_43
    · refine x_bipush hx hb dX9_addsFountain_20 (by decide) ?_
      have hc : pfZ S x y v = ((-2), 0, S) := by unfold pfZ; (repeat (first | rw [if_pos (by omega)] | rw [if_neg (by omega)]))
      have hEq : modelC ck mo (encZ (pfZ S x y v).2.2) F1 F2 F3 F4 (mAns M (pfZ S x y v).1 (pfZ S x y v).2.1) = modelC ck mo (encZ S) F1 F2 F3 F4 M := (by rw [hc] <;> rfl)
      exact W.iret (v := _) hx hb hr (fun t9 ht9 hW9 => ⟨⟨_, (), rfl, (by rw [hc] <;> rfl), by rw [ht9, hEq]; exact hP, by rw [hEq, hAe]; exact hD⟩, hS.F ht9⟩) hS.2.2 dX9_addsFountain_22
  · refine x_iconst hx hb dX9_addsFountain_8 ?_
    have hc : pfZ S x y v = ((-1), 0, S) := by unfold pfZ; (repeat (first | rw [if_pos (by omega)] | rw [if_neg (by omega)]))
    have hEq : modelC ck mo (encZ (pfZ S x y v).2.2) F1 F2 F3 F4 (mAns M (pfZ S x y v).1 (pfZ S x y v).2.1) = modelC ck mo (encZ S) F1 F2 F3 F4 M := (by rw [hc] <;> rfl)
    exact W.iret (v := _) hx hb hr (fun t9 ht9 hW9 => ⟨⟨_, (), rfl, (by rw [hc] <;> rfl), by rw [ht9, hEq]; exact hP, by rw [hEq, hAe]; exact hD⟩, hS.F ht9⟩) hS.2.2 dX9_addsFountain_9

set_option maxHeartbeats 4000000 in
set_option maxRecDepth 100000 in
/-- BenchBrokerModel.addsTenant -/
theorem m_addsTenant (l : Launch) (dg : va_G) (ck : Nat → ClassId) (mo : Nat → Nat) (S : St) (F1 F2 F3 F4 : Int → Int) (M : St) (x : Int) (sz : Nat) {Mx : Int} (hV : Inv Mx S) (rg_x : -2147483648 ≤ x ∧ x < 2147483648) : Met l yX9_addsTenant (.code yX9_addsTenant cX9_addsTenant 3 (some .int) :: GW) ({ frames := 1, cells := 0, slots := 0, locals := 22 }) (va_Pc [.ref (mo 0), .int (zI x)] (wrP dg ck sz (modelC ck mo (encZ S) F1 F2 F3 F4 M))) (va_Qi (fun r (_ : Unit) => r = zI (mcd (teZ S x).1)) (fun _ t9 => wrQ dg sz (modelC ck mo (encZ S) F1 F2 F3 F4 M) (modelC ck mo (encZ (teZ S x).2.2) F1 F2 F3 F4 (mAns M (teZ S x).1 (teZ S x).2.1)) t9) (va_A (modelC ck mo (encZ S) F1 F2 F3 F4 M) sz)) 0 0 (va_A (modelC ck mo (encZ S) F1 F2 F3 F4 M) sz) := by
  refine Met.ofW (cc := cX9_addsTenant) (maxL := 3) (ret := (some .int)) (by decide) rfl ?_
  intro p e s m args below meth c s₁ B hml hv
  obtain ⟨rfl, hsz, hP, hK, hD0⟩ := hv
  have hx := B.exec
  have hb := B.bytes
  have hr := B.returns
  have hts := atoms_spec (ws := .code yX9_addsTenant cX9_addsTenant 3 (some .int) :: GW) B.pre
  have htg : ∀ w ∈ GW, w.before _ s = true := fun w h => hts w (List.mem_cons_of_mem _ h)
  have hown : s.vm.findClass RX9 = some m.cls := findClass_of_methodNamed B.named
  have hlocks := B.notSynchronized
  subst hsz
  have hD := hD0.self (sz := s.heap.size)
  generalize hAe : va_A (modelC ck mo (encZ S) F1 F2 F3 F4 M) s.heap.size = A at hD ⊢
  have hA : ∀ q : Nat, s.heap.size ≤ q → A q := fun q h => by rw [← hAe]; exact Or.inr h
  have hS : va_S A s.heap s.heap [] := va_S.rf
  have hP : va_P dg vwCl (modelC ck mo (encZ S) F1 F2 F3 F4 M) s.heap := hP
  have hl := lv_entry ([.ref (mo 0), .int (zI x)]) (n := 3) (Nat.le_of_ble_eq_true rfl)
  rw [lg_entry_eq]
  generalize (lg_sl ([.ref (mo 0), .int (zI x)]) ++ List.replicate (3 - (lg_sl ([.ref (mo 0), .int (zI x)])).length) Slot.unset).toArray = ls at hl ⊢
  have hl : lv_has ls 3 [(0, .ref (mo 0)), (1, .int (zI x))] := hl
  have hI := hV.bd
  obtain ⟨b00, b01, b02, b03, b1, b2, b3, b4, b5, b6, b7, b8, b9, b10, b11, b12⟩ := id hI
  refine lv_iload_n hx hb dX9_addsTenant_0 rfl (lv_at hl 1 rfl) ?_
  refine x_iconst hx hb dX9_addsTenant_1 ?_
  refine x_bipush hx hb dX9_addsTenant_2 (by decide) ?_
  refine vp_callSi (W.runS (As := [.int (zI x), .int (zI 0), .int (zI 99)]) (rest := []) ⟨hx, hb, hml, hown, htg⟩ (m_in l dg ck x 0 99 (by omega) (by omega) (by omega)) (cwS 3 htg (gwS wq_1646 wq_1647 wq_15 wq_1648) rfl rfl rfl (by decide +kernel) ⟨Nat.le_of_ble_eq_true rfl, Nat.le_of_ble_eq_true rfl⟩) (rd_preS hK va_P_nil) rfl rfl hl.1 rfl (lv_room (Nat.le_of_ble_eq_true rfl)) dX9_addsTenant_4 ⟨Nat.zero_le _, Nat.zero_le _⟩) (fun r4 hr4 => ?_)
  subst hr4
  refine x_bz_ne (tgt := 12) hx hb dX9_addsTenant_7 (by decide) (fun c7 => ?_) (fun c7 => ?_)
  · refine lv_aload_n hx hb dX9_addsTenant_12 rfl (lv_at hl 0 rfl) ?_
    refine va_get (D := dg) (ci := 11) (v := .ref (mo 1)) (C := RX9) (T := TX9) (N := 23) hx hb htg inG_X9 hown hK hP 0 rfl rfl 1 (Nat.le_of_ble_eq_true rfl) (htg _ wq_1558) (fun _ h9 => h9) rfl dX9_addsTenant_13 ?_
    refine x_iconst hx hb dX9_addsTenant_16 ?_
    refine x_iald hx hb hK hP 1 0 (encZ S) rfl rfl (fun _ => rfl) (P := fun _ => True) (fun _ => trivial) (by decide) (by omega) dX9_addsTenant_17 (fun _ => ?_)
    refine x_is (show (encZ S) 2 = (S 0 2) from (encV (k := 0) (i := 2) (Or.inl ⟨rfl, by decide, by decide, rfl⟩)).trans (rfl)) ?_
    refine lv_istore_n (lv' := [(2, .int (zI (S 0 2))), (0, .ref (mo 0)), (1, .int (zI x))]) hx hb dX9_addsTenant_18 rfl hl (by decide) rfl (fun ls hl => ?_)
    refine lv_iload_n hx hb dX9_addsTenant_19 rfl (lv_at hl 0 rfl) ?_
    refine x_bipush hx hb dX9_addsTenant_20 (by decide) ?_
    refine x_icmp_ne (tgt := 33) hx hb dX9_addsTenant_22 (by decide) (by omega) (by omega) (fun c22 => ?_) (fun c22 => ?_)
    · refine lv_aload_n hx hb dX9_addsTenant_33 rfl (lv_at hl 1 rfl) ?_
      refine va_get (D := dg) (ci := 11) (v := .ref (mo 1)) (C := RX9) (T := TX9) (N := 23) hx hb htg inG_X9 hown hK hP 0 rfl rfl 1 (Nat.le_of_ble_eq_true rfl) (htg _ wq_1558) (fun _ h9 => h9) rfl dX9_addsTenant_34 ?_
      refine x_bipush hx hb dX9_addsTenant_37 (by decide) ?_
      refine x_iconst hx hb dX9_addsTenant_39 ?_
      refine lv_iload_n hx hb dX9_addsTenant_40 rfl (lv_at hl 0 rfl) ?_
      refine x_imul hx hb dX9_addsTenant_41 ?_
      refine x_iadd hx hb dX9_addsTenant_42 ?_
      refine x_iconst hx hb dX9_addsTenant_43 ?_
      refine x_iadd hx hb dX9_addsTenant_44 ?_
      refine lv_iload_n hx hb dX9_addsTenant_45 rfl (lv_at hl 2 rfl) ?_
      refine x_iastC (ws' := modelC ck mo (encZ (upS S 11 (S 0 2) x)) F1 F2 F3 F4 M) hx hb hK hP hD hS 1 0 rfl rfl (by decide) (by omega) (encW (k := 11) (i := (S 0 2)) (by omega) (by unfold encP; omega)) rfl dX9_addsTenant_46 (fun H locs hP hD hS => ?_)
      refine lv_aload_n hx hb dX9_addsTenant_47 rfl (lv_at hl 1 rfl) ?_
      refine va_get (D := dg) (ci := 11) (v := .ref (mo 1)) (C := RX9) (T := TX9) (N := 23) hx hb htg inG_X9 hown hK hP 0 rfl rfl 1 (Nat.le_of_ble_eq_true rfl) (htg _ wq_1558) (fun _ h9 => h9) rfl dX9_addsTenant_48 ?_
      refine x_bipush hx hb dX9_addsTenant_51 (by decide) ?_
      refine x_iconst hx hb dX9_addsTenant_53 ?_
      refine lv_iload_n hx hb dX9_addsTenant_54 rfl (lv_at hl 0 rfl) ?_
      refine x_imul hx hb dX9_addsTenant_55 ?_
      refine x_iadd hx hb dX9_addsTenant_56 ?_
      refine x_iconst hx hb dX9_addsTenant_57 ?_
      refine x_iadd hx hb dX9_addsTenant_58 ?_
      refine x_iconst hx hb dX9_addsTenant_59 ?_
      refine x_iastC (ws' := modelC ck mo (encZ (upS (upS S 11 (S 0 2) x) 12 (S 0 2) 0)) F1 F2 F3 F4 M) hx hb hK hP hD hS 1 0 rfl rfl (by decide) (by omega) (encW (k := 12) (i := (S 0 2)) (by omega) (by unfold encP; omega)) rfl dX9_addsTenant_60 (fun H locs hP hD hS => ?_)
      refine lv_aload_n hx hb dX9_addsTenant_61 rfl (lv_at hl 1 rfl) ?_
      refine va_get (D := dg) (ci := 11) (v := .ref (mo 1)) (C := RX9) (T := TX9) (N := 23) hx hb htg inG_X9 hown hK hP 0 rfl rfl 1 (Nat.le_of_ble_eq_true rfl) (htg _ wq_1558) (fun _ h9 => h9) rfl dX9_addsTenant_62 ?_
      refine x_iconst hx hb dX9_addsTenant_65 ?_
      refine lv_iload_n hx hb dX9_addsTenant_66 rfl (lv_at hl 0 rfl) ?_
      refine x_iconst hx hb dX9_addsTenant_67 ?_
      refine x_iadd hx hb dX9_addsTenant_68 ?_
      refine x_iastC (ws' := modelC ck mo (encZ (upS (upS (upS S 11 (S 0 2) x) 12 (S 0 2) 0) 0 2 ((S 0 2) + 1))) F1 F2 F3 F4 M) hx hb hK hP hD hS 1 0 rfl rfl (by decide) (by omega) (encW (k := 0) (i := 2) (by omega) (Or.inl ⟨rfl, by decide, by decide, rfl⟩)) rfl dX9_addsTenant_69 (fun H locs hP hD hS => ?_)
      refine lv_aload_n hx hb dX9_addsTenant_70 rfl (lv_at hl 1 rfl) ?_
      refine va_get (D := dg) (ci := 11) (v := .ref (mo 1)) (C := RX9) (T := TX9) (N := 23) hx hb htg inG_X9 hown hK hP 0 rfl rfl 1 (Nat.le_of_ble_eq_true rfl) (htg _ wq_1558) (fun _ h9 => h9) rfl dX9_addsTenant_71 ?_
      refine x_bipush hx hb dX9_addsTenant_74 (by decide) ?_
      refine lv_dup2_11 hx hb dX9_addsTenant_76 rfl rfl ?_
      refine x_iald hx hb hK hP 1 0 (encZ (upS (upS (upS S 11 (S 0 2) x) 12 (S 0 2) 0) 0 2 ((S 0 2) + 1))) rfl rfl (fun _ => rfl) (P := fun _ => True) (fun _ => trivial) (by decide) (by omega) dX9_addsTenant_77 (fun _ => ?_)
      refine x_is (show (encZ (upS (upS (upS S 11 (S 0 2) x) 12 (S 0 2) 0) 0 2 ((S 0 2) + 1))) 6 = (S 0 6) from (encV (k := 0) (i := 6) (Or.inl ⟨rfl, by decide, by decide, rfl⟩)).trans (rfl)) ?_
      refine lv_iload_n hx hb dX9_addsTenant_78 rfl (lv_at hl 2 rfl) ?_
      refine x_iadd hx hb dX9_addsTenant_79 ?_
      refine x_iastC (ws' := modelC ck mo (encZ (upS (upS (upS (upS S 11 (S 0 2) x) 12 (S 0 2) 0) 0 2 ((S 0 2) + 1)) 0 6 ((S 0 6) + x))) F1 F2 F3 F4 M) hx hb hK hP hD hS 1 0 rfl rfl (by decide) (by omega) (encW (k := 0) (i := 6) (by omega) (Or.inl ⟨rfl, by decide, by decide, rfl⟩)) rfl dX9_addsTenant_80 (fun H locs hP hD hS => ?_)
      refine lv_aload_n hx hb dX9_addsTenant_81 rfl (lv_at hl 1 rfl) ?_
      refine lv_iload_n hx hb dX9_addsTenant_82 rfl (lv_at hl 0 rfl) ?_
      refine x_calli (ws' := modelC ck mo (encZ (upS (upS (upS (upS S 11 (S 0 2) x) 12 (S 0 2) 0) 0 2 ((S 0 2) + 1)) 0 6 ((S 0 6) + x))) F1 F2 F3 F4 (upS M 8 10 (S 0 2))) [] (M := modelC ck mo (encZ (upS (upS (upS (upS S 11 (S 0 2) x) 12 (S 0 2) 0) 0 2 ((S 0 2) + 1)) 0 6 ((S 0 6) + x))) F1 F2 F3 F4 M) (M' := modelC ck mo (encZ (upS (upS (upS (upS S 11 (S 0 2) x) 12 (S 0 2) 0) 0 2 ((S 0 2) + 1)) 0 6 ((S 0 6) + x))) F1 F2 F3 F4 (upS M 8 10 (S 0 2))) ([]) (List.append_nil _).symm (List.append_nil _).symm hP hD hS hA (fun hPm hDm => va_runV (As := [.int (zI (S 0 2))]) (rest := []) ⟨hx, hb, hml, hown, htg⟩ (m_done l dg ck mo (upS (upS (upS (upS S 11 (S 0 2) x) 12 (S 0 2) 0) 0 2 ((S 0 2) + 1)) 0 6 ((S 0 6) + x)) F1 F2 F3 F4 M (S 0 2) _ ) (cwV 1 htg (gwV wq_1665 wq_1667 wp_37 wq_15 wq_1668) rfl rfl rfl (by decide +kernel) ⟨Nat.le_of_ble_eq_true rfl, Nat.le_of_ble_eq_true rfl⟩) (wr_preV hK hPm hDm 0 11 rfl rfl) rfl rfl hl.1 rfl (lv_room (Nat.le_of_ble_eq_true rfl)) dX9_addsTenant_83 ⟨Nat.zero_le _, Nat.zero_le _⟩) (fun r83 H locs hr83 hP hD hS => ?_)
      subst hr83
      have hc : teZ S x = (0, (S 0 2), (upS (upS (upS (upS S 11 (S 0 2) x) 12 (S 0 2) 0) 0 2 ((S 0 2) + 1)) 0 6 ((S 0 6) + x))) := by unfold teZ; (repeat (first | rw [if_pos (by omega)] | rw [if_neg (by omega)])); rw [upS_cm (k := 0) (i := 6) (k' := 0) (i' := 2) (by decide)]
      have hEq : modelC ck mo (encZ (teZ S x).2.2) F1 F2 F3 F4 (mAns M (teZ S x).1 (teZ S x).2.1) = modelC ck mo (encZ (upS (upS (upS (upS S 11 (S 0 2) x) 12 (S 0 2) 0) 0 2 ((S 0 2) + 1)) 0 6 ((S 0 6) + x))) F1 F2 F3 F4 (upS M 8 10 (S 0 2)) := (by rw [hc] <;> rfl)
      exact W.iret (v := _) hx hb hr (fun t9 ht9 hW9 => ⟨⟨_, (), rfl, (by rw [hc] <;> rfl), by rw [ht9, hEq]; exact hP, by rw [hEq, hAe]; exact hD⟩, hS.F ht9⟩) hS.2.2 dX9_addsTenant_86
    · refine lv_aload_n hx hb dX9_addsTenant_25 rfl (lv_at hl 1 rfl) ?_
      refine x_iconst hx hb dX9_addsTenant_26 ?_
      refine x_bipush hx hb dX9_addsTenant_27 (by decide) ?_
      refine x_calli (ws' := modelC ck mo (encZ S) F1 F2 F3 F4 (upS M 8 9 8)) [] (M := modelC ck mo (encZ S) F1 F2 F3 F4 M) (M' := modelC ck mo (encZ S) F1 F2 F3 F4 (upS M 8 9 8)) ([]) (List.append_nil _).symm (List.append_nil _).symm hP hD hS hA (fun hPm hDm => va_runV (As := [.int (zI 3), .int (zI 8)]) (rest := []) ⟨hx, hb, hml, hown, htg⟩ (m_rejected l dg ck mo S F1 F2 F3 F4 M 3 8 _ ) (cwV 2 htg (gwV wq_1649 wq_1651 wp_33 wq_15 wq_1652) rfl rfl rfl (by decide +kernel) ⟨Nat.le_of_ble_eq_true rfl, Nat.le_of_ble_eq_true rfl⟩) (wr_preV hK hPm hDm 0 11 rfl rfl) rfl rfl hl.1 rfl (lv_room (Nat.le_of_ble_eq_true rfl)) dX9_addsTenant_29 ⟨Nat.zero_le _, Nat.zero_le _⟩) (fun r29 H locs hr29 hP hD hS => ?_)
      subst hr29
      have hc : teZ S x = (3, 8, S) := by unfold teZ; (repeat (first | rw [if_pos (by omega)] | rw [if_neg (by omega)]))
      have hEq : modelC ck mo (encZ (teZ S x).2.2) F1 F2 F3 F4 (mAns M (teZ S x).1 (teZ S x).2.1) = modelC ck mo (encZ S) F1 F2 F3 F4 (upS M 8 9 8) := (by rw [hc] <;> rfl)
      exact W.iret (v := _) hx hb hr (fun t9 ht9 hW9 => ⟨⟨_, (), rfl, (by rw [hc] <;> rfl), by rw [ht9, hEq]; exact hP, by rw [hEq, hAe]; exact hD⟩, hS.F ht9⟩) hS.2.2 dX9_addsTenant_32
  · refine x_iconst hx hb dX9_addsTenant_10 ?_
    have hc : teZ S x = (-2, 0, S) := by unfold teZ; (repeat (first | rw [if_pos (by omega)] | rw [if_neg (by omega)]))
    have hEq : modelC ck mo (encZ (teZ S x).2.2) F1 F2 F3 F4 (mAns M (teZ S x).1 (teZ S x).2.1) = modelC ck mo (encZ S) F1 F2 F3 F4 M := (by rw [hc] <;> rfl)
    exact W.iret (v := _) hx hb hr (fun t9 ht9 hW9 => ⟨⟨_, (), rfl, (by rw [hc] <;> rfl), by rw [ht9, hEq]; exact hP, by rw [hEq, hAe]; exact hD⟩, hS.F ht9⟩) hS.2.2 dX9_addsTenant_11

set_option maxHeartbeats 4000000 in
set_option maxRecDepth 100000 in
/-- BenchBrokerModel.gives -/
theorem m_gives (l : Launch) (dg : va_G) (ck : Nat → ClassId) (mo : Nat → Nat) (S : St) (F1 F2 F3 F4 : Int → Int) (M : St) (t x : Int) (sz : Nat) {Mx : Int} (hV : Inv Mx S) (rg_t : -2147483648 ≤ t ∧ t < 2147483648) (rg_x : -2147483648 ≤ x ∧ x < 2147483648) : Met l yX9_gives (.code yX9_gives cX9_gives 3 (some .int) :: GW) ({ frames := 2, cells := 0, slots := 0, locals := 43 }) (va_Pc [.ref (mo 0), .int (zI t), .int (zI x)] (wrP dg ck sz (modelC ck mo (encZ S) F1 F2 F3 F4 M))) (va_Qi (fun r (_ : Unit) => r = zI (giZ S t x).1) (fun _ t9 => wrQ dg sz (modelC ck mo (encZ S) F1 F2 F3 F4 M) (modelC ck mo (encZ (giZ S t x).2.2) F1 F2 F3 F4 (mAns M (giZ S t x).1 (giZ S t x).2.1)) t9) (va_A (modelC ck mo (encZ S) F1 F2 F3 F4 M) sz)) 0 0 (va_A (modelC ck mo (encZ S) F1 F2 F3 F4 M) sz) := by
  refine Met.ofW (cc := cX9_gives) (maxL := 3) (ret := (some .int)) (by decide) rfl ?_
  intro p e s m args below meth c s₁ B hml hv
  obtain ⟨rfl, hsz, hP, hK, hD0⟩ := hv
  have hx := B.exec
  have hb := B.bytes
  have hr := B.returns
  have hts := atoms_spec (ws := .code yX9_gives cX9_gives 3 (some .int) :: GW) B.pre
  have htg : ∀ w ∈ GW, w.before _ s = true := fun w h => hts w (List.mem_cons_of_mem _ h)
  have hown : s.vm.findClass RX9 = some m.cls := findClass_of_methodNamed B.named
  have hlocks := B.notSynchronized
  subst hsz
  have hD := hD0.self (sz := s.heap.size)
  generalize hAe : va_A (modelC ck mo (encZ S) F1 F2 F3 F4 M) s.heap.size = A at hD ⊢
  have hA : ∀ q : Nat, s.heap.size ≤ q → A q := fun q h => by rw [← hAe]; exact Or.inr h
  have hS : va_S A s.heap s.heap [] := va_S.rf
  have hP : va_P dg vwCl (modelC ck mo (encZ S) F1 F2 F3 F4 M) s.heap := hP
  have hl := lv_entry ([.ref (mo 0), .int (zI t), .int (zI x)]) (n := 3) (Nat.le_of_ble_eq_true rfl)
  rw [lg_entry_eq]
  generalize (lg_sl ([.ref (mo 0), .int (zI t), .int (zI x)]) ++ List.replicate (3 - (lg_sl ([.ref (mo 0), .int (zI t), .int (zI x)])).length) Slot.unset).toArray = ls at hl ⊢
  have hl : lv_has ls 3 [(0, .ref (mo 0)), (1, .int (zI t)), (2, .int (zI x))] := hl
  have hI := hV.bd
  obtain ⟨b00, b01, b02, b03, b1, b2, b3, b4, b5, b6, b7, b8, b9, b10, b11, b12⟩ := id hI
  refine lv_aload_n hx hb dX9_gives_0 rfl (lv_at hl 0 rfl) ?_
  refine lv_iload_n hx hb dX9_gives_1 rfl (lv_at hl 1 rfl) ?_
  refine vp_callSi (W.runV (As := [.int (zI t)]) (rest := []) ⟨hx, hb, hml, hown, htg⟩ (m_isTenant l dg ck mo S F1 F2 F3 F4 M t hI (by omega)) (cwV 1 htg (gwV wq_1821 wq_1823 wp_55 wq_15 wq_1824) rfl rfl rfl (by decide +kernel) ⟨Nat.le_of_ble_eq_true rfl, Nat.le_of_ble_eq_true rfl⟩) (rd_preV hK hP 0 11 rfl rfl) rfl rfl hl.1 rfl (lv_room (Nat.le_of_ble_eq_true rfl)) dX9_gives_2 ⟨Nat.zero_le _, Nat.zero_le _⟩) (fun r2 hr2 => ?_)
  subst hr2
  refine x_bz_ne (tgt := 10) hx hb dX9_gives_5 (by decide) (fun c5 => ?_) (fun c5 => ?_)
  · refine lv_iload_n hx hb dX9_gives_10 rfl (lv_at hl 2 rfl) ?_
    refine x_iconst hx hb dX9_gives_11 ?_
    refine x_bipush hx hb dX9_gives_12 (by decide) ?_
    refine vp_callSi (W.runS (As := [.int (zI x), .int (zI 1), .int (zI 99)]) (rest := []) ⟨hx, hb, hml, hown, htg⟩ (m_in l dg ck x 1 99 (by omega) (by omega) (by omega)) (cwS 3 htg (gwS wq_1646 wq_1647 wq_15 wq_1648) rfl rfl rfl (by decide +kernel) ⟨Nat.le_of_ble_eq_true rfl, Nat.le_of_ble_eq_true rfl⟩) (rd_preS hK va_P_nil) rfl rfl hl.1 rfl (lv_room (Nat.le_of_ble_eq_true rfl)) dX9_gives_14 ⟨Nat.zero_le _, Nat.zero_le _⟩) (fun r14 hr14 => ?_)
    subst hr14
    refine x_bz_ne (tgt := 23) hx hb dX9_gives_17 (by decide) (fun c17 => ?_) (fun c17 => ?_)
    · refine lv_aload_n hx hb dX9_gives_23 rfl (lv_at hl 0 rfl) ?_
      refine va_get (D := dg) (ci := 11) (v := .ref (mo 1)) (C := RX9) (T := TX9) (N := 23) hx hb htg inG_X9 hown hK hP 0 rfl rfl 1 (Nat.le_of_ble_eq_true rfl) (htg _ wq_1558) (fun _ h9 => h9) rfl dX9_gives_24 ?_
      refine x_bipush hx hb dX9_gives_27 (by decide) ?_
      refine x_iconst hx hb dX9_gives_29 ?_
      refine lv_iload_n hx hb dX9_gives_30 rfl (lv_at hl 1 rfl) ?_
      refine x_imul hx hb dX9_gives_31 ?_
      refine x_iadd hx hb dX9_gives_32 ?_
      refine x_iconst hx hb dX9_gives_33 ?_
      refine x_iadd hx hb dX9_gives_34 ?_
      refine lv_dup2_11 hx hb dX9_gives_35 rfl rfl ?_
      refine x_iald hx hb hK hP 1 0 (encZ S) rfl rfl (fun _ => rfl) (P := fun _ => True) (fun _ => trivial) (by decide) (by omega) dX9_gives_36 (fun _ => ?_)
      refine x_is (show (encZ S) ((86 + (2 * t)) + 0) = (S 11 t) from (encV (k := 11) (i := t) (by unfold encP; omega)).trans (rfl)) ?_
      have q36 := b11 t
      refine lv_iload_n hx hb dX9_gives_37 rfl (lv_at hl 2 rfl) ?_
      refine x_iadd hx hb dX9_gives_38 ?_
      refine x_iastC (ws' := modelC ck mo (encZ (upS S 11 t ((S 11 t) + x))) F1 F2 F3 F4 M) hx hb hK hP hD hS 1 0 rfl rfl (by decide) (by omega) (encW (k := 11) (i := t) (by omega) (by unfold encP; omega)) rfl dX9_gives_39 (fun H locs hP hD hS => ?_)
      refine lv_aload_n hx hb dX9_gives_40 rfl (lv_at hl 0 rfl) ?_
      refine va_get (D := dg) (ci := 11) (v := .ref (mo 1)) (C := RX9) (T := TX9) (N := 23) hx hb htg inG_X9 hown hK hP 0 rfl rfl 1 (Nat.le_of_ble_eq_true rfl) (htg _ wq_1558) (fun _ h9 => h9) rfl dX9_gives_41 ?_
      refine x_bipush hx hb dX9_gives_44 (by decide) ?_
      refine lv_dup2_11 hx hb dX9_gives_46 rfl rfl ?_
      refine x_iald hx hb hK hP 1 0 (encZ (upS S 11 t ((S 11 t) + x))) rfl rfl (fun _ => rfl) (P := fun _ => True) (fun _ => trivial) (by decide) (by omega) dX9_gives_47 (fun _ => ?_)
      refine x_is (show (encZ (upS S 11 t ((S 11 t) + x))) 6 = (S 0 6) from (encV (k := 0) (i := 6) (Or.inl ⟨rfl, by decide, by decide, rfl⟩)).trans (rfl)) ?_
      refine lv_iload_n hx hb dX9_gives_48 rfl (lv_at hl 2 rfl) ?_
      refine x_iadd hx hb dX9_gives_49 ?_
      refine x_iastC (ws' := modelC ck mo (encZ (upS (upS S 11 t ((S 11 t) + x)) 0 6 ((S 0 6) + x))) F1 F2 F3 F4 M) hx hb hK hP hD hS 1 0 rfl rfl (by decide) (by omega) (encW (k := 0) (i := 6) (by omega) (Or.inl ⟨rfl, by decide, by decide, rfl⟩)) rfl dX9_gives_50 (fun H locs hP hD hS => ?_)
      refine lv_aload_n hx hb dX9_gives_51 rfl (lv_at hl 0 rfl) ?_
      refine lv_aload_n hx hb dX9_gives_52 rfl (lv_at hl 0 rfl) ?_
      refine lv_iload_n hx hb dX9_gives_53 rfl (lv_at hl 1 rfl) ?_
      refine x_iconst hx hb dX9_gives_54 ?_
      refine vp_callSi (W.runV (As := [.int (zI t), .int (zI 0)]) (rest := [.ref (mo 0)]) ⟨hx, hb, hml, hown, htg⟩ (m_tenant l dg ck mo (upS (upS S 11 t ((S 11 t) + x)) 0 6 ((S 0 6) + x)) F1 F2 F3 F4 M t 0 (by omega) (by decide)) (cwV 2 htg (gwV wq_1825 wq_1827 wp_56 wq_15 wq_1828) rfl rfl rfl (by decide +kernel) ⟨Nat.le_of_ble_eq_true rfl, Nat.le_of_ble_eq_true rfl⟩) (rd_preV hK hP 0 11 rfl rfl) rfl rfl hl.1 rfl (lv_room (Nat.le_of_ble_eq_true rfl)) dX9_gives_55 ⟨Nat.zero_le _, Nat.zero_le _⟩) (fun r55 hr55 => ?_)
      subst hr55
      refine x_is (show ((upS (upS S 11 t ((S 11 t) + x)) 0 6 ((S 0 6) + x)) (11 + Int.toNat 0) t) = ((S 11 t) + x) from upS_s) ?_
      refine x_calli (ws' := modelC ck mo (encZ (upS (upS S 11 t ((S 11 t) + x)) 0 6 ((S 0 6) + x))) F1 F2 F3 F4 (upS M 8 10 ((S 11 t) + x))) [] (M := modelC ck mo (encZ (upS (upS S 11 t ((S 11 t) + x)) 0 6 ((S 0 6) + x))) F1 F2 F3 F4 M) (M' := modelC ck mo (encZ (upS (upS S 11 t ((S 11 t) + x)) 0 6 ((S 0 6) + x))) F1 F2 F3 F4 (upS M 8 10 ((S 11 t) + x))) ([]) (List.append_nil _).symm (List.append_nil _).symm hP hD hS hA (fun hPm hDm => va_runV (As := [.int (zI ((S 11 t) + x))]) (rest := []) ⟨hx, hb, hml, hown, htg⟩ (m_done l dg ck mo (upS (upS S 11 t ((S 11 t) + x)) 0 6 ((S 0 6) + x)) F1 F2 F3 F4 M ((S 11 t) + x) _ ) (cwV 1 htg (gwV wq_1665 wq_1667 wp_37 wq_15 wq_1668) rfl rfl rfl (by decide +kernel) ⟨Nat.le_of_ble_eq_true rfl, Nat.le_of_ble_eq_true rfl⟩) (wr_preV hK hPm hDm 0 11 rfl rfl) rfl rfl hl.1 rfl (lv_room (Nat.le_of_ble_eq_true rfl)) dX9_gives_58 ⟨Nat.zero_le _, Nat.zero_le _⟩) (fun r58 H locs hr58 hP hD hS => ?_)
      subst hr58
      have hc : giZ S t x = (0, ((S 11 t) + x), (upS (upS S 11 t ((S 11 t) + x)) 0 6 ((S 0 6) + x))) := by unfold giZ; (repeat (first | rw [if_pos (by omega)] | rw [if_neg (by omega)]))
      have hEq : modelC ck mo (encZ (giZ S t x).2.2) F1 F2 F3 F4 (mAns M (giZ S t x).1 (giZ S t x).2.1) = modelC ck mo (encZ (upS (upS S 11 t ((S 11 t) + x)) 0 6 ((S 0 6) + x))) F1 F2 F3 F4 (upS M 8 10 ((S 11 t) + x)) := (by rw [hc] <;> rfl)
      exact W.iret (v := _) hx hb hr (fun t9 ht9 hW9 => ⟨⟨_, (), rfl, (by rw [hc] <;> rfl), by rw [ht9, hEq]; exact hP, by rw [hEq, hAe]; exact hD⟩, hS.F ht9⟩) hS.2.2 dX9_gives_61
    · refine x_bipush hx hb dX9_gives_20 (by decide) ?_
      have hc : giZ S t x = ((-2), 0, S) := by unfold giZ; (repeat (first | rw [if_pos (by omega)] | rw [if_neg (by omega)]))
      have hEq : modelC ck mo (encZ (giZ S t x).2.2) F1 F2 F3 F4 (mAns M (giZ S t x).1 (giZ S t x).2.1) = modelC ck mo (encZ S) F1 F2 F3 F4 M := (by rw [hc] <;> rfl)
      exact W.iret (v := _) hx hb hr (fun t9 ht9 hW9 => ⟨⟨_, (), rfl, (by rw [hc] <;> rfl), by rw [ht9, hEq]; exact hP, by rw [hEq, hAe]; exact hD⟩, hS.F ht9⟩) hS.2.2 dX9_gives_22
  · refine x_iconst hx hb dX9_gives_8 ?_
    have hc : giZ S t x = ((-1), 0, S) := by unfold giZ; (repeat (first | rw [if_pos (by omega)] | rw [if_neg (by omega)]))
    have hEq : modelC ck mo (encZ (giZ S t x).2.2) F1 F2 F3 F4 (mAns M (giZ S t x).1 (giZ S t x).2.1) = modelC ck mo (encZ S) F1 F2 F3 F4 M := (by rw [hc] <;> rfl)
    exact W.iret (v := _) hx hb hr (fun t9 ht9 hW9 => ⟨⟨_, (), rfl, (by rw [hc] <;> rfl), by rw [ht9, hEq]; exact hP, by rw [hEq, hAe]; exact hD⟩, hS.F ht9⟩) hS.2.2 dX9_gives_9

set_option maxHeartbeats 4000000 in
set_option maxRecDepth 100000 in
/-- BenchBrokerModel.rents -/
theorem m_rents (l : Launch) (dg : va_G) (ck : Nat → ClassId) (mo : Nat → Nat) (S : St) (F1 F2 F3 F4 : Int → Int) (M : St) (b v : Int) (sz : Nat) {Mx : Int} (hV : Inv Mx S) (rg_b : -2147483648 ≤ b ∧ b < 2147483648) (rg_v : -2147483648 ≤ v ∧ v < 2147483648) : Met l yX9_rents (.code yX9_rents cX9_rents 4 (some .int) :: GW) ({ frames := 2, cells := 0, slots := 0, locals := 43 }) (va_Pc [.ref (mo 0), .int (zI b), .int (zI v)] (wrP dg ck sz (modelC ck mo (encZ S) F1 F2 F3 F4 M))) (va_Qi (fun r (_ : Unit) => r = zI (crZ S b v).1) (fun _ t9 => wrQ dg sz (modelC ck mo (encZ S) F1 F2 F3 F4 M) (modelC ck mo (encZ (crZ S b v).2.2) F1 F2 F3 F4 (mAns M (crZ S b v).1 (crZ S b v).2.1)) t9) (va_A (modelC ck mo (encZ S) F1 F2 F3 F4 M) sz)) 0 0 (va_A (modelC ck mo (encZ S) F1 F2 F3 F4 M) sz) := by
  refine Met.ofW (cc := cX9_rents) (maxL := 4) (ret := (some .int)) (by decide) rfl ?_
  intro p e s m args below meth c s₁ B hml hv
  obtain ⟨rfl, hsz, hP, hK, hD0⟩ := hv
  have hx := B.exec
  have hb := B.bytes
  have hr := B.returns
  have hts := atoms_spec (ws := .code yX9_rents cX9_rents 4 (some .int) :: GW) B.pre
  have htg : ∀ w ∈ GW, w.before _ s = true := fun w h => hts w (List.mem_cons_of_mem _ h)
  have hown : s.vm.findClass RX9 = some m.cls := findClass_of_methodNamed B.named
  have hlocks := B.notSynchronized
  subst hsz
  have hD := hD0.self (sz := s.heap.size)
  generalize hAe : va_A (modelC ck mo (encZ S) F1 F2 F3 F4 M) s.heap.size = A at hD ⊢
  have hA : ∀ q : Nat, s.heap.size ≤ q → A q := fun q h => by rw [← hAe]; exact Or.inr h
  have hS : va_S A s.heap s.heap [] := va_S.rf
  have hP : va_P dg vwCl (modelC ck mo (encZ S) F1 F2 F3 F4 M) s.heap := hP
  have hl := lv_entry ([.ref (mo 0), .int (zI b), .int (zI v)]) (n := 4) (Nat.le_of_ble_eq_true rfl)
  rw [lg_entry_eq]
  generalize (lg_sl ([.ref (mo 0), .int (zI b), .int (zI v)]) ++ List.replicate (4 - (lg_sl ([.ref (mo 0), .int (zI b), .int (zI v)])).length) Slot.unset).toArray = ls at hl ⊢
  have hl : lv_has ls 4 [(0, .ref (mo 0)), (1, .int (zI b)), (2, .int (zI v))] := hl
  have hI := hV.bd
  obtain ⟨b00, b01, b02, b03, b1, b2, b3, b4, b5, b6, b7, b8, b9, b10, b11, b12⟩ := id hI
  refine lv_aload_n hx hb dX9_rents_0 rfl (lv_at hl 0 rfl) ?_
  refine lv_iload_n hx hb dX9_rents_1 rfl (lv_at hl 1 rfl) ?_
  refine vp_callSi (W.runV (As := [.int (zI b)]) (rest := []) ⟨hx, hb, hml, hown, htg⟩ (m_isBench l dg ck mo S F1 F2 F3 F4 M b hI (by omega)) (cwV 1 htg (gwV wq_1689 wq_1691 wp_42 wq_15 wq_1692) rfl rfl rfl (by decide +kernel) ⟨Nat.le_of_ble_eq_true rfl, Nat.le_of_ble_eq_true rfl⟩) (rd_preV hK hP 0 11 rfl rfl) rfl rfl hl.1 rfl (lv_room (Nat.le_of_ble_eq_true rfl)) dX9_rents_2 ⟨Nat.zero_le _, Nat.zero_le _⟩) (fun r2 hr2 => ?_)
  subst hr2
  refine x_bz_ne (tgt := 10) hx hb dX9_rents_5 (by decide) (fun c5 => ?_) (fun c5 => ?_)
  · refine lv_iload_n hx hb dX9_rents_10 rfl (lv_at hl 2 rfl) ?_
    refine x_iconst hx hb dX9_rents_11 ?_
    refine x_bipush hx hb dX9_rents_12 (by decide) ?_
    refine vp_callSi (W.runS (As := [.int (zI v), .int (zI 1), .int (zI 20)]) (rest := []) ⟨hx, hb, hml, hown, htg⟩ (m_in l dg ck v 1 20 (by omega) (by omega) (by omega)) (cwS 3 htg (gwS wq_1646 wq_1647 wq_15 wq_1648) rfl rfl rfl (by decide +kernel) ⟨Nat.le_of_ble_eq_true rfl, Nat.le_of_ble_eq_true rfl⟩) (rd_preS hK va_P_nil) rfl rfl hl.1 rfl (lv_room (Nat.le_of_ble_eq_true rfl)) dX9_rents_14 ⟨Nat.zero_le _, Nat.zero_le _⟩) (fun r14 hr14 => ?_)
    subst hr14
    refine x_bz_ne (tgt := 23) hx hb dX9_rents_17 (by decide) (fun c17 => ?_) (fun c17 => ?_)
    · refine lv_aload_n hx hb dX9_rents_23 rfl (lv_at hl 0 rfl) ?_
      refine lv_iload_n hx hb dX9_rents_24 rfl (lv_at hl 1 rfl) ?_
      refine x_iconst hx hb dX9_rents_25 ?_
      refine vp_callSi (W.runV (As := [.int (zI b), .int (zI 2)]) (rest := []) ⟨hx, hb, hml, hown, htg⟩ (m_bench l dg ck mo S F1 F2 F3 F4 M b 2 (by omega) (by decide)) (cwV 2 htg (gwV wq_1657 wq_1659 wp_35 wq_15 wq_1660) rfl rfl rfl (by decide +kernel) ⟨Nat.le_of_ble_eq_true rfl, Nat.le_of_ble_eq_true rfl⟩) (rd_preV hK hP 0 11 rfl rfl) rfl rfl hl.1 rfl (lv_room (Nat.le_of_ble_eq_true rfl)) dX9_rents_26 ⟨Nat.zero_le _, Nat.zero_le _⟩) (fun r26 hr26 => ?_)
      subst hr26
      have q26 := b3 b
      refine x_is (show (S (1 + Int.toNat 2) b) = (S 3 b) from rfl) ?_
      refine lv_istore_n (lv' := [(3, .int (zI (S 3 b))), (0, .ref (mo 0)), (1, .int (zI b)), (2, .int (zI v))]) hx hb dX9_rents_29 rfl hl (by decide) rfl (fun ls hl => ?_)
      refine lv_aload_n hx hb dX9_rents_30 rfl (lv_at hl 1 rfl) ?_
      refine va_get (D := dg) (ci := 11) (v := .ref (mo 1)) (C := RX9) (T := TX9) (N := 23) hx hb htg inG_X9 hown hK hP 0 rfl rfl 1 (Nat.le_of_ble_eq_true rfl) (htg _ wq_1558) (fun _ h9 => h9) rfl dX9_rents_31 ?_
      refine x_bipush hx hb dX9_rents_34 (by decide) ?_
      refine x_bipush hx hb dX9_rents_36 (by decide) ?_
      refine lv_iload_n hx hb dX9_rents_38 rfl (lv_at hl 2 rfl) ?_
      refine x_imul hx hb dX9_rents_39 ?_
      refine x_iadd hx hb dX9_rents_40 ?_
      refine x_iconst hx hb dX9_rents_41 ?_
      refine x_iadd hx hb dX9_rents_42 ?_
      refine lv_iload_n hx hb dX9_rents_43 rfl (lv_at hl 3 rfl) ?_
      refine x_iastC (ws' := modelC ck mo (encZ (upS S 3 b v)) F1 F2 F3 F4 M) hx hb hK hP hD hS 1 0 rfl rfl (by decide) (by omega) (encW (k := 3) (i := b) (by omega) (by unfold encP; omega)) rfl dX9_rents_44 (fun H locs hP hD hS => ?_)
      refine lv_aload_n hx hb dX9_rents_45 rfl (lv_at hl 1 rfl) ?_
      refine lv_iload_n hx hb dX9_rents_46 rfl (lv_at hl 0 rfl) ?_
      refine x_calli (ws' := modelC ck mo (encZ (upS S 3 b v)) F1 F2 F3 F4 (upS M 8 10 (S 3 b))) [] (M := modelC ck mo (encZ (upS S 3 b v)) F1 F2 F3 F4 M) (M' := modelC ck mo (encZ (upS S 3 b v)) F1 F2 F3 F4 (upS M 8 10 (S 3 b))) ([]) (List.append_nil _).symm (List.append_nil _).symm hP hD hS hA (fun hPm hDm => va_runV (As := [.int (zI (S 3 b))]) (rest := []) ⟨hx, hb, hml, hown, htg⟩ (m_done l dg ck mo (upS S 3 b v) F1 F2 F3 F4 M (S 3 b) _ ) (cwV 1 htg (gwV wq_1665 wq_1667 wp_37 wq_15 wq_1668) rfl rfl rfl (by decide +kernel) ⟨Nat.le_of_ble_eq_true rfl, Nat.le_of_ble_eq_true rfl⟩) (wr_preV hK hPm hDm 0 11 rfl rfl) rfl rfl hl.1 rfl (lv_room (Nat.le_of_ble_eq_true rfl)) dX9_rents_47 ⟨Nat.zero_le _, Nat.zero_le _⟩) (fun r47 H locs hr47 hP hD hS => ?_)
      subst hr47
      have hc : crZ S b v = (0, (S 3 b), (upS S 3 b v)) := by unfold crZ; (repeat (first | rw [if_pos (by omega)] | rw [if_neg (by omega)]))
      have hEq : modelC ck mo (encZ (crZ S b v).2.2) F1 F2 F3 F4 (mAns M (crZ S b v).1 (crZ S b v).2.1) = modelC ck mo (encZ (upS S 3 b v)) F1 F2 F3 F4 (upS M 8 10 (S 3 b)) := (by rw [hc] <;> rfl)
      exact W.iret (v := _) hx hb hr (fun t9 ht9 hW9 => ⟨⟨_, (), rfl, (by rw [hc] <;> rfl), by rw [ht9, hEq]; exact hP, by rw [hEq, hAe]; exact hD⟩, hS.F ht9⟩) hS.2.2 dX9_rents_50
    · refine x_bipush hx hb dX9_rents_20 (by decide) ?_
      have hc : crZ S b v = ((-2), 0, S) := by unfold crZ; (repeat (first | rw [if_pos (by omega)] | rw [if_neg (by omega)]))
      have hEq : modelC ck mo (encZ (crZ S b v).2.2) F1 F2 F3 F4 (mAns M (crZ S b v).1 (crZ S b v).2.1) = modelC ck mo (encZ S) F1 F2 F3 F4 M := (by rw [hc] <;> rfl)
      exact W.iret (v := _) hx hb hr (fun t9 ht9 hW9 => ⟨⟨_, (), rfl, (by rw [hc] <;> rfl), by rw [ht9, hEq]; exact hP, by rw [hEq, hAe]; exact hD⟩, hS.F ht9⟩) hS.2.2 dX9_rents_22
  · refine x_iconst hx hb dX9_rents_8 ?_
    have hc : crZ S b v = ((-1), 0, S) := by unfold crZ; (repeat (first | rw [if_pos (by omega)] | rw [if_neg (by omega)]))
    have hEq : modelC ck mo (encZ (crZ S b v).2.2) F1 F2 F3 F4 (mAns M (crZ S b v).1 (crZ S b v).2.1) = modelC ck mo (encZ S) F1 F2 F3 F4 M := (by rw [hc] <;> rfl)
    exact W.iret (v := _) hx hb hr (fun t9 ht9 hW9 => ⟨⟨_, (), rfl, (by rw [hc] <;> rfl), by rw [ht9, hEq]; exact hP, by rw [hEq, hAe]; exact hD⟩, hS.F ht9⟩) hS.2.2 dX9_rents_9

set_option maxHeartbeats 4000000 in
set_option maxRecDepth 100000 in
/-- BenchBrokerModel.louds -/
theorem m_louds (l : Launch) (dg : va_G) (ck : Nat → ClassId) (mo : Nat → Nat) (S : St) (F1 F2 F3 F4 : Int → Int) (M : St) (f v : Int) (sz : Nat) {Mx : Int} (hV : Inv Mx S) (rg_f : -2147483648 ≤ f ∧ f < 2147483648) (rg_v : -2147483648 ≤ v ∧ v < 2147483648) : Met l yX9_louds (.code yX9_louds cX9_louds 4 (some .int) :: GW) ({ frames := 2, cells := 0, slots := 0, locals := 43 }) (va_Pc [.ref (mo 0), .int (zI f), .int (zI v)] (wrP dg ck sz (modelC ck mo (encZ S) F1 F2 F3 F4 M))) (va_Qi (fun r (_ : Unit) => r = zI (clZ S f v).1) (fun _ t9 => wrQ dg sz (modelC ck mo (encZ S) F1 F2 F3 F4 M) (modelC ck mo (encZ (clZ S f v).2.2) F1 F2 F3 F4 (mAns M (clZ S f v).1 (clZ S f v).2.1)) t9) (va_A (modelC ck mo (encZ S) F1 F2 F3 F4 M) sz)) 0 0 (va_A (modelC ck mo (encZ S) F1 F2 F3 F4 M) sz) := by
  refine Met.ofW (cc := cX9_louds) (maxL := 4) (ret := (some .int)) (by decide) rfl ?_
  intro p e s m args below meth c s₁ B hml hv
  obtain ⟨rfl, hsz, hP, hK, hD0⟩ := hv
  have hx := B.exec
  have hb := B.bytes
  have hr := B.returns
  have hts := atoms_spec (ws := .code yX9_louds cX9_louds 4 (some .int) :: GW) B.pre
  have htg : ∀ w ∈ GW, w.before _ s = true := fun w h => hts w (List.mem_cons_of_mem _ h)
  have hown : s.vm.findClass RX9 = some m.cls := findClass_of_methodNamed B.named
  have hlocks := B.notSynchronized
  subst hsz
  have hD := hD0.self (sz := s.heap.size)
  generalize hAe : va_A (modelC ck mo (encZ S) F1 F2 F3 F4 M) s.heap.size = A at hD ⊢
  have hA : ∀ q : Nat, s.heap.size ≤ q → A q := fun q h => by rw [← hAe]; exact Or.inr h
  have hS : va_S A s.heap s.heap [] := va_S.rf
  have hP : va_P dg vwCl (modelC ck mo (encZ S) F1 F2 F3 F4 M) s.heap := hP
  have hl := lv_entry ([.ref (mo 0), .int (zI f), .int (zI v)]) (n := 4) (Nat.le_of_ble_eq_true rfl)
  rw [lg_entry_eq]
  generalize (lg_sl ([.ref (mo 0), .int (zI f), .int (zI v)]) ++ List.replicate (4 - (lg_sl ([.ref (mo 0), .int (zI f), .int (zI v)])).length) Slot.unset).toArray = ls at hl ⊢
  have hl : lv_has ls 4 [(0, .ref (mo 0)), (1, .int (zI f)), (2, .int (zI v))] := hl
  have hI := hV.bd
  obtain ⟨b00, b01, b02, b03, b1, b2, b3, b4, b5, b6, b7, b8, b9, b10, b11, b12⟩ := id hI
  refine lv_aload_n hx hb dX9_louds_0 rfl (lv_at hl 0 rfl) ?_
  refine lv_iload_n hx hb dX9_louds_1 rfl (lv_at hl 1 rfl) ?_
  refine vp_callSi (W.runV (As := [.int (zI f)]) (rest := []) ⟨hx, hb, hml, hown, htg⟩ (m_isFountain l dg ck mo S F1 F2 F3 F4 M f hI (by omega)) (cwV 1 htg (gwV wq_1709 wq_1711 wp_45 wq_15 wq_1712) rfl rfl rfl (by decide +kernel) ⟨Nat.le_of_ble_eq_true rfl, Nat.le_of_ble_eq_true rfl⟩) (rd_preV hK hP 0 11 rfl rfl) rfl rfl hl.1 rfl (lv_room (Nat.le_of_ble_eq_true rfl)) dX9_louds_2 ⟨Nat.zero_le _, Nat.zero_le _⟩) (fun r2 hr2 => ?_)
  subst hr2
  refine x_bz_ne (tgt := 10) hx hb dX9_louds_5 (by decide) (fun c5 => ?_) (fun c5 => ?_)
  · refine lv_iload_n hx hb dX9_louds_10 rfl (lv_at hl 2 rfl) ?_
    refine x_iconst hx hb dX9_louds_11 ?_
    refine x_bipush hx hb dX9_louds_12 (by decide) ?_
    refine vp_callSi (W.runS (As := [.int (zI v), .int (zI 1), .int (zI 9)]) (rest := []) ⟨hx, hb, hml, hown, htg⟩ (m_in l dg ck v 1 9 (by omega) (by omega) (by omega)) (cwS 3 htg (gwS wq_1646 wq_1647 wq_15 wq_1648) rfl rfl rfl (by decide +kernel) ⟨Nat.le_of_ble_eq_true rfl, Nat.le_of_ble_eq_true rfl⟩) (rd_preS hK va_P_nil) rfl rfl hl.1 rfl (lv_room (Nat.le_of_ble_eq_true rfl)) dX9_louds_14 ⟨Nat.zero_le _, Nat.zero_le _⟩) (fun r14 hr14 => ?_)
    subst hr14
    refine x_bz_ne (tgt := 23) hx hb dX9_louds_17 (by decide) (fun c17 => ?_) (fun c17 => ?_)
    · refine lv_aload_n hx hb dX9_louds_23 rfl (lv_at hl 0 rfl) ?_
      refine lv_iload_n hx hb dX9_louds_24 rfl (lv_at hl 1 rfl) ?_
      refine x_iconst hx hb dX9_louds_25 ?_
      refine vp_callSi (W.runV (As := [.int (zI f), .int (zI 2)]) (rest := []) ⟨hx, hb, hml, hown, htg⟩ (m_fountain l dg ck mo S F1 F2 F3 F4 M f 2 (by omega) (by decide)) (cwV 2 htg (gwV wq_1661 wq_1663 wp_36 wq_15 wq_1664) rfl rfl rfl (by decide +kernel) ⟨Nat.le_of_ble_eq_true rfl, Nat.le_of_ble_eq_true rfl⟩) (rd_preV hK hP 0 11 rfl rfl) rfl rfl hl.1 rfl (lv_room (Nat.le_of_ble_eq_true rfl)) dX9_louds_26 ⟨Nat.zero_le _, Nat.zero_le _⟩) (fun r26 hr26 => ?_)
      subst hr26
      have q26 := b9 f
      refine x_is (show (S (7 + Int.toNat 2) f) = (S 9 f) from rfl) ?_
      refine lv_istore_n (lv' := [(3, .int (zI (S 9 f))), (0, .ref (mo 0)), (1, .int (zI f)), (2, .int (zI v))]) hx hb dX9_louds_29 rfl hl (by decide) rfl (fun ls hl => ?_)
      refine lv_aload_n hx hb dX9_louds_30 rfl (lv_at hl 1 rfl) ?_
      refine va_get (D := dg) (ci := 11) (v := .ref (mo 1)) (C := RX9) (T := TX9) (N := 23) hx hb htg inG_X9 hown hK hP 0 rfl rfl 1 (Nat.le_of_ble_eq_true rfl) (htg _ wq_1558) (fun _ h9 => h9) rfl dX9_louds_31 ?_
      refine x_bipush hx hb dX9_louds_34 (by decide) ?_
      refine x_iconst hx hb dX9_louds_36 ?_
      refine lv_iload_n hx hb dX9_louds_37 rfl (lv_at hl 2 rfl) ?_
      refine x_imul hx hb dX9_louds_38 ?_
      refine x_iadd hx hb dX9_louds_39 ?_
      refine x_iconst hx hb dX9_louds_40 ?_
      refine x_iadd hx hb dX9_louds_41 ?_
      refine lv_iload_n hx hb dX9_louds_42 rfl (lv_at hl 3 rfl) ?_
      refine x_iastC (ws' := modelC ck mo (encZ (upS S 9 f v)) F1 F2 F3 F4 M) hx hb hK hP hD hS 1 0 rfl rfl (by decide) (by omega) (encW (k := 9) (i := f) (by omega) (by unfold encP; omega)) rfl dX9_louds_43 (fun H locs hP hD hS => ?_)
      refine lv_aload_n hx hb dX9_louds_44 rfl (lv_at hl 1 rfl) ?_
      refine lv_iload_n hx hb dX9_louds_45 rfl (lv_at hl 0 rfl) ?_
      refine x_calli (ws' := modelC ck mo (encZ (upS S 9 f v)) F1 F2 F3 F4 (upS M 8 10 (S 9 f))) [] (M := modelC ck mo (encZ (upS S 9 f v)) F1 F2 F3 F4 M) (M' := modelC ck mo (encZ (upS S 9 f v)) F1 F2 F3 F4 (upS M 8 10 (S 9 f))) ([]) (List.append_nil _).symm (List.append_nil _).symm hP hD hS hA (fun hPm hDm => va_runV (As := [.int (zI (S 9 f))]) (rest := []) ⟨hx, hb, hml, hown, htg⟩ (m_done l dg ck mo (upS S 9 f v) F1 F2 F3 F4 M (S 9 f) _ ) (cwV 1 htg (gwV wq_1665 wq_1667 wp_37 wq_15 wq_1668) rfl rfl rfl (by decide +kernel) ⟨Nat.le_of_ble_eq_true rfl, Nat.le_of_ble_eq_true rfl⟩) (wr_preV hK hPm hDm 0 11 rfl rfl) rfl rfl hl.1 rfl (lv_room (Nat.le_of_ble_eq_true rfl)) dX9_louds_46 ⟨Nat.zero_le _, Nat.zero_le _⟩) (fun r46 H locs hr46 hP hD hS => ?_)
      subst hr46
      have hc : clZ S f v = (0, (S 9 f), (upS S 9 f v)) := by unfold clZ; (repeat (first | rw [if_pos (by omega)] | rw [if_neg (by omega)]))
      have hEq : modelC ck mo (encZ (clZ S f v).2.2) F1 F2 F3 F4 (mAns M (clZ S f v).1 (clZ S f v).2.1) = modelC ck mo (encZ (upS S 9 f v)) F1 F2 F3 F4 (upS M 8 10 (S 9 f)) := (by rw [hc] <;> rfl)
      exact W.iret (v := _) hx hb hr (fun t9 ht9 hW9 => ⟨⟨_, (), rfl, (by rw [hc] <;> rfl), by rw [ht9, hEq]; exact hP, by rw [hEq, hAe]; exact hD⟩, hS.F ht9⟩) hS.2.2 dX9_louds_49
    · refine x_bipush hx hb dX9_louds_20 (by decide) ?_
      have hc : clZ S f v = ((-2), 0, S) := by unfold clZ; (repeat (first | rw [if_pos (by omega)] | rw [if_neg (by omega)]))
      have hEq : modelC ck mo (encZ (clZ S f v).2.2) F1 F2 F3 F4 (mAns M (clZ S f v).1 (clZ S f v).2.1) = modelC ck mo (encZ S) F1 F2 F3 F4 M := (by rw [hc] <;> rfl)
      exact W.iret (v := _) hx hb hr (fun t9 ht9 hW9 => ⟨⟨_, (), rfl, (by rw [hc] <;> rfl), by rw [ht9, hEq]; exact hP, by rw [hEq, hAe]; exact hD⟩, hS.F ht9⟩) hS.2.2 dX9_louds_22
  · refine x_iconst hx hb dX9_louds_8 ?_
    have hc : clZ S f v = ((-1), 0, S) := by unfold clZ; (repeat (first | rw [if_pos (by omega)] | rw [if_neg (by omega)]))
    have hEq : modelC ck mo (encZ (clZ S f v).2.2) F1 F2 F3 F4 (mAns M (clZ S f v).1 (clZ S f v).2.1) = modelC ck mo (encZ S) F1 F2 F3 F4 M := (by rw [hc] <;> rfl)
    exact W.iret (v := _) hx hb hr (fun t9 ht9 hW9 => ⟨⟨_, (), rfl, (by rw [hc] <;> rfl), by rw [ht9, hEq]; exact hP, by rw [hEq, hAe]; exact hD⟩, hS.F ht9⟩) hS.2.2 dX9_louds_9

set_option maxHeartbeats 4000000 in
set_option maxRecDepth 100000 in
/-- BenchBrokerModel.switches -/
theorem m_switches (l : Launch) (dg : va_G) (ck : Nat → ClassId) (mo : Nat → Nat) (S : St) (F1 F2 F3 F4 : Int → Int) (M : St) (f : Int) (sz : Nat) {Mx : Int} (hV : Inv Mx S) (rg_f : -2147483648 ≤ f ∧ f < 2147483648) : Met l yX9_switches (.code yX9_switches cX9_switches 2 (some .int) :: GW) ({ frames := 2, cells := 0, slots := 0, locals := 43 }) (va_Pc [.ref (mo 0), .int (zI f)] (wrP dg ck sz (modelC ck mo (encZ S) F1 F2 F3 F4 M))) (va_Qi (fun r (_ : Unit) => r = zI (tgZ S f).1) (fun _ t9 => wrQ dg sz (modelC ck mo (encZ S) F1 F2 F3 F4 M) (modelC ck mo (encZ (tgZ S f).2.2) F1 F2 F3 F4 (mAns M (tgZ S f).1 (tgZ S f).2.1)) t9) (va_A (modelC ck mo (encZ S) F1 F2 F3 F4 M) sz)) 0 0 (va_A (modelC ck mo (encZ S) F1 F2 F3 F4 M) sz) := by
  refine Met.ofW (cc := cX9_switches) (maxL := 2) (ret := (some .int)) (by decide) rfl ?_
  intro p e s m args below meth c s₁ B hml hv
  obtain ⟨rfl, hsz, hP, hK, hD0⟩ := hv
  have hx := B.exec
  have hb := B.bytes
  have hr := B.returns
  have hts := atoms_spec (ws := .code yX9_switches cX9_switches 2 (some .int) :: GW) B.pre
  have htg : ∀ w ∈ GW, w.before _ s = true := fun w h => hts w (List.mem_cons_of_mem _ h)
  have hown : s.vm.findClass RX9 = some m.cls := findClass_of_methodNamed B.named
  have hlocks := B.notSynchronized
  subst hsz
  have hD := hD0.self (sz := s.heap.size)
  generalize hAe : va_A (modelC ck mo (encZ S) F1 F2 F3 F4 M) s.heap.size = A at hD ⊢
  have hA : ∀ q : Nat, s.heap.size ≤ q → A q := fun q h => by rw [← hAe]; exact Or.inr h
  have hS : va_S A s.heap s.heap [] := va_S.rf
  have hP : va_P dg vwCl (modelC ck mo (encZ S) F1 F2 F3 F4 M) s.heap := hP
  have hl := lv_entry ([.ref (mo 0), .int (zI f)]) (n := 2) (Nat.le_of_ble_eq_true rfl)
  rw [lg_entry_eq]
  generalize (lg_sl ([.ref (mo 0), .int (zI f)]) ++ List.replicate (2 - (lg_sl ([.ref (mo 0), .int (zI f)])).length) Slot.unset).toArray = ls at hl ⊢
  have hl : lv_has ls 2 [(0, .ref (mo 0)), (1, .int (zI f))] := hl
  have hI := hV.bd
  obtain ⟨b00, b01, b02, b03, b1, b2, b3, b4, b5, b6, b7, b8, b9, b10, b11, b12⟩ := id hI
  refine lv_aload_n hx hb dX9_switches_0 rfl (lv_at hl 0 rfl) ?_
  refine lv_iload_n hx hb dX9_switches_1 rfl (lv_at hl 1 rfl) ?_
  refine vp_callSi (W.runV (As := [.int (zI f)]) (rest := []) ⟨hx, hb, hml, hown, htg⟩ (m_isFountain l dg ck mo S F1 F2 F3 F4 M f hI (by omega)) (cwV 1 htg (gwV wq_1709 wq_1711 wp_45 wq_15 wq_1712) rfl rfl rfl (by decide +kernel) ⟨Nat.le_of_ble_eq_true rfl, Nat.le_of_ble_eq_true rfl⟩) (rd_preV hK hP 0 11 rfl rfl) rfl rfl hl.1 rfl (lv_room (Nat.le_of_ble_eq_true rfl)) dX9_switches_2 ⟨Nat.zero_le _, Nat.zero_le _⟩) (fun r2 hr2 => ?_)
  subst hr2
  refine x_bz_ne (tgt := 10) hx hb dX9_switches_5 (by decide) (fun c5 => ?_) (fun c5 => ?_)
  · refine lv_aload_n hx hb dX9_switches_10 rfl (lv_at hl 0 rfl) ?_
    refine va_get (D := dg) (ci := 11) (v := .ref (mo 1)) (C := RX9) (T := TX9) (N := 23) hx hb htg inG_X9 hown hK hP 0 rfl rfl 1 (Nat.le_of_ble_eq_true rfl) (htg _ wq_1558) (fun _ h9 => h9) rfl dX9_switches_11 ?_
    refine x_bipush hx hb dX9_switches_14 (by decide) ?_
    refine x_iconst hx hb dX9_switches_16 ?_
    refine lv_iload_n hx hb dX9_switches_17 rfl (lv_at hl 1 rfl) ?_
    refine x_imul hx hb dX9_switches_18 ?_
    refine x_iadd hx hb dX9_switches_19 ?_
    refine x_iconst hx hb dX9_switches_20 ?_
    refine x_iadd hx hb dX9_switches_21 ?_
    refine x_iconst hx hb dX9_switches_22 ?_
    refine lv_aload_n hx hb dX9_switches_23 rfl (lv_at hl 0 rfl) ?_
    refine lv_iload_n hx hb dX9_switches_24 rfl (lv_at hl 1 rfl) ?_
    refine x_iconst hx hb dX9_switches_25 ?_
    refine vp_callSi (W.runV (As := [.int (zI f), .int (zI 3)]) (rest := [.int (zI 1), .int (zI ((70 + (4 * f)) + 3)), .ref (mo 1)]) ⟨hx, hb, hml, hown, htg⟩ (m_fountain l dg ck mo S F1 F2 F3 F4 M f 3 (by omega) (by decide)) (cwV 2 htg (gwV wq_1661 wq_1663 wp_36 wq_15 wq_1664) rfl rfl rfl (by decide +kernel) ⟨Nat.le_of_ble_eq_true rfl, Nat.le_of_ble_eq_true rfl⟩) (rd_preV hK hP 0 11 rfl rfl) rfl rfl hl.1 rfl (lv_room (Nat.le_of_ble_eq_true rfl)) dX9_switches_26 ⟨Nat.zero_le _, Nat.zero_le _⟩) (fun r26 hr26 => ?_)
    subst hr26
    have q26 := b10 f
    refine x_is (show (S (7 + Int.toNat 3) f) = (S 10 f) from rfl) ?_
    refine x_isub hx hb dX9_switches_29 ?_
    refine x_iastC (ws' := modelC ck mo (encZ (upS S 10 f (1 - (S 10 f)))) F1 F2 F3 F4 M) hx hb hK hP hD hS 1 0 rfl rfl (by decide) (by omega) (encW (k := 10) (i := f) (by omega) (by unfold encP; omega)) rfl dX9_switches_30 (fun H locs hP hD hS => ?_)
    refine lv_aload_n hx hb dX9_switches_31 rfl (lv_at hl 0 rfl) ?_
    refine lv_aload_n hx hb dX9_switches_32 rfl (lv_at hl 0 rfl) ?_
    refine lv_iload_n hx hb dX9_switches_33 rfl (lv_at hl 1 rfl) ?_
    refine x_iconst hx hb dX9_switches_34 ?_
    refine vp_callSi (W.runV (As := [.int (zI f), .int (zI 3)]) (rest := [.ref (mo 0)]) ⟨hx, hb, hml, hown, htg⟩ (m_fountain l dg ck mo (upS S 10 f (1 - (S 10 f))) F1 F2 F3 F4 M f 3 (by omega) (by decide)) (cwV 2 htg (gwV wq_1661 wq_1663 wp_36 wq_15 wq_1664) rfl rfl rfl (by decide +kernel) ⟨Nat.le_of_ble_eq_true rfl, Nat.le_of_ble_eq_true rfl⟩) (rd_preV hK hP 0 11 rfl rfl) rfl rfl hl.1 rfl (lv_room (Nat.le_of_ble_eq_true rfl)) dX9_switches_35 ⟨Nat.zero_le _, Nat.zero_le _⟩) (fun r35 hr35 => ?_)
    subst hr35
    refine x_is (show ((upS S 10 f (1 - (S 10 f))) (7 + Int.toNat 3) f) = (1 - (S 10 f)) from upS_s) ?_
    refine x_calli (ws' := modelC ck mo (encZ (upS S 10 f (1 - (S 10 f)))) F1 F2 F3 F4 (upS M 8 10 (1 - (S 10 f)))) [] (M := modelC ck mo (encZ (upS S 10 f (1 - (S 10 f)))) F1 F2 F3 F4 M) (M' := modelC ck mo (encZ (upS S 10 f (1 - (S 10 f)))) F1 F2 F3 F4 (upS M 8 10 (1 - (S 10 f)))) ([]) (List.append_nil _).symm (List.append_nil _).symm hP hD hS hA (fun hPm hDm => va_runV (As := [.int (zI (1 - (S 10 f)))]) (rest := []) ⟨hx, hb, hml, hown, htg⟩ (m_done l dg ck mo (upS S 10 f (1 - (S 10 f))) F1 F2 F3 F4 M (1 - (S 10 f)) _ ) (cwV 1 htg (gwV wq_1665 wq_1667 wp_37 wq_15 wq_1668) rfl rfl rfl (by decide +kernel) ⟨Nat.le_of_ble_eq_true rfl, Nat.le_of_ble_eq_true rfl⟩) (wr_preV hK hPm hDm 0 11 rfl rfl) rfl rfl hl.1 rfl (lv_room (Nat.le_of_ble_eq_true rfl)) dX9_switches_38 ⟨Nat.zero_le _, Nat.zero_le _⟩) (fun r38 H locs hr38 hP hD hS => ?_)
    subst hr38
    have hc : tgZ S f = (0, (1 - (S 10 f)), (upS S 10 f (1 - (S 10 f)))) := by unfold tgZ; (repeat (first | rw [if_pos (by omega)] | rw [if_neg (by omega)]))
    have hEq : modelC ck mo (encZ (tgZ S f).2.2) F1 F2 F3 F4 (mAns M (tgZ S f).1 (tgZ S f).2.1) = modelC ck mo (encZ (upS S 10 f (1 - (S 10 f)))) F1 F2 F3 F4 (upS M 8 10 (1 - (S 10 f))) := (by rw [hc] <;> rfl)
    exact W.iret (v := _) hx hb hr (fun t9 ht9 hW9 => ⟨⟨_, (), rfl, (by rw [hc] <;> rfl), by rw [ht9, hEq]; exact hP, by rw [hEq, hAe]; exact hD⟩, hS.F ht9⟩) hS.2.2 dX9_switches_41
  · refine x_iconst hx hb dX9_switches_8 ?_
    have hc : tgZ S f = ((-1), 0, S) := by unfold tgZ; (repeat (first | rw [if_pos (by omega)] | rw [if_neg (by omega)]))
    have hEq : modelC ck mo (encZ (tgZ S f).2.2) F1 F2 F3 F4 (mAns M (tgZ S f).1 (tgZ S f).2.1) = modelC ck mo (encZ S) F1 F2 F3 F4 M := (by rw [hc] <;> rfl)
    exact W.iret (v := _) hx hb hr (fun t9 ht9 hW9 => ⟨⟨_, (), rfl, (by rw [hc] <;> rfl), by rw [ht9, hEq]; exact hP, by rw [hEq, hAe]; exact hD⟩, hS.F ht9⟩) hS.2.2 dX9_switches_9

set_option maxHeartbeats 4000000 in
set_option maxRecDepth 100000 in
/-- BenchBrokerModel.limits -/
theorem m_limits (l : Launch) (dg : va_G) (ck : Nat → ClassId) (mo : Nat → Nat) (S : St) (F1 F2 F3 F4 : Int → Int) (M : St) (v : Int) (sz : Nat) {Mx : Int} (hV : Inv Mx S) (rg_v : -2147483648 ≤ v ∧ v < 2147483648) : Met l yX9_limits (.code yX9_limits cX9_limits 3 (some .int) :: GW) ({ frames := 1, cells := 0, slots := 0, locals := 22 }) (va_Pc [.ref (mo 0), .int (zI v)] (wrP dg ck sz (modelC ck mo (encZ S) F1 F2 F3 F4 M))) (va_Qi (fun r (_ : Unit) => r = zI (mcd (cmZ S v).1)) (fun _ t9 => wrQ dg sz (modelC ck mo (encZ S) F1 F2 F3 F4 M) (modelC ck mo (encZ (cmZ S v).2.2) F1 F2 F3 F4 (mAns M (cmZ S v).1 (cmZ S v).2.1)) t9) (va_A (modelC ck mo (encZ S) F1 F2 F3 F4 M) sz)) 0 0 (va_A (modelC ck mo (encZ S) F1 F2 F3 F4 M) sz) := by
  refine Met.ofW (cc := cX9_limits) (maxL := 3) (ret := (some .int)) (by decide) rfl ?_
  intro p e s m args below meth c s₁ B hml hv
  obtain ⟨rfl, hsz, hP, hK, hD0⟩ := hv
  have hx := B.exec
  have hb := B.bytes
  have hr := B.returns
  have hts := atoms_spec (ws := .code yX9_limits cX9_limits 3 (some .int) :: GW) B.pre
  have htg : ∀ w ∈ GW, w.before _ s = true := fun w h => hts w (List.mem_cons_of_mem _ h)
  have hown : s.vm.findClass RX9 = some m.cls := findClass_of_methodNamed B.named
  have hlocks := B.notSynchronized
  subst hsz
  have hD := hD0.self (sz := s.heap.size)
  generalize hAe : va_A (modelC ck mo (encZ S) F1 F2 F3 F4 M) s.heap.size = A at hD ⊢
  have hA : ∀ q : Nat, s.heap.size ≤ q → A q := fun q h => by rw [← hAe]; exact Or.inr h
  have hS : va_S A s.heap s.heap [] := va_S.rf
  have hP : va_P dg vwCl (modelC ck mo (encZ S) F1 F2 F3 F4 M) s.heap := hP
  have hl := lv_entry ([.ref (mo 0), .int (zI v)]) (n := 3) (Nat.le_of_ble_eq_true rfl)
  rw [lg_entry_eq]
  generalize (lg_sl ([.ref (mo 0), .int (zI v)]) ++ List.replicate (3 - (lg_sl ([.ref (mo 0), .int (zI v)])).length) Slot.unset).toArray = ls at hl ⊢
  have hl : lv_has ls 3 [(0, .ref (mo 0)), (1, .int (zI v))] := hl
  have hI := hV.bd
  obtain ⟨b00, b01, b02, b03, b1, b2, b3, b4, b5, b6, b7, b8, b9, b10, b11, b12⟩ := id hI
  refine lv_iload_n hx hb dX9_limits_0 rfl (lv_at hl 1 rfl) ?_
  refine x_iconst hx hb dX9_limits_1 ?_
  refine x_bipush hx hb dX9_limits_2 (by decide) ?_
  refine vp_callSi (W.runS (As := [.int (zI v), .int (zI 0), .int (zI 20)]) (rest := []) ⟨hx, hb, hml, hown, htg⟩ (m_in l dg ck v 0 20 (by omega) (by omega) (by omega)) (cwS 3 htg (gwS wq_1646 wq_1647 wq_15 wq_1648) rfl rfl rfl (by decide +kernel) ⟨Nat.le_of_ble_eq_true rfl, Nat.le_of_ble_eq_true rfl⟩) (rd_preS hK va_P_nil) rfl rfl hl.1 rfl (lv_room (Nat.le_of_ble_eq_true rfl)) dX9_limits_4 ⟨Nat.zero_le _, Nat.zero_le _⟩) (fun r4 hr4 => ?_)
  subst hr4
  refine x_bz_ne (tgt := 12) hx hb dX9_limits_7 (by decide) (fun c7 => ?_) (fun c7 => ?_)
  · refine lv_aload_n hx hb dX9_limits_12 rfl (lv_at hl 0 rfl) ?_
    refine va_get (D := dg) (ci := 11) (v := .ref (mo 1)) (C := RX9) (T := TX9) (N := 23) hx hb htg inG_X9 hown hK hP 0 rfl rfl 1 (Nat.le_of_ble_eq_true rfl) (htg _ wq_1558) (fun _ h9 => h9) rfl dX9_limits_13 ?_
    refine x_iconst hx hb dX9_limits_16 ?_
    refine x_iald hx hb hK hP 1 0 (encZ S) rfl rfl (fun _ => rfl) (P := fun _ => True) (fun _ => trivial) (by decide) (by omega) dX9_limits_17 (fun _ => ?_)
    refine x_is (show (encZ S) 3 = (S 0 3) from (encV (k := 0) (i := 3) (Or.inl ⟨rfl, by decide, by decide, rfl⟩)).trans (rfl)) ?_
    refine lv_istore_n (lv' := [(2, .int (zI (S 0 3))), (0, .ref (mo 0)), (1, .int (zI v))]) hx hb dX9_limits_18 rfl hl (by decide) rfl (fun ls hl => ?_)
    refine lv_aload_n hx hb dX9_limits_19 rfl (lv_at hl 1 rfl) ?_
    refine va_get (D := dg) (ci := 11) (v := .ref (mo 1)) (C := RX9) (T := TX9) (N := 23) hx hb htg inG_X9 hown hK hP 0 rfl rfl 1 (Nat.le_of_ble_eq_true rfl) (htg _ wq_1558) (fun _ h9 => h9) rfl dX9_limits_20 ?_
    refine x_iconst hx hb dX9_limits_23 ?_
    refine lv_iload_n hx hb dX9_limits_24 rfl (lv_at hl 2 rfl) ?_
    refine x_iastC (ws' := modelC ck mo (encZ (upS S 0 3 v)) F1 F2 F3 F4 M) hx hb hK hP hD hS 1 0 rfl rfl (by decide) (by omega) (encW (k := 0) (i := 3) (by omega) (Or.inl ⟨rfl, by decide, by decide, rfl⟩)) rfl dX9_limits_25 (fun H locs hP hD hS => ?_)
    refine lv_aload_n hx hb dX9_limits_26 rfl (lv_at hl 1 rfl) ?_
    refine lv_iload_n hx hb dX9_limits_27 rfl (lv_at hl 0 rfl) ?_
    refine x_calli (ws' := modelC ck mo (encZ (upS S 0 3 v)) F1 F2 F3 F4 (upS M 8 10 (S 0 3))) [] (M := modelC ck mo (encZ (upS S 0 3 v)) F1 F2 F3 F4 M) (M' := modelC ck mo (encZ (upS S 0 3 v)) F1 F2 F3 F4 (upS M 8 10 (S 0 3))) ([]) (List.append_nil _).symm (List.append_nil _).symm hP hD hS hA (fun hPm hDm => va_runV (As := [.int (zI (S 0 3))]) (rest := []) ⟨hx, hb, hml, hown, htg⟩ (m_done l dg ck mo (upS S 0 3 v) F1 F2 F3 F4 M (S 0 3) _ ) (cwV 1 htg (gwV wq_1665 wq_1667 wp_37 wq_15 wq_1668) rfl rfl rfl (by decide +kernel) ⟨Nat.le_of_ble_eq_true rfl, Nat.le_of_ble_eq_true rfl⟩) (wr_preV hK hPm hDm 0 11 rfl rfl) rfl rfl hl.1 rfl (lv_room (Nat.le_of_ble_eq_true rfl)) dX9_limits_28 ⟨Nat.zero_le _, Nat.zero_le _⟩) (fun r28 H locs hr28 hP hD hS => ?_)
    subst hr28
    have hc : cmZ S v = (0, (S 0 3), (upS S 0 3 v)) := by unfold cmZ; (repeat (first | rw [if_pos (by omega)] | rw [if_neg (by omega)]))
    have hEq : modelC ck mo (encZ (cmZ S v).2.2) F1 F2 F3 F4 (mAns M (cmZ S v).1 (cmZ S v).2.1) = modelC ck mo (encZ (upS S 0 3 v)) F1 F2 F3 F4 (upS M 8 10 (S 0 3)) := (by rw [hc] <;> rfl)
    exact W.iret (v := _) hx hb hr (fun t9 ht9 hW9 => ⟨⟨_, (), rfl, (by rw [hc] <;> rfl), by rw [ht9, hEq]; exact hP, by rw [hEq, hAe]; exact hD⟩, hS.F ht9⟩) hS.2.2 dX9_limits_31
  · refine x_iconst hx hb dX9_limits_10 ?_
    have hc : cmZ S v = (-2, 0, S) := by unfold cmZ; (repeat (first | rw [if_pos (by omega)] | rw [if_neg (by omega)]))
    have hEq : modelC ck mo (encZ (cmZ S v).2.2) F1 F2 F3 F4 (mAns M (cmZ S v).1 (cmZ S v).2.1) = modelC ck mo (encZ S) F1 F2 F3 F4 M := (by rw [hc] <;> rfl)
    exact W.iret (v := _) hx hb hr (fun t9 ht9 hW9 => ⟨⟨_, (), rfl, (by rw [hc] <;> rfl), by rw [ht9, hEq]; exact hP, by rw [hEq, hAe]; exact hD⟩, hS.F ht9⟩) hS.2.2 dX9_limits_11

set_option maxHeartbeats 4000000 in
set_option maxRecDepth 100000 in
/-- BenchBrokerModel.frees -/
theorem m_frees (l : Launch) (dg : va_G) (ck : Nat → ClassId) (mo : Nat → Nat) (S : St) (F1 F2 F3 F4 : Int → Int) (M : St) (b w : Int) (sz : Nat) (hb0 : 0 ≤ b ∧ b < 10) (hl0 : 1 ≤ S 4 b ∧ S 4 b ≤ 8) : Met l yX9_frees (.code yX9_frees cX9_frees 3 none :: GW) ({ frames := 2, cells := 0, slots := 0, locals := 43 }) (va_Pc [.ref (mo 0), .int (zI b), .int (zI w)] (wrP dg ck sz (modelC ck mo (encZ S) F1 F2 F3 F4 M))) (va_Qv (fun _ : Unit => True) (fun _ t9 => wrQ dg sz (modelC ck mo (encZ S) F1 F2 F3 F4 M) (modelC ck mo (encZ (clS S b w)) F1 F2 F3 F4 M) t9) (va_A (modelC ck mo (encZ S) F1 F2 F3 F4 M) sz)) 0 0 (va_A (modelC ck mo (encZ S) F1 F2 F3 F4 M) sz) := by
  refine Met.ofW (cc := cX9_frees) (maxL := 3) (ret := none) (by decide) rfl ?_
  intro p e s m args below meth c s₁ B hml hv
  obtain ⟨rfl, hsz, hP, hK, hD0⟩ := hv
  have hx := B.exec
  have hb := B.bytes
  have hr := B.returns
  have hts := atoms_spec (ws := .code yX9_frees cX9_frees 3 none :: GW) B.pre
  have htg : ∀ w ∈ GW, w.before _ s = true := fun w h => hts w (List.mem_cons_of_mem _ h)
  have hown : s.vm.findClass RX9 = some m.cls := findClass_of_methodNamed B.named
  have hlocks := B.notSynchronized
  subst hsz
  have hD := hD0.self (sz := s.heap.size)
  generalize hAe : va_A (modelC ck mo (encZ S) F1 F2 F3 F4 M) s.heap.size = A at hD ⊢
  have hA : ∀ q : Nat, s.heap.size ≤ q → A q := fun q h => by rw [← hAe]; exact Or.inr h
  have hS : va_S A s.heap s.heap [] := va_S.rf
  have hP : va_P dg vwCl (modelC ck mo (encZ S) F1 F2 F3 F4 M) s.heap := hP
  have hl := lv_entry ([.ref (mo 0), .int (zI b), .int (zI w)]) (n := 3) (Nat.le_of_ble_eq_true rfl)
  rw [lg_entry_eq]
  generalize (lg_sl ([.ref (mo 0), .int (zI b), .int (zI w)]) ++ List.replicate (3 - (lg_sl ([.ref (mo 0), .int (zI b), .int (zI w)])).length) Slot.unset).toArray = ls at hl ⊢
  have hl : lv_has ls 3 [(0, .ref (mo 0)), (1, .int (zI b)), (2, .int (zI w))] := hl
  refine lv_aload_n hx hb dX9_frees_0 rfl (lv_at hl 0 rfl) ?_
  refine va_get (D := dg) (ci := 11) (v := .ref (mo 1)) (C := RX9) (T := TX9) (N := 23) hx hb htg inG_X9 hown hK hP 0 rfl rfl 1 (Nat.le_of_ble_eq_true rfl) (htg _ wq_1558) (fun _ h9 => h9) rfl dX9_frees_1 ?_
  refine x_bipush hx hb dX9_frees_4 (by decide) ?_
  refine x_iconst hx hb dX9_frees_6 ?_
  refine lv_aload_n hx hb dX9_frees_7 rfl (lv_at hl 0 rfl) ?_
  refine lv_iload_n hx hb dX9_frees_8 rfl (lv_at hl 1 rfl) ?_
  refine vp_callSi (W.runV (As := [.int (zI b)]) (rest := [.int (zI 2), .int (zI 86), .ref (mo 1)]) ⟨hx, hb, hml, hown, htg⟩ (m_by l dg ck mo S F1 F2 F3 F4 M b (by omega)) (cwV 1 htg (gwV wq_1853 wq_1855 wp_59 wq_15 wq_1856) rfl rfl rfl (by decide +kernel) ⟨Nat.le_of_ble_eq_true rfl, Nat.le_of_ble_eq_true rfl⟩) (rd_preV hK hP 0 11 rfl rfl) rfl rfl hl.1 rfl (lv_room (Nat.le_of_ble_eq_true rfl)) dX9_frees_9 ⟨Nat.zero_le _, Nat.zero_le _⟩) (fun r9 hr9 => ?_)
  subst hr9
  refine x_is (show (S 4 b - 1) = ((S 4 b) - 1) from rfl) ?_
  refine x_imul hx hb dX9_frees_12 ?_
  refine x_iadd hx hb dX9_frees_13 ?_
  refine x_iconst hx hb dX9_frees_14 ?_
  refine x_iadd hx hb dX9_frees_15 ?_
  refine lv_dup2_11 hx hb dX9_frees_16 rfl rfl ?_
  refine x_iald hx hb hK hP 1 0 (encZ S) rfl rfl (fun _ => rfl) (P := fun _ => True) (fun _ => trivial) (by decide) (by omega) dX9_frees_17 (fun _ => ?_)
  refine x_is (show (encZ S) ((86 + (2 * ((S 4 b) - 1))) + 0) = (S 11 ((S 4 b) - 1)) from (encV (k := 11) (i := ((S 4 b) - 1)) (by unfold encP; omega)).trans (rfl)) ?_
  refine lv_iload_n hx hb dX9_frees_18 rfl (lv_at hl 2 rfl) ?_
  refine x_iadd hx hb dX9_frees_19 ?_
  refine x_iastC (ws' := modelC ck mo (encZ (upS S 11 ((S 4 b) - 1) ((S 11 ((S 4 b) - 1)) + w))) F1 F2 F3 F4 M) hx hb hK hP hD hS 1 0 rfl rfl (by decide) (by omega) (encW (k := 11) (i := ((S 4 b) - 1)) (by omega) (by unfold encP; omega)) rfl dX9_frees_20 (fun H locs hP hD hS => ?_)
  refine lv_aload_n hx hb dX9_frees_21 rfl (lv_at hl 0 rfl) ?_
  refine va_get (D := dg) (ci := 11) (v := .ref (mo 1)) (C := RX9) (T := TX9) (N := 23) hx hb htg inG_X9 hown hK hP 0 rfl rfl 1 (Nat.le_of_ble_eq_true rfl) (htg _ wq_1558) (fun _ h9 => h9) rfl dX9_frees_22 ?_
  refine x_iconst hx hb dX9_frees_25 ?_
  refine lv_dup2_11 hx hb dX9_frees_26 rfl rfl ?_
  refine x_iald hx hb hK hP 1 0 (encZ (upS S 11 ((S 4 b) - 1) ((S 11 ((S 4 b) - 1)) + w))) rfl rfl (fun _ => rfl) (P := fun _ => True) (fun _ => trivial) (by decide) (by omega) dX9_frees_27 (fun _ => ?_)
  refine x_is (show (encZ (upS S 11 ((S 4 b) - 1) ((S 11 ((S 4 b) - 1)) + w))) 5 = (S 0 5) from (encV (k := 0) (i := 5) (Or.inl ⟨rfl, by decide, by decide, rfl⟩)).trans (rfl)) ?_
  refine lv_aload_n hx hb dX9_frees_28 rfl (lv_at hl 0 rfl) ?_
  refine lv_iload_n hx hb dX9_frees_29 rfl (lv_at hl 1 rfl) ?_
  refine x_iconst hx hb dX9_frees_30 ?_
  refine vp_callSi (W.runV (As := [.int (zI b), .int (zI 4)]) (rest := [.int (zI (S 0 5)), .int (zI 5), .ref (mo 1)]) ⟨hx, hb, hml, hown, htg⟩ (m_bench l dg ck mo (upS S 11 ((S 4 b) - 1) ((S 11 ((S 4 b) - 1)) + w)) F1 F2 F3 F4 M b 4 (by omega) (by decide)) (cwV 2 htg (gwV wq_1657 wq_1659 wp_35 wq_15 wq_1660) rfl rfl rfl (by decide +kernel) ⟨Nat.le_of_ble_eq_true rfl, Nat.le_of_ble_eq_true rfl⟩) (rd_preV hK hP 0 11 rfl rfl) rfl rfl hl.1 rfl (lv_room (Nat.le_of_ble_eq_true rfl)) dX9_frees_31 ⟨Nat.zero_le _, Nat.zero_le _⟩) (fun r31 hr31 => ?_)
  subst hr31
  refine x_is (show ((upS S 11 ((S 4 b) - 1) ((S 11 ((S 4 b) - 1)) + w)) (1 + Int.toNat 4) b) = (S 5 b) from rfl) ?_
  refine lv_iload_n hx hb dX9_frees_34 rfl (lv_at hl 2 rfl) ?_
  refine x_isub hx hb dX9_frees_35 ?_
  refine x_iadd hx hb dX9_frees_36 ?_
  refine x_iastC (ws' := modelC ck mo (encZ (upS (upS S 11 ((S 4 b) - 1) ((S 11 ((S 4 b) - 1)) + w)) 0 5 ((S 0 5) + ((S 5 b) - w)))) F1 F2 F3 F4 M) hx hb hK hP hD hS 1 0 rfl rfl (by decide) (by omega) (encW (k := 0) (i := 5) (by omega) (Or.inl ⟨rfl, by decide, by decide, rfl⟩)) rfl dX9_frees_37 (fun H locs hP hD hS => ?_)
  refine lv_aload_n hx hb dX9_frees_38 rfl (lv_at hl 0 rfl) ?_
  refine va_get (D := dg) (ci := 11) (v := .ref (mo 1)) (C := RX9) (T := TX9) (N := 23) hx hb htg inG_X9 hown hK hP 0 rfl rfl 1 (Nat.le_of_ble_eq_true rfl) (htg _ wq_1558) (fun _ h9 => h9) rfl dX9_frees_39 ?_
  refine x_bipush hx hb dX9_frees_42 (by decide) ?_
  refine x_bipush hx hb dX9_frees_44 (by decide) ?_
  refine lv_iload_n hx hb dX9_frees_46 rfl (lv_at hl 1 rfl) ?_
  refine x_imul hx hb dX9_frees_47 ?_
  refine x_iadd hx hb dX9_frees_48 ?_
  refine x_iconst hx hb dX9_frees_49 ?_
  refine x_iadd hx hb dX9_frees_50 ?_
  refine x_iconst hx hb dX9_frees_51 ?_
  refine x_iastC (ws' := modelC ck mo (encZ (upS (upS (upS S 11 ((S 4 b) - 1) ((S 11 ((S 4 b) - 1)) + w)) 0 5 ((S 0 5) + ((S 5 b) - w))) 4 b 0)) F1 F2 F3 F4 M) hx hb hK hP hD hS 1 0 rfl rfl (by decide) (by omega) (encW (k := 4) (i := b) (by omega) (by unfold encP; omega)) rfl dX9_frees_52 (fun H locs hP hD hS => ?_)
  refine lv_aload_n hx hb dX9_frees_53 rfl (lv_at hl 0 rfl) ?_
  refine va_get (D := dg) (ci := 11) (v := .ref (mo 1)) (C := RX9) (T := TX9) (N := 23) hx hb htg inG_X9 hown hK hP 0 rfl rfl 1 (Nat.le_of_ble_eq_true rfl) (htg _ wq_1558) (fun _ h9 => h9) rfl dX9_frees_54 ?_
  refine x_bipush hx hb dX9_frees_57 (by decide) ?_
  refine x_bipush hx hb dX9_frees_59 (by decide) ?_
  refine lv_iload_n hx hb dX9_frees_61 rfl (lv_at hl 1 rfl) ?_
  refine x_imul hx hb dX9_frees_62 ?_
  refine x_iadd hx hb dX9_frees_63 ?_
  refine x_iconst hx hb dX9_frees_64 ?_
  refine x_iadd hx hb dX9_frees_65 ?_
  refine x_iconst hx hb dX9_frees_66 ?_
  refine x_iastC (ws' := modelC ck mo (encZ (upS (upS (upS (upS S 11 ((S 4 b) - 1) ((S 11 ((S 4 b) - 1)) + w)) 0 5 ((S 0 5) + ((S 5 b) - w))) 4 b 0) 5 b 0)) F1 F2 F3 F4 M) hx hb hK hP hD hS 1 0 rfl rfl (by decide) (by omega) (encW (k := 5) (i := b) (by omega) (by unfold encP; omega)) rfl dX9_frees_67 (fun H locs hP hD hS => ?_)
  refine lv_aload_n hx hb dX9_frees_68 rfl (lv_at hl 0 rfl) ?_
  refine va_get (D := dg) (ci := 11) (v := .ref (mo 1)) (C := RX9) (T := TX9) (N := 23) hx hb htg inG_X9 hown hK hP 0 rfl rfl 1 (Nat.le_of_ble_eq_true rfl) (htg _ wq_1558) (fun _ h9 => h9) rfl dX9_frees_69 ?_
  refine x_bipush hx hb dX9_frees_72 (by decide) ?_
  refine x_bipush hx hb dX9_frees_74 (by decide) ?_
  refine lv_iload_n hx hb dX9_frees_76 rfl (lv_at hl 1 rfl) ?_
  refine x_imul hx hb dX9_frees_77 ?_
  refine x_iadd hx hb dX9_frees_78 ?_
  refine x_iconst hx hb dX9_frees_79 ?_
  refine x_iadd hx hb dX9_frees_80 ?_
  refine x_iconst hx hb dX9_frees_81 ?_
  refine x_iastC (ws' := modelC ck mo (encZ (upS (upS (upS (upS (upS S 11 ((S 4 b) - 1) ((S 11 ((S 4 b) - 1)) + w)) 0 5 ((S 0 5) + ((S 5 b) - w))) 4 b 0) 5 b 0) 6 b 0)) F1 F2 F3 F4 M) hx hb hK hP hD hS 1 0 rfl rfl (by decide) (by omega) (encW (k := 6) (i := b) (by omega) (by unfold encP; omega)) rfl dX9_frees_82 (fun H locs hP hD hS => ?_)
  have hEq : modelC ck mo (encZ (clS S b w)) F1 F2 F3 F4 M = modelC ck mo (encZ (upS (upS (upS (upS (upS S 11 ((S 4 b) - 1) ((S 11 ((S 4 b) - 1)) + w)) 0 5 ((S 0 5) + ((S 5 b) - w))) 4 b 0) 5 b 0) 6 b 0)) F1 F2 F3 F4 M := rfl
  exact W.vret hx hb hr (fun t9 ht9 hW9 => ⟨⟨(), rfl, trivial, by rw [ht9, hEq]; exact hP, by rw [hEq, hAe]; exact hD⟩, hS.F ht9⟩) hS.2.2 dX9_frees_83

set_option maxHeartbeats 4000000 in
set_option maxRecDepth 100000 in
/-- BenchBrokerModel.leases -/
theorem m_leases (l : Launch) (dg : va_G) (ck : Nat → ClassId) (mo : Nat → Nat) (S : St) (F1 F2 F3 F4 : Int → Int) (M : St) (t b k : Int) (sz : Nat) {Mx : Int} (hV : Inv Mx S) (rg_t : -2147483648 ≤ t ∧ t < 2147483648) (rg_b : -2147483648 ≤ b ∧ b < 2147483648) (rg_k : -2147483648 ≤ k ∧ k < 2147483648) : Met l yX9_leases (.code yX9_leases cX9_leases 6 (some .int) :: GW) ({ frames := 5, cells := 0, slots := 0, locals := 113 }) (va_Pc [.ref (mo 0), .int (zI t), .int (zI b), .int (zI k)] (wrP dg ck sz (modelC ck mo (encZ S) F1 F2 F3 F4 M))) (va_Qi (fun r (_ : Unit) => r = zI (leZ S t b k).1) (fun _ t9 => wrQ dg sz (modelC ck mo (encZ S) F1 F2 F3 F4 M) (modelC ck mo (encZ (leZ S t b k).2.2) F1 F2 F3 F4 (mAns M (leZ S t b k).1 (leZ S t b k).2.1)) t9) (va_A (modelC ck mo (encZ S) F1 F2 F3 F4 M) sz)) 0 0 (va_A (modelC ck mo (encZ S) F1 F2 F3 F4 M) sz) := by
  refine Met.ofW (cc := cX9_leases) (maxL := 6) (ret := (some .int)) (by decide) rfl ?_
  intro p e s m args below meth c s₁ B hml hv
  obtain ⟨rfl, hsz, hP, hK, hD0⟩ := hv
  have hx := B.exec
  have hb := B.bytes
  have hr := B.returns
  have hts := atoms_spec (ws := .code yX9_leases cX9_leases 6 (some .int) :: GW) B.pre
  have htg : ∀ w ∈ GW, w.before _ s = true := fun w h => hts w (List.mem_cons_of_mem _ h)
  have hown : s.vm.findClass RX9 = some m.cls := findClass_of_methodNamed B.named
  have hlocks := B.notSynchronized
  subst hsz
  have hD := hD0.self (sz := s.heap.size)
  generalize hAe : va_A (modelC ck mo (encZ S) F1 F2 F3 F4 M) s.heap.size = A at hD ⊢
  have hA : ∀ q : Nat, s.heap.size ≤ q → A q := fun q h => by rw [← hAe]; exact Or.inr h
  have hS : va_S A s.heap s.heap [] := va_S.rf
  have hP : va_P dg vwCl (modelC ck mo (encZ S) F1 F2 F3 F4 M) s.heap := hP
  have hl := lv_entry ([.ref (mo 0), .int (zI t), .int (zI b), .int (zI k)]) (n := 6) (Nat.le_of_ble_eq_true rfl)
  rw [lg_entry_eq]
  generalize (lg_sl ([.ref (mo 0), .int (zI t), .int (zI b), .int (zI k)]) ++ List.replicate (6 - (lg_sl ([.ref (mo 0), .int (zI t), .int (zI b), .int (zI k)])).length) Slot.unset).toArray = ls at hl ⊢
  have hl : lv_has ls 6 [(0, .ref (mo 0)), (1, .int (zI t)), (2, .int (zI b)), (3, .int (zI k))] := hl
  have hI := hV.bd
  obtain ⟨b00, b01, b02, b03, b1, b2, b3, b4, b5, b6, b7, b8, b9, b10, b11, b12⟩ := id hI
  have hob := obst_r S t b
  have hre := rent_r hI b
  refine lv_aload_n hx hb dX9_leases_0 rfl (lv_at hl 0 rfl) ?_
  refine lv_iload_n hx hb dX9_leases_1 rfl (lv_at hl 1 rfl) ?_
  refine vp_callSi (W.runV (As := [.int (zI t)]) (rest := []) ⟨hx, hb, hml, hown, htg⟩ (m_isTenant l dg ck mo S F1 F2 F3 F4 M t hI (by omega)) (cwV 1 htg (gwV wq_1821 wq_1823 wp_55 wq_15 wq_1824) rfl rfl rfl (by decide +kernel) ⟨Nat.le_of_ble_eq_true rfl, Nat.le_of_ble_eq_true rfl⟩) (rd_preV hK hP 0 11 rfl rfl) rfl rfl hl.1 rfl (lv_room (Nat.le_of_ble_eq_true rfl)) dX9_leases_2 ⟨Nat.zero_le _, Nat.zero_le _⟩) (fun r2 hr2 => ?_)
  subst hr2
  refine x_bz_eq (tgt := 16) hx hb dX9_leases_5 (by decide) (fun c5 => ?_) (fun c5 => ?_)
  · refine x_iconst hx hb dX9_leases_16 ?_
    have hc : leZ S t b k = ((-1), 0, S) := by unfold leZ; (repeat (first | rw [if_pos (by omega)] | rw [if_neg (by omega)]))
    have hEq : modelC ck mo (encZ (leZ S t b k).2.2) F1 F2 F3 F4 (mAns M (leZ S t b k).1 (leZ S t b k).2.1) = modelC ck mo (encZ S) F1 F2 F3 F4 M := (by rw [hc] <;> rfl)
    exact W.iret (v := _) hx hb hr (fun t9 ht9 hW9 => ⟨⟨_, (), rfl, (by rw [hc] <;> rfl), by rw [ht9, hEq]; exact hP, by rw [hEq, hAe]; exact hD⟩, hS.F ht9⟩) hS.2.2 dX9_leases_17
  · refine lv_aload_n hx hb dX9_leases_8 rfl (lv_at hl 0 rfl) ?_
    refine lv_iload_n hx hb dX9_leases_9 rfl (lv_at hl 2 rfl) ?_
    refine vp_callSi (W.runV (As := [.int (zI b)]) (rest := []) ⟨hx, hb, hml, hown, htg⟩ (m_isBench l dg ck mo S F1 F2 F3 F4 M b hI (by omega)) (cwV 1 htg (gwV wq_1689 wq_1691 wp_42 wq_15 wq_1692) rfl rfl rfl (by decide +kernel) ⟨Nat.le_of_ble_eq_true rfl, Nat.le_of_ble_eq_true rfl⟩) (rd_preV hK hP 0 11 rfl rfl) rfl rfl hl.1 rfl (lv_room (Nat.le_of_ble_eq_true rfl)) dX9_leases_10 ⟨Nat.zero_le _, Nat.zero_le _⟩) (fun r10 hr10 => ?_)
    subst hr10
    refine x_bz_ne (tgt := 18) hx hb dX9_leases_13 (by decide) (fun c13 => ?_) (fun c13 => ?_)
    · refine lv_iload_n hx hb dX9_leases_18 rfl (lv_at hl 3 rfl) ?_
      refine x_iconst hx hb dX9_leases_19 ?_
      refine x_bipush hx hb dX9_leases_20 (by decide) ?_
      refine vp_callSi (W.runS (As := [.int (zI k), .int (zI 1), .int (zI 12)]) (rest := []) ⟨hx, hb, hml, hown, htg⟩ (m_in l dg ck k 1 12 (by omega) (by omega) (by omega)) (cwS 3 htg (gwS wq_1646 wq_1647 wq_15 wq_1648) rfl rfl rfl (by decide +kernel) ⟨Nat.le_of_ble_eq_true rfl, Nat.le_of_ble_eq_true rfl⟩) (rd_preS hK va_P_nil) rfl rfl hl.1 rfl (lv_room (Nat.le_of_ble_eq_true rfl)) dX9_leases_22 ⟨Nat.zero_le _, Nat.zero_le _⟩) (fun r22 hr22 => ?_)
      subst hr22
      refine x_bz_ne (tgt := 31) hx hb dX9_leases_25 (by decide) (fun c25 => ?_) (fun c25 => ?_)
      · refine lv_aload_n hx hb dX9_leases_31 rfl (lv_at hl 0 rfl) ?_
        refine lv_iload_n hx hb dX9_leases_32 rfl (lv_at hl 1 rfl) ?_
        refine lv_iload_n hx hb dX9_leases_33 rfl (lv_at hl 2 rfl) ?_
        refine x_calli (ws' := modelC ck mo (encZ S) F1 F2 F3 F4 (barM S M t b)) [] (M := modelC ck mo (encZ S) F1 F2 F3 F4 M) (M' := modelC ck mo (encZ S) F1 F2 F3 F4 (barM S M t b)) ([]) (List.append_nil _).symm (List.append_nil _).symm hP hD hS hA (fun hPm hDm => va_runV (As := [.int (zI t), .int (zI b)]) (rest := []) ⟨hx, hb, hml, hown, htg⟩ (m_barred l dg ck mo S F1 F2 F3 F4 M t b _ hI (by omega) (by omega)) (cwV 2 htg (gwV wq_1861 wq_1863 wp_60 wq_15 wq_1864) rfl rfl rfl (by decide +kernel) ⟨Nat.le_of_ble_eq_true rfl, Nat.le_of_ble_eq_true rfl⟩) (wr_preV hK hPm hDm 0 11 rfl rfl) rfl rfl hl.1 rfl (lv_room (Nat.le_of_ble_eq_true rfl)) dX9_leases_34 ⟨Nat.zero_le _, Nat.zero_le _⟩) (fun r34 H locs hr34 hP hD hS => ?_)
        subst hr34
        refine lv_istore (lv' := [(4, .int (zI (obst S t b))), (0, .ref (mo 0)), (1, .int (zI t)), (2, .int (zI b)), (3, .int (zI k))]) hx hb dX9_leases_37 hl (by decide) rfl (fun ls hl => ?_)
        refine lv_iload hx hb dX9_leases_39 (lv_at hl 0 rfl) ?_
        refine x_if_le (tgt := 47) hx hb dX9_leases_41 (by decide) (by omega) (fun c41 => ?_) (fun c41 => ?_)
        · refine lv_aload_n hx hb dX9_leases_47 rfl (lv_at hl 1 rfl) ?_
          refine lv_iload_n hx hb dX9_leases_48 rfl (lv_at hl 3 rfl) ?_
          refine vp_callSi (W.runV (As := [.int (zI b)]) (rest := []) ⟨hx, hb, hml, hown, htg⟩ (m_rent l dg ck mo S F1 F2 F3 F4 (barM S M t b) b hI (by omega)) (cwV 1 htg (gwV wq_1753 wq_1755 wp_49 wq_15 wq_1756) rfl rfl rfl (by decide +kernel) ⟨Nat.le_of_ble_eq_true rfl, Nat.le_of_ble_eq_true rfl⟩) (rd_preV hK hP 0 11 rfl rfl) rfl rfl hl.1 rfl (lv_room (Nat.le_of_ble_eq_true rfl)) dX9_leases_49 ⟨Nat.zero_le _, Nat.zero_le _⟩) (fun r49 hr49 => ?_)
          subst hr49
          refine lv_istore (lv' := [(5, .int (zI (rent S b))), (4, .int (zI (obst S t b))), (0, .ref (mo 0)), (1, .int (zI t)), (2, .int (zI b)), (3, .int (zI k))]) hx hb dX9_leases_52 hl (by decide) rfl (fun ls hl => ?_)
          refine lv_aload_n hx hb dX9_leases_54 rfl (lv_at hl 2 rfl) ?_
          refine va_get (D := dg) (ci := 11) (v := .ref (mo 1)) (C := RX9) (T := TX9) (N := 23) hx hb htg inG_X9 hown hK hP 0 rfl rfl 1 (Nat.le_of_ble_eq_true rfl) (htg _ wq_1558) (fun _ h9 => h9) rfl dX9_leases_55 ?_
          refine x_bipush hx hb dX9_leases_58 (by decide) ?_
          refine x_iconst hx hb dX9_leases_60 ?_
          refine lv_iload_n hx hb dX9_leases_61 rfl (lv_at hl 3 rfl) ?_
          refine x_imul hx hb dX9_leases_62 ?_
          refine x_iadd hx hb dX9_leases_63 ?_
          refine x_iconst hx hb dX9_leases_64 ?_
          refine x_iadd hx hb dX9_leases_65 ?_
          refine lv_dup2_11 hx hb dX9_leases_66 rfl rfl ?_
          refine x_iald hx hb hK hP 1 0 (encZ S) rfl rfl (fun _ => rfl) (P := fun _ => True) (fun _ => trivial) (by decide) (by omega) dX9_leases_67 (fun _ => ?_)
          refine x_is (show (encZ S) ((86 + (2 * t)) + 0) = (S 11 t) from (encV (k := 11) (i := t) (by unfold encP; omega)).trans (rfl)) ?_
          have q67 := b11 t
          refine lv_iload hx hb dX9_leases_68 (lv_at hl 0 rfl) ?_
          refine x_isub hx hb dX9_leases_70 ?_
          refine x_iastC (ws' := modelC ck mo (encZ (upS S 11 t ((S 11 t) - (rent S b)))) F1 F2 F3 F4 (barM S M t b)) hx hb hK hP hD hS 1 0 rfl rfl (by decide) (by omega) (encW (k := 11) (i := t) (by omega) (by unfold encP; omega)) rfl dX9_leases_71 (fun H locs hP hD hS => ?_)
          refine lv_aload_n hx hb dX9_leases_72 rfl (lv_at hl 2 rfl) ?_
          refine va_get (D := dg) (ci := 11) (v := .ref (mo 1)) (C := RX9) (T := TX9) (N := 23) hx hb htg inG_X9 hown hK hP 0 rfl rfl 1 (Nat.le_of_ble_eq_true rfl) (htg _ wq_1558) (fun _ h9 => h9) rfl dX9_leases_73 ?_
          refine x_bipush hx hb dX9_leases_76 (by decide) ?_
          refine x_bipush hx hb dX9_leases_78 (by decide) ?_
          refine lv_iload_n hx hb dX9_leases_80 rfl (lv_at hl 4 rfl) ?_
          refine x_imul hx hb dX9_leases_81 ?_
          refine x_iadd hx hb dX9_leases_82 ?_
          refine x_iconst hx hb dX9_leases_83 ?_
          refine x_iadd hx hb dX9_leases_84 ?_
          refine lv_iload_n hx hb dX9_leases_85 rfl (lv_at hl 3 rfl) ?_
          refine x_iconst hx hb dX9_leases_86 ?_
          refine x_iadd hx hb dX9_leases_87 ?_
          refine x_iastC (ws' := modelC ck mo (encZ (upS (upS S 11 t ((S 11 t) - (rent S b))) 4 b (t + 1))) F1 F2 F3 F4 (barM S M t b)) hx hb hK hP hD hS 1 0 rfl rfl (by decide) (by omega) (encW (k := 4) (i := b) (by omega) (by unfold encP; omega)) rfl dX9_leases_88 (fun H locs hP hD hS => ?_)
          refine lv_aload_n hx hb dX9_leases_89 rfl (lv_at hl 2 rfl) ?_
          refine va_get (D := dg) (ci := 11) (v := .ref (mo 1)) (C := RX9) (T := TX9) (N := 23) hx hb htg inG_X9 hown hK hP 0 rfl rfl 1 (Nat.le_of_ble_eq_true rfl) (htg _ wq_1558) (fun _ h9 => h9) rfl dX9_leases_90 ?_
          refine x_bipush hx hb dX9_leases_93 (by decide) ?_
          refine x_bipush hx hb dX9_leases_95 (by decide) ?_
          refine lv_iload_n hx hb dX9_leases_97 rfl (lv_at hl 4 rfl) ?_
          refine x_imul hx hb dX9_leases_98 ?_
          refine x_iadd hx hb dX9_leases_99 ?_
          refine x_iconst hx hb dX9_leases_100 ?_
          refine x_iadd hx hb dX9_leases_101 ?_
          refine lv_iload hx hb dX9_leases_102 (lv_at hl 0 rfl) ?_
          refine x_iastC (ws' := modelC ck mo (encZ (upS (upS (upS S 11 t ((S 11 t) - (rent S b))) 4 b (t + 1)) 5 b (rent S b))) F1 F2 F3 F4 (barM S M t b)) hx hb hK hP hD hS 1 0 rfl rfl (by decide) (by omega) (encW (k := 5) (i := b) (by omega) (by unfold encP; omega)) rfl dX9_leases_104 (fun H locs hP hD hS => ?_)
          refine lv_aload_n hx hb dX9_leases_105 rfl (lv_at hl 2 rfl) ?_
          refine va_get (D := dg) (ci := 11) (v := .ref (mo 1)) (C := RX9) (T := TX9) (N := 23) hx hb htg inG_X9 hown hK hP 0 rfl rfl 1 (Nat.le_of_ble_eq_true rfl) (htg _ wq_1558) (fun _ h9 => h9) rfl dX9_leases_106 ?_
          refine x_bipush hx hb dX9_leases_109 (by decide) ?_
          refine x_bipush hx hb dX9_leases_111 (by decide) ?_
          refine lv_iload_n hx hb dX9_leases_113 rfl (lv_at hl 4 rfl) ?_
          refine x_imul hx hb dX9_leases_114 ?_
          refine x_iadd hx hb dX9_leases_115 ?_
          refine x_iconst hx hb dX9_leases_116 ?_
          refine x_iadd hx hb dX9_leases_117 ?_
          refine lv_iload_n hx hb dX9_leases_118 rfl (lv_at hl 5 rfl) ?_
          refine x_iastC (ws' := modelC ck mo (encZ (upS (upS (upS (upS S 11 t ((S 11 t) - (rent S b))) 4 b (t + 1)) 5 b (rent S b)) 6 b k)) F1 F2 F3 F4 (barM S M t b)) hx hb hK hP hD hS 1 0 rfl rfl (by decide) (by omega) (encW (k := 6) (i := b) (by omega) (by unfold encP; omega)) rfl dX9_leases_119 (fun H locs hP hD hS => ?_)
          refine lv_aload_n hx hb dX9_leases_120 rfl (lv_at hl 2 rfl) ?_
          refine lv_iload hx hb dX9_leases_121 (lv_at hl 0 rfl) ?_
          refine x_calli (ws' := modelC ck mo (encZ (upS (upS (upS (upS S 11 t ((S 11 t) - (rent S b))) 4 b (t + 1)) 5 b (rent S b)) 6 b k)) F1 F2 F3 F4 (upS (barM S M t b) 8 10 (rent S b))) [] (M := modelC ck mo (encZ (upS (upS (upS (upS S 11 t ((S 11 t) - (rent S b))) 4 b (t + 1)) 5 b (rent S b)) 6 b k)) F1 F2 F3 F4 (barM S M t b)) (M' := modelC ck mo (encZ (upS (upS (upS (upS S 11 t ((S 11 t) - (rent S b))) 4 b (t + 1)) 5 b (rent S b)) 6 b k)) F1 F2 F3 F4 (upS (barM S M t b) 8 10 (rent S b))) ([]) (List.append_nil _).symm (List.append_nil _).symm hP hD hS hA (fun hPm hDm => va_runV (As := [.int (zI (rent S b))]) (rest := []) ⟨hx, hb, hml, hown, htg⟩ (m_done l dg ck mo (upS (upS (upS (upS S 11 t ((S 11 t) - (rent S b))) 4 b (t + 1)) 5 b (rent S b)) 6 b k) F1 F2 F3 F4 (barM S M t b) (rent S b) _ ) (cwV 1 htg (gwV wq_1665 wq_1667 wp_37 wq_15 wq_1668) rfl rfl rfl (by decide +kernel) ⟨Nat.le_of_ble_eq_true rfl, Nat.le_of_ble_eq_true rfl⟩) (wr_preV hK hPm hDm 0 11 rfl rfl) rfl rfl hl.1 rfl (lv_room (Nat.le_of_ble_eq_true rfl)) dX9_leases_123 ⟨Nat.zero_le _, Nat.zero_le _⟩) (fun r123 H locs hr123 hP hD hS => ?_)
          subst hr123
          have hc : leZ S t b k = (0, (rent S b), (upS (upS (upS (upS S 11 t ((S 11 t) - (rent S b))) 4 b (t + 1)) 5 b (rent S b)) 6 b k)) := by unfold leZ; (repeat (first | rw [if_pos (by omega)] | rw [if_neg (by omega)]))
          have hEq : modelC ck mo (encZ (leZ S t b k).2.2) F1 F2 F3 F4 (mAns M (leZ S t b k).1 (leZ S t b k).2.1) = modelC ck mo (encZ (upS (upS (upS (upS S 11 t ((S 11 t) - (rent S b))) 4 b (t + 1)) 5 b (rent S b)) 6 b k)) F1 F2 F3 F4 (upS (barM S M t b) 8 10 (rent S b)) := (by have hbm : barM S M t b = M := if_pos (by omega); rw [hc, hbm] <;> rfl)
          exact W.iret (v := _) hx hb hr (fun t9 ht9 hW9 => ⟨⟨_, (), rfl, (by rw [hc] <;> rfl), by rw [ht9, hEq]; exact hP, by rw [hEq, hAe]; exact hD⟩, hS.F ht9⟩) hS.2.2 dX9_leases_126
        · refine lv_iload hx hb dX9_leases_44 (lv_at hl 0 rfl) ?_
          have hc : leZ S t b k = (obst S t b, obsD S (obst S t b) t b, S) := by unfold leZ; (repeat (first | rw [if_pos (by omega)] | rw [if_neg (by omega)]))
          have hEq : modelC ck mo (encZ (leZ S t b k).2.2) F1 F2 F3 F4 (mAns M (leZ S t b k).1 (leZ S t b k).2.1) = modelC ck mo (encZ S) F1 F2 F3 F4 (barM S M t b) := (by rw [hc]; show modelC ck mo (encZ S) F1 F2 F3 F4 (mAns M (obst S t b) (obsD S (obst S t b) t b)) = _; rw [mAns_b (by omega)])
          exact W.iret (v := _) hx hb hr (fun t9 ht9 hW9 => ⟨⟨_, (), rfl, (by rw [hc] <;> rfl), by rw [ht9, hEq]; exact hP, by rw [hEq, hAe]; exact hD⟩, hS.F ht9⟩) hS.2.2 dX9_leases_46
      · refine x_bipush hx hb dX9_leases_28 (by decide) ?_
        have hc : leZ S t b k = ((-2), 0, S) := by unfold leZ; (repeat (first | rw [if_pos (by omega)] | rw [if_neg (by omega)]))
        have hEq : modelC ck mo (encZ (leZ S t b k).2.2) F1 F2 F3 F4 (mAns M (leZ S t b k).1 (leZ S t b k).2.1) = modelC ck mo (encZ S) F1 F2 F3 F4 M := (by rw [hc] <;> rfl)
        exact W.iret (v := _) hx hb hr (fun t9 ht9 hW9 => ⟨⟨_, (), rfl, (by rw [hc] <;> rfl), by rw [ht9, hEq]; exact hP, by rw [hEq, hAe]; exact hD⟩, hS.F ht9⟩) hS.2.2 dX9_leases_30
    · refine x_iconst hx hb dX9_leases_16 ?_
      have hc : leZ S t b k = ((-1), 0, S) := by unfold leZ; (repeat (first | rw [if_pos (by omega)] | rw [if_neg (by omega)]))
      have hEq : modelC ck mo (encZ (leZ S t b k).2.2) F1 F2 F3 F4 (mAns M (leZ S t b k).1 (leZ S t b k).2.1) = modelC ck mo (encZ S) F1 F2 F3 F4 M := (by rw [hc] <;> rfl)
      exact W.iret (v := _) hx hb hr (fun t9 ht9 hW9 => ⟨⟨_, (), rfl, (by rw [hc] <;> rfl), by rw [ht9, hEq]; exact hP, by rw [hEq, hAe]; exact hD⟩, hS.F ht9⟩) hS.2.2 dX9_leases_17

set_option maxHeartbeats 4000000 in
set_option maxRecDepth 100000 in
/-- BenchBrokerModel.endsLease -/
theorem m_endsLease (l : Launch) (dg : va_G) (ck : Nat → ClassId) (mo : Nat → Nat) (S : St) (F1 F2 F3 F4 : Int → Int) (M : St) (b : Int) (sz : Nat) {Mx : Int} (hV : Inv Mx S) (rg_b : -2147483648 ≤ b ∧ b < 2147483648) : Met l yX9_endsLease (.code yX9_endsLease cX9_endsLease 3 (some .int) :: GW) ({ frames := 3, cells := 0, slots := 0, locals := 65 }) (va_Pc [.ref (mo 0), .int (zI b)] (wrP dg ck sz (modelC ck mo (encZ S) F1 F2 F3 F4 M))) (va_Qi (fun r (_ : Unit) => r = zI (enZ S b).1) (fun _ t9 => wrQ dg sz (modelC ck mo (encZ S) F1 F2 F3 F4 M) (modelC ck mo (encZ (enZ S b).2.2) F1 F2 F3 F4 (mAns M (enZ S b).1 (enZ S b).2.1)) t9) (va_A (modelC ck mo (encZ S) F1 F2 F3 F4 M) sz)) 0 0 (va_A (modelC ck mo (encZ S) F1 F2 F3 F4 M) sz) := by
  refine Met.ofW (cc := cX9_endsLease) (maxL := 3) (ret := (some .int)) (by decide) rfl ?_
  intro p e s m args below meth c s₁ B hml hv
  obtain ⟨rfl, hsz, hP, hK, hD0⟩ := hv
  have hx := B.exec
  have hb := B.bytes
  have hr := B.returns
  have hts := atoms_spec (ws := .code yX9_endsLease cX9_endsLease 3 (some .int) :: GW) B.pre
  have htg : ∀ w ∈ GW, w.before _ s = true := fun w h => hts w (List.mem_cons_of_mem _ h)
  have hown : s.vm.findClass RX9 = some m.cls := findClass_of_methodNamed B.named
  have hlocks := B.notSynchronized
  subst hsz
  have hD := hD0.self (sz := s.heap.size)
  generalize hAe : va_A (modelC ck mo (encZ S) F1 F2 F3 F4 M) s.heap.size = A at hD ⊢
  have hA : ∀ q : Nat, s.heap.size ≤ q → A q := fun q h => by rw [← hAe]; exact Or.inr h
  have hS : va_S A s.heap s.heap [] := va_S.rf
  have hP : va_P dg vwCl (modelC ck mo (encZ S) F1 F2 F3 F4 M) s.heap := hP
  have hl := lv_entry ([.ref (mo 0), .int (zI b)]) (n := 3) (Nat.le_of_ble_eq_true rfl)
  rw [lg_entry_eq]
  generalize (lg_sl ([.ref (mo 0), .int (zI b)]) ++ List.replicate (3 - (lg_sl ([.ref (mo 0), .int (zI b)])).length) Slot.unset).toArray = ls at hl ⊢
  have hl : lv_has ls 3 [(0, .ref (mo 0)), (1, .int (zI b))] := hl
  have hI := hV.bd
  obtain ⟨b00, b01, b02, b03, b1, b2, b3, b4, b5, b6, b7, b8, b9, b10, b11, b12⟩ := id hI
  have h4b := b4 b
  refine lv_aload_n hx hb dX9_endsLease_0 rfl (lv_at hl 0 rfl) ?_
  refine lv_iload_n hx hb dX9_endsLease_1 rfl (lv_at hl 1 rfl) ?_
  refine vp_callSi (W.runV (As := [.int (zI b)]) (rest := []) ⟨hx, hb, hml, hown, htg⟩ (m_isBench l dg ck mo S F1 F2 F3 F4 M b hI (by omega)) (cwV 1 htg (gwV wq_1689 wq_1691 wp_42 wq_15 wq_1692) rfl rfl rfl (by decide +kernel) ⟨Nat.le_of_ble_eq_true rfl, Nat.le_of_ble_eq_true rfl⟩) (rd_preV hK hP 0 11 rfl rfl) rfl rfl hl.1 rfl (lv_room (Nat.le_of_ble_eq_true rfl)) dX9_endsLease_2 ⟨Nat.zero_le _, Nat.zero_le _⟩) (fun r2 hr2 => ?_)
  subst hr2
  refine x_bz_ne (tgt := 10) hx hb dX9_endsLease_5 (by decide) (fun c5 => ?_) (fun c5 => ?_)
  · refine lv_aload_n hx hb dX9_endsLease_10 rfl (lv_at hl 0 rfl) ?_
    refine lv_iload_n hx hb dX9_endsLease_11 rfl (lv_at hl 1 rfl) ?_
    refine vp_callSi (W.runV (As := [.int (zI b)]) (rest := []) ⟨hx, hb, hml, hown, htg⟩ (m_by l dg ck mo S F1 F2 F3 F4 M b (by omega)) (cwV 1 htg (gwV wq_1853 wq_1855 wp_59 wq_15 wq_1856) rfl rfl rfl (by decide +kernel) ⟨Nat.le_of_ble_eq_true rfl, Nat.le_of_ble_eq_true rfl⟩) (rd_preV hK hP 0 11 rfl rfl) rfl rfl hl.1 rfl (lv_room (Nat.le_of_ble_eq_true rfl)) dX9_endsLease_12 ⟨Nat.zero_le _, Nat.zero_le _⟩) (fun r12 hr12 => ?_)
    subst hr12
    have q12 := b4 b
    refine x_is (show (S 4 b - 1) = ((S 4 b) - 1) from rfl) ?_
    refine x_iconst hx hb dX9_endsLease_15 ?_
    refine x_icmp_ne (tgt := 27) hx hb dX9_endsLease_16 (by decide) (by omega) (by omega) (fun c16 => ?_) (fun c16 => ?_)
    · refine lv_aload_n hx hb dX9_endsLease_27 rfl (lv_at hl 0 rfl) ?_
      refine lv_iload_n hx hb dX9_endsLease_28 rfl (lv_at hl 1 rfl) ?_
      refine x_iconst hx hb dX9_endsLease_29 ?_
      refine vp_callSi (W.runV (As := [.int (zI b), .int (zI 4)]) (rest := []) ⟨hx, hb, hml, hown, htg⟩ (m_bench l dg ck mo S F1 F2 F3 F4 M b 4 (by omega) (by decide)) (cwV 2 htg (gwV wq_1657 wq_1659 wp_35 wq_15 wq_1660) rfl rfl rfl (by decide +kernel) ⟨Nat.le_of_ble_eq_true rfl, Nat.le_of_ble_eq_true rfl⟩) (rd_preV hK hP 0 11 rfl rfl) rfl rfl hl.1 rfl (lv_room (Nat.le_of_ble_eq_true rfl)) dX9_endsLease_30 ⟨Nat.zero_le _, Nat.zero_le _⟩) (fun r30 hr30 => ?_)
      subst hr30
      have q30 := b5 b
      refine x_is (show (S (1 + Int.toNat 4) b) = (S 5 b) from rfl) ?_
      refine x_iconst hx hb dX9_endsLease_33 ?_
      refine x_idiv hx hb dX9_endsLease_34 (by omega) (by omega) ?_
      refine lv_istore_n (lv' := [(2, .int (zI ((S 5 b) / 2))), (0, .ref (mo 0)), (1, .int (zI b))]) hx hb dX9_endsLease_35 rfl hl (by decide) rfl (fun ls hl => ?_)
      refine lv_aload_n hx hb dX9_endsLease_36 rfl (lv_at hl 1 rfl) ?_
      refine lv_iload_n hx hb dX9_endsLease_37 rfl (lv_at hl 2 rfl) ?_
      refine lv_iload_n hx hb dX9_endsLease_38 rfl (lv_at hl 0 rfl) ?_
      refine x_callv (ws' := modelC ck mo (encZ (clS S b ((S 5 b) / 2))) F1 F2 F3 F4 M) [] (M := modelC ck mo (encZ S) F1 F2 F3 F4 M) (M' := modelC ck mo (encZ (clS S b ((S 5 b) / 2))) F1 F2 F3 F4 M) ([]) (List.append_nil _).symm (List.append_nil _).symm hP hD hS hA (fun hPm hDm => va_runV (As := [.int (zI b), .int (zI ((S 5 b) / 2))]) (rest := []) ⟨hx, hb, hml, hown, htg⟩ (m_frees l dg ck mo S F1 F2 F3 F4 M b ((S 5 b) / 2) _ (by omega) (by first | omega | (show 1 ≤ S 4 b ∧ S 4 b ≤ 8; omega))) (cwV 2 htg (gwV wq_1885 wq_1887 wp_63 wq_15 wq_1888) rfl rfl rfl (by decide +kernel) ⟨Nat.le_of_ble_eq_true rfl, Nat.le_of_ble_eq_true rfl⟩) (wr_preV hK hPm hDm 0 11 rfl rfl) rfl rfl hl.1 rfl (lv_room (Nat.le_of_ble_eq_true rfl)) dX9_endsLease_39 ⟨Nat.zero_le _, Nat.zero_le _⟩) (fun H locs hP hD hS => ?_)
      refine lv_aload_n hx hb dX9_endsLease_42 rfl (lv_at hl 1 rfl) ?_
      refine lv_iload_n hx hb dX9_endsLease_43 rfl (lv_at hl 0 rfl) ?_
      refine x_calli (ws' := modelC ck mo (encZ (clS S b ((S 5 b) / 2))) F1 F2 F3 F4 (upS M 8 10 ((S 5 b) / 2))) [] (M := modelC ck mo (encZ (clS S b ((S 5 b) / 2))) F1 F2 F3 F4 M) (M' := modelC ck mo (encZ (clS S b ((S 5 b) / 2))) F1 F2 F3 F4 (upS M 8 10 ((S 5 b) / 2))) ([]) (List.append_nil _).symm (List.append_nil _).symm hP hD hS hA (fun hPm hDm => va_runV (As := [.int (zI ((S 5 b) / 2))]) (rest := []) ⟨hx, hb, hml, hown, htg⟩ (m_done l dg ck mo (clS S b ((S 5 b) / 2)) F1 F2 F3 F4 M ((S 5 b) / 2) _ ) (cwV 1 htg (gwV wq_1665 wq_1667 wp_37 wq_15 wq_1668) rfl rfl rfl (by decide +kernel) ⟨Nat.le_of_ble_eq_true rfl, Nat.le_of_ble_eq_true rfl⟩) (wr_preV hK hPm hDm 0 11 rfl rfl) rfl rfl hl.1 rfl (lv_room (Nat.le_of_ble_eq_true rfl)) dX9_endsLease_44 ⟨Nat.zero_le _, Nat.zero_le _⟩) (fun r44 H locs hr44 hP hD hS => ?_)
      subst hr44
      have hc : enZ S b = (0, ((S 5 b) / 2), (clS S b ((S 5 b) / 2))) := by unfold enZ; (repeat (first | rw [if_pos (by omega)] | rw [if_neg (by omega)]))
      have hEq : modelC ck mo (encZ (enZ S b).2.2) F1 F2 F3 F4 (mAns M (enZ S b).1 (enZ S b).2.1) = modelC ck mo (encZ (clS S b ((S 5 b) / 2))) F1 F2 F3 F4 (upS M 8 10 ((S 5 b) / 2)) := (by rw [hc] <;> rfl)
      exact W.iret (v := _) hx hb hr (fun t9 ht9 hW9 => ⟨⟨_, (), rfl, (by rw [hc] <;> rfl), by rw [ht9, hEq]; exact hP, by rw [hEq, hAe]; exact hD⟩, hS.F ht9⟩) hS.2.2 dX9_endsLease_47
    · refine lv_aload_n hx hb dX9_endsLease_19 rfl (lv_at hl 0 rfl) ?_
      refine x_bipush hx hb dX9_endsLease_20 (by decide) ?_
      refine lv_iload_n hx hb dX9_endsLease_22 rfl (lv_at hl 1 rfl) ?_
      refine x_calli (ws' := modelC ck mo (encZ S) F1 F2 F3 F4 (upS M 8 9 b)) [] (M := modelC ck mo (encZ S) F1 F2 F3 F4 M) (M' := modelC ck mo (encZ S) F1 F2 F3 F4 (upS M 8 9 b)) ([]) (List.append_nil _).symm (List.append_nil _).symm hP hD hS hA (fun hPm hDm => va_runV (As := [.int (zI 10), .int (zI b)]) (rest := []) ⟨hx, hb, hml, hown, htg⟩ (m_rejected l dg ck mo S F1 F2 F3 F4 M 10 b _ ) (cwV 2 htg (gwV wq_1649 wq_1651 wp_33 wq_15 wq_1652) rfl rfl rfl (by decide +kernel) ⟨Nat.le_of_ble_eq_true rfl, Nat.le_of_ble_eq_true rfl⟩) (wr_preV hK hPm hDm 0 11 rfl rfl) rfl rfl hl.1 rfl (lv_room (Nat.le_of_ble_eq_true rfl)) dX9_endsLease_23 ⟨Nat.zero_le _, Nat.zero_le _⟩) (fun r23 H locs hr23 hP hD hS => ?_)
      subst hr23
      have hc : enZ S b = (10, b, S) := by unfold enZ; (repeat (first | rw [if_pos (by omega)] | rw [if_neg (by omega)]))
      have hEq : modelC ck mo (encZ (enZ S b).2.2) F1 F2 F3 F4 (mAns M (enZ S b).1 (enZ S b).2.1) = modelC ck mo (encZ S) F1 F2 F3 F4 (upS M 8 9 b) := (by rw [hc] <;> rfl)
      exact W.iret (v := _) hx hb hr (fun t9 ht9 hW9 => ⟨⟨_, (), rfl, (by rw [hc] <;> rfl), by rw [ht9, hEq]; exact hP, by rw [hEq, hAe]; exact hD⟩, hS.F ht9⟩) hS.2.2 dX9_endsLease_26
  · refine x_iconst hx hb dX9_endsLease_8 ?_
    have hc : enZ S b = ((-1), 0, S) := by unfold enZ; (repeat (first | rw [if_pos (by omega)] | rw [if_neg (by omega)]))
    have hEq : modelC ck mo (encZ (enZ S b).2.2) F1 F2 F3 F4 (mAns M (enZ S b).1 (enZ S b).2.1) = modelC ck mo (encZ S) F1 F2 F3 F4 M := (by rw [hc] <;> rfl)
    exact W.iret (v := _) hx hb hr (fun t9 ht9 hW9 => ⟨⟨_, (), rfl, (by rw [hc] <;> rfl), by rw [ht9, hEq]; exact hP, by rw [hEq, hAe]; exact hD⟩, hS.F ht9⟩) hS.2.2 dX9_endsLease_9

set_option maxHeartbeats 4000000 in
set_option maxRecDepth 100000 in
/-- BenchBrokerModel.renews -/
theorem m_renews (l : Launch) (dg : va_G) (ck : Nat → ClassId) (mo : Nat → Nat) (S : St) (F1 F2 F3 F4 : Int → Int) (M : St) (b k : Int) (sz : Nat) {Mx : Int} (hV : Inv Mx S) (rg_b : -2147483648 ≤ b ∧ b < 2147483648) (rg_k : -2147483648 ≤ k ∧ k < 2147483648) : Met l yX9_renews (.code yX9_renews cX9_renews 3 (some .int) :: GW) ({ frames := 2, cells := 0, slots := 0, locals := 43 }) (va_Pc [.ref (mo 0), .int (zI b), .int (zI k)] (wrP dg ck sz (modelC ck mo (encZ S) F1 F2 F3 F4 M))) (va_Qi (fun r (_ : Unit) => r = zI (reZ S b k).1) (fun _ t9 => wrQ dg sz (modelC ck mo (encZ S) F1 F2 F3 F4 M) (modelC ck mo (encZ (reZ S b k).2.2) F1 F2 F3 F4 (mAns M (reZ S b k).1 (reZ S b k).2.1)) t9) (va_A (modelC ck mo (encZ S) F1 F2 F3 F4 M) sz)) 0 0 (va_A (modelC ck mo (encZ S) F1 F2 F3 F4 M) sz) := by
  refine Met.ofW (cc := cX9_renews) (maxL := 3) (ret := (some .int)) (by decide) rfl ?_
  intro p e s m args below meth c s₁ B hml hv
  obtain ⟨rfl, hsz, hP, hK, hD0⟩ := hv
  have hx := B.exec
  have hb := B.bytes
  have hr := B.returns
  have hts := atoms_spec (ws := .code yX9_renews cX9_renews 3 (some .int) :: GW) B.pre
  have htg : ∀ w ∈ GW, w.before _ s = true := fun w h => hts w (List.mem_cons_of_mem _ h)
  have hown : s.vm.findClass RX9 = some m.cls := findClass_of_methodNamed B.named
  have hlocks := B.notSynchronized
  subst hsz
  have hD := hD0.self (sz := s.heap.size)
  generalize hAe : va_A (modelC ck mo (encZ S) F1 F2 F3 F4 M) s.heap.size = A at hD ⊢
  have hA : ∀ q : Nat, s.heap.size ≤ q → A q := fun q h => by rw [← hAe]; exact Or.inr h
  have hS : va_S A s.heap s.heap [] := va_S.rf
  have hP : va_P dg vwCl (modelC ck mo (encZ S) F1 F2 F3 F4 M) s.heap := hP
  have hl := lv_entry ([.ref (mo 0), .int (zI b), .int (zI k)]) (n := 3) (Nat.le_of_ble_eq_true rfl)
  rw [lg_entry_eq]
  generalize (lg_sl ([.ref (mo 0), .int (zI b), .int (zI k)]) ++ List.replicate (3 - (lg_sl ([.ref (mo 0), .int (zI b), .int (zI k)])).length) Slot.unset).toArray = ls at hl ⊢
  have hl : lv_has ls 3 [(0, .ref (mo 0)), (1, .int (zI b)), (2, .int (zI k))] := hl
  have hI := hV.bd
  obtain ⟨b00, b01, b02, b03, b1, b2, b3, b4, b5, b6, b7, b8, b9, b10, b11, b12⟩ := id hI
  refine lv_aload_n hx hb dX9_renews_0 rfl (lv_at hl 0 rfl) ?_
  refine lv_iload_n hx hb dX9_renews_1 rfl (lv_at hl 1 rfl) ?_
  refine vp_callSi (W.runV (As := [.int (zI b)]) (rest := []) ⟨hx, hb, hml, hown, htg⟩ (m_isBench l dg ck mo S F1 F2 F3 F4 M b hI (by omega)) (cwV 1 htg (gwV wq_1689 wq_1691 wp_42 wq_15 wq_1692) rfl rfl rfl (by decide +kernel) ⟨Nat.le_of_ble_eq_true rfl, Nat.le_of_ble_eq_true rfl⟩) (rd_preV hK hP 0 11 rfl rfl) rfl rfl hl.1 rfl (lv_room (Nat.le_of_ble_eq_true rfl)) dX9_renews_2 ⟨Nat.zero_le _, Nat.zero_le _⟩) (fun r2 hr2 => ?_)
  subst hr2
  refine x_bz_ne (tgt := 10) hx hb dX9_renews_5 (by decide) (fun c5 => ?_) (fun c5 => ?_)
  · refine lv_iload_n hx hb dX9_renews_10 rfl (lv_at hl 2 rfl) ?_
    refine x_iconst hx hb dX9_renews_11 ?_
    refine x_bipush hx hb dX9_renews_12 (by decide) ?_
    refine vp_callSi (W.runS (As := [.int (zI k), .int (zI 1), .int (zI 12)]) (rest := []) ⟨hx, hb, hml, hown, htg⟩ (m_in l dg ck k 1 12 (by omega) (by omega) (by omega)) (cwS 3 htg (gwS wq_1646 wq_1647 wq_15 wq_1648) rfl rfl rfl (by decide +kernel) ⟨Nat.le_of_ble_eq_true rfl, Nat.le_of_ble_eq_true rfl⟩) (rd_preS hK va_P_nil) rfl rfl hl.1 rfl (lv_room (Nat.le_of_ble_eq_true rfl)) dX9_renews_14 ⟨Nat.zero_le _, Nat.zero_le _⟩) (fun r14 hr14 => ?_)
    subst hr14
    refine x_bz_ne (tgt := 23) hx hb dX9_renews_17 (by decide) (fun c17 => ?_) (fun c17 => ?_)
    · refine lv_aload_n hx hb dX9_renews_23 rfl (lv_at hl 0 rfl) ?_
      refine lv_iload_n hx hb dX9_renews_24 rfl (lv_at hl 1 rfl) ?_
      refine vp_callSi (W.runV (As := [.int (zI b)]) (rest := []) ⟨hx, hb, hml, hown, htg⟩ (m_by l dg ck mo S F1 F2 F3 F4 M b (by omega)) (cwV 1 htg (gwV wq_1853 wq_1855 wp_59 wq_15 wq_1856) rfl rfl rfl (by decide +kernel) ⟨Nat.le_of_ble_eq_true rfl, Nat.le_of_ble_eq_true rfl⟩) (rd_preV hK hP 0 11 rfl rfl) rfl rfl hl.1 rfl (lv_room (Nat.le_of_ble_eq_true rfl)) dX9_renews_25 ⟨Nat.zero_le _, Nat.zero_le _⟩) (fun r25 hr25 => ?_)
      subst hr25
      have q25 := b4 b
      refine x_is (show (S 4 b - 1) = ((S 4 b) - 1) from rfl) ?_
      refine x_iconst hx hb dX9_renews_28 ?_
      refine x_icmp_ne (tgt := 40) hx hb dX9_renews_29 (by decide) (by omega) (by omega) (fun c29 => ?_) (fun c29 => ?_)
      · refine lv_aload_n hx hb dX9_renews_40 rfl (lv_at hl 0 rfl) ?_
        refine lv_iload_n hx hb dX9_renews_41 rfl (lv_at hl 1 rfl) ?_
        refine x_iconst hx hb dX9_renews_42 ?_
        refine vp_callSi (W.runV (As := [.int (zI b), .int (zI 5)]) (rest := []) ⟨hx, hb, hml, hown, htg⟩ (m_bench l dg ck mo S F1 F2 F3 F4 M b 5 (by omega) (by decide)) (cwV 2 htg (gwV wq_1657 wq_1659 wp_35 wq_15 wq_1660) rfl rfl rfl (by decide +kernel) ⟨Nat.le_of_ble_eq_true rfl, Nat.le_of_ble_eq_true rfl⟩) (rd_preV hK hP 0 11 rfl rfl) rfl rfl hl.1 rfl (lv_room (Nat.le_of_ble_eq_true rfl)) dX9_renews_43 ⟨Nat.zero_le _, Nat.zero_le _⟩) (fun r43 hr43 => ?_)
        subst hr43
        have q43 := b6 b
        refine x_is (show (S (1 + Int.toNat 5) b) = (S 6 b) from rfl) ?_
        refine lv_iload_n hx hb dX9_renews_46 rfl (lv_at hl 2 rfl) ?_
        refine x_iadd hx hb dX9_renews_47 ?_
        refine x_bipush hx hb dX9_renews_48 (by decide) ?_
        refine x_icmp_le (tgt := 66) hx hb dX9_renews_50 (by decide) (by omega) (by omega) (fun c50 => ?_) (fun c50 => ?_)
        · refine lv_aload_n hx hb dX9_renews_66 rfl (lv_at hl 0 rfl) ?_
          refine va_get (D := dg) (ci := 11) (v := .ref (mo 1)) (C := RX9) (T := TX9) (N := 23) hx hb htg inG_X9 hown hK hP 0 rfl rfl 1 (Nat.le_of_ble_eq_true rfl) (htg _ wq_1558) (fun _ h9 => h9) rfl dX9_renews_67 ?_
          refine x_bipush hx hb dX9_renews_70 (by decide) ?_
          refine x_bipush hx hb dX9_renews_72 (by decide) ?_
          refine lv_iload_n hx hb dX9_renews_74 rfl (lv_at hl 1 rfl) ?_
          refine x_imul hx hb dX9_renews_75 ?_
          refine x_iadd hx hb dX9_renews_76 ?_
          refine x_iconst hx hb dX9_renews_77 ?_
          refine x_iadd hx hb dX9_renews_78 ?_
          refine lv_dup2_11 hx hb dX9_renews_79 rfl rfl ?_
          refine x_iald hx hb hK hP 1 0 (encZ S) rfl rfl (fun _ => rfl) (P := fun _ => True) (fun _ => trivial) (by decide) (by omega) dX9_renews_80 (fun _ => ?_)
          refine x_is (show (encZ S) ((10 + (6 * b)) + 5) = (S 6 b) from (encV (k := 6) (i := b) (by unfold encP; omega)).trans (rfl)) ?_
          have q80 := b6 b
          refine lv_iload_n hx hb dX9_renews_81 rfl (lv_at hl 2 rfl) ?_
          refine x_iadd hx hb dX9_renews_82 ?_
          refine x_iastC (ws' := modelC ck mo (encZ (upS S 6 b ((S 6 b) + k))) F1 F2 F3 F4 M) hx hb hK hP hD hS 1 0 rfl rfl (by decide) (by omega) (encW (k := 6) (i := b) (by omega) (by unfold encP; omega)) rfl dX9_renews_83 (fun H locs hP hD hS => ?_)
          refine lv_aload_n hx hb dX9_renews_84 rfl (lv_at hl 0 rfl) ?_
          refine lv_aload_n hx hb dX9_renews_85 rfl (lv_at hl 0 rfl) ?_
          refine lv_iload_n hx hb dX9_renews_86 rfl (lv_at hl 1 rfl) ?_
          refine x_iconst hx hb dX9_renews_87 ?_
          refine vp_callSi (W.runV (As := [.int (zI b), .int (zI 5)]) (rest := [.ref (mo 0)]) ⟨hx, hb, hml, hown, htg⟩ (m_bench l dg ck mo (upS S 6 b ((S 6 b) + k)) F1 F2 F3 F4 M b 5 (by omega) (by decide)) (cwV 2 htg (gwV wq_1657 wq_1659 wp_35 wq_15 wq_1660) rfl rfl rfl (by decide +kernel) ⟨Nat.le_of_ble_eq_true rfl, Nat.le_of_ble_eq_true rfl⟩) (rd_preV hK hP 0 11 rfl rfl) rfl rfl hl.1 rfl (lv_room (Nat.le_of_ble_eq_true rfl)) dX9_renews_88 ⟨Nat.zero_le _, Nat.zero_le _⟩) (fun r88 hr88 => ?_)
          subst hr88
          refine x_is (show ((upS S 6 b ((S 6 b) + k)) (1 + Int.toNat 5) b) = ((S 6 b) + k) from upS_s) ?_
          refine x_calli (ws' := modelC ck mo (encZ (upS S 6 b ((S 6 b) + k))) F1 F2 F3 F4 (upS M 8 10 ((S 6 b) + k))) [] (M := modelC ck mo (encZ (upS S 6 b ((S 6 b) + k))) F1 F2 F3 F4 M) (M' := modelC ck mo (encZ (upS S 6 b ((S 6 b) + k))) F1 F2 F3 F4 (upS M 8 10 ((S 6 b) + k))) ([]) (List.append_nil _).symm (List.append_nil _).symm hP hD hS hA (fun hPm hDm => va_runV (As := [.int (zI ((S 6 b) + k))]) (rest := []) ⟨hx, hb, hml, hown, htg⟩ (m_done l dg ck mo (upS S 6 b ((S 6 b) + k)) F1 F2 F3 F4 M ((S 6 b) + k) _ ) (cwV 1 htg (gwV wq_1665 wq_1667 wp_37 wq_15 wq_1668) rfl rfl rfl (by decide +kernel) ⟨Nat.le_of_ble_eq_true rfl, Nat.le_of_ble_eq_true rfl⟩) (wr_preV hK hPm hDm 0 11 rfl rfl) rfl rfl hl.1 rfl (lv_room (Nat.le_of_ble_eq_true rfl)) dX9_renews_91 ⟨Nat.zero_le _, Nat.zero_le _⟩) (fun r91 H locs hr91 hP hD hS => ?_)
          subst hr91
          have hc : reZ S b k = (0, ((S 6 b) + k), (upS S 6 b ((S 6 b) + k))) := by unfold reZ; (repeat (first | rw [if_pos (by omega)] | rw [if_neg (by omega)]))
          have hEq : modelC ck mo (encZ (reZ S b k).2.2) F1 F2 F3 F4 (mAns M (reZ S b k).1 (reZ S b k).2.1) = modelC ck mo (encZ (upS S 6 b ((S 6 b) + k))) F1 F2 F3 F4 (upS M 8 10 ((S 6 b) + k)) := (by rw [hc] <;> rfl)
          exact W.iret (v := _) hx hb hr (fun t9 ht9 hW9 => ⟨⟨_, (), rfl, (by rw [hc] <;> rfl), by rw [ht9, hEq]; exact hP, by rw [hEq, hAe]; exact hD⟩, hS.F ht9⟩) hS.2.2 dX9_renews_94
        · refine lv_aload_n hx hb dX9_renews_53 rfl (lv_at hl 0 rfl) ?_
          refine x_bipush hx hb dX9_renews_54 (by decide) ?_
          refine lv_aload_n hx hb dX9_renews_56 rfl (lv_at hl 0 rfl) ?_
          refine lv_iload_n hx hb dX9_renews_57 rfl (lv_at hl 1 rfl) ?_
          refine x_iconst hx hb dX9_renews_58 ?_
          refine vp_callSi (W.runV (As := [.int (zI b), .int (zI 5)]) (rest := [.int (zI 11), .ref (mo 0)]) ⟨hx, hb, hml, hown, htg⟩ (m_bench l dg ck mo S F1 F2 F3 F4 M b 5 (by omega) (by decide)) (cwV 2 htg (gwV wq_1657 wq_1659 wp_35 wq_15 wq_1660) rfl rfl rfl (by decide +kernel) ⟨Nat.le_of_ble_eq_true rfl, Nat.le_of_ble_eq_true rfl⟩) (rd_preV hK hP 0 11 rfl rfl) rfl rfl hl.1 rfl (lv_room (Nat.le_of_ble_eq_true rfl)) dX9_renews_59 ⟨Nat.zero_le _, Nat.zero_le _⟩) (fun r59 hr59 => ?_)
          subst hr59
          have q59 := b6 b
          refine x_is (show (S (1 + Int.toNat 5) b) = (S 6 b) from rfl) ?_
          refine x_calli (ws' := modelC ck mo (encZ S) F1 F2 F3 F4 (upS M 8 9 (S 6 b))) [] (M := modelC ck mo (encZ S) F1 F2 F3 F4 M) (M' := modelC ck mo (encZ S) F1 F2 F3 F4 (upS M 8 9 (S 6 b))) ([]) (List.append_nil _).symm (List.append_nil _).symm hP hD hS hA (fun hPm hDm => va_runV (As := [.int (zI 11), .int (zI (S 6 b))]) (rest := []) ⟨hx, hb, hml, hown, htg⟩ (m_rejected l dg ck mo S F1 F2 F3 F4 M 11 (S 6 b) _ ) (cwV 2 htg (gwV wq_1649 wq_1651 wp_33 wq_15 wq_1652) rfl rfl rfl (by decide +kernel) ⟨Nat.le_of_ble_eq_true rfl, Nat.le_of_ble_eq_true rfl⟩) (wr_preV hK hPm hDm 0 11 rfl rfl) rfl rfl hl.1 rfl (lv_room (Nat.le_of_ble_eq_true rfl)) dX9_renews_62 ⟨Nat.zero_le _, Nat.zero_le _⟩) (fun r62 H locs hr62 hP hD hS => ?_)
          subst hr62
          have hc : reZ S b k = (11, (S 6 b), S) := by unfold reZ; (repeat (first | rw [if_pos (by omega)] | rw [if_neg (by omega)]))
          have hEq : modelC ck mo (encZ (reZ S b k).2.2) F1 F2 F3 F4 (mAns M (reZ S b k).1 (reZ S b k).2.1) = modelC ck mo (encZ S) F1 F2 F3 F4 (upS M 8 9 (S 6 b)) := (by rw [hc] <;> rfl)
          exact W.iret (v := _) hx hb hr (fun t9 ht9 hW9 => ⟨⟨_, (), rfl, (by rw [hc] <;> rfl), by rw [ht9, hEq]; exact hP, by rw [hEq, hAe]; exact hD⟩, hS.F ht9⟩) hS.2.2 dX9_renews_65
      · refine lv_aload_n hx hb dX9_renews_32 rfl (lv_at hl 0 rfl) ?_
        refine x_bipush hx hb dX9_renews_33 (by decide) ?_
        refine lv_iload_n hx hb dX9_renews_35 rfl (lv_at hl 1 rfl) ?_
        refine x_calli (ws' := modelC ck mo (encZ S) F1 F2 F3 F4 (upS M 8 9 b)) [] (M := modelC ck mo (encZ S) F1 F2 F3 F4 M) (M' := modelC ck mo (encZ S) F1 F2 F3 F4 (upS M 8 9 b)) ([]) (List.append_nil _).symm (List.append_nil _).symm hP hD hS hA (fun hPm hDm => va_runV (As := [.int (zI 10), .int (zI b)]) (rest := []) ⟨hx, hb, hml, hown, htg⟩ (m_rejected l dg ck mo S F1 F2 F3 F4 M 10 b _ ) (cwV 2 htg (gwV wq_1649 wq_1651 wp_33 wq_15 wq_1652) rfl rfl rfl (by decide +kernel) ⟨Nat.le_of_ble_eq_true rfl, Nat.le_of_ble_eq_true rfl⟩) (wr_preV hK hPm hDm 0 11 rfl rfl) rfl rfl hl.1 rfl (lv_room (Nat.le_of_ble_eq_true rfl)) dX9_renews_36 ⟨Nat.zero_le _, Nat.zero_le _⟩) (fun r36 H locs hr36 hP hD hS => ?_)
        subst hr36
        have hc : reZ S b k = (10, b, S) := by unfold reZ; (repeat (first | rw [if_pos (by omega)] | rw [if_neg (by omega)]))
        have hEq : modelC ck mo (encZ (reZ S b k).2.2) F1 F2 F3 F4 (mAns M (reZ S b k).1 (reZ S b k).2.1) = modelC ck mo (encZ S) F1 F2 F3 F4 (upS M 8 9 b) := (by rw [hc] <;> rfl)
        exact W.iret (v := _) hx hb hr (fun t9 ht9 hW9 => ⟨⟨_, (), rfl, (by rw [hc] <;> rfl), by rw [ht9, hEq]; exact hP, by rw [hEq, hAe]; exact hD⟩, hS.F ht9⟩) hS.2.2 dX9_renews_39
    · refine x_bipush hx hb dX9_renews_20 (by decide) ?_
      have hc : reZ S b k = ((-2), 0, S) := by unfold reZ; (repeat (first | rw [if_pos (by omega)] | rw [if_neg (by omega)]))
      have hEq : modelC ck mo (encZ (reZ S b k).2.2) F1 F2 F3 F4 (mAns M (reZ S b k).1 (reZ S b k).2.1) = modelC ck mo (encZ S) F1 F2 F3 F4 M := (by rw [hc] <;> rfl)
      exact W.iret (v := _) hx hb hr (fun t9 ht9 hW9 => ⟨⟨_, (), rfl, (by rw [hc] <;> rfl), by rw [ht9, hEq]; exact hP, by rw [hEq, hAe]; exact hD⟩, hS.F ht9⟩) hS.2.2 dX9_renews_22
  · refine x_iconst hx hb dX9_renews_8 ?_
    have hc : reZ S b k = ((-1), 0, S) := by unfold reZ; (repeat (first | rw [if_pos (by omega)] | rw [if_neg (by omega)]))
    have hEq : modelC ck mo (encZ (reZ S b k).2.2) F1 F2 F3 F4 (mAns M (reZ S b k).1 (reZ S b k).2.1) = modelC ck mo (encZ S) F1 F2 F3 F4 M := (by rw [hc] <;> rfl)
    exact W.iret (v := _) hx hb hr (fun t9 ht9 hW9 => ⟨⟨_, (), rfl, (by rw [hc] <;> rfl), by rw [ht9, hEq]; exact hP, by rw [hEq, hAe]; exact hD⟩, hS.F ht9⟩) hS.2.2 dX9_renews_9

set_option maxHeartbeats 4000000 in
set_option maxRecDepth 100000 in
/-- BenchBrokerModel.billed -/
theorem m_billed (l : Launch) (dg : va_G) (ck : Nat → ClassId) (mo : Nat → Nat) (S : St) (F1 F2 F3 F4 : Int → Int) (M : St) (b : Int) (sz : Nat) (hI : Bd S) (hb0 : 0 ≤ b ∧ b < 10) (hl0 : S 4 b ≠ 0) : Met l yX9_billed (.code yX9_billed cX9_billed 3 (some .int) :: GW) ({ frames := 4, cells := 0, slots := 0, locals := 91 }) (va_Pc [.ref (mo 0), .int (zI b)] (wrP dg ck sz (modelC ck mo (encZ S) F1 F2 F3 F4 M))) (va_Qi (fun r (_ : Unit) => r = zI (bil S b).2) (fun _ t9 => wrQ dg sz (modelC ck mo (encZ S) F1 F2 F3 F4 M) (modelC ck mo (encZ (bil S b).1) F1 F2 F3 F4 M) t9) (va_A (modelC ck mo (encZ S) F1 F2 F3 F4 M) sz)) 0 0 (va_A (modelC ck mo (encZ S) F1 F2 F3 F4 M) sz) := by
  refine Met.ofW (cc := cX9_billed) (maxL := 3) (ret := (some .int)) (by decide) rfl ?_
  intro p e s m args below meth c s₁ B hml hv
  obtain ⟨rfl, hsz, hP, hK, hD0⟩ := hv
  have hx := B.exec
  have hb := B.bytes
  have hr := B.returns
  have hts := atoms_spec (ws := .code yX9_billed cX9_billed 3 (some .int) :: GW) B.pre
  have htg : ∀ w ∈ GW, w.before _ s = true := fun w h => hts w (List.mem_cons_of_mem _ h)
  have hown : s.vm.findClass RX9 = some m.cls := findClass_of_methodNamed B.named
  have hlocks := B.notSynchronized
  subst hsz
  have hD := hD0.self (sz := s.heap.size)
  generalize hAe : va_A (modelC ck mo (encZ S) F1 F2 F3 F4 M) s.heap.size = A at hD ⊢
  have hA : ∀ q : Nat, s.heap.size ≤ q → A q := fun q h => by rw [← hAe]; exact Or.inr h
  have hS : va_S A s.heap s.heap [] := va_S.rf
  have hP : va_P dg vwCl (modelC ck mo (encZ S) F1 F2 F3 F4 M) s.heap := hP
  have hl := lv_entry ([.ref (mo 0), .int (zI b)]) (n := 3) (Nat.le_of_ble_eq_true rfl)
  rw [lg_entry_eq]
  generalize (lg_sl ([.ref (mo 0), .int (zI b)]) ++ List.replicate (3 - (lg_sl ([.ref (mo 0), .int (zI b)])).length) Slot.unset).toArray = ls at hl ⊢
  have hl : lv_has ls 3 [(0, .ref (mo 0)), (1, .int (zI b))] := hl
  obtain ⟨b00, b01, b02, b03, b1, b2, b3, b4, b5, b6, b7, b8, b9, b10, b11, b12⟩ := id hI
  have hre := rent_r hI b
  have hlt := b4 b
  have h11 := b11 (S 4 b - 1)
  have hno := noiseB_r hI b
  refine lv_aload_n hx hb dX9_billed_0 rfl (lv_at hl 0 rfl) ?_
  refine lv_iload_n hx hb dX9_billed_1 rfl (lv_at hl 1 rfl) ?_
  refine vp_callSi (W.runV (As := [.int (zI b)]) (rest := []) ⟨hx, hb, hml, hown, htg⟩ (m_by l dg ck mo S F1 F2 F3 F4 M b (by omega)) (cwV 1 htg (gwV wq_1853 wq_1855 wp_59 wq_15 wq_1856) rfl rfl rfl (by decide +kernel) ⟨Nat.le_of_ble_eq_true rfl, Nat.le_of_ble_eq_true rfl⟩) (rd_preV hK hP 0 11 rfl rfl) rfl rfl hl.1 rfl (lv_room (Nat.le_of_ble_eq_true rfl)) dX9_billed_2 ⟨Nat.zero_le _, Nat.zero_le _⟩) (fun r2 hr2 => ?_)
  subst hr2
  have q2 := b4 b
  refine x_is (show (S 4 b - 1) = ((S 4 b) - 1) from rfl) ?_
  refine lv_istore_n (lv' := [(2, .int (zI ((S 4 b) - 1))), (0, .ref (mo 0)), (1, .int (zI b))]) hx hb dX9_billed_5 rfl hl (by decide) rfl (fun ls hl => ?_)
  refine lv_aload_n hx hb dX9_billed_6 rfl (lv_at hl 1 rfl) ?_
  refine lv_iload_n hx hb dX9_billed_7 rfl (lv_at hl 2 rfl) ?_
  refine vp_callSi (W.runV (As := [.int (zI b)]) (rest := []) ⟨hx, hb, hml, hown, htg⟩ (m_quiet l dg ck mo S F1 F2 F3 F4 M b hI (by omega)) (cwV 1 htg (gwV wq_1797 wq_1799 wp_52 wq_15 wq_1800) rfl rfl rfl (by decide +kernel) ⟨Nat.le_of_ble_eq_true rfl, Nat.le_of_ble_eq_true rfl⟩) (rd_preV hK hP 0 11 rfl rfl) rfl rfl hl.1 rfl (lv_room (Nat.le_of_ble_eq_true rfl)) dX9_billed_8 ⟨Nat.zero_le _, Nat.zero_le _⟩) (fun r8 hr8 => ?_)
  subst hr8
  refine x_bz_ne (tgt := 38) hx hb dX9_billed_11 (by decide) (fun c11 => ?_) (fun c11 => ?_)
  · refine lv_aload_n hx hb dX9_billed_38 rfl (lv_at hl 1 rfl) ?_
    refine lv_iload_n hx hb dX9_billed_39 rfl (lv_at hl 0 rfl) ?_
    refine x_iconst hx hb dX9_billed_40 ?_
    refine vp_callSi (W.runV (As := [.int (zI ((S 4 b) - 1)), .int (zI 0)]) (rest := []) ⟨hx, hb, hml, hown, htg⟩ (m_tenant l dg ck mo S F1 F2 F3 F4 M ((S 4 b) - 1) 0 (by omega) (by decide)) (cwV 2 htg (gwV wq_1825 wq_1827 wp_56 wq_15 wq_1828) rfl rfl rfl (by decide +kernel) ⟨Nat.le_of_ble_eq_true rfl, Nat.le_of_ble_eq_true rfl⟩) (rd_preV hK hP 0 11 rfl rfl) rfl rfl hl.1 rfl (lv_room (Nat.le_of_ble_eq_true rfl)) dX9_billed_41 ⟨Nat.zero_le _, Nat.zero_le _⟩) (fun r41 hr41 => ?_)
    subst hr41
    have q41 := b11 ((S 4 b) - 1)
    refine x_is (show (S (11 + Int.toNat 0) ((S 4 b) - 1)) = (S 11 ((S 4 b) - 1)) from rfl) ?_
    refine lv_aload_n hx hb dX9_billed_44 rfl (lv_at hl 1 rfl) ?_
    refine lv_iload_n hx hb dX9_billed_45 rfl (lv_at hl 2 rfl) ?_
    refine vp_callSi (W.runV (As := [.int (zI b)]) (rest := [.int (zI (S 11 ((S 4 b) - 1)))]) ⟨hx, hb, hml, hown, htg⟩ (m_rent l dg ck mo S F1 F2 F3 F4 M b hI (by omega)) (cwV 1 htg (gwV wq_1753 wq_1755 wp_49 wq_15 wq_1756) rfl rfl rfl (by decide +kernel) ⟨Nat.le_of_ble_eq_true rfl, Nat.le_of_ble_eq_true rfl⟩) (rd_preV hK hP 0 11 rfl rfl) rfl rfl hl.1 rfl (lv_room (Nat.le_of_ble_eq_true rfl)) dX9_billed_46 ⟨Nat.zero_le _, Nat.zero_le _⟩) (fun r46 hr46 => ?_)
    subst hr46
    refine x_icmp_ge (tgt := 88) hx hb dX9_billed_49 (by decide) (by omega) (by omega) (fun c49 => ?_) (fun c49 => ?_)
    · refine lv_aload_n hx hb dX9_billed_88 rfl (lv_at hl 1 rfl) ?_
      refine va_get (D := dg) (ci := 11) (v := .ref (mo 1)) (C := RX9) (T := TX9) (N := 23) hx hb htg inG_X9 hown hK hP 0 rfl rfl 1 (Nat.le_of_ble_eq_true rfl) (htg _ wq_1558) (fun _ h9 => h9) rfl dX9_billed_89 ?_
      refine x_bipush hx hb dX9_billed_92 (by decide) ?_
      refine x_iconst hx hb dX9_billed_94 ?_
      refine lv_iload_n hx hb dX9_billed_95 rfl (lv_at hl 0 rfl) ?_
      refine x_imul hx hb dX9_billed_96 ?_
      refine x_iadd hx hb dX9_billed_97 ?_
      refine x_iconst hx hb dX9_billed_98 ?_
      refine x_iadd hx hb dX9_billed_99 ?_
      refine lv_dup2_11 hx hb dX9_billed_100 rfl rfl ?_
      refine x_iald hx hb hK hP 1 0 (encZ S) rfl rfl (fun _ => rfl) (P := fun _ => True) (fun _ => trivial) (by decide) (by omega) dX9_billed_101 (fun _ => ?_)
      refine x_is (show (encZ S) ((86 + (2 * ((S 4 b) - 1))) + 0) = (S 11 ((S 4 b) - 1)) from (encV (k := 11) (i := ((S 4 b) - 1)) (by unfold encP; omega)).trans (rfl)) ?_
      have q101 := b11 ((S 4 b) - 1)
      refine lv_aload_n hx hb dX9_billed_102 rfl (lv_at hl 1 rfl) ?_
      refine lv_iload_n hx hb dX9_billed_103 rfl (lv_at hl 2 rfl) ?_
      refine vp_callSi (W.runV (As := [.int (zI b)]) (rest := [.int (zI (S 11 ((S 4 b) - 1))), .int (zI ((86 + (2 * ((S 4 b) - 1))) + 0)), .ref (mo 1)]) ⟨hx, hb, hml, hown, htg⟩ (m_rent l dg ck mo S F1 F2 F3 F4 M b hI (by omega)) (cwV 1 htg (gwV wq_1753 wq_1755 wp_49 wq_15 wq_1756) rfl rfl rfl (by decide +kernel) ⟨Nat.le_of_ble_eq_true rfl, Nat.le_of_ble_eq_true rfl⟩) (rd_preV hK hP 0 11 rfl rfl) rfl rfl hl.1 rfl (lv_room (Nat.le_of_ble_eq_true rfl)) dX9_billed_104 ⟨Nat.zero_le _, Nat.zero_le _⟩) (fun r104 hr104 => ?_)
      subst hr104
      refine x_isub hx hb dX9_billed_107 ?_
      refine x_iastC (ws' := modelC ck mo (encZ (upS S 11 ((S 4 b) - 1) ((S 11 ((S 4 b) - 1)) - (rent S b)))) F1 F2 F3 F4 M) hx hb hK hP hD hS 1 0 rfl rfl (by decide) (by omega) (encW (k := 11) (i := ((S 4 b) - 1)) (by omega) (by unfold encP; omega)) rfl dX9_billed_108 (fun H locs hP hD hS => ?_)
      refine lv_aload_n hx hb dX9_billed_109 rfl (lv_at hl 1 rfl) ?_
      refine va_get (D := dg) (ci := 11) (v := .ref (mo 1)) (C := RX9) (T := TX9) (N := 23) hx hb htg inG_X9 hown hK hP 0 rfl rfl 1 (Nat.le_of_ble_eq_true rfl) (htg _ wq_1558) (fun _ h9 => h9) rfl dX9_billed_110 ?_
      refine x_iconst hx hb dX9_billed_113 ?_
      refine lv_dup2_11 hx hb dX9_billed_114 rfl rfl ?_
      refine x_iald hx hb hK hP 1 0 (encZ (upS S 11 ((S 4 b) - 1) ((S 11 ((S 4 b) - 1)) - (rent S b)))) rfl rfl (fun _ => rfl) (P := fun _ => True) (fun _ => trivial) (by decide) (by omega) dX9_billed_115 (fun _ => ?_)
      refine x_is (show (encZ (upS S 11 ((S 4 b) - 1) ((S 11 ((S 4 b) - 1)) - (rent S b)))) 5 = (S 0 5) from (encV (k := 0) (i := 5) (Or.inl ⟨rfl, by decide, by decide, rfl⟩)).trans (rfl)) ?_
      refine lv_aload_n hx hb dX9_billed_116 rfl (lv_at hl 1 rfl) ?_
      refine lv_iload_n hx hb dX9_billed_117 rfl (lv_at hl 2 rfl) ?_
      refine vp_callSi (W.runV (As := [.int (zI b)]) (rest := [.int (zI (S 0 5)), .int (zI 5), .ref (mo 1)]) ⟨hx, hb, hml, hown, htg⟩ (m_rent l dg ck mo (upS S 11 ((S 4 b) - 1) ((S 11 ((S 4 b) - 1)) - (rent S b))) F1 F2 F3 F4 M b (Bd_11 hI (by omega)) (by omega)) (cwV 1 htg (gwV wq_1753 wq_1755 wp_49 wq_15 wq_1756) rfl rfl rfl (by decide +kernel) ⟨Nat.le_of_ble_eq_true rfl, Nat.le_of_ble_eq_true rfl⟩) (rd_preV hK hP 0 11 rfl rfl) rfl rfl hl.1 rfl (lv_room (Nat.le_of_ble_eq_true rfl)) dX9_billed_118 ⟨Nat.zero_le _, Nat.zero_le _⟩) (fun r118 hr118 => ?_)
      subst hr118
      refine x_is (show (rent (upS S 11 ((S 4 b) - 1) ((S 11 ((S 4 b) - 1)) - (rent S b))) b) = (rent S b) from rent_c (S' := (upS S 11 ((S 4 b) - 1) ((S 11 ((S 4 b) - 1)) - (rent S b)))) (S := S) rfl rfl rfl rfl rfl rfl rfl rfl _) ?_
      refine x_iadd hx hb dX9_billed_121 ?_
      refine x_iastC (ws' := modelC ck mo (encZ (upS (upS S 11 ((S 4 b) - 1) ((S 11 ((S 4 b) - 1)) - (rent S b))) 0 5 ((S 0 5) + (rent S b)))) F1 F2 F3 F4 M) hx hb hK hP hD hS 1 0 rfl rfl (by decide) (by omega) (encW (k := 0) (i := 5) (by omega) (Or.inl ⟨rfl, by decide, by decide, rfl⟩)) rfl dX9_billed_122 (fun H locs hP hD hS => ?_)
      refine lv_aload_n hx hb dX9_billed_123 rfl (lv_at hl 1 rfl) ?_
      refine va_get (D := dg) (ci := 11) (v := .ref (mo 1)) (C := RX9) (T := TX9) (N := 23) hx hb htg inG_X9 hown hK hP 0 rfl rfl 1 (Nat.le_of_ble_eq_true rfl) (htg _ wq_1558) (fun _ h9 => h9) rfl dX9_billed_124 ?_
      refine x_bipush hx hb dX9_billed_127 (by decide) ?_
      refine x_bipush hx hb dX9_billed_129 (by decide) ?_
      refine lv_iload_n hx hb dX9_billed_131 rfl (lv_at hl 2 rfl) ?_
      refine x_imul hx hb dX9_billed_132 ?_
      refine x_iadd hx hb dX9_billed_133 ?_
      refine x_iconst hx hb dX9_billed_134 ?_
      refine x_iadd hx hb dX9_billed_135 ?_
      refine lv_dup2_11 hx hb dX9_billed_136 rfl rfl ?_
      refine x_iald hx hb hK hP 1 0 (encZ (upS (upS S 11 ((S 4 b) - 1) ((S 11 ((S 4 b) - 1)) - (rent S b))) 0 5 ((S 0 5) + (rent S b)))) rfl rfl (fun _ => rfl) (P := fun _ => True) (fun _ => trivial) (by decide) (by omega) dX9_billed_137 (fun _ => ?_)
      refine x_is (show (encZ (upS (upS S 11 ((S 4 b) - 1) ((S 11 ((S 4 b) - 1)) - (rent S b))) 0 5 ((S 0 5) + (rent S b)))) ((10 + (6 * b)) + 5) = (S 6 b) from (encV (k := 6) (i := b) (by unfold encP; omega)).trans (rfl)) ?_
      have q137 := b6 b
      refine x_iconst hx hb dX9_billed_138 ?_
      refine x_isub hx hb dX9_billed_139 ?_
      refine x_iastC (ws' := modelC ck mo (encZ (upS (upS (upS S 11 ((S 4 b) - 1) ((S 11 ((S 4 b) - 1)) - (rent S b))) 0 5 ((S 0 5) + (rent S b))) 6 b ((S 6 b) - 1))) F1 F2 F3 F4 M) hx hb hK hP hD hS 1 0 rfl rfl (by decide) (by omega) (encW (k := 6) (i := b) (by omega) (by unfold encP; omega)) rfl dX9_billed_140 (fun H locs hP hD hS => ?_)
      refine lv_aload_n hx hb dX9_billed_141 rfl (lv_at hl 1 rfl) ?_
      refine lv_iload_n hx hb dX9_billed_142 rfl (lv_at hl 2 rfl) ?_
      refine x_iconst hx hb dX9_billed_143 ?_
      refine vp_callSi (W.runV (As := [.int (zI b), .int (zI 5)]) (rest := []) ⟨hx, hb, hml, hown, htg⟩ (m_bench l dg ck mo (upS (upS (upS S 11 ((S 4 b) - 1) ((S 11 ((S 4 b) - 1)) - (rent S b))) 0 5 ((S 0 5) + (rent S b))) 6 b ((S 6 b) - 1)) F1 F2 F3 F4 M b 5 (by omega) (by decide)) (cwV 2 htg (gwV wq_1657 wq_1659 wp_35 wq_15 wq_1660) rfl rfl rfl (by decide +kernel) ⟨Nat.le_of_ble_eq_true rfl, Nat.le_of_ble_eq_true rfl⟩) (rd_preV hK hP 0 11 rfl rfl) rfl rfl hl.1 rfl (lv_room (Nat.le_of_ble_eq_true rfl)) dX9_billed_144 ⟨Nat.zero_le _, Nat.zero_le _⟩) (fun r144 hr144 => ?_)
      subst hr144
      refine x_is (show ((upS (upS (upS S 11 ((S 4 b) - 1) ((S 11 ((S 4 b) - 1)) - (rent S b))) 0 5 ((S 0 5) + (rent S b))) 6 b ((S 6 b) - 1)) (1 + Int.toNat 5) b) = ((S 6 b) - 1) from upS_s) ?_
      refine x_if_le (tgt := 152) hx hb dX9_billed_147 (by decide) (by omega) (fun c147 => ?_) (fun c147 => ?_)
      · refine lv_aload_n hx hb dX9_billed_152 rfl (lv_at hl 1 rfl) ?_
        refine lv_iload_n hx hb dX9_billed_153 rfl (lv_at hl 2 rfl) ?_
        refine lv_aload_n hx hb dX9_billed_154 rfl (lv_at hl 1 rfl) ?_
        refine lv_iload_n hx hb dX9_billed_155 rfl (lv_at hl 2 rfl) ?_
        refine x_iconst hx hb dX9_billed_156 ?_
        refine vp_callSi (W.runV (As := [.int (zI b), .int (zI 4)]) (rest := [.int (zI b), .ref (mo 0)]) ⟨hx, hb, hml, hown, htg⟩ (m_bench l dg ck mo (upS (upS (upS S 11 ((S 4 b) - 1) ((S 11 ((S 4 b) - 1)) - (rent S b))) 0 5 ((S 0 5) + (rent S b))) 6 b ((S 6 b) - 1)) F1 F2 F3 F4 M b 4 (by omega) (by decide)) (cwV 2 htg (gwV wq_1657 wq_1659 wp_35 wq_15 wq_1660) rfl rfl rfl (by decide +kernel) ⟨Nat.le_of_ble_eq_true rfl, Nat.le_of_ble_eq_true rfl⟩) (rd_preV hK hP 0 11 rfl rfl) rfl rfl hl.1 rfl (lv_room (Nat.le_of_ble_eq_true rfl)) dX9_billed_157 ⟨Nat.zero_le _, Nat.zero_le _⟩) (fun r157 hr157 => ?_)
        subst hr157
        refine x_is (show ((upS (upS (upS S 11 ((S 4 b) - 1) ((S 11 ((S 4 b) - 1)) - (rent S b))) 0 5 ((S 0 5) + (rent S b))) 6 b ((S 6 b) - 1)) (1 + Int.toNat 4) b) = (S 5 b) from rfl) ?_
        refine x_callv (ws' := modelC ck mo (encZ (clS (upS (upS (upS S 11 ((S 4 b) - 1) ((S 11 ((S 4 b) - 1)) - (rent S b))) 0 5 ((S 0 5) + (rent S b))) 6 b ((S 6 b) - 1)) b (S 5 b))) F1 F2 F3 F4 M) [] (M := modelC ck mo (encZ (upS (upS (upS S 11 ((S 4 b) - 1) ((S 11 ((S 4 b) - 1)) - (rent S b))) 0 5 ((S 0 5) + (rent S b))) 6 b ((S 6 b) - 1))) F1 F2 F3 F4 M) (M' := modelC ck mo (encZ (clS (upS (upS (upS S 11 ((S 4 b) - 1) ((S 11 ((S 4 b) - 1)) - (rent S b))) 0 5 ((S 0 5) + (rent S b))) 6 b ((S 6 b) - 1)) b (S 5 b))) F1 F2 F3 F4 M) ([]) (List.append_nil _).symm (List.append_nil _).symm hP hD hS hA (fun hPm hDm => va_runV (As := [.int (zI b), .int (zI (S 5 b))]) (rest := []) ⟨hx, hb, hml, hown, htg⟩ (m_frees l dg ck mo (upS (upS (upS S 11 ((S 4 b) - 1) ((S 11 ((S 4 b) - 1)) - (rent S b))) 0 5 ((S 0 5) + (rent S b))) 6 b ((S 6 b) - 1)) F1 F2 F3 F4 M b (S 5 b) _ (by omega) (by first | omega | (show 1 ≤ S 4 b ∧ S 4 b ≤ 8; omega))) (cwV 2 htg (gwV wq_1885 wq_1887 wp_63 wq_15 wq_1888) rfl rfl rfl (by decide +kernel) ⟨Nat.le_of_ble_eq_true rfl, Nat.le_of_ble_eq_true rfl⟩) (wr_preV hK hPm hDm 0 11 rfl rfl) rfl rfl hl.1 rfl (lv_room (Nat.le_of_ble_eq_true rfl)) dX9_billed_160 ⟨Nat.zero_le _, Nat.zero_le _⟩) (fun H locs hP hD hS => ?_)
        refine lv_aload_n hx hb dX9_billed_163 rfl (lv_at hl 1 rfl) ?_
        refine va_get (D := dg) (ci := 11) (v := .ref (mo 1)) (C := RX9) (T := TX9) (N := 23) hx hb htg inG_X9 hown hK hP 0 rfl rfl 1 (Nat.le_of_ble_eq_true rfl) (htg _ wq_1558) (fun _ h9 => h9) rfl dX9_billed_164 ?_
        refine x_bipush hx hb dX9_billed_167 (by decide) ?_
        refine lv_dup2_11 hx hb dX9_billed_169 rfl rfl ?_
        refine x_iald hx hb hK hP 1 0 (encZ (clS (upS (upS (upS S 11 ((S 4 b) - 1) ((S 11 ((S 4 b) - 1)) - (rent S b))) 0 5 ((S 0 5) + (rent S b))) 6 b ((S 6 b) - 1)) b (S 5 b))) rfl rfl (fun _ => rfl) (P := fun _ => True) (fun _ => trivial) (by decide) (by omega) dX9_billed_170 (fun _ => ?_)
        refine x_is (show (encZ (clS (upS (upS (upS S 11 ((S 4 b) - 1) ((S 11 ((S 4 b) - 1)) - (rent S b))) 0 5 ((S 0 5) + (rent S b))) 6 b ((S 6 b) - 1)) b (S 5 b))) 9 = ((clS (upS (upS (upS S 11 ((S 4 b) - 1) ((S 11 ((S 4 b) - 1)) - (rent S b))) 0 5 ((S 0 5) + (rent S b))) 6 b ((S 6 b) - 1)) b (S 5 b)) 0 9) from (encV (k := 0) (i := 9) (Or.inl ⟨rfl, by decide, by decide, rfl⟩)).trans (rfl)) ?_
        refine x_iconst hx hb dX9_billed_171 ?_
        refine x_iadd hx hb dX9_billed_172 ?_
        refine x_iastC (ws' := modelC ck mo (encZ (upS (clS (upS (upS (upS S 11 ((S 4 b) - 1) ((S 11 ((S 4 b) - 1)) - (rent S b))) 0 5 ((S 0 5) + (rent S b))) 6 b ((S 6 b) - 1)) b (S 5 b)) 0 9 (((clS (upS (upS (upS S 11 ((S 4 b) - 1) ((S 11 ((S 4 b) - 1)) - (rent S b))) 0 5 ((S 0 5) + (rent S b))) 6 b ((S 6 b) - 1)) b (S 5 b)) 0 9) + 1))) F1 F2 F3 F4 M) hx hb hK hP hD hS 1 0 rfl rfl (by decide) (by omega) (encW (k := 0) (i := 9) (by omega) (Or.inl ⟨rfl, by decide, by decide, rfl⟩)) rfl dX9_billed_173 (fun H locs hP hD hS => ?_)
        refine x_iconst hx hb dX9_billed_174 ?_
        have hc : bil S b = ((upS (clS (upS (upS (upS S 11 ((S 4 b) - 1) ((S 11 ((S 4 b) - 1)) - (rent S b))) 0 5 ((S 0 5) + (rent S b))) 6 b ((S 6 b) - 1)) b (S 5 b)) 0 9 (((clS (upS (upS (upS S 11 ((S 4 b) - 1) ((S 11 ((S 4 b) - 1)) - (rent S b))) 0 5 ((S 0 5) + (rent S b))) 6 b ((S 6 b) - 1)) b (S 5 b)) 0 9) + 1)), 1) := by rw [clS_cm (j := 9) (by decide)]; unfold bil; (repeat (first | rw [if_pos (by omega)] | rw [if_neg (by omega)])) <;> rfl
        have hEq : modelC ck mo (encZ (bil S b).1) F1 F2 F3 F4 M = modelC ck mo (encZ (upS (clS (upS (upS (upS S 11 ((S 4 b) - 1) ((S 11 ((S 4 b) - 1)) - (rent S b))) 0 5 ((S 0 5) + (rent S b))) 6 b ((S 6 b) - 1)) b (S 5 b)) 0 9 (((clS (upS (upS (upS S 11 ((S 4 b) - 1) ((S 11 ((S 4 b) - 1)) - (rent S b))) 0 5 ((S 0 5) + (rent S b))) 6 b ((S 6 b) - 1)) b (S 5 b)) 0 9) + 1))) F1 F2 F3 F4 M := (by rw [hc])
        exact W.iret (v := _) hx hb hr (fun t9 ht9 hW9 => ⟨⟨_, (), rfl, (by rw [hc]), by rw [ht9, hEq]; exact hP, by rw [hEq, hAe]; exact hD⟩, hS.F ht9⟩) hS.2.2 dX9_billed_175
      · refine x_iconst hx hb dX9_billed_150 ?_
        have hc : bil S b = ((upS (upS (upS S 11 ((S 4 b) - 1) ((S 11 ((S 4 b) - 1)) - (rent S b))) 0 5 ((S 0 5) + (rent S b))) 6 b ((S 6 b) - 1)), 0) := by unfold bil; (repeat (first | rw [if_pos (by omega)] | rw [if_neg (by omega)])) <;> rfl
        have hEq : modelC ck mo (encZ (bil S b).1) F1 F2 F3 F4 M = modelC ck mo (encZ (upS (upS (upS S 11 ((S 4 b) - 1) ((S 11 ((S 4 b) - 1)) - (rent S b))) 0 5 ((S 0 5) + (rent S b))) 6 b ((S 6 b) - 1))) F1 F2 F3 F4 M := (by rw [hc])
        exact W.iret (v := _) hx hb hr (fun t9 ht9 hW9 => ⟨⟨_, (), rfl, (by rw [hc]), by rw [ht9, hEq]; exact hP, by rw [hEq, hAe]; exact hD⟩, hS.F ht9⟩) hS.2.2 dX9_billed_151
    · refine lv_aload_n hx hb dX9_billed_52 rfl (lv_at hl 1 rfl) ?_
      refine va_get (D := dg) (ci := 11) (v := .ref (mo 1)) (C := RX9) (T := TX9) (N := 23) hx hb htg inG_X9 hown hK hP 0 rfl rfl 1 (Nat.le_of_ble_eq_true rfl) (htg _ wq_1558) (fun _ h9 => h9) rfl dX9_billed_53 ?_
      refine x_bipush hx hb dX9_billed_56 (by decide) ?_
      refine x_iconst hx hb dX9_billed_58 ?_
      refine lv_iload_n hx hb dX9_billed_59 rfl (lv_at hl 0 rfl) ?_
      refine x_imul hx hb dX9_billed_60 ?_
      refine x_iadd hx hb dX9_billed_61 ?_
      refine x_iconst hx hb dX9_billed_62 ?_
      refine x_iadd hx hb dX9_billed_63 ?_
      refine lv_dup2_11 hx hb dX9_billed_64 rfl rfl ?_
      refine x_iald hx hb hK hP 1 0 (encZ S) rfl rfl (fun _ => rfl) (P := fun _ => True) (fun _ => trivial) (by decide) (by omega) dX9_billed_65 (fun _ => ?_)
      refine x_is (show (encZ S) ((86 + (2 * ((S 4 b) - 1))) + 1) = (S 12 ((S 4 b) - 1)) from (encV (k := 12) (i := ((S 4 b) - 1)) (by unfold encP; omega)).trans (rfl)) ?_
      have q65 := b12 ((S 4 b) - 1)
      refine x_iconst hx hb dX9_billed_66 ?_
      refine x_iadd hx hb dX9_billed_67 ?_
      refine x_iastC (ws' := modelC ck mo (encZ (upS S 12 ((S 4 b) - 1) ((S 12 ((S 4 b) - 1)) + 1))) F1 F2 F3 F4 M) hx hb hK hP hD hS 1 0 rfl rfl (by decide) (by omega) (encW (k := 12) (i := ((S 4 b) - 1)) (by omega) (by unfold encP; omega)) rfl dX9_billed_68 (fun H locs hP hD hS => ?_)
      refine lv_aload_n hx hb dX9_billed_69 rfl (lv_at hl 1 rfl) ?_
      refine lv_iload_n hx hb dX9_billed_70 rfl (lv_at hl 2 rfl) ?_
      refine x_iconst hx hb dX9_billed_71 ?_
      refine x_callv (ws' := modelC ck mo (encZ (clS (upS S 12 ((S 4 b) - 1) ((S 12 ((S 4 b) - 1)) + 1)) b 0)) F1 F2 F3 F4 M) [] (M := modelC ck mo (encZ (upS S 12 ((S 4 b) - 1) ((S 12 ((S 4 b) - 1)) + 1))) F1 F2 F3 F4 M) (M' := modelC ck mo (encZ (clS (upS S 12 ((S 4 b) - 1) ((S 12 ((S 4 b) - 1)) + 1)) b 0)) F1 F2 F3 F4 M) ([]) (List.append_nil _).symm (List.append_nil _).symm hP hD hS hA (fun hPm hDm => va_runV (As := [.int (zI b), .int (zI 0)]) (rest := []) ⟨hx, hb, hml, hown, htg⟩ (m_frees l dg ck mo (upS S 12 ((S 4 b) - 1) ((S 12 ((S 4 b) - 1)) + 1)) F1 F2 F3 F4 M b 0 _ (by omega) (by first | omega | (show 1 ≤ S 4 b ∧ S 4 b ≤ 8; omega))) (cwV 2 htg (gwV wq_1885 wq_1887 wp_63 wq_15 wq_1888) rfl rfl rfl (by decide +kernel) ⟨Nat.le_of_ble_eq_true rfl, Nat.le_of_ble_eq_true rfl⟩) (wr_preV hK hPm hDm 0 11 rfl rfl) rfl rfl hl.1 rfl (lv_room (Nat.le_of_ble_eq_true rfl)) dX9_billed_72 ⟨Nat.zero_le _, Nat.zero_le _⟩) (fun H locs hP hD hS => ?_)
      refine lv_aload_n hx hb dX9_billed_75 rfl (lv_at hl 1 rfl) ?_
      refine va_get (D := dg) (ci := 11) (v := .ref (mo 1)) (C := RX9) (T := TX9) (N := 23) hx hb htg inG_X9 hown hK hP 0 rfl rfl 1 (Nat.le_of_ble_eq_true rfl) (htg _ wq_1558) (fun _ h9 => h9) rfl dX9_billed_76 ?_
      refine x_bipush hx hb dX9_billed_79 (by decide) ?_
      refine lv_dup2_11 hx hb dX9_billed_81 rfl rfl ?_
      refine x_iald hx hb hK hP 1 0 (encZ (clS (upS S 12 ((S 4 b) - 1) ((S 12 ((S 4 b) - 1)) + 1)) b 0)) rfl rfl (fun _ => rfl) (P := fun _ => True) (fun _ => trivial) (by decide) (by omega) dX9_billed_82 (fun _ => ?_)
      refine x_is (show (encZ (clS (upS S 12 ((S 4 b) - 1) ((S 12 ((S 4 b) - 1)) + 1)) b 0)) 7 = ((clS (upS S 12 ((S 4 b) - 1) ((S 12 ((S 4 b) - 1)) + 1)) b 0) 0 7) from (encV (k := 0) (i := 7) (Or.inl ⟨rfl, by decide, by decide, rfl⟩)).trans (rfl)) ?_
      refine x_iconst hx hb dX9_billed_83 ?_
      refine x_iadd hx hb dX9_billed_84 ?_
      refine x_iastC (ws' := modelC ck mo (encZ (upS (clS (upS S 12 ((S 4 b) - 1) ((S 12 ((S 4 b) - 1)) + 1)) b 0) 0 7 (((clS (upS S 12 ((S 4 b) - 1) ((S 12 ((S 4 b) - 1)) + 1)) b 0) 0 7) + 1))) F1 F2 F3 F4 M) hx hb hK hP hD hS 1 0 rfl rfl (by decide) (by omega) (encW (k := 0) (i := 7) (by omega) (Or.inl ⟨rfl, by decide, by decide, rfl⟩)) rfl dX9_billed_85 (fun H locs hP hD hS => ?_)
      refine x_iconst hx hb dX9_billed_86 ?_
      have hc : bil S b = ((upS (clS (upS S 12 ((S 4 b) - 1) ((S 12 ((S 4 b) - 1)) + 1)) b 0) 0 7 (((clS (upS S 12 ((S 4 b) - 1) ((S 12 ((S 4 b) - 1)) + 1)) b 0) 0 7) + 1)), 1) := by rw [clS_cm (j := 7) (by decide), upS_cm (k := 12) (k' := 0) (by omega)]; unfold bil; (repeat (first | rw [if_pos (by omega)] | rw [if_neg (by omega)])) <;> rfl
      have hEq : modelC ck mo (encZ (bil S b).1) F1 F2 F3 F4 M = modelC ck mo (encZ (upS (clS (upS S 12 ((S 4 b) - 1) ((S 12 ((S 4 b) - 1)) + 1)) b 0) 0 7 (((clS (upS S 12 ((S 4 b) - 1) ((S 12 ((S 4 b) - 1)) + 1)) b 0) 0 7) + 1))) F1 F2 F3 F4 M := (by rw [hc])
      exact W.iret (v := _) hx hb hr (fun t9 ht9 hW9 => ⟨⟨_, (), rfl, (by rw [hc]), by rw [ht9, hEq]; exact hP, by rw [hEq, hAe]; exact hD⟩, hS.F ht9⟩) hS.2.2 dX9_billed_87
  · refine lv_aload_n hx hb dX9_billed_14 rfl (lv_at hl 1 rfl) ?_
    refine lv_iload_n hx hb dX9_billed_15 rfl (lv_at hl 2 rfl) ?_
    refine lv_aload_n hx hb dX9_billed_16 rfl (lv_at hl 1 rfl) ?_
    refine lv_iload_n hx hb dX9_billed_17 rfl (lv_at hl 2 rfl) ?_
    refine x_iconst hx hb dX9_billed_18 ?_
    refine vp_callSi (W.runV (As := [.int (zI b), .int (zI 4)]) (rest := [.int (zI b), .ref (mo 0)]) ⟨hx, hb, hml, hown, htg⟩ (m_bench l dg ck mo S F1 F2 F3 F4 M b 4 (by omega) (by decide)) (cwV 2 htg (gwV wq_1657 wq_1659 wp_35 wq_15 wq_1660) rfl rfl rfl (by decide +kernel) ⟨Nat.le_of_ble_eq_true rfl, Nat.le_of_ble_eq_true rfl⟩) (rd_preV hK hP 0 11 rfl rfl) rfl rfl hl.1 rfl (lv_room (Nat.le_of_ble_eq_true rfl)) dX9_billed_19 ⟨Nat.zero_le _, Nat.zero_le _⟩) (fun r19 hr19 => ?_)
    subst hr19
    have q19 := b5 b
    refine x_is (show (S (1 + Int.toNat 4) b) = (S 5 b) from rfl) ?_
    refine x_callv (ws' := modelC ck mo (encZ (clS S b (S 5 b))) F1 F2 F3 F4 M) [] (M := modelC ck mo (encZ S) F1 F2 F3 F4 M) (M' := modelC ck mo (encZ (clS S b (S 5 b))) F1 F2 F3 F4 M) ([]) (List.append_nil _).symm (List.append_nil _).symm hP hD hS hA (fun hPm hDm => va_runV (As := [.int (zI b), .int (zI (S 5 b))]) (rest := []) ⟨hx, hb, hml, hown, htg⟩ (m_frees l dg ck mo S F1 F2 F3 F4 M b (S 5 b) _ (by omega) (by first | omega | (show 1 ≤ S 4 b ∧ S 4 b ≤ 8; omega))) (cwV 2 htg (gwV wq_1885 wq_1887 wp_63 wq_15 wq_1888) rfl rfl rfl (by decide +kernel) ⟨Nat.le_of_ble_eq_true rfl, Nat.le_of_ble_eq_true rfl⟩) (wr_preV hK hPm hDm 0 11 rfl rfl) rfl rfl hl.1 rfl (lv_room (Nat.le_of_ble_eq_true rfl)) dX9_billed_22 ⟨Nat.zero_le _, Nat.zero_le _⟩) (fun H locs hP hD hS => ?_)
    refine lv_aload_n hx hb dX9_billed_25 rfl (lv_at hl 1 rfl) ?_
    refine va_get (D := dg) (ci := 11) (v := .ref (mo 1)) (C := RX9) (T := TX9) (N := 23) hx hb htg inG_X9 hown hK hP 0 rfl rfl 1 (Nat.le_of_ble_eq_true rfl) (htg _ wq_1558) (fun _ h9 => h9) rfl dX9_billed_26 ?_
    refine x_bipush hx hb dX9_billed_29 (by decide) ?_
    refine lv_dup2_11 hx hb dX9_billed_31 rfl rfl ?_
    refine x_iald hx hb hK hP 1 0 (encZ (clS S b (S 5 b))) rfl rfl (fun _ => rfl) (P := fun _ => True) (fun _ => trivial) (by decide) (by omega) dX9_billed_32 (fun _ => ?_)
    refine x_is (show (encZ (clS S b (S 5 b))) 8 = ((clS S b (S 5 b)) 0 8) from (encV (k := 0) (i := 8) (Or.inl ⟨rfl, by decide, by decide, rfl⟩)).trans (rfl)) ?_
    refine x_iconst hx hb dX9_billed_33 ?_
    refine x_iadd hx hb dX9_billed_34 ?_
    refine x_iastC (ws' := modelC ck mo (encZ (upS (clS S b (S 5 b)) 0 8 (((clS S b (S 5 b)) 0 8) + 1))) F1 F2 F3 F4 M) hx hb hK hP hD hS 1 0 rfl rfl (by decide) (by omega) (encW (k := 0) (i := 8) (by omega) (Or.inl ⟨rfl, by decide, by decide, rfl⟩)) rfl dX9_billed_35 (fun H locs hP hD hS => ?_)
    refine x_iconst hx hb dX9_billed_36 ?_
    have hc : bil S b = ((upS (clS S b (S 5 b)) 0 8 (((clS S b (S 5 b)) 0 8) + 1)), 1) := by rw [clS_cm (S := S) (j := 8) (by decide)]; unfold bil; (repeat (first | rw [if_pos (by omega)] | rw [if_neg (by omega)])) <;> rfl
    have hEq : modelC ck mo (encZ (bil S b).1) F1 F2 F3 F4 M = modelC ck mo (encZ (upS (clS S b (S 5 b)) 0 8 (((clS S b (S 5 b)) 0 8) + 1))) F1 F2 F3 F4 M := (by rw [hc])
    exact W.iret (v := _) hx hb hr (fun t9 ht9 hW9 => ⟨⟨_, (), rfl, (by rw [hc]), by rw [ht9, hEq]; exact hP, by rw [hEq, hAe]; exact hD⟩, hS.F ht9⟩) hS.2.2 dX9_billed_37
