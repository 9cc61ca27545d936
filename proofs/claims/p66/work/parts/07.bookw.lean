/-! Books: what it does -/
/-- the lease of a bench ends, so much goes back -/
def clS (S : St) (b w : Int) : St := upS (upS (upS (upS (upS S 11 (S 4 b - 1) (S 11 (S 4 b - 1) + w)) 0 5 (S 0 5 + (S 5 b - w))) 4 b (-1 + 1)) 5 b 0) 6 b 0
def bil (S : St) (b : Int) : St × Int :=
  if ¬ quietB S b then (clS (upS S 0 8 (S 0 8 + 1)) b (S 5 b), 1)
  else if S 11 (S 4 b - 1) < rent S b then (clS (upS (upS S 0 7 (S 0 7 + 1)) 12 (S 4 b - 1) (S 12 (S 4 b - 1) + 1)) b 0, 1)
  else if 0 < S 6 b - 1 then (upS (upS (upS S 11 (S 4 b - 1) (S 11 (S 4 b - 1) - rent S b)) 0 5 (S 0 5 + rent S b)) 6 b (S 6 b - 1), 0)
  else (clS (upS (upS (upS (upS S 11 (S 4 b - 1) (S 11 (S 4 b - 1) - rent S b)) 0 5 (S 0 5 + rent S b)) 6 b (S 6 b - 1)) 0 9 (S 0 9 + 1)) b (S 5 b), 1)
def teZ (S : St) (x : Int) : Chg := if x < 0 ∨ 99 < x then (-2, 0, S) else if 8 ≤ S 0 2 then (3, 8, S) else (0, S 0 2, upS (upS (upS (upS S 11 (S 0 2) x) 12 (S 0 2) 0) 0 6 (S 0 6 + x)) 0 2 (S 0 2 + 1))
def giZ (S : St) (t x : Int) : Chg := if ¬ isTen S t then (-1, 0, S) else if x < 1 ∨ 99 < x then (-2, 0, S) else (0, S 11 t + x, upS (upS S 11 t (S 11 t + x)) 0 6 (S 0 6 + x))
def leZ (S : St) (t b k : Int) : Chg := if ¬ (isTen S t ∧ isBench S b) then (-1, 0, S) else if ¬ isTerm k then (-2, 0, S) else if obst S t b ≠ 0 then (obst S t b, obsD S (obst S t b) t b, S) else (0, rent S b, upS (upS (upS (upS S 11 t (S 11 t - rent S b)) 4 b (t + 1)) 5 b (rent S b)) 6 b k)
def enZ (S : St) (b : Int) : Chg := if ¬ isBench S b then (-1, 0, S) else if S 4 b = 0 then (10, b, S) else (0, S 5 b / 2, clS S b (S 5 b / 2))
def reZ (S : St) (b k : Int) : Chg := if ¬ isBench S b then (-1, 0, S) else if ¬ isTerm k then (-2, 0, S) else if S 4 b = 0 then (10, b, S) else if 12 < S 6 b + k then (11, S 6 b, S) else (0, S 6 b + k, upS S 6 b (S 6 b + k))

set_option maxHeartbeats 4000000 in
set_option maxRecDepth 100000 in
/-- BenchBroker$Books.closeLease -/
theorem c_closeLease (l : Launch) (dg : va_G) (ck : Nat → ClassId) (a : Nat → Nat) (S : St) (b w : Int) (sz : Nat) (hb0 : 0 ≤ b ∧ b < 10) (hl0 : 1 ≤ S 4 b ∧ S 4 b ≤ 8) : Met l yX1_closeLease (.code yX1_closeLease cX1_closeLease 3 none :: GW) ({ frames := 0, cells := 0, slots := 0, locals := 0 }) (va_Pc [.ref (a 0), .int (zI b), .int (zI w)] (wrP dg ck sz (booksC ck a S))) (va_Qv (fun _ : Unit => True) (fun _ t9 => wrQ dg sz (booksC ck a S) (booksC ck a (clS S b w)) t9) (va_A (booksC ck a S) sz)) 0 0 (va_A (booksC ck a S) sz) := by
  refine Met.ofW (cc := cX1_closeLease) (maxL := 3) (ret := none) (by decide) rfl ?_
  intro p e s m args below meth c s₁ B hml hv
  obtain ⟨rfl, hsz, hP, hK, hD0⟩ := hv
  have hx := B.exec
  have hb := B.bytes
  have hr := B.returns
  have hts := atoms_spec (ws := .code yX1_closeLease cX1_closeLease 3 none :: GW) B.pre
  have htg : ∀ w ∈ GW, w.before _ s = true := fun w h => hts w (List.mem_cons_of_mem _ h)
  have hown : s.vm.findClass RX1 = some m.cls := findClass_of_methodNamed B.named
  have hlocks := B.notSynchronized
  subst hsz
  have hD := hD0.self (sz := s.heap.size)
  generalize hAe : va_A (booksC ck a S) s.heap.size = A at hD ⊢
  have hA : ∀ q : Nat, s.heap.size ≤ q → A q := fun q h => by rw [← hAe]; exact Or.inr h
  have hS : va_S A s.heap s.heap [] := va_S.rf
  have hP : va_P dg vwCl (booksC ck a S) s.heap := hP
  have hl := lv_entry ([.ref (a 0), .int (zI b), .int (zI w)]) (n := 3) (Nat.le_of_ble_eq_true rfl)
  rw [lg_entry_eq]
  generalize (lg_sl ([.ref (a 0), .int (zI b), .int (zI w)]) ++ List.replicate (3 - (lg_sl ([.ref (a 0), .int (zI b), .int (zI w)])).length) Slot.unset).toArray = ls at hl ⊢
  have hl : lv_has ls 3 [(0, .ref (a 0)), (1, .int (zI b)), (2, .int (zI w))] := hl
  refine lv_aload_n hx hb dX1_closeLease_0 rfl (lv_at hl 0 rfl) ?_
  refine va_get (D := dg) (ci := 4) (v := .ref (a 1)) (C := RX1) (T := TX1) (N := 13) hx hb htg inG_X1 hown hK hP 0 rfl rfl 2 (Nat.le_of_ble_eq_true rfl) (htg _ wq_110) (fun _ h9 => h9) rfl dX1_closeLease_1 ?_
  refine lv_aload_n hx hb dX1_closeLease_4 rfl (lv_at hl 0 rfl) ?_
  refine va_get (D := dg) (ci := 4) (v := .ref (a 3)) (C := RX1) (T := TX1) (N := 13) hx hb htg inG_X1 hown hK hP 0 rfl rfl 4 (Nat.le_of_ble_eq_true rfl) (htg _ wq_114) (fun _ h9 => h9) rfl dX1_closeLease_5 ?_
  refine lv_iload_n hx hb dX1_closeLease_8 rfl (lv_at hl 1 rfl) ?_
  refine x_iald hx hb hK hP 3 0 (fun i => S 4 i - 1) rfl rfl (fun _ => rfl) (P := fun y => True) (fun _ => trivial) (by decide) (by omega) dX1_closeLease_9 (fun g9 => ?_)
  refine lv_dup2_11 hx hb dX1_closeLease_10 rfl rfl ?_
  refine x_iald hx hb hK hP 1 0 (S 11) rfl rfl (fun _ => rfl) (P := fun y => True) (fun _ => trivial) (by decide) (by omega) dX1_closeLease_11 (fun g11 => ?_)
  refine lv_iload_n hx hb dX1_closeLease_12 rfl (lv_at hl 2 rfl) ?_
  refine x_iadd hx hb dX1_closeLease_13 ?_
  refine x_iast (ws' := booksC ck a (upS S 11 (S 4 b - 1) ((S 11 (S 4 b - 1)) + w))) hx hb hK hP hD hS 1 0 rfl rfl (by decide) (by omega) (by rw [ar_up (by omega)]; rfl) dX1_closeLease_14 (fun H locs hP hD hS => ?_)
  refine lv_aload_n hx hb dX1_closeLease_15 rfl (lv_at hl 0 rfl) ?_
  refine lv_dup hx hb dX1_closeLease_16 rfl ?_
  refine va_get (D := dg) (ci := 4) (v := .int (zI (S 0 5))) (C := RX1) (T := TX1) (N := 13) hx hb htg inG_X1 hown hK hP 0 rfl rfl 8 (Nat.le_of_ble_eq_true rfl) (htg _ wq_122) (fun _ h9 => h9) rfl dX1_closeLease_17 ?_
  refine lv_aload_n hx hb dX1_closeLease_20 rfl (lv_at hl 0 rfl) ?_
  refine va_get (D := dg) (ci := 4) (v := .ref (a 4)) (C := RX1) (T := TX1) (N := 13) hx hb htg inG_X1 hown hK hP 0 rfl rfl 5 (Nat.le_of_ble_eq_true rfl) (htg _ wq_116) (fun _ h9 => h9) rfl dX1_closeLease_21 ?_
  refine lv_iload_n hx hb dX1_closeLease_24 rfl (lv_at hl 1 rfl) ?_
  refine x_iald hx hb hK hP 4 0 (S 5) rfl rfl (fun _ => rfl) (P := fun y => True) (fun _ => trivial) (by decide) (by omega) dX1_closeLease_25 (fun g25 => ?_)
  refine lv_iload_n hx hb dX1_closeLease_26 rfl (lv_at hl 2 rfl) ?_
  refine x_isub hx hb dX1_closeLease_27 ?_
  refine x_iadd hx hb dX1_closeLease_28 ?_
  refine va_put (D := dg) (ci := 4) (v := .int (zI ((S 0 5) + ((S 5 b) - w)))) (ty := .int) (C := RX1) (T := TX1) (N := 13) hx hb htg inG_X1 tyX1 tyX1_ok nmX1 hown hK hP hD hS 0 rfl rfl 8 (Nat.le_of_ble_eq_true rfl) (htg _ wq_122) (fun _ h9 => h9) rfl (by decide +kernel) rfl rfl (Nat.le_of_ble_eq_true rfl) dX1_closeLease_29 (fun H locs hP hD hS => ?_)
  have hP : va_P dg vwCl (booksC ck a (upS (upS S 11 (S 4 b - 1) ((S 11 (S 4 b - 1)) + w)) 0 5 ((S 0 5) + ((S 5 b) - w)))) H := hP
  have hD : va_D A (booksC ck a (upS (upS S 11 (S 4 b - 1) ((S 11 (S 4 b - 1)) + w)) 0 5 ((S 0 5) + ((S 5 b) - w)))) := hD
  refine lv_aload_n hx hb dX1_closeLease_32 rfl (lv_at hl 0 rfl) ?_
  refine va_get (D := dg) (ci := 4) (v := .ref (a 3)) (C := RX1) (T := TX1) (N := 13) hx hb htg inG_X1 hown hK hP 0 rfl rfl 4 (Nat.le_of_ble_eq_true rfl) (htg _ wq_114) (fun _ h9 => h9) rfl dX1_closeLease_33 ?_
  refine lv_iload_n hx hb dX1_closeLease_36 rfl (lv_at hl 1 rfl) ?_
  refine x_iconst hx hb dX1_closeLease_37 ?_
  refine x_iast (ws' := booksC ck a (upS (upS (upS S 11 (S 4 b - 1) ((S 11 (S 4 b - 1)) + w)) 0 5 ((S 0 5) + ((S 5 b) - w))) 4 b ((-1) + 1))) hx hb hK hP hD hS 3 0 rfl rfl (by decide) (by omega) (by rw [arB_up (by omega)]; rfl) dX1_closeLease_38 (fun H locs hP hD hS => ?_)
  refine lv_aload_n hx hb dX1_closeLease_39 rfl (lv_at hl 0 rfl) ?_
  refine va_get (D := dg) (ci := 4) (v := .ref (a 4)) (C := RX1) (T := TX1) (N := 13) hx hb htg inG_X1 hown hK hP 0 rfl rfl 5 (Nat.le_of_ble_eq_true rfl) (htg _ wq_116) (fun _ h9 => h9) rfl dX1_closeLease_40 ?_
  refine lv_iload_n hx hb dX1_closeLease_43 rfl (lv_at hl 1 rfl) ?_
  refine x_iconst hx hb dX1_closeLease_44 ?_
  refine x_iast (ws' := booksC ck a (upS (upS (upS (upS S 11 (S 4 b - 1) ((S 11 (S 4 b - 1)) + w)) 0 5 ((S 0 5) + ((S 5 b) - w))) 4 b ((-1) + 1)) 5 b 0)) hx hb hK hP hD hS 4 0 rfl rfl (by decide) (by omega) (by rw [ar_up (by omega)]; rfl) dX1_closeLease_45 (fun H locs hP hD hS => ?_)
  refine lv_aload_n hx hb dX1_closeLease_46 rfl (lv_at hl 0 rfl) ?_
  refine va_get (D := dg) (ci := 4) (v := .ref (a 5)) (C := RX1) (T := TX1) (N := 13) hx hb htg inG_X1 hown hK hP 0 rfl rfl 6 (Nat.le_of_ble_eq_true rfl) (htg _ wq_118) (fun _ h9 => h9) rfl dX1_closeLease_47 ?_
  refine lv_iload_n hx hb dX1_closeLease_50 rfl (lv_at hl 1 rfl) ?_
  refine x_iconst hx hb dX1_closeLease_51 ?_
  refine x_iast (ws' := booksC ck a (upS (upS (upS (upS (upS S 11 (S 4 b - 1) ((S 11 (S 4 b - 1)) + w)) 0 5 ((S 0 5) + ((S 5 b) - w))) 4 b ((-1) + 1)) 5 b 0) 6 b 0)) hx hb hK hP hD hS 5 0 rfl rfl (by decide) (by omega) (by rw [ar_up (by omega)]; rfl) dX1_closeLease_52 (fun H locs hP hD hS => ?_)
  have hEq : booksC ck a (clS S b w) = booksC ck a (upS (upS (upS (upS (upS S 11 (S 4 b - 1) ((S 11 (S 4 b - 1)) + w)) 0 5 ((S 0 5) + ((S 5 b) - w))) 4 b ((-1) + 1)) 5 b 0) 6 b 0) := rfl
  exact W.vret hx hb hr (fun t9 ht9 hW9 => ⟨⟨(), rfl, trivial, by rw [ht9, hEq]; exact hP, by rw [hEq, hAe]; exact hD⟩, hS.F ht9⟩) hS.2.2 dX1_closeLease_53

set_option maxHeartbeats 4000000 in
set_option maxRecDepth 100000 in
/-- BenchBroker$Books.endsThisMonth -/
theorem c_endsThisMonth (l : Launch) (dg : va_G) (ck : Nat → ClassId) (a : Nat → Nat) (S : St) (b : Int) (sz : Nat) (hI : Bd S) (hb0 : 0 ≤ b ∧ b < 10) (hl0 : S 4 b ≠ 0) : Met l yX1_endsThisMonth (.code yX1_endsThisMonth cX1_endsThisMonth 4 (some .boolean) :: GW) ({ frames := 3, cells := 0, slots := 0, locals := 68 }) (va_Pc [.ref (a 0), .int (zI b)] (wrP dg ck sz (booksC ck a S))) (va_Qi (fun r (_ : Unit) => r = zI (bil S b).2) (fun _ t9 => wrQ dg sz (booksC ck a S) (booksC ck a (bil S b).1) t9) (va_A (booksC ck a S) sz)) 0 0 (va_A (booksC ck a S) sz) := by
  refine Met.ofW (cc := cX1_endsThisMonth) (maxL := 4) (ret := (some .boolean)) (by decide) rfl ?_
  intro p e s m args below meth c s₁ B hml hv
  obtain ⟨rfl, hsz, hP, hK, hD0⟩ := hv
  have hx := B.exec
  have hb := B.bytes
  have hr := B.returns
  have hts := atoms_spec (ws := .code yX1_endsThisMonth cX1_endsThisMonth 4 (some .boolean) :: GW) B.pre
  have htg : ∀ w ∈ GW, w.before _ s = true := fun w h => hts w (List.mem_cons_of_mem _ h)
  have hown : s.vm.findClass RX1 = some m.cls := findClass_of_methodNamed B.named
  have hlocks := B.notSynchronized
  subst hsz
  have hD := hD0.self (sz := s.heap.size)
  generalize hAe : va_A (booksC ck a S) s.heap.size = A at hD ⊢
  have hA : ∀ q : Nat, s.heap.size ≤ q → A q := fun q h => by rw [← hAe]; exact Or.inr h
  have hS : va_S A s.heap s.heap [] := va_S.rf
  have hP : va_P dg vwCl (booksC ck a S) s.heap := hP
  have hl := lv_entry ([.ref (a 0), .int (zI b)]) (n := 4) (Nat.le_of_ble_eq_true rfl)
  rw [lg_entry_eq]
  generalize (lg_sl ([.ref (a 0), .int (zI b)]) ++ List.replicate (4 - (lg_sl ([.ref (a 0), .int (zI b)])).length) Slot.unset).toArray = ls at hl ⊢
  have hl : lv_has ls 4 [(0, .ref (a 0)), (1, .int (zI b))] := hl
  obtain ⟨b00, b01, b02, b03, b1, b2, b3, b4, b5, b6, b7, b8, b9, b10, b11, b12⟩ := id hI
  have hre := rent_r hI b
  have hlt := b4 b
  refine lv_aload_n hx hb dX1_endsThisMonth_0 rfl (lv_at hl 0 rfl) ?_
  refine va_get (D := dg) (ci := 4) (v := .ref (a 3)) (C := RX1) (T := TX1) (N := 13) hx hb htg inG_X1 hown hK hP 0 rfl rfl 4 (Nat.le_of_ble_eq_true rfl) (htg _ wq_114) (fun _ h9 => h9) rfl dX1_endsThisMonth_1 ?_
  refine lv_iload_n hx hb dX1_endsThisMonth_4 rfl (lv_at hl 1 rfl) ?_
  refine x_iald hx hb hK hP 3 0 (fun i => S 4 i - 1) rfl rfl (fun _ => rfl) (P := fun y => -1 ≤ y ∧ y ≤ S 0 2 - 1) (fun i => by have := b4 i; omega) (by decide) (by omega) dX1_endsThisMonth_5 (fun g5 => ?_)
  refine lv_istore_n (lv' := [(2, .int (zI (S 4 b - 1))), (0, .ref (a 0)), (1, .int (zI b))]) hx hb dX1_endsThisMonth_6 rfl hl (by decide) rfl (fun ls hl => ?_)
  refine lv_aload_n hx hb dX1_endsThisMonth_7 rfl (lv_at hl 1 rfl) ?_
  refine va_get (D := dg) (ci := 4) (v := .ref (a 6)) (C := RX1) (T := TX1) (N := 13) hx hb htg inG_X1 hown hK hP 0 rfl rfl 0 (Nat.le_of_ble_eq_true rfl) (htg _ wq_106) (fun _ h9 => h9) rfl dX1_endsThisMonth_8 ?_
  refine lv_iload_n hx hb dX1_endsThisMonth_11 rfl (lv_at hl 2 rfl) ?_
  refine vp_callSi (W.runV (As := [.int (zI b)]) (rest := []) ⟨hx, hb, hml, hown, htg⟩ (c_rent l dg ck (pa a) S b hI (by omega)) (cwV 1 htg (gwV wq_524 wq_455 wq_456 wq_3 wq_457) rfl rfl rfl (by decide +kernel) ⟨Nat.le_of_ble_eq_true rfl, Nat.le_of_ble_eq_true rfl⟩) (rd_preV hK (va_P_r (w1 := bookC ck a S) (w2 := parkC ck (pa a) S) hP) 0 9 rfl rfl) rfl rfl hl.1 rfl (lv_room (Nat.le_of_ble_eq_true rfl)) dX1_endsThisMonth_12 ⟨Nat.zero_le _, Nat.zero_le _⟩) (fun r12 hr12 => ?_)
  subst hr12
  refine lv_istore_n (lv' := [(3, .int (zI (rent S b))), (2, .int (zI (S 4 b - 1))), (0, .ref (a 0)), (1, .int (zI b))]) hx hb dX1_endsThisMonth_15 rfl hl (by decide) rfl (fun ls hl => ?_)
  refine lv_aload_n hx hb dX1_endsThisMonth_16 rfl (lv_at hl 2 rfl) ?_
  refine va_get (D := dg) (ci := 4) (v := .ref (a 6)) (C := RX1) (T := TX1) (N := 13) hx hb htg inG_X1 hown hK hP 0 rfl rfl 0 (Nat.le_of_ble_eq_true rfl) (htg _ wq_106) (fun _ h9 => h9) rfl dX1_endsThisMonth_17 ?_
  refine lv_iload_n hx hb dX1_endsThisMonth_20 rfl (lv_at hl 3 rfl) ?_
  refine vp_callSi (W.runV (As := [.int (zI b)]) (rest := []) ⟨hx, hb, hml, hown, htg⟩ (c_quiet l dg ck (pa a) S b hI (by omega)) (cwV 1 htg (gwV wq_520 wq_521 wq_522 wq_3 wq_523) rfl rfl rfl (by decide +kernel) ⟨Nat.le_of_ble_eq_true rfl, Nat.le_of_ble_eq_true rfl⟩) (rd_preV hK (va_P_r (w1 := bookC ck a S) (w2 := parkC ck (pa a) S) hP) 0 9 rfl rfl) rfl rfl hl.1 rfl (lv_room (Nat.le_of_ble_eq_true rfl)) dX1_endsThisMonth_21 ⟨Nat.zero_le _, Nat.zero_le _⟩) (fun r21 hr21 => ?_)
  subst hr21
  refine x_bz_ne (tgt := 50) hx hb dX1_endsThisMonth_24 (by decide) (fun c24 => ?_) (fun c24 => ?_)
  · refine lv_aload_n hx hb dX1_endsThisMonth_50 rfl (lv_at hl 2 rfl) ?_
    refine va_get (D := dg) (ci := 4) (v := .ref (a 1)) (C := RX1) (T := TX1) (N := 13) hx hb htg inG_X1 hown hK hP 0 rfl rfl 2 (Nat.le_of_ble_eq_true rfl) (htg _ wq_110) (fun _ h9 => h9) rfl dX1_endsThisMonth_51 ?_
    refine lv_iload_n hx hb dX1_endsThisMonth_54 rfl (lv_at hl 1 rfl) ?_
    refine x_iald hx hb hK hP 1 0 (S 11) rfl rfl (fun _ => rfl) (P := fun y => 0 ≤ y ∧ y ≤ 4000000) b11 (by decide) (by omega) dX1_endsThisMonth_55 (fun g55 => ?_)
    refine lv_iload_n hx hb dX1_endsThisMonth_56 rfl (lv_at hl 0 rfl) ?_
    refine x_icmp_ge (tgt := 88) hx hb dX1_endsThisMonth_57 (by decide) (by omega) (by omega) (fun c57 => ?_) (fun c57 => ?_)
    · refine lv_aload_n hx hb dX1_endsThisMonth_88 rfl (lv_at hl 2 rfl) ?_
      refine va_get (D := dg) (ci := 4) (v := .ref (a 1)) (C := RX1) (T := TX1) (N := 13) hx hb htg inG_X1 hown hK hP 0 rfl rfl 2 (Nat.le_of_ble_eq_true rfl) (htg _ wq_110) (fun _ h9 => h9) rfl dX1_endsThisMonth_89 ?_
      refine lv_iload_n hx hb dX1_endsThisMonth_92 rfl (lv_at hl 1 rfl) ?_
      refine lv_dup2_11 hx hb dX1_endsThisMonth_93 rfl rfl ?_
      refine x_iald hx hb hK hP 1 0 (S 11) rfl rfl (fun _ => rfl) (P := fun y => 0 ≤ y ∧ y ≤ 4000000) b11 (by decide) (by omega) dX1_endsThisMonth_94 (fun g94 => ?_)
      refine lv_iload_n hx hb dX1_endsThisMonth_95 rfl (lv_at hl 0 rfl) ?_
      refine x_isub hx hb dX1_endsThisMonth_96 ?_
      refine x_iast (ws' := booksC ck a (upS S 11 (S 4 b - 1) ((S 11 (S 4 b - 1)) - (rent S b)))) hx hb hK hP hD hS 1 0 rfl rfl (by decide) (by omega) (by rw [ar_up (by omega)]; rfl) dX1_endsThisMonth_97 (fun H locs hP hD hS => ?_)
      refine lv_aload_n hx hb dX1_endsThisMonth_98 rfl (lv_at hl 2 rfl) ?_
      refine lv_dup hx hb dX1_endsThisMonth_99 rfl ?_
      refine va_get (D := dg) (ci := 4) (v := .int (zI (S 0 5))) (C := RX1) (T := TX1) (N := 13) hx hb htg inG_X1 hown hK hP 0 rfl rfl 8 (Nat.le_of_ble_eq_true rfl) (htg _ wq_122) (fun _ h9 => h9) rfl dX1_endsThisMonth_100 ?_
      refine lv_iload_n hx hb dX1_endsThisMonth_103 rfl (lv_at hl 0 rfl) ?_
      refine x_iadd hx hb dX1_endsThisMonth_104 ?_
      refine va_put (D := dg) (ci := 4) (v := .int (zI ((S 0 5) + (rent S b)))) (ty := .int) (C := RX1) (T := TX1) (N := 13) hx hb htg inG_X1 tyX1 tyX1_ok nmX1 hown hK hP hD hS 0 rfl rfl 8 (Nat.le_of_ble_eq_true rfl) (htg _ wq_122) (fun _ h9 => h9) rfl (by decide +kernel) rfl rfl (Nat.le_of_ble_eq_true rfl) dX1_endsThisMonth_105 (fun H locs hP hD hS => ?_)
      have hP : va_P dg vwCl (booksC ck a (upS (upS S 11 (S 4 b - 1) ((S 11 (S 4 b - 1)) - (rent S b))) 0 5 ((S 0 5) + (rent S b)))) H := hP
      have hD : va_D A (booksC ck a (upS (upS S 11 (S 4 b - 1) ((S 11 (S 4 b - 1)) - (rent S b))) 0 5 ((S 0 5) + (rent S b)))) := hD
      refine lv_aload_n hx hb dX1_endsThisMonth_108 rfl (lv_at hl 2 rfl) ?_
      refine va_get (D := dg) (ci := 4) (v := .ref (a 5)) (C := RX1) (T := TX1) (N := 13) hx hb htg inG_X1 hown hK hP 0 rfl rfl 6 (Nat.le_of_ble_eq_true rfl) (htg _ wq_118) (fun _ h9 => h9) rfl dX1_endsThisMonth_109 ?_
      refine lv_iload_n hx hb dX1_endsThisMonth_112 rfl (lv_at hl 3 rfl) ?_
      refine lv_dup2_11 hx hb dX1_endsThisMonth_113 rfl rfl ?_
      refine x_iald hx hb hK hP 5 0 (S 6) rfl rfl (fun _ => rfl) (P := fun y => 0 ≤ y ∧ y ≤ 12) b6 (by decide) (by omega) dX1_endsThisMonth_114 (fun g114 => ?_)
      refine x_iconst hx hb dX1_endsThisMonth_115 ?_
      refine x_isub hx hb dX1_endsThisMonth_116 ?_
      refine x_iast (ws' := booksC ck a (upS (upS (upS S 11 (S 4 b - 1) ((S 11 (S 4 b - 1)) - (rent S b))) 0 5 ((S 0 5) + (rent S b))) 6 b ((S 6 b) - 1))) hx hb hK hP hD hS 5 0 rfl rfl (by decide) (by omega) (by rw [ar_up (by omega)]; rfl) dX1_endsThisMonth_117 (fun H locs hP hD hS => ?_)
      refine lv_aload_n hx hb dX1_endsThisMonth_118 rfl (lv_at hl 2 rfl) ?_
      refine va_get (D := dg) (ci := 4) (v := .ref (a 5)) (C := RX1) (T := TX1) (N := 13) hx hb htg inG_X1 hown hK hP 0 rfl rfl 6 (Nat.le_of_ble_eq_true rfl) (htg _ wq_118) (fun _ h9 => h9) rfl dX1_endsThisMonth_119 ?_
      refine lv_iload_n hx hb dX1_endsThisMonth_122 rfl (lv_at hl 3 rfl) ?_
      refine x_iald hx hb hK hP 5 0 ((upS (upS (upS S 11 (S 4 b - 1) ((S 11 (S 4 b - 1)) - (rent S b))) 0 5 ((S 0 5) + (rent S b))) 6 b ((S 6 b) - 1)) 6) rfl rfl (fun _ => rfl) (P := fun y => True) (fun _ => trivial) (by decide) (by omega) dX1_endsThisMonth_123 (fun g123 => ?_)
      refine x_is upS_s ?_
      refine x_if_le (tgt := 129) hx hb dX1_endsThisMonth_124 (by decide) (by omega) (fun c124 => ?_) (fun c124 => ?_)
      · refine lv_aload_n hx hb dX1_endsThisMonth_129 rfl (lv_at hl 2 rfl) ?_
        refine lv_dup hx hb dX1_endsThisMonth_130 rfl ?_
        refine va_get (D := dg) (ci := 4) (v := .int (zI (S 0 9))) (C := RX1) (T := TX1) (N := 13) hx hb htg inG_X1 hown hK hP 0 rfl rfl 12 (Nat.le_of_ble_eq_true rfl) (htg _ wq_130) (fun _ h9 => h9) rfl dX1_endsThisMonth_131 ?_
        refine x_iconst hx hb dX1_endsThisMonth_134 ?_
        refine x_iadd hx hb dX1_endsThisMonth_135 ?_
        refine va_put (D := dg) (ci := 4) (v := .int (zI ((S 0 9) + 1))) (ty := .int) (C := RX1) (T := TX1) (N := 13) hx hb htg inG_X1 tyX1 tyX1_ok nmX1 hown hK hP hD hS 0 rfl rfl 12 (Nat.le_of_ble_eq_true rfl) (htg _ wq_130) (fun _ h9 => h9) rfl (by decide +kernel) rfl rfl (Nat.le_of_ble_eq_true rfl) dX1_endsThisMonth_136 (fun H locs hP hD hS => ?_)
        have hP : va_P dg vwCl (booksC ck a (upS (upS (upS (upS S 11 (S 4 b - 1) ((S 11 (S 4 b - 1)) - (rent S b))) 0 5 ((S 0 5) + (rent S b))) 6 b ((S 6 b) - 1)) 0 9 ((S 0 9) + 1))) H := hP
        have hD : va_D A (booksC ck a (upS (upS (upS (upS S 11 (S 4 b - 1) ((S 11 (S 4 b - 1)) - (rent S b))) 0 5 ((S 0 5) + (rent S b))) 6 b ((S 6 b) - 1)) 0 9 ((S 0 9) + 1))) := hD
        refine lv_aload_n hx hb dX1_endsThisMonth_139 rfl (lv_at hl 2 rfl) ?_
        refine lv_iload_n hx hb dX1_endsThisMonth_140 rfl (lv_at hl 3 rfl) ?_
        refine lv_aload_n hx hb dX1_endsThisMonth_141 rfl (lv_at hl 2 rfl) ?_
        refine va_get (D := dg) (ci := 4) (v := .ref (a 4)) (C := RX1) (T := TX1) (N := 13) hx hb htg inG_X1 hown hK hP 0 rfl rfl 5 (Nat.le_of_ble_eq_true rfl) (htg _ wq_116) (fun _ h9 => h9) rfl dX1_endsThisMonth_142 ?_
        refine lv_iload_n hx hb dX1_endsThisMonth_145 rfl (lv_at hl 3 rfl) ?_
        refine x_iald hx hb hK hP 4 0 (S 5) rfl rfl (fun _ => rfl) (P := fun y => 0 ≤ y ∧ y ≤ 20) b5 (by decide) (by omega) dX1_endsThisMonth_146 (fun g146 => ?_)
        refine x_callv (ws' := booksC ck a (clS (upS (upS (upS (upS S 11 (S 4 b - 1) ((S 11 (S 4 b - 1)) - (rent S b))) 0 5 ((S 0 5) + (rent S b))) 6 b ((S 6 b) - 1)) 0 9 ((S 0 9) + 1)) b (S 5 b))) [] (M := booksC ck a (upS (upS (upS (upS S 11 (S 4 b - 1) ((S 11 (S 4 b - 1)) - (rent S b))) 0 5 ((S 0 5) + (rent S b))) 6 b ((S 6 b) - 1)) 0 9 ((S 0 9) + 1))) (M' := booksC ck a (clS (upS (upS (upS (upS S 11 (S 4 b - 1) ((S 11 (S 4 b - 1)) - (rent S b))) 0 5 ((S 0 5) + (rent S b))) 6 b ((S 6 b) - 1)) 0 9 ((S 0 9) + 1)) b (S 5 b))) ([]) (List.append_nil _).symm (List.append_nil _).symm hP hD hS hA (fun hPm hDm => va_runV (As := [.int (zI b), .int (zI (S 5 b))]) (rest := []) ⟨hx, hb, hml, hown, htg⟩ (c_closeLease l dg ck a (upS (upS (upS (upS S 11 (S 4 b - 1) ((S 11 (S 4 b - 1)) - (rent S b))) 0 5 ((S 0 5) + (rent S b))) 6 b ((S 6 b) - 1)) 0 9 ((S 0 9) + 1)) b (S 5 b) _ (by omega) (by first | omega | (show 1 ≤ S 4 b ∧ S 4 b ≤ 8; omega))) (cwV 2 htg (gwV wq_622 wq_624 wp_7 wq_2 wq_625) rfl rfl rfl (by decide +kernel) ⟨Nat.le_of_ble_eq_true rfl, Nat.le_of_ble_eq_true rfl⟩) (wr_preV hK hPm hDm 0 4 rfl rfl) rfl rfl hl.1 rfl (lv_room (Nat.le_of_ble_eq_true rfl)) dX1_endsThisMonth_147 ⟨Nat.zero_le _, Nat.zero_le _⟩) (fun H locs hP hD hS => ?_)
        refine x_iconst hx hb dX1_endsThisMonth_150 ?_
        have hEq : booksC ck a (bil S b).1 = booksC ck a (clS (upS (upS (upS (upS S 11 (S 4 b - 1) ((S 11 (S 4 b - 1)) - (rent S b))) 0 5 ((S 0 5) + (rent S b))) 6 b ((S 6 b) - 1)) 0 9 ((S 0 9) + 1)) b (S 5 b)) := (by have hc : bil S b = ((clS (upS (upS (upS (upS S 11 (S 4 b - 1) ((S 11 (S 4 b - 1)) - (rent S b))) 0 5 ((S 0 5) + (rent S b))) 6 b ((S 6 b) - 1)) 0 9 ((S 0 9) + 1)) b (S 5 b)), 1) := (by unfold bil; repeat (first | rw [if_pos (by omega)] | rw [if_neg (by omega)])); rw [hc])
        exact W.zret (v := _) hx hb hr (by first | rfl | rfl) (fun t9 ht9 hW9 => ⟨⟨_, (), rfl, (by have hE := hEq; first | exact (congrArg zI (by unfold bil; repeat (first | rw [if_pos (by omega)] | rw [if_neg (by omega)])))), by rw [ht9, hEq]; exact hP, by rw [hEq, hAe]; exact hD⟩, hS.F ht9⟩) hS.2.2 dX1_endsThisMonth_151
      · refine x_iconst hx hb dX1_endsThisMonth_127 ?_
        have hEq : booksC ck a (bil S b).1 = booksC ck a (upS (upS (upS S 11 (S 4 b - 1) ((S 11 (S 4 b - 1)) - (rent S b))) 0 5 ((S 0 5) + (rent S b))) 6 b ((S 6 b) - 1)) := (by have hc : bil S b = ((upS (upS (upS S 11 (S 4 b - 1) ((S 11 (S 4 b - 1)) - (rent S b))) 0 5 ((S 0 5) + (rent S b))) 6 b ((S 6 b) - 1)), 0) := (by unfold bil; repeat (first | rw [if_pos (by omega)] | rw [if_neg (by omega)])); rw [hc])
        exact W.zret (v := _) hx hb hr (by first | rfl | rfl) (fun t9 ht9 hW9 => ⟨⟨_, (), rfl, (by have hE := hEq; first | exact (congrArg zI (by unfold bil; repeat (first | rw [if_pos (by omega)] | rw [if_neg (by omega)])))), by rw [ht9, hEq]; exact hP, by rw [hEq, hAe]; exact hD⟩, hS.F ht9⟩) hS.2.2 dX1_endsThisMonth_128
    · refine lv_aload_n hx hb dX1_endsThisMonth_60 rfl (lv_at hl 2 rfl) ?_
      refine lv_dup hx hb dX1_endsThisMonth_61 rfl ?_
      refine va_get (D := dg) (ci := 4) (v := .int (zI (S 0 7))) (C := RX1) (T := TX1) (N := 13) hx hb htg inG_X1 hown hK hP 0 rfl rfl 10 (Nat.le_of_ble_eq_true rfl) (htg _ wq_126) (fun _ h9 => h9) rfl dX1_endsThisMonth_62 ?_
      refine x_iconst hx hb dX1_endsThisMonth_65 ?_
      refine x_iadd hx hb dX1_endsThisMonth_66 ?_
      refine va_put (D := dg) (ci := 4) (v := .int (zI ((S 0 7) + 1))) (ty := .int) (C := RX1) (T := TX1) (N := 13) hx hb htg inG_X1 tyX1 tyX1_ok nmX1 hown hK hP hD hS 0 rfl rfl 10 (Nat.le_of_ble_eq_true rfl) (htg _ wq_126) (fun _ h9 => h9) rfl (by decide +kernel) rfl rfl (Nat.le_of_ble_eq_true rfl) dX1_endsThisMonth_67 (fun H locs hP hD hS => ?_)
      have hP : va_P dg vwCl (booksC ck a (upS S 0 7 ((S 0 7) + 1))) H := hP
      have hD : va_D A (booksC ck a (upS S 0 7 ((S 0 7) + 1))) := hD
      refine lv_aload_n hx hb dX1_endsThisMonth_70 rfl (lv_at hl 2 rfl) ?_
      refine va_get (D := dg) (ci := 4) (v := .ref (a 2)) (C := RX1) (T := TX1) (N := 13) hx hb htg inG_X1 hown hK hP 0 rfl rfl 3 (Nat.le_of_ble_eq_true rfl) (htg _ wq_112) (fun _ h9 => h9) rfl dX1_endsThisMonth_71 ?_
      refine lv_iload_n hx hb dX1_endsThisMonth_74 rfl (lv_at hl 1 rfl) ?_
      refine lv_dup2_11 hx hb dX1_endsThisMonth_75 rfl rfl ?_
      refine x_iald hx hb hK hP 2 0 (S 12) rfl rfl (fun _ => rfl) (P := fun y => 0 ≤ y ∧ y ≤ 3) b12 (by decide) (by omega) dX1_endsThisMonth_76 (fun g76 => ?_)
      refine x_iconst hx hb dX1_endsThisMonth_77 ?_
      refine x_iadd hx hb dX1_endsThisMonth_78 ?_
      refine x_iast (ws' := booksC ck a (upS (upS S 0 7 ((S 0 7) + 1)) 12 (S 4 b - 1) ((S 12 (S 4 b - 1)) + 1))) hx hb hK hP hD hS 2 0 rfl rfl (by decide) (by omega) (by rw [ar_up (by omega)]; rfl) dX1_endsThisMonth_79 (fun H locs hP hD hS => ?_)
      refine lv_aload_n hx hb dX1_endsThisMonth_80 rfl (lv_at hl 2 rfl) ?_
      refine lv_iload_n hx hb dX1_endsThisMonth_81 rfl (lv_at hl 3 rfl) ?_
      refine x_iconst hx hb dX1_endsThisMonth_82 ?_
      refine x_callv (ws' := booksC ck a (clS (upS (upS S 0 7 ((S 0 7) + 1)) 12 (S 4 b - 1) ((S 12 (S 4 b - 1)) + 1)) b 0)) [] (M := booksC ck a (upS (upS S 0 7 ((S 0 7) + 1)) 12 (S 4 b - 1) ((S 12 (S 4 b - 1)) + 1))) (M' := booksC ck a (clS (upS (upS S 0 7 ((S 0 7) + 1)) 12 (S 4 b - 1) ((S 12 (S 4 b - 1)) + 1)) b 0)) ([]) (List.append_nil _).symm (List.append_nil _).symm hP hD hS hA (fun hPm hDm => va_runV (As := [.int (zI b), .int (zI 0)]) (rest := []) ⟨hx, hb, hml, hown, htg⟩ (c_closeLease l dg ck a (upS (upS S 0 7 ((S 0 7) + 1)) 12 (S 4 b - 1) ((S 12 (S 4 b - 1)) + 1)) b 0 _ (by omega) (by first | omega | (show 1 ≤ S 4 b ∧ S 4 b ≤ 8; omega))) (cwV 2 htg (gwV wq_622 wq_624 wp_7 wq_2 wq_625) rfl rfl rfl (by decide +kernel) ⟨Nat.le_of_ble_eq_true rfl, Nat.le_of_ble_eq_true rfl⟩) (wr_preV hK hPm hDm 0 4 rfl rfl) rfl rfl hl.1 rfl (lv_room (Nat.le_of_ble_eq_true rfl)) dX1_endsThisMonth_83 ⟨Nat.zero_le _, Nat.zero_le _⟩) (fun H locs hP hD hS => ?_)
      refine x_iconst hx hb dX1_endsThisMonth_86 ?_
      have hEq : booksC ck a (bil S b).1 = booksC ck a (clS (upS (upS S 0 7 ((S 0 7) + 1)) 12 (S 4 b - 1) ((S 12 (S 4 b - 1)) + 1)) b 0) := (by have hc : bil S b = ((clS (upS (upS S 0 7 ((S 0 7) + 1)) 12 (S 4 b - 1) ((S 12 (S 4 b - 1)) + 1)) b 0), 1) := (by unfold bil; repeat (first | rw [if_pos (by omega)] | rw [if_neg (by omega)])); rw [hc])
      exact W.zret (v := _) hx hb hr (by first | rfl | rfl) (fun t9 ht9 hW9 => ⟨⟨_, (), rfl, (by have hE := hEq; first | exact (congrArg zI (by unfold bil; repeat (first | rw [if_pos (by omega)] | rw [if_neg (by omega)])))), by rw [ht9, hEq]; exact hP, by rw [hEq, hAe]; exact hD⟩, hS.F ht9⟩) hS.2.2 dX1_endsThisMonth_87
  · refine lv_aload_n hx hb dX1_endsThisMonth_27 rfl (lv_at hl 2 rfl) ?_
    refine lv_dup hx hb dX1_endsThisMonth_28 rfl ?_
    refine va_get (D := dg) (ci := 4) (v := .int (zI (S 0 8))) (C := RX1) (T := TX1) (N := 13) hx hb htg inG_X1 hown hK hP 0 rfl rfl 11 (Nat.le_of_ble_eq_true rfl) (htg _ wq_128) (fun _ h9 => h9) rfl dX1_endsThisMonth_29 ?_
    refine x_iconst hx hb dX1_endsThisMonth_32 ?_
    refine x_iadd hx hb dX1_endsThisMonth_33 ?_
    refine va_put (D := dg) (ci := 4) (v := .int (zI ((S 0 8) + 1))) (ty := .int) (C := RX1) (T := TX1) (N := 13) hx hb htg inG_X1 tyX1 tyX1_ok nmX1 hown hK hP hD hS 0 rfl rfl 11 (Nat.le_of_ble_eq_true rfl) (htg _ wq_128) (fun _ h9 => h9) rfl (by decide +kernel) rfl rfl (Nat.le_of_ble_eq_true rfl) dX1_endsThisMonth_34 (fun H locs hP hD hS => ?_)
    have hP : va_P dg vwCl (booksC ck a (upS S 0 8 ((S 0 8) + 1))) H := hP
    have hD : va_D A (booksC ck a (upS S 0 8 ((S 0 8) + 1))) := hD
    refine lv_aload_n hx hb dX1_endsThisMonth_37 rfl (lv_at hl 2 rfl) ?_
    refine lv_iload_n hx hb dX1_endsThisMonth_38 rfl (lv_at hl 3 rfl) ?_
    refine lv_aload_n hx hb dX1_endsThisMonth_39 rfl (lv_at hl 2 rfl) ?_
    refine va_get (D := dg) (ci := 4) (v := .ref (a 4)) (C := RX1) (T := TX1) (N := 13) hx hb htg inG_X1 hown hK hP 0 rfl rfl 5 (Nat.le_of_ble_eq_true rfl) (htg _ wq_116) (fun _ h9 => h9) rfl dX1_endsThisMonth_40 ?_
    refine lv_iload_n hx hb dX1_endsThisMonth_43 rfl (lv_at hl 3 rfl) ?_
    refine x_iald hx hb hK hP 4 0 (S 5) rfl rfl (fun _ => rfl) (P := fun y => 0 ≤ y ∧ y ≤ 20) b5 (by decide) (by omega) dX1_endsThisMonth_44 (fun g44 => ?_)
    refine x_callv (ws' := booksC ck a (clS (upS S 0 8 ((S 0 8) + 1)) b (S 5 b))) [] (M := booksC ck a (upS S 0 8 ((S 0 8) + 1))) (M' := booksC ck a (clS (upS S 0 8 ((S 0 8) + 1)) b (S 5 b))) ([]) (List.append_nil _).symm (List.append_nil _).symm hP hD hS hA (fun hPm hDm => va_runV (As := [.int (zI b), .int (zI (S 5 b))]) (rest := []) ⟨hx, hb, hml, hown, htg⟩ (c_closeLease l dg ck a (upS S 0 8 ((S 0 8) + 1)) b (S 5 b) _ (by omega) (by first | omega | (show 1 ≤ S 4 b ∧ S 4 b ≤ 8; omega))) (cwV 2 htg (gwV wq_622 wq_624 wp_7 wq_2 wq_625) rfl rfl rfl (by decide +kernel) ⟨Nat.le_of_ble_eq_true rfl, Nat.le_of_ble_eq_true rfl⟩) (wr_preV hK hPm hDm 0 4 rfl rfl) rfl rfl hl.1 rfl (lv_room (Nat.le_of_ble_eq_true rfl)) dX1_endsThisMonth_45 ⟨Nat.zero_le _, Nat.zero_le _⟩) (fun H locs hP hD hS => ?_)
    refine x_iconst hx hb dX1_endsThisMonth_48 ?_
    have hEq : booksC ck a (bil S b).1 = booksC ck a (clS (upS S 0 8 ((S 0 8) + 1)) b (S 5 b)) := (by have hc : bil S b = ((clS (upS S 0 8 ((S 0 8) + 1)) b (S 5 b)), 1) := (by unfold bil; repeat (first | rw [if_pos (by omega)] | rw [if_neg (by omega)])); rw [hc])
    exact W.zret (v := _) hx hb hr (by first | rfl | rfl) (fun t9 ht9 hW9 => ⟨⟨_, (), rfl, (by have hE := hEq; first | exact (congrArg zI (by unfold bil; repeat (first | rw [if_pos (by omega)] | rw [if_neg (by omega)])))), by rw [ht9, hEq]; exact hP, by rw [hEq, hAe]; exact hD⟩, hS.F ht9⟩) hS.2.2 dX1_endsThisMonth_49

set_option maxHeartbeats 4000000 in
set_option maxRecDepth 100000 in
/-- BenchBroker$Books.enrol -/
theorem c_enrol (l : Launch) (dg : va_G) (ck : Nat → ClassId) (a : Nat → Nat) (S : St) (o : Nat) (O : Nat → Int) (x : Int) (sz : Nat) (hI : Bd S) (rg_x : -2147483648 ≤ x ∧ x < 2147483648) : Met l yX1_enrol (.code yX1_enrol cX1_enrol 3 none :: GW) ({ frames := 1, cells := 0, slots := 0, locals := 22 }) (va_Pc [.ref (a 0), .int (zI x), .ref o] (wrP dg ck sz (booksC ck a S ++ (outC o O)))) (va_Qv (fun _ : Unit => True) (fun _ t9 => wrQ dg sz (booksC ck a S ++ (outC o O)) (booksC ck a (teZ S x).2.2 ++ (outC o (outc O (teZ S x).1 (teZ S x).2.1))) t9) (va_A (booksC ck a S ++ (outC o O)) sz)) 0 0 (va_A (booksC ck a S ++ (outC o O)) sz) := by
  refine Met.ofW (cc := cX1_enrol) (maxL := 3) (ret := none) (by decide) rfl ?_
  intro p e s m args below meth c s₁ B hml hv
  obtain ⟨rfl, hsz, hP, hK, hD0⟩ := hv
  have hx := B.exec
  have hb := B.bytes
  have hr := B.returns
  have hts := atoms_spec (ws := .code yX1_enrol cX1_enrol 3 none :: GW) B.pre
  have htg : ∀ w ∈ GW, w.before _ s = true := fun w h => hts w (List.mem_cons_of_mem _ h)
  have hown : s.vm.findClass RX1 = some m.cls := findClass_of_methodNamed B.named
  have hlocks := B.notSynchronized
  subst hsz
  have hD := hD0.self (sz := s.heap.size)
  generalize hAe : va_A (booksC ck a S ++ (outC o O)) s.heap.size = A at hD ⊢
  have hA : ∀ q : Nat, s.heap.size ≤ q → A q := fun q h => by rw [← hAe]; exact Or.inr h
  have hS : va_S A s.heap s.heap [] := va_S.rf
  have hP : va_P dg vwCl (booksC ck a S ++ (outC o O)) s.heap := hP
  have hl := lv_entry ([.ref (a 0), .int (zI x), .ref o]) (n := 3) (Nat.le_of_ble_eq_true rfl)
  rw [lg_entry_eq]
  generalize (lg_sl ([.ref (a 0), .int (zI x), .ref o]) ++ List.replicate (3 - (lg_sl ([.ref (a 0), .int (zI x), .ref o])).length) Slot.unset).toArray = ls at hl ⊢
  have hl : lv_has ls 3 [(0, .ref (a 0)), (1, .int (zI x)), (2, .ref o)] := hl
  obtain ⟨b00, b01, b02, b03, b1, b2, b3, b4, b5, b6, b7, b8, b9, b10, b11, b12⟩ := id hI
  refine lv_iload_n hx hb dX1_enrol_0 rfl (lv_at hl 1 rfl) ?_
  refine x_if_lt (tgt := 10) hx hb dX1_enrol_1 (by decide) (by omega) (fun c1 => ?_) (fun c1 => ?_)
  · refine lv_aload_n hx hb dX1_enrol_10 rfl (lv_at hl 2 rfl) ?_
    refine x_callv (ws' := booksC ck a S ++ (outC o (upO O 0 2))) (booksC ck a S) (M := outC o O) (M' := outC o (upO O 0 2)) ([]) (by rw [List.append_nil]) (by rw [List.append_nil]) hP hD hS hA (fun hPm hDm => va_runV (As := []) (rest := []) ⟨hx, hb, hml, hown, htg⟩ (c_out_missNumber l dg ck o O _ ) (cwV 0 htg (gwV wq_614 wq_615 wq_616 wq_6 wq_617) rfl rfl rfl (by decide +kernel) ⟨Nat.le_of_ble_eq_true rfl, Nat.le_of_ble_eq_true rfl⟩) (wr_preV hK hPm hDm 0 8 rfl rfl) rfl rfl hl.1 rfl (lv_room (Nat.le_of_ble_eq_true rfl)) dX1_enrol_11 ⟨Nat.zero_le _, Nat.zero_le _⟩) (fun H locs hP hD hS => ?_)
    refine lv_goto (tgt := 86) hx hb dX1_enrol_14 (by decide) ?_
    have hEq : booksC ck a (teZ S x).2.2 ++ (outC o (outc O (teZ S x).1 (teZ S x).2.1)) = booksC ck a S ++ (outC o (upO O 0 2)) := (by first | (have hc : teZ S x = (-2, 0, S) := (by unfold teZ; repeat (first | rw [if_pos (by omega)] | rw [if_neg (by omega)])); rw [hc]; first | rfl | (show _ ++ outC o (outc O _ _) = _; rw [outc_r (by omega)])) | (exfalso; omega))
    exact W.vret hx hb hr (fun t9 ht9 hW9 => ⟨⟨(), rfl, trivial, by rw [ht9, hEq]; exact hP, by rw [hEq, hAe]; exact hD⟩, hS.F ht9⟩) hS.2.2 dX1_enrol_86
  · refine lv_iload_n hx hb dX1_enrol_4 rfl (lv_at hl 1 rfl) ?_
    refine x_bipush hx hb dX1_enrol_5 (by decide) ?_
    refine x_icmp_le (tgt := 17) hx hb dX1_enrol_7 (by decide) (by omega) (by omega) (fun c7 => ?_) (fun c7 => ?_)
    · refine lv_aload_n hx hb dX1_enrol_17 rfl (lv_at hl 0 rfl) ?_
      refine va_get (D := dg) (ci := 4) (v := .int (zI (S 0 2))) (C := RX1) (T := TX1) (N := 13) hx hb htg inG_X1 hown hK hP 0 rfl rfl 1 (Nat.le_of_ble_eq_true rfl) (htg _ wq_108) (fun _ h9 => h9) rfl dX1_enrol_18 ?_
      refine x_bipush hx hb dX1_enrol_21 (by decide) ?_
      refine x_icmp_lt (tgt := 36) hx hb dX1_enrol_23 (by decide) (by omega) (by omega) (fun c23 => ?_) (fun c23 => ?_)
      · refine lv_aload_n hx hb dX1_enrol_36 rfl (lv_at hl 0 rfl) ?_
        refine va_get (D := dg) (ci := 4) (v := .ref (a 1)) (C := RX1) (T := TX1) (N := 13) hx hb htg inG_X1 hown hK hP 0 rfl rfl 2 (Nat.le_of_ble_eq_true rfl) (htg _ wq_110) (fun _ h9 => h9) rfl dX1_enrol_37 ?_
        refine lv_aload_n hx hb dX1_enrol_40 rfl (lv_at hl 0 rfl) ?_
        refine va_get (D := dg) (ci := 4) (v := .int (zI (S 0 2))) (C := RX1) (T := TX1) (N := 13) hx hb htg inG_X1 hown hK hP 0 rfl rfl 1 (Nat.le_of_ble_eq_true rfl) (htg _ wq_108) (fun _ h9 => h9) rfl dX1_enrol_41 ?_
        refine lv_iload_n hx hb dX1_enrol_44 rfl (lv_at hl 1 rfl) ?_
        refine x_iast (ws' := booksC ck a (upS S 11 (S 0 2) x) ++ (outC o O)) hx hb hK hP hD hS 1 0 rfl rfl (by decide) (by omega) (by rw [ar_up (by omega)]; rfl) dX1_enrol_45 (fun H locs hP hD hS => ?_)
        refine lv_aload_n hx hb dX1_enrol_46 rfl (lv_at hl 0 rfl) ?_
        refine va_get (D := dg) (ci := 4) (v := .ref (a 2)) (C := RX1) (T := TX1) (N := 13) hx hb htg inG_X1 hown hK hP 0 rfl rfl 3 (Nat.le_of_ble_eq_true rfl) (htg _ wq_112) (fun _ h9 => h9) rfl dX1_enrol_47 ?_
        refine lv_aload_n hx hb dX1_enrol_50 rfl (lv_at hl 0 rfl) ?_
        refine va_get (D := dg) (ci := 4) (v := .int (zI (S 0 2))) (C := RX1) (T := TX1) (N := 13) hx hb htg inG_X1 hown hK hP 0 rfl rfl 1 (Nat.le_of_ble_eq_true rfl) (htg _ wq_108) (fun _ h9 => h9) rfl dX1_enrol_51 ?_
        refine x_iconst hx hb dX1_enrol_54 ?_
        refine x_iast (ws' := booksC ck a (upS (upS S 11 (S 0 2) x) 12 (S 0 2) 0) ++ (outC o O)) hx hb hK hP hD hS 2 0 rfl rfl (by decide) (by omega) (by rw [ar_up (by omega)]; rfl) dX1_enrol_55 (fun H locs hP hD hS => ?_)
        refine lv_aload_n hx hb dX1_enrol_56 rfl (lv_at hl 0 rfl) ?_
        refine lv_dup hx hb dX1_enrol_57 rfl ?_
        refine va_get (D := dg) (ci := 4) (v := .int (zI (S 0 6))) (C := RX1) (T := TX1) (N := 13) hx hb htg inG_X1 hown hK hP 0 rfl rfl 9 (Nat.le_of_ble_eq_true rfl) (htg _ wq_124) (fun _ h9 => h9) rfl dX1_enrol_58 ?_
        refine lv_iload_n hx hb dX1_enrol_61 rfl (lv_at hl 1 rfl) ?_
        refine x_iadd hx hb dX1_enrol_62 ?_
        refine va_put (D := dg) (ci := 4) (v := .int (zI ((S 0 6) + x))) (ty := .int) (C := RX1) (T := TX1) (N := 13) hx hb htg inG_X1 tyX1 tyX1_ok nmX1 hown hK hP hD hS 0 rfl rfl 9 (Nat.le_of_ble_eq_true rfl) (htg _ wq_124) (fun _ h9 => h9) rfl (by decide +kernel) rfl rfl (Nat.le_of_ble_eq_true rfl) dX1_enrol_63 (fun H locs hP hD hS => ?_)
        have hP : va_P dg vwCl (booksC ck a (upS (upS (upS S 11 (S 0 2) x) 12 (S 0 2) 0) 0 6 ((S 0 6) + x)) ++ (outC o O)) H := hP
        have hD : va_D A (booksC ck a (upS (upS (upS S 11 (S 0 2) x) 12 (S 0 2) 0) 0 6 ((S 0 6) + x)) ++ (outC o O)) := hD
        refine lv_aload_n hx hb dX1_enrol_66 rfl (lv_at hl 0 rfl) ?_
        refine lv_dup hx hb dX1_enrol_67 rfl ?_
        refine va_get (D := dg) (ci := 4) (v := .int (zI (S 0 2))) (C := RX1) (T := TX1) (N := 13) hx hb htg inG_X1 hown hK hP 0 rfl rfl 1 (Nat.le_of_ble_eq_true rfl) (htg _ wq_108) (fun _ h9 => h9) rfl dX1_enrol_68 ?_
        refine x_iconst hx hb dX1_enrol_71 ?_
        refine x_iadd hx hb dX1_enrol_72 ?_
        refine va_put (D := dg) (ci := 4) (v := .int (zI ((S 0 2) + 1))) (ty := .int) (C := RX1) (T := TX1) (N := 13) hx hb htg inG_X1 tyX1 tyX1_ok nmX1 hown hK hP hD hS 0 rfl rfl 1 (Nat.le_of_ble_eq_true rfl) (htg _ wq_108) (fun _ h9 => h9) rfl (by decide +kernel) rfl rfl (Nat.le_of_ble_eq_true rfl) dX1_enrol_73 (fun H locs hP hD hS => ?_)
        have hP : va_P dg vwCl (booksC ck a (upS (upS (upS (upS S 11 (S 0 2) x) 12 (S 0 2) 0) 0 6 ((S 0 6) + x)) 0 2 ((S 0 2) + 1)) ++ (outC o O)) H := hP
        have hD : va_D A (booksC ck a (upS (upS (upS (upS S 11 (S 0 2) x) 12 (S 0 2) 0) 0 6 ((S 0 6) + x)) 0 2 ((S 0 2) + 1)) ++ (outC o O)) := hD
        refine lv_aload_n hx hb dX1_enrol_76 rfl (lv_at hl 2 rfl) ?_
        refine lv_aload_n hx hb dX1_enrol_77 rfl (lv_at hl 0 rfl) ?_
        refine va_get (D := dg) (ci := 4) (v := .int (zI ((S 0 2) + 1))) (C := RX1) (T := TX1) (N := 13) hx hb htg inG_X1 hown hK hP 0 rfl rfl 1 (Nat.le_of_ble_eq_true rfl) (htg _ wq_108) (fun _ h9 => h9) rfl dX1_enrol_78 ?_
        refine x_iconst hx hb dX1_enrol_81 ?_
        refine x_isub hx hb dX1_enrol_82 ?_
        refine x_is (show (((S 0 2) + 1) - 1) = (S 0 2) by omega) ?_
        refine x_callv (ws' := booksC ck a (upS (upS (upS (upS S 11 (S 0 2) x) 12 (S 0 2) 0) 0 6 ((S 0 6) + x)) 0 2 ((S 0 2) + 1)) ++ (outC o (upO (upO O 0 0) 1 (S 0 2)))) (booksC ck a (upS (upS (upS (upS S 11 (S 0 2) x) 12 (S 0 2) 0) 0 6 ((S 0 6) + x)) 0 2 ((S 0 2) + 1))) (M := outC o O) (M' := outC o (upO (upO O 0 0) 1 (S 0 2))) ([]) (by rw [List.append_nil]) (by rw [List.append_nil]) hP hD hS hA (fun hPm hDm => va_runV (As := [.int (zI (S 0 2))]) (rest := []) ⟨hx, hb, hml, hown, htg⟩ (c_out_succeed l dg ck o O (S 0 2) _ ) (cwV 1 htg (gwV wq_626 wq_627 wq_628 wq_6 wq_629) rfl rfl rfl (by decide +kernel) ⟨Nat.le_of_ble_eq_true rfl, Nat.le_of_ble_eq_true rfl⟩) (wr_preV hK hPm hDm 0 8 rfl rfl) rfl rfl hl.1 rfl (lv_room (Nat.le_of_ble_eq_true rfl)) dX1_enrol_83 ⟨Nat.zero_le _, Nat.zero_le _⟩) (fun H locs hP hD hS => ?_)
        have hEq : booksC ck a (teZ S x).2.2 ++ (outC o (outc O (teZ S x).1 (teZ S x).2.1)) = booksC ck a (upS (upS (upS (upS S 11 (S 0 2) x) 12 (S 0 2) 0) 0 6 ((S 0 6) + x)) 0 2 ((S 0 2) + 1)) ++ (outC o (upO (upO O 0 0) 1 (S 0 2))) := (by first | (have hc : teZ S x = (0, (S 0 2), (upS (upS (upS (upS S 11 (S 0 2) x) 12 (S 0 2) 0) 0 6 ((S 0 6) + x)) 0 2 ((S 0 2) + 1))) := (by unfold teZ; repeat (first | rw [if_pos (by omega)] | rw [if_neg (by omega)])); rw [hc]; first | rfl | (show _ ++ outC o (outc O _ _) = _; rw [outc_r (by omega)])) | (exfalso; omega))
        exact W.vret hx hb hr (fun t9 ht9 hW9 => ⟨⟨(), rfl, trivial, by rw [ht9, hEq]; exact hP, by rw [hEq, hAe]; exact hD⟩, hS.F ht9⟩) hS.2.2 dX1_enrol_86
      · refine lv_aload_n hx hb dX1_enrol_26 rfl (lv_at hl 2 rfl) ?_
        refine x_iconst hx hb dX1_enrol_27 ?_
        refine x_bipush hx hb dX1_enrol_28 (by decide) ?_
        refine x_callv (ws' := booksC ck a S ++ (outC o (upO (upO (upO O 0 3) 2 3) 3 8))) (booksC ck a S) (M := outC o O) (M' := outC o (upO (upO (upO O 0 3) 2 3) 3 8)) ([]) (by rw [List.append_nil]) (by rw [List.append_nil]) hP hD hS hA (fun hPm hDm => va_runV (As := [.int (zI 3), .int (zI 8)]) (rest := []) ⟨hx, hb, hml, hown, htg⟩ (c_out_reject l dg ck o O 3 8 _ ) (cwV 2 htg (gwV wq_753 wq_677 wq_678 wq_6 wq_679) rfl rfl rfl (by decide +kernel) ⟨Nat.le_of_ble_eq_true rfl, Nat.le_of_ble_eq_true rfl⟩) (wr_preV hK hPm hDm 0 8 rfl rfl) rfl rfl hl.1 rfl (lv_room (Nat.le_of_ble_eq_true rfl)) dX1_enrol_30 ⟨Nat.zero_le _, Nat.zero_le _⟩) (fun H locs hP hD hS => ?_)
        refine lv_goto (tgt := 86) hx hb dX1_enrol_33 (by decide) ?_
        have hEq : booksC ck a (teZ S x).2.2 ++ (outC o (outc O (teZ S x).1 (teZ S x).2.1)) = booksC ck a S ++ (outC o (upO (upO (upO O 0 3) 2 3) 3 8)) := (by first | (have hc : teZ S x = (3, 8, S) := (by unfold teZ; repeat (first | rw [if_pos (by omega)] | rw [if_neg (by omega)])); rw [hc]; first | rfl | (show _ ++ outC o (outc O _ _) = _; rw [outc_r (by omega)])) | (exfalso; omega))
        exact W.vret hx hb hr (fun t9 ht9 hW9 => ⟨⟨(), rfl, trivial, by rw [ht9, hEq]; exact hP, by rw [hEq, hAe]; exact hD⟩, hS.F ht9⟩) hS.2.2 dX1_enrol_86
    · refine lv_aload_n hx hb dX1_enrol_10 rfl (lv_at hl 2 rfl) ?_
      refine x_callv (ws' := booksC ck a S ++ (outC o (upO O 0 2))) (booksC ck a S) (M := outC o O) (M' := outC o (upO O 0 2)) ([]) (by rw [List.append_nil]) (by rw [List.append_nil]) hP hD hS hA (fun hPm hDm => va_runV (As := []) (rest := []) ⟨hx, hb, hml, hown, htg⟩ (c_out_missNumber l dg ck o O _ ) (cwV 0 htg (gwV wq_614 wq_615 wq_616 wq_6 wq_617) rfl rfl rfl (by decide +kernel) ⟨Nat.le_of_ble_eq_true rfl, Nat.le_of_ble_eq_true rfl⟩) (wr_preV hK hPm hDm 0 8 rfl rfl) rfl rfl hl.1 rfl (lv_room (Nat.le_of_ble_eq_true rfl)) dX1_enrol_11 ⟨Nat.zero_le _, Nat.zero_le _⟩) (fun H locs hP hD hS => ?_)
      refine lv_goto (tgt := 86) hx hb dX1_enrol_14 (by decide) ?_
      have hEq : booksC ck a (teZ S x).2.2 ++ (outC o (outc O (teZ S x).1 (teZ S x).2.1)) = booksC ck a S ++ (outC o (upO O 0 2)) := (by first | (have hc : teZ S x = (-2, 0, S) := (by unfold teZ; repeat (first | rw [if_pos (by omega)] | rw [if_neg (by omega)])); rw [hc]; first | rfl | (show _ ++ outC o (outc O _ _) = _; rw [outc_r (by omega)])) | (exfalso; omega))
      exact W.vret hx hb hr (fun t9 ht9 hW9 => ⟨⟨(), rfl, trivial, by rw [ht9, hEq]; exact hP, by rw [hEq, hAe]; exact hD⟩, hS.F ht9⟩) hS.2.2 dX1_enrol_86

set_option maxHeartbeats 4000000 in
set_option maxRecDepth 100000 in
/-- BenchBroker$Books.endow -/
theorem c_endow (l : Launch) (dg : va_G) (ck : Nat → ClassId) (a : Nat → Nat) (S : St) (o : Nat) (O : Nat → Int) (t x : Int) (sz : Nat) (hI : Bd S) (rg_t : -2147483648 ≤ t ∧ t < 2147483648) (rg_x : -2147483648 ≤ x ∧ x < 2147483648) : Met l yX1_endow (.code yX1_endow cX1_endow 4 none :: GW) ({ frames := 1, cells := 0, slots := 0, locals := 21 }) (va_Pc [.ref (a 0), .int (zI t), .int (zI x), .ref o] (wrP dg ck sz (booksC ck a S ++ (outC o O)))) (va_Qv (fun _ : Unit => True) (fun _ t9 => wrQ dg sz (booksC ck a S ++ (outC o O)) (booksC ck a (giZ S t x).2.2 ++ (outC o (outc O (giZ S t x).1 (giZ S t x).2.1))) t9) (va_A (booksC ck a S ++ (outC o O)) sz)) 0 0 (va_A (booksC ck a S ++ (outC o O)) sz) := by
  refine Met.ofW (cc := cX1_endow) (maxL := 4) (ret := none) (by decide) rfl ?_
  intro p e s m args below meth c s₁ B hml hv
  obtain ⟨rfl, hsz, hP, hK, hD0⟩ := hv
  have hx := B.exec
  have hb := B.bytes
  have hr := B.returns
  have hts := atoms_spec (ws := .code yX1_endow cX1_endow 4 none :: GW) B.pre
  have htg : ∀ w ∈ GW, w.before _ s = true := fun w h => hts w (List.mem_cons_of_mem _ h)
  have hown : s.vm.findClass RX1 = some m.cls := findClass_of_methodNamed B.named
  have hlocks := B.notSynchronized
  subst hsz
  have hD := hD0.self (sz := s.heap.size)
  generalize hAe : va_A (booksC ck a S ++ (outC o O)) s.heap.size = A at hD ⊢
  have hA : ∀ q : Nat, s.heap.size ≤ q → A q := fun q h => by rw [← hAe]; exact Or.inr h
  have hS : va_S A s.heap s.heap [] := va_S.rf
  have hP : va_P dg vwCl (booksC ck a S ++ (outC o O)) s.heap := hP
  have hl := lv_entry ([.ref (a 0), .int (zI t), .int (zI x), .ref o]) (n := 4) (Nat.le_of_ble_eq_true rfl)
  rw [lg_entry_eq]
  generalize (lg_sl ([.ref (a 0), .int (zI t), .int (zI x), .ref o]) ++ List.replicate (4 - (lg_sl ([.ref (a 0), .int (zI t), .int (zI x), .ref o])).length) Slot.unset).toArray = ls at hl ⊢
  have hl : lv_has ls 4 [(0, .ref (a 0)), (1, .int (zI t)), (2, .int (zI x)), (3, .ref o)] := hl
  obtain ⟨b00, b01, b02, b03, b1, b2, b3, b4, b5, b6, b7, b8, b9, b10, b11, b12⟩ := id hI
  refine lv_aload_n hx hb dX1_endow_0 rfl (lv_at hl 0 rfl) ?_
  refine lv_iload_n hx hb dX1_endow_1 rfl (lv_at hl 1 rfl) ?_
  refine vp_callSi (W.runV (As := [.int (zI t)]) (rest := []) ⟨hx, hb, hml, hown, htg⟩ (c_hasTenant l dg ck a S t hI (by omega)) (cwV 1 htg (gwV wq_519 wq_481 wq_482 wq_2 wq_483) rfl rfl rfl (by decide +kernel) ⟨Nat.le_of_ble_eq_true rfl, Nat.le_of_ble_eq_true rfl⟩) (rd_preV hK (va_P_l hP) 0 4 rfl rfl) rfl rfl hl.1 rfl (lv_room (Nat.le_of_ble_eq_true rfl)) dX1_endow_2 ⟨Nat.zero_le _, Nat.zero_le _⟩) (fun r2 hr2 => ?_)
  subst hr2
  refine x_bz_ne (tgt := 15) hx hb dX1_endow_5 (by decide) (fun c5 => ?_) (fun c5 => ?_)
  · refine lv_iload_n hx hb dX1_endow_15 rfl (lv_at hl 2 rfl) ?_
    refine x_iconst hx hb dX1_endow_16 ?_
    refine x_icmp_lt (tgt := 26) hx hb dX1_endow_17 (by decide) (by omega) (by omega) (fun c17 => ?_) (fun c17 => ?_)
    · refine lv_aload_n hx hb dX1_endow_26 rfl (lv_at hl 3 rfl) ?_
      refine x_callv (ws' := booksC ck a S ++ (outC o (upO O 0 2))) (booksC ck a S) (M := outC o O) (M' := outC o (upO O 0 2)) ([]) (by rw [List.append_nil]) (by rw [List.append_nil]) hP hD hS hA (fun hPm hDm => va_runV (As := []) (rest := []) ⟨hx, hb, hml, hown, htg⟩ (c_out_missNumber l dg ck o O _ ) (cwV 0 htg (gwV wq_614 wq_615 wq_616 wq_6 wq_617) rfl rfl rfl (by decide +kernel) ⟨Nat.le_of_ble_eq_true rfl, Nat.le_of_ble_eq_true rfl⟩) (wr_preV hK hPm hDm 0 8 rfl rfl) rfl rfl hl.1 rfl (lv_room (Nat.le_of_ble_eq_true rfl)) dX1_endow_27 ⟨Nat.zero_le _, Nat.zero_le _⟩) (fun H locs hP hD hS => ?_)
      refine lv_goto (tgt := 63) hx hb dX1_endow_30 (by decide) ?_
      have hEq : booksC ck a (giZ S t x).2.2 ++ (outC o (outc O (giZ S t x).1 (giZ S t x).2.1)) = booksC ck a S ++ (outC o (upO O 0 2)) := (by first | (have hc : giZ S t x = (-2, 0, S) := (by unfold giZ; repeat (first | rw [if_pos (by omega)] | rw [if_neg (by omega)])); rw [hc]; first | rfl | (show _ ++ outC o (outc O _ _) = _; rw [outc_r (by omega)])) | (exfalso; omega))
      exact W.vret hx hb hr (fun t9 ht9 hW9 => ⟨⟨(), rfl, trivial, by rw [ht9, hEq]; exact hP, by rw [hEq, hAe]; exact hD⟩, hS.F ht9⟩) hS.2.2 dX1_endow_63
    · refine lv_iload_n hx hb dX1_endow_20 rfl (lv_at hl 2 rfl) ?_
      refine x_bipush hx hb dX1_endow_21 (by decide) ?_
      refine x_icmp_le (tgt := 33) hx hb dX1_endow_23 (by decide) (by omega) (by omega) (fun c23 => ?_) (fun c23 => ?_)
      · refine lv_aload_n hx hb dX1_endow_33 rfl (lv_at hl 0 rfl) ?_
        refine va_get (D := dg) (ci := 4) (v := .ref (a 1)) (C := RX1) (T := TX1) (N := 13) hx hb htg inG_X1 hown hK hP 0 rfl rfl 2 (Nat.le_of_ble_eq_true rfl) (htg _ wq_110) (fun _ h9 => h9) rfl dX1_endow_34 ?_
        refine lv_iload_n hx hb dX1_endow_37 rfl (lv_at hl 1 rfl) ?_
        refine lv_dup2_11 hx hb dX1_endow_38 rfl rfl ?_
        refine x_iald hx hb hK hP 1 0 (S 11) rfl rfl (fun _ => rfl) (P := fun y => 0 ≤ y ∧ y ≤ 4000000) b11 (by decide) (by omega) dX1_endow_39 (fun g39 => ?_)
        refine lv_iload_n hx hb dX1_endow_40 rfl (lv_at hl 2 rfl) ?_
        refine x_iadd hx hb dX1_endow_41 ?_
        refine x_iast (ws' := booksC ck a (upS S 11 t ((S 11 t) + x)) ++ (outC o O)) hx hb hK hP hD hS 1 0 rfl rfl (by decide) (by omega) (by rw [ar_up (by omega)]; rfl) dX1_endow_42 (fun H locs hP hD hS => ?_)
        refine lv_aload_n hx hb dX1_endow_43 rfl (lv_at hl 0 rfl) ?_
        refine lv_dup hx hb dX1_endow_44 rfl ?_
        refine va_get (D := dg) (ci := 4) (v := .int (zI (S 0 6))) (C := RX1) (T := TX1) (N := 13) hx hb htg inG_X1 hown hK hP 0 rfl rfl 9 (Nat.le_of_ble_eq_true rfl) (htg _ wq_124) (fun _ h9 => h9) rfl dX1_endow_45 ?_
        refine lv_iload_n hx hb dX1_endow_48 rfl (lv_at hl 2 rfl) ?_
        refine x_iadd hx hb dX1_endow_49 ?_
        refine va_put (D := dg) (ci := 4) (v := .int (zI ((S 0 6) + x))) (ty := .int) (C := RX1) (T := TX1) (N := 13) hx hb htg inG_X1 tyX1 tyX1_ok nmX1 hown hK hP hD hS 0 rfl rfl 9 (Nat.le_of_ble_eq_true rfl) (htg _ wq_124) (fun _ h9 => h9) rfl (by decide +kernel) rfl rfl (Nat.le_of_ble_eq_true rfl) dX1_endow_50 (fun H locs hP hD hS => ?_)
        have hP : va_P dg vwCl (booksC ck a (upS (upS S 11 t ((S 11 t) + x)) 0 6 ((S 0 6) + x)) ++ (outC o O)) H := hP
        have hD : va_D A (booksC ck a (upS (upS S 11 t ((S 11 t) + x)) 0 6 ((S 0 6) + x)) ++ (outC o O)) := hD
        refine lv_aload_n hx hb dX1_endow_53 rfl (lv_at hl 3 rfl) ?_
        refine lv_aload_n hx hb dX1_endow_54 rfl (lv_at hl 0 rfl) ?_
        refine va_get (D := dg) (ci := 4) (v := .ref (a 1)) (C := RX1) (T := TX1) (N := 13) hx hb htg inG_X1 hown hK hP 0 rfl rfl 2 (Nat.le_of_ble_eq_true rfl) (htg _ wq_110) (fun _ h9 => h9) rfl dX1_endow_55 ?_
        refine lv_iload_n hx hb dX1_endow_58 rfl (lv_at hl 1 rfl) ?_
        refine x_iald hx hb hK hP 1 0 ((upS S 11 t ((S 11 t) + x)) 11) rfl rfl (fun _ => rfl) (P := fun y => True) (fun _ => trivial) (by decide) (by omega) dX1_endow_59 (fun g59 => ?_)
        refine x_is upS_s ?_
        refine x_callv (ws' := booksC ck a (upS (upS S 11 t ((S 11 t) + x)) 0 6 ((S 0 6) + x)) ++ (outC o (upO (upO O 0 0) 1 ((S 11 t) + x)))) (booksC ck a (upS (upS S 11 t ((S 11 t) + x)) 0 6 ((S 0 6) + x))) (M := outC o O) (M' := outC o (upO (upO O 0 0) 1 ((S 11 t) + x))) ([]) (by rw [List.append_nil]) (by rw [List.append_nil]) hP hD hS hA (fun hPm hDm => va_runV (As := [.int (zI ((S 11 t) + x))]) (rest := []) ⟨hx, hb, hml, hown, htg⟩ (c_out_succeed l dg ck o O ((S 11 t) + x) _ ) (cwV 1 htg (gwV wq_626 wq_627 wq_628 wq_6 wq_629) rfl rfl rfl (by decide +kernel) ⟨Nat.le_of_ble_eq_true rfl, Nat.le_of_ble_eq_true rfl⟩) (wr_preV hK hPm hDm 0 8 rfl rfl) rfl rfl hl.1 rfl (lv_room (Nat.le_of_ble_eq_true rfl)) dX1_endow_60 ⟨Nat.zero_le _, Nat.zero_le _⟩) (fun H locs hP hD hS => ?_)
        have hEq : booksC ck a (giZ S t x).2.2 ++ (outC o (outc O (giZ S t x).1 (giZ S t x).2.1)) = booksC ck a (upS (upS S 11 t ((S 11 t) + x)) 0 6 ((S 0 6) + x)) ++ (outC o (upO (upO O 0 0) 1 ((S 11 t) + x))) := (by first | (have hc : giZ S t x = (0, ((S 11 t) + x), (upS (upS S 11 t ((S 11 t) + x)) 0 6 ((S 0 6) + x))) := (by unfold giZ; repeat (first | rw [if_pos (by omega)] | rw [if_neg (by omega)])); rw [hc]; first | rfl | (show _ ++ outC o (outc O _ _) = _; rw [outc_r (by omega)])) | (exfalso; omega))
        exact W.vret hx hb hr (fun t9 ht9 hW9 => ⟨⟨(), rfl, trivial, by rw [ht9, hEq]; exact hP, by rw [hEq, hAe]; exact hD⟩, hS.F ht9⟩) hS.2.2 dX1_endow_63
      · refine lv_aload_n hx hb dX1_endow_26 rfl (lv_at hl 3 rfl) ?_
        refine x_callv (ws' := booksC ck a S ++ (outC o (upO O 0 2))) (booksC ck a S) (M := outC o O) (M' := outC o (upO O 0 2)) ([]) (by rw [List.append_nil]) (by rw [List.append_nil]) hP hD hS hA (fun hPm hDm => va_runV (As := []) (rest := []) ⟨hx, hb, hml, hown, htg⟩ (c_out_missNumber l dg ck o O _ ) (cwV 0 htg (gwV wq_614 wq_615 wq_616 wq_6 wq_617) rfl rfl rfl (by decide +kernel) ⟨Nat.le_of_ble_eq_true rfl, Nat.le_of_ble_eq_true rfl⟩) (wr_preV hK hPm hDm 0 8 rfl rfl) rfl rfl hl.1 rfl (lv_room (Nat.le_of_ble_eq_true rfl)) dX1_endow_27 ⟨Nat.zero_le _, Nat.zero_le _⟩) (fun H locs hP hD hS => ?_)
        refine lv_goto (tgt := 63) hx hb dX1_endow_30 (by decide) ?_
        have hEq : booksC ck a (giZ S t x).2.2 ++ (outC o (outc O (giZ S t x).1 (giZ S t x).2.1)) = booksC ck a S ++ (outC o (upO O 0 2)) := (by first | (have hc : giZ S t x = (-2, 0, S) := (by unfold giZ; repeat (first | rw [if_pos (by omega)] | rw [if_neg (by omega)])); rw [hc]; first | rfl | (show _ ++ outC o (outc O _ _) = _; rw [outc_r (by omega)])) | (exfalso; omega))
        exact W.vret hx hb hr (fun t9 ht9 hW9 => ⟨⟨(), rfl, trivial, by rw [ht9, hEq]; exact hP, by rw [hEq, hAe]; exact hD⟩, hS.F ht9⟩) hS.2.2 dX1_endow_63
  · refine lv_aload_n hx hb dX1_endow_8 rfl (lv_at hl 3 rfl) ?_
    refine x_callv (ws' := booksC ck a S ++ (outC o (upO O 0 1))) (booksC ck a S) (M := outC o O) (M' := outC o (upO O 0 1)) ([]) (by rw [List.append_nil]) (by rw [List.append_nil]) hP hD hS hA (fun hPm hDm => va_runV (As := []) (rest := []) ⟨hx, hb, hml, hown, htg⟩ (c_out_missIndex l dg ck o O _ ) (cwV 0 htg (gwV wq_798 wq_672 wq_673 wq_6 wq_674) rfl rfl rfl (by decide +kernel) ⟨Nat.le_of_ble_eq_true rfl, Nat.le_of_ble_eq_true rfl⟩) (wr_preV hK hPm hDm 0 8 rfl rfl) rfl rfl hl.1 rfl (lv_room (Nat.le_of_ble_eq_true rfl)) dX1_endow_9 ⟨Nat.zero_le _, Nat.zero_le _⟩) (fun H locs hP hD hS => ?_)
    refine lv_goto (tgt := 63) hx hb dX1_endow_12 (by decide) ?_
    have hEq : booksC ck a (giZ S t x).2.2 ++ (outC o (outc O (giZ S t x).1 (giZ S t x).2.1)) = booksC ck a S ++ (outC o (upO O 0 1)) := (by first | (have hc : giZ S t x = (-1, 0, S) := (by unfold giZ; repeat (first | rw [if_pos (by omega)] | rw [if_neg (by omega)])); rw [hc]; first | rfl | (show _ ++ outC o (outc O _ _) = _; rw [outc_r (by omega)])) | (exfalso; omega))
    exact W.vret hx hb hr (fun t9 ht9 hW9 => ⟨⟨(), rfl, trivial, by rw [ht9, hEq]; exact hP, by rw [hEq, hAe]; exact hD⟩, hS.F ht9⟩) hS.2.2 dX1_endow_63

set_option maxHeartbeats 4000000 in
set_option maxRecDepth 100000 in
/-- BenchBroker$Books.extend -/
theorem c_extend (l : Launch) (dg : va_G) (ck : Nat → ClassId) (a : Nat → Nat) (S : St) (o : Nat) (O : Nat → Int) (b k : Int) (sz : Nat) (hI : Bd S) (rg_b : -2147483648 ≤ b ∧ b < 2147483648) (rg_k : -2147483648 ≤ k ∧ k < 2147483648) : Met l yX1_extend (.code yX1_extend cX1_extend 4 none :: GW) ({ frames := 2, cells := 0, slots := 0, locals := 42 }) (va_Pc [.ref (a 0), .int (zI b), .int (zI k), .ref o] (wrP dg ck sz (booksC ck a S ++ (outC o O)))) (va_Qv (fun _ : Unit => True) (fun _ t9 => wrQ dg sz (booksC ck a S ++ (outC o O)) (booksC ck a (reZ S b k).2.2 ++ (outC o (outc O (reZ S b k).1 (reZ S b k).2.1))) t9) (va_A (booksC ck a S ++ (outC o O)) sz)) 0 0 (va_A (booksC ck a S ++ (outC o O)) sz) := by
  refine Met.ofW (cc := cX1_extend) (maxL := 4) (ret := none) (by decide) rfl ?_
  intro p e s m args below meth c s₁ B hml hv
  obtain ⟨rfl, hsz, hP, hK, hD0⟩ := hv
  have hx := B.exec
  have hb := B.bytes
  have hr := B.returns
  have hts := atoms_spec (ws := .code yX1_extend cX1_extend 4 none :: GW) B.pre
  have htg : ∀ w ∈ GW, w.before _ s = true := fun w h => hts w (List.mem_cons_of_mem _ h)
  have hown : s.vm.findClass RX1 = some m.cls := findClass_of_methodNamed B.named
  have hlocks := B.notSynchronized
  subst hsz
  have hD := hD0.self (sz := s.heap.size)
  generalize hAe : va_A (booksC ck a S ++ (outC o O)) s.heap.size = A at hD ⊢
  have hA : ∀ q : Nat, s.heap.size ≤ q → A q := fun q h => by rw [← hAe]; exact Or.inr h
  have hS : va_S A s.heap s.heap [] := va_S.rf
  have hP : va_P dg vwCl (booksC ck a S ++ (outC o O)) s.heap := hP
  have hl := lv_entry ([.ref (a 0), .int (zI b), .int (zI k), .ref o]) (n := 4) (Nat.le_of_ble_eq_true rfl)
  rw [lg_entry_eq]
  generalize (lg_sl ([.ref (a 0), .int (zI b), .int (zI k), .ref o]) ++ List.replicate (4 - (lg_sl ([.ref (a 0), .int (zI b), .int (zI k), .ref o])).length) Slot.unset).toArray = ls at hl ⊢
  have hl : lv_has ls 4 [(0, .ref (a 0)), (1, .int (zI b)), (2, .int (zI k)), (3, .ref o)] := hl
  obtain ⟨b00, b01, b02, b03, b1, b2, b3, b4, b5, b6, b7, b8, b9, b10, b11, b12⟩ := id hI
  have h6b := b6 b
  refine lv_aload_n hx hb dX1_extend_0 rfl (lv_at hl 0 rfl) ?_
  refine va_get (D := dg) (ci := 4) (v := .ref (a 6)) (C := RX1) (T := TX1) (N := 13) hx hb htg inG_X1 hown hK hP 0 rfl rfl 0 (Nat.le_of_ble_eq_true rfl) (htg _ wq_106) (fun _ h9 => h9) rfl dX1_extend_1 ?_
  refine lv_iload_n hx hb dX1_extend_4 rfl (lv_at hl 1 rfl) ?_
  refine vp_callSi (W.runV (As := [.int (zI b)]) (rest := []) ⟨hx, hb, hml, hown, htg⟩ (c_hasBench l dg ck (pa a) S b hI (by omega)) (cwV 1 htg (gwV wq_810 wq_430 wq_431 wq_3 wq_432) rfl rfl rfl (by decide +kernel) ⟨Nat.le_of_ble_eq_true rfl, Nat.le_of_ble_eq_true rfl⟩) (rd_preV hK (va_P_r (w1 := bookC ck a S) (w2 := parkC ck (pa a) S) (va_P_l hP)) 0 9 rfl rfl) rfl rfl hl.1 rfl (lv_room (Nat.le_of_ble_eq_true rfl)) dX1_extend_5 ⟨Nat.zero_le _, Nat.zero_le _⟩) (fun r5 hr5 => ?_)
  subst hr5
  refine x_bz_ne (tgt := 18) hx hb dX1_extend_8 (by decide) (fun c8 => ?_) (fun c8 => ?_)
  · refine lv_iload_n hx hb dX1_extend_18 rfl (lv_at hl 2 rfl) ?_
    refine vp_callSi (W.runS (As := [.int (zI k)]) (rest := []) ⟨hx, hb, hml, hown, htg⟩ (c_isTerm l dg ck k (by omega)) (cwS 1 htg (gwS wq_613 wq_576 wq_2 wq_577) rfl rfl rfl (by decide +kernel) ⟨Nat.le_of_ble_eq_true rfl, Nat.le_of_ble_eq_true rfl⟩) (rd_preS hK va_P_nil) rfl rfl hl.1 rfl (lv_room (Nat.le_of_ble_eq_true rfl)) dX1_extend_19 ⟨Nat.zero_le _, Nat.zero_le _⟩) (fun r19 hr19 => ?_)
    subst hr19
    refine x_bz_ne (tgt := 32) hx hb dX1_extend_22 (by decide) (fun c22 => ?_) (fun c22 => ?_)
    · refine lv_aload_n hx hb dX1_extend_32 rfl (lv_at hl 0 rfl) ?_
      refine lv_iload_n hx hb dX1_extend_33 rfl (lv_at hl 1 rfl) ?_
      refine vp_callSi (W.runV (As := [.int (zI b)]) (rest := []) ⟨hx, hb, hml, hown, htg⟩ (c_leased l dg ck a S b hI (by omega)) (cwV 1 htg (gwV wq_515 wq_516 wq_517 wq_2 wq_518) rfl rfl rfl (by decide +kernel) ⟨Nat.le_of_ble_eq_true rfl, Nat.le_of_ble_eq_true rfl⟩) (rd_preV hK (va_P_l hP) 0 4 rfl rfl) rfl rfl hl.1 rfl (lv_room (Nat.le_of_ble_eq_true rfl)) dX1_extend_34 ⟨Nat.zero_le _, Nat.zero_le _⟩) (fun r34 hr34 => ?_)
      subst hr34
      refine x_bz_ne (tgt := 50) hx hb dX1_extend_37 (by decide) (fun c37 => ?_) (fun c37 => ?_)
      · refine lv_aload_n hx hb dX1_extend_50 rfl (lv_at hl 0 rfl) ?_
        refine va_get (D := dg) (ci := 4) (v := .ref (a 5)) (C := RX1) (T := TX1) (N := 13) hx hb htg inG_X1 hown hK hP 0 rfl rfl 6 (Nat.le_of_ble_eq_true rfl) (htg _ wq_118) (fun _ h9 => h9) rfl dX1_extend_51 ?_
        refine lv_iload_n hx hb dX1_extend_54 rfl (lv_at hl 1 rfl) ?_
        refine x_iald hx hb hK hP 5 0 (S 6) rfl rfl (fun _ => rfl) (P := fun y => 0 ≤ y ∧ y ≤ 12) b6 (by decide) (by omega) dX1_extend_55 (fun g55 => ?_)
        refine lv_iload_n hx hb dX1_extend_56 rfl (lv_at hl 2 rfl) ?_
        refine x_iadd hx hb dX1_extend_57 ?_
        refine x_bipush hx hb dX1_extend_58 (by decide) ?_
        refine x_icmp_le (tgt := 78) hx hb dX1_extend_60 (by decide) (by omega) (by omega) (fun c60 => ?_) (fun c60 => ?_)
        · refine lv_aload_n hx hb dX1_extend_78 rfl (lv_at hl 0 rfl) ?_
          refine va_get (D := dg) (ci := 4) (v := .ref (a 5)) (C := RX1) (T := TX1) (N := 13) hx hb htg inG_X1 hown hK hP 0 rfl rfl 6 (Nat.le_of_ble_eq_true rfl) (htg _ wq_118) (fun _ h9 => h9) rfl dX1_extend_79 ?_
          refine lv_iload_n hx hb dX1_extend_82 rfl (lv_at hl 1 rfl) ?_
          refine lv_dup2_11 hx hb dX1_extend_83 rfl rfl ?_
          refine x_iald hx hb hK hP 5 0 (S 6) rfl rfl (fun _ => rfl) (P := fun y => 0 ≤ y ∧ y ≤ 12) b6 (by decide) (by omega) dX1_extend_84 (fun g84 => ?_)
          refine lv_iload_n hx hb dX1_extend_85 rfl (lv_at hl 2 rfl) ?_
          refine x_iadd hx hb dX1_extend_86 ?_
          refine x_iast (ws' := booksC ck a (upS S 6 b ((S 6 b) + k)) ++ (outC o O)) hx hb hK hP hD hS 5 0 rfl rfl (by decide) (by omega) (by rw [ar_up (by omega)]; rfl) dX1_extend_87 (fun H locs hP hD hS => ?_)
          refine lv_aload_n hx hb dX1_extend_88 rfl (lv_at hl 3 rfl) ?_
          refine lv_aload_n hx hb dX1_extend_89 rfl (lv_at hl 0 rfl) ?_
          refine va_get (D := dg) (ci := 4) (v := .ref (a 5)) (C := RX1) (T := TX1) (N := 13) hx hb htg inG_X1 hown hK hP 0 rfl rfl 6 (Nat.le_of_ble_eq_true rfl) (htg _ wq_118) (fun _ h9 => h9) rfl dX1_extend_90 ?_
          refine lv_iload_n hx hb dX1_extend_93 rfl (lv_at hl 1 rfl) ?_
          refine x_iald hx hb hK hP 5 0 ((upS S 6 b ((S 6 b) + k)) 6) rfl rfl (fun _ => rfl) (P := fun y => True) (fun _ => trivial) (by decide) (by omega) dX1_extend_94 (fun g94 => ?_)
          refine x_is upS_s ?_
          refine x_callv (ws' := booksC ck a (upS S 6 b ((S 6 b) + k)) ++ (outC o (upO (upO O 0 0) 1 ((S 6 b) + k)))) (booksC ck a (upS S 6 b ((S 6 b) + k))) (M := outC o O) (M' := outC o (upO (upO O 0 0) 1 ((S 6 b) + k))) ([]) (by rw [List.append_nil]) (by rw [List.append_nil]) hP hD hS hA (fun hPm hDm => va_runV (As := [.int (zI ((S 6 b) + k))]) (rest := []) ⟨hx, hb, hml, hown, htg⟩ (c_out_succeed l dg ck o O ((S 6 b) + k) _ ) (cwV 1 htg (gwV wq_626 wq_627 wq_628 wq_6 wq_629) rfl rfl rfl (by decide +kernel) ⟨Nat.le_of_ble_eq_true rfl, Nat.le_of_ble_eq_true rfl⟩) (wr_preV hK hPm hDm 0 8 rfl rfl) rfl rfl hl.1 rfl (lv_room (Nat.le_of_ble_eq_true rfl)) dX1_extend_95 ⟨Nat.zero_le _, Nat.zero_le _⟩) (fun H locs hP hD hS => ?_)
          have hEq : booksC ck a (reZ S b k).2.2 ++ (outC o (outc O (reZ S b k).1 (reZ S b k).2.1)) = booksC ck a (upS S 6 b ((S 6 b) + k)) ++ (outC o (upO (upO O 0 0) 1 ((S 6 b) + k))) := (by first | (have hc : reZ S b k = (0, ((S 6 b) + k), (upS S 6 b ((S 6 b) + k))) := (by unfold reZ; repeat (first | rw [if_pos (by omega)] | rw [if_neg (by omega)])); rw [hc]; first | rfl | (show _ ++ outC o (outc O _ _) = _; rw [outc_r (by omega)])) | (exfalso; omega))
          exact W.vret hx hb hr (fun t9 ht9 hW9 => ⟨⟨(), rfl, trivial, by rw [ht9, hEq]; exact hP, by rw [hEq, hAe]; exact hD⟩, hS.F ht9⟩) hS.2.2 dX1_extend_98
        · refine lv_aload_n hx hb dX1_extend_63 rfl (lv_at hl 3 rfl) ?_
          refine x_bipush hx hb dX1_extend_64 (by decide) ?_
          refine lv_aload_n hx hb dX1_extend_66 rfl (lv_at hl 0 rfl) ?_
          refine va_get (D := dg) (ci := 4) (v := .ref (a 5)) (C := RX1) (T := TX1) (N := 13) hx hb htg inG_X1 hown hK hP 0 rfl rfl 6 (Nat.le_of_ble_eq_true rfl) (htg _ wq_118) (fun _ h9 => h9) rfl dX1_extend_67 ?_
          refine lv_iload_n hx hb dX1_extend_70 rfl (lv_at hl 1 rfl) ?_
          refine x_iald hx hb hK hP 5 0 (S 6) rfl rfl (fun _ => rfl) (P := fun y => 0 ≤ y ∧ y ≤ 12) b6 (by decide) (by omega) dX1_extend_71 (fun g71 => ?_)
          refine x_callv (ws' := booksC ck a S ++ (outC o (upO (upO (upO O 0 3) 2 11) 3 (S 6 b)))) (booksC ck a S) (M := outC o O) (M' := outC o (upO (upO (upO O 0 3) 2 11) 3 (S 6 b))) ([]) (by rw [List.append_nil]) (by rw [List.append_nil]) hP hD hS hA (fun hPm hDm => va_runV (As := [.int (zI 11), .int (zI (S 6 b))]) (rest := []) ⟨hx, hb, hml, hown, htg⟩ (c_out_reject l dg ck o O 11 (S 6 b) _ ) (cwV 2 htg (gwV wq_753 wq_677 wq_678 wq_6 wq_679) rfl rfl rfl (by decide +kernel) ⟨Nat.le_of_ble_eq_true rfl, Nat.le_of_ble_eq_true rfl⟩) (wr_preV hK hPm hDm 0 8 rfl rfl) rfl rfl hl.1 rfl (lv_room (Nat.le_of_ble_eq_true rfl)) dX1_extend_72 ⟨Nat.zero_le _, Nat.zero_le _⟩) (fun H locs hP hD hS => ?_)
          refine lv_goto (tgt := 98) hx hb dX1_extend_75 (by decide) ?_
          have hEq : booksC ck a (reZ S b k).2.2 ++ (outC o (outc O (reZ S b k).1 (reZ S b k).2.1)) = booksC ck a S ++ (outC o (upO (upO (upO O 0 3) 2 11) 3 (S 6 b))) := (by first | (have hc : reZ S b k = (11, (S 6 b), S) := (by unfold reZ; repeat (first | rw [if_pos (by omega)] | rw [if_neg (by omega)])); rw [hc]; first | rfl | (show _ ++ outC o (outc O _ _) = _; rw [outc_r (by omega)])) | (exfalso; omega))
          exact W.vret hx hb hr (fun t9 ht9 hW9 => ⟨⟨(), rfl, trivial, by rw [ht9, hEq]; exact hP, by rw [hEq, hAe]; exact hD⟩, hS.F ht9⟩) hS.2.2 dX1_extend_98
      · refine lv_aload_n hx hb dX1_extend_40 rfl (lv_at hl 3 rfl) ?_
        refine x_bipush hx hb dX1_extend_41 (by decide) ?_
        refine lv_iload_n hx hb dX1_extend_43 rfl (lv_at hl 1 rfl) ?_
        refine x_callv (ws' := booksC ck a S ++ (outC o (upO (upO (upO O 0 3) 2 10) 3 b))) (booksC ck a S) (M := outC o O) (M' := outC o (upO (upO (upO O 0 3) 2 10) 3 b)) ([]) (by rw [List.append_nil]) (by rw [List.append_nil]) hP hD hS hA (fun hPm hDm => va_runV (As := [.int (zI 10), .int (zI b)]) (rest := []) ⟨hx, hb, hml, hown, htg⟩ (c_out_reject l dg ck o O 10 b _ ) (cwV 2 htg (gwV wq_753 wq_677 wq_678 wq_6 wq_679) rfl rfl rfl (by decide +kernel) ⟨Nat.le_of_ble_eq_true rfl, Nat.le_of_ble_eq_true rfl⟩) (wr_preV hK hPm hDm 0 8 rfl rfl) rfl rfl hl.1 rfl (lv_room (Nat.le_of_ble_eq_true rfl)) dX1_extend_44 ⟨Nat.zero_le _, Nat.zero_le _⟩) (fun H locs hP hD hS => ?_)
        refine lv_goto (tgt := 98) hx hb dX1_extend_47 (by decide) ?_
        have hEq : booksC ck a (reZ S b k).2.2 ++ (outC o (outc O (reZ S b k).1 (reZ S b k).2.1)) = booksC ck a S ++ (outC o (upO (upO (upO O 0 3) 2 10) 3 b)) := (by first | (have hc : reZ S b k = (10, b, S) := (by unfold reZ; repeat (first | rw [if_pos (by omega)] | rw [if_neg (by omega)])); rw [hc]; first | rfl | (show _ ++ outC o (outc O _ _) = _; rw [outc_r (by omega)])) | (exfalso; omega))
        exact W.vret hx hb hr (fun t9 ht9 hW9 => ⟨⟨(), rfl, trivial, by rw [ht9, hEq]; exact hP, by rw [hEq, hAe]; exact hD⟩, hS.F ht9⟩) hS.2.2 dX1_extend_98
    · refine lv_aload_n hx hb dX1_extend_25 rfl (lv_at hl 3 rfl) ?_
      refine x_callv (ws' := booksC ck a S ++ (outC o (upO O 0 2))) (booksC ck a S) (M := outC o O) (M' := outC o (upO O 0 2)) ([]) (by rw [List.append_nil]) (by rw [List.append_nil]) hP hD hS hA (fun hPm hDm => va_runV (As := []) (rest := []) ⟨hx, hb, hml, hown, htg⟩ (c_out_missNumber l dg ck o O _ ) (cwV 0 htg (gwV wq_614 wq_615 wq_616 wq_6 wq_617) rfl rfl rfl (by decide +kernel) ⟨Nat.le_of_ble_eq_true rfl, Nat.le_of_ble_eq_true rfl⟩) (wr_preV hK hPm hDm 0 8 rfl rfl) rfl rfl hl.1 rfl (lv_room (Nat.le_of_ble_eq_true rfl)) dX1_extend_26 ⟨Nat.zero_le _, Nat.zero_le _⟩) (fun H locs hP hD hS => ?_)
      refine lv_goto (tgt := 98) hx hb dX1_extend_29 (by decide) ?_
      have hEq : booksC ck a (reZ S b k).2.2 ++ (outC o (outc O (reZ S b k).1 (reZ S b k).2.1)) = booksC ck a S ++ (outC o (upO O 0 2)) := (by first | (have hc : reZ S b k = (-2, 0, S) := (by unfold reZ; repeat (first | rw [if_pos (by omega)] | rw [if_neg (by omega)])); rw [hc]; first | rfl | (show _ ++ outC o (outc O _ _) = _; rw [outc_r (by omega)])) | (exfalso; omega))
      exact W.vret hx hb hr (fun t9 ht9 hW9 => ⟨⟨(), rfl, trivial, by rw [ht9, hEq]; exact hP, by rw [hEq, hAe]; exact hD⟩, hS.F ht9⟩) hS.2.2 dX1_extend_98
  · refine lv_aload_n hx hb dX1_extend_11 rfl (lv_at hl 3 rfl) ?_
    refine x_callv (ws' := booksC ck a S ++ (outC o (upO O 0 1))) (booksC ck a S) (M := outC o O) (M' := outC o (upO O 0 1)) ([]) (by rw [List.append_nil]) (by rw [List.append_nil]) hP hD hS hA (fun hPm hDm => va_runV (As := []) (rest := []) ⟨hx, hb, hml, hown, htg⟩ (c_out_missIndex l dg ck o O _ ) (cwV 0 htg (gwV wq_798 wq_672 wq_673 wq_6 wq_674) rfl rfl rfl (by decide +kernel) ⟨Nat.le_of_ble_eq_true rfl, Nat.le_of_ble_eq_true rfl⟩) (wr_preV hK hPm hDm 0 8 rfl rfl) rfl rfl hl.1 rfl (lv_room (Nat.le_of_ble_eq_true rfl)) dX1_extend_12 ⟨Nat.zero_le _, Nat.zero_le _⟩) (fun H locs hP hD hS => ?_)
    refine lv_goto (tgt := 98) hx hb dX1_extend_15 (by decide) ?_
    have hEq : booksC ck a (reZ S b k).2.2 ++ (outC o (outc O (reZ S b k).1 (reZ S b k).2.1)) = booksC ck a S ++ (outC o (upO O 0 1)) := (by first | (have hc : reZ S b k = (-1, 0, S) := (by unfold reZ; repeat (first | rw [if_pos (by omega)] | rw [if_neg (by omega)])); rw [hc]; first | rfl | (show _ ++ outC o (outc O _ _) = _; rw [outc_r (by omega)])) | (exfalso; omega))
    exact W.vret hx hb hr (fun t9 ht9 hW9 => ⟨⟨(), rfl, trivial, by rw [ht9, hEq]; exact hP, by rw [hEq, hAe]; exact hD⟩, hS.F ht9⟩) hS.2.2 dX1_extend_98

set_option maxHeartbeats 4000000 in
set_option maxRecDepth 100000 in
/-- BenchBroker$Books.breakOff -/
theorem c_breakOff (l : Launch) (dg : va_G) (ck : Nat → ClassId) (a : Nat → Nat) (S : St) (o : Nat) (O : Nat → Int) (b : Int) (sz : Nat) (hI : Bd S) (rg_b : -2147483648 ≤ b ∧ b < 2147483648) : Met l yX1_breakOff (.code yX1_breakOff cX1_breakOff 4 none :: GW) ({ frames := 2, cells := 0, slots := 0, locals := 42 }) (va_Pc [.ref (a 0), .int (zI b), .ref o] (wrP dg ck sz (booksC ck a S ++ (outC o O)))) (va_Qv (fun _ : Unit => True) (fun _ t9 => wrQ dg sz (booksC ck a S ++ (outC o O)) (booksC ck a (enZ S b).2.2 ++ (outC o (outc O (enZ S b).1 (enZ S b).2.1))) t9) (va_A (booksC ck a S ++ (outC o O)) sz)) 0 0 (va_A (booksC ck a S ++ (outC o O)) sz) := by
  refine Met.ofW (cc := cX1_breakOff) (maxL := 4) (ret := none) (by decide) rfl ?_
  intro p e s m args below meth c s₁ B hml hv
  obtain ⟨rfl, hsz, hP, hK, hD0⟩ := hv
  have hx := B.exec
  have hb := B.bytes
  have hr := B.returns
  have hts := atoms_spec (ws := .code yX1_breakOff cX1_breakOff 4 none :: GW) B.pre
  have htg : ∀ w ∈ GW, w.before _ s = true := fun w h => hts w (List.mem_cons_of_mem _ h)
  have hown : s.vm.findClass RX1 = some m.cls := findClass_of_methodNamed B.named
  have hlocks := B.notSynchronized
  subst hsz
  have hD := hD0.self (sz := s.heap.size)
  generalize hAe : va_A (booksC ck a S ++ (outC o O)) s.heap.size = A at hD ⊢
  have hA : ∀ q : Nat, s.heap.size ≤ q → A q := fun q h => by rw [← hAe]; exact Or.inr h
  have hS : va_S A s.heap s.heap [] := va_S.rf
  have hP : va_P dg vwCl (booksC ck a S ++ (outC o O)) s.heap := hP
  have hl := lv_entry ([.ref (a 0), .int (zI b), .ref o]) (n := 4) (Nat.le_of_ble_eq_true rfl)
  rw [lg_entry_eq]
  generalize (lg_sl ([.ref (a 0), .int (zI b), .ref o]) ++ List.replicate (4 - (lg_sl ([.ref (a 0), .int (zI b), .ref o])).length) Slot.unset).toArray = ls at hl ⊢
  have hl : lv_has ls 4 [(0, .ref (a 0)), (1, .int (zI b)), (2, .ref o)] := hl
  obtain ⟨b00, b01, b02, b03, b1, b2, b3, b4, b5, b6, b7, b8, b9, b10, b11, b12⟩ := id hI
  have h5b := b5 b
  have h4b := b4 b
  refine lv_aload_n hx hb dX1_breakOff_0 rfl (lv_at hl 0 rfl) ?_
  refine va_get (D := dg) (ci := 4) (v := .ref (a 6)) (C := RX1) (T := TX1) (N := 13) hx hb htg inG_X1 hown hK hP 0 rfl rfl 0 (Nat.le_of_ble_eq_true rfl) (htg _ wq_106) (fun _ h9 => h9) rfl dX1_breakOff_1 ?_
  refine lv_iload_n hx hb dX1_breakOff_4 rfl (lv_at hl 1 rfl) ?_
  refine vp_callSi (W.runV (As := [.int (zI b)]) (rest := []) ⟨hx, hb, hml, hown, htg⟩ (c_hasBench l dg ck (pa a) S b hI (by omega)) (cwV 1 htg (gwV wq_810 wq_430 wq_431 wq_3 wq_432) rfl rfl rfl (by decide +kernel) ⟨Nat.le_of_ble_eq_true rfl, Nat.le_of_ble_eq_true rfl⟩) (rd_preV hK (va_P_r (w1 := bookC ck a S) (w2 := parkC ck (pa a) S) (va_P_l hP)) 0 9 rfl rfl) rfl rfl hl.1 rfl (lv_room (Nat.le_of_ble_eq_true rfl)) dX1_breakOff_5 ⟨Nat.zero_le _, Nat.zero_le _⟩) (fun r5 hr5 => ?_)
  subst hr5
  refine x_bz_ne (tgt := 18) hx hb dX1_breakOff_8 (by decide) (fun c8 => ?_) (fun c8 => ?_)
  · refine lv_aload_n hx hb dX1_breakOff_18 rfl (lv_at hl 0 rfl) ?_
    refine lv_iload_n hx hb dX1_breakOff_19 rfl (lv_at hl 1 rfl) ?_
    refine vp_callSi (W.runV (As := [.int (zI b)]) (rest := []) ⟨hx, hb, hml, hown, htg⟩ (c_leased l dg ck a S b hI (by omega)) (cwV 1 htg (gwV wq_515 wq_516 wq_517 wq_2 wq_518) rfl rfl rfl (by decide +kernel) ⟨Nat.le_of_ble_eq_true rfl, Nat.le_of_ble_eq_true rfl⟩) (rd_preV hK (va_P_l hP) 0 4 rfl rfl) rfl rfl hl.1 rfl (lv_room (Nat.le_of_ble_eq_true rfl)) dX1_breakOff_20 ⟨Nat.zero_le _, Nat.zero_le _⟩) (fun r20 hr20 => ?_)
    subst hr20
    refine x_bz_ne (tgt := 36) hx hb dX1_breakOff_23 (by decide) (fun c23 => ?_) (fun c23 => ?_)
    · refine lv_aload_n hx hb dX1_breakOff_36 rfl (lv_at hl 0 rfl) ?_
      refine va_get (D := dg) (ci := 4) (v := .ref (a 4)) (C := RX1) (T := TX1) (N := 13) hx hb htg inG_X1 hown hK hP 0 rfl rfl 5 (Nat.le_of_ble_eq_true rfl) (htg _ wq_116) (fun _ h9 => h9) rfl dX1_breakOff_37 ?_
      refine lv_iload_n hx hb dX1_breakOff_40 rfl (lv_at hl 1 rfl) ?_
      refine x_iald hx hb hK hP 4 0 (S 5) rfl rfl (fun _ => rfl) (P := fun y => 0 ≤ y ∧ y ≤ 20) b5 (by decide) (by omega) dX1_breakOff_41 (fun g41 => ?_)
      refine x_iconst hx hb dX1_breakOff_42 ?_
      refine x_idiv hx hb dX1_breakOff_43 (by omega) (by omega) ?_
      refine lv_istore_n (lv' := [(3, .int (zI ((S 5 b) / 2))), (0, .ref (a 0)), (1, .int (zI b)), (2, .ref o)]) hx hb dX1_breakOff_44 rfl hl (by decide) rfl (fun ls hl => ?_)
      refine lv_aload_n hx hb dX1_breakOff_45 rfl (lv_at hl 3 rfl) ?_
      refine lv_iload_n hx hb dX1_breakOff_46 rfl (lv_at hl 0 rfl) ?_
      refine x_callv (ws' := booksC ck a S ++ (outC o (upO (upO O 0 0) 1 ((S 5 b) / 2)))) (booksC ck a S) (M := outC o O) (M' := outC o (upO (upO O 0 0) 1 ((S 5 b) / 2))) ([]) (by rw [List.append_nil]) (by rw [List.append_nil]) hP hD hS hA (fun hPm hDm => va_runV (As := [.int (zI ((S 5 b) / 2))]) (rest := []) ⟨hx, hb, hml, hown, htg⟩ (c_out_succeed l dg ck o O ((S 5 b) / 2) _ ) (cwV 1 htg (gwV wq_626 wq_627 wq_628 wq_6 wq_629) rfl rfl rfl (by decide +kernel) ⟨Nat.le_of_ble_eq_true rfl, Nat.le_of_ble_eq_true rfl⟩) (wr_preV hK hPm hDm 0 8 rfl rfl) rfl rfl hl.1 rfl (lv_room (Nat.le_of_ble_eq_true rfl)) dX1_breakOff_47 ⟨Nat.zero_le _, Nat.zero_le _⟩) (fun H locs hP hD hS => ?_)
      refine lv_aload_n hx hb dX1_breakOff_50 rfl (lv_at hl 1 rfl) ?_
      refine lv_iload_n hx hb dX1_breakOff_51 rfl (lv_at hl 2 rfl) ?_
      refine lv_iload_n hx hb dX1_breakOff_52 rfl (lv_at hl 0 rfl) ?_
      refine x_callv (ws' := booksC ck a (clS S b ((S 5 b) / 2)) ++ (outC o (upO (upO O 0 0) 1 ((S 5 b) / 2)))) [] (M := booksC ck a S) (M' := booksC ck a (clS S b ((S 5 b) / 2))) (outC o (upO (upO O 0 0) 1 ((S 5 b) / 2))) rfl rfl hP hD hS hA (fun hPm hDm => va_runV (As := [.int (zI b), .int (zI ((S 5 b) / 2))]) (rest := []) ⟨hx, hb, hml, hown, htg⟩ (c_closeLease l dg ck a S b ((S 5 b) / 2) _ (by omega) (by first | omega | (show 1 ≤ S 4 b ∧ S 4 b ≤ 8; omega))) (cwV 2 htg (gwV wq_622 wq_624 wp_7 wq_2 wq_625) rfl rfl rfl (by decide +kernel) ⟨Nat.le_of_ble_eq_true rfl, Nat.le_of_ble_eq_true rfl⟩) (wr_preV hK hPm hDm 0 4 rfl rfl) rfl rfl hl.1 rfl (lv_room (Nat.le_of_ble_eq_true rfl)) dX1_breakOff_53 ⟨Nat.zero_le _, Nat.zero_le _⟩) (fun H locs hP hD hS => ?_)
      have hEq : booksC ck a (enZ S b).2.2 ++ (outC o (outc O (enZ S b).1 (enZ S b).2.1)) = booksC ck a (clS S b ((S 5 b) / 2)) ++ (outC o (upO (upO O 0 0) 1 ((S 5 b) / 2))) := (by first | (have hc : enZ S b = (0, ((S 5 b) / 2), (clS S b ((S 5 b) / 2))) := (by unfold enZ; repeat (first | rw [if_pos (by omega)] | rw [if_neg (by omega)])); rw [hc]; first | rfl | (show _ ++ outC o (outc O _ _) = _; rw [outc_r (by omega)])) | (exfalso; omega))
      exact W.vret hx hb hr (fun t9 ht9 hW9 => ⟨⟨(), rfl, trivial, by rw [ht9, hEq]; exact hP, by rw [hEq, hAe]; exact hD⟩, hS.F ht9⟩) hS.2.2 dX1_breakOff_56
    · refine lv_aload_n hx hb dX1_breakOff_26 rfl (lv_at hl 2 rfl) ?_
      refine x_bipush hx hb dX1_breakOff_27 (by decide) ?_
      refine lv_iload_n hx hb dX1_breakOff_29 rfl (lv_at hl 1 rfl) ?_
      refine x_callv (ws' := booksC ck a S ++ (outC o (upO (upO (upO O 0 3) 2 10) 3 b))) (booksC ck a S) (M := outC o O) (M' := outC o (upO (upO (upO O 0 3) 2 10) 3 b)) ([]) (by rw [List.append_nil]) (by rw [List.append_nil]) hP hD hS hA (fun hPm hDm => va_runV (As := [.int (zI 10), .int (zI b)]) (rest := []) ⟨hx, hb, hml, hown, htg⟩ (c_out_reject l dg ck o O 10 b _ ) (cwV 2 htg (gwV wq_753 wq_677 wq_678 wq_6 wq_679) rfl rfl rfl (by decide +kernel) ⟨Nat.le_of_ble_eq_true rfl, Nat.le_of_ble_eq_true rfl⟩) (wr_preV hK hPm hDm 0 8 rfl rfl) rfl rfl hl.1 rfl (lv_room (Nat.le_of_ble_eq_true rfl)) dX1_breakOff_30 ⟨Nat.zero_le _, Nat.zero_le _⟩) (fun H locs hP hD hS => ?_)
      refine lv_goto (tgt := 56) hx hb dX1_breakOff_33 (by decide) ?_
      have hEq : booksC ck a (enZ S b).2.2 ++ (outC o (outc O (enZ S b).1 (enZ S b).2.1)) = booksC ck a S ++ (outC o (upO (upO (upO O 0 3) 2 10) 3 b)) := (by first | (have hc : enZ S b = (10, b, S) := (by unfold enZ; repeat (first | rw [if_pos (by omega)] | rw [if_neg (by omega)])); rw [hc]; first | rfl | (show _ ++ outC o (outc O _ _) = _; rw [outc_r (by omega)])) | (exfalso; omega))
      exact W.vret hx hb hr (fun t9 ht9 hW9 => ⟨⟨(), rfl, trivial, by rw [ht9, hEq]; exact hP, by rw [hEq, hAe]; exact hD⟩, hS.F ht9⟩) hS.2.2 dX1_breakOff_56
  · refine lv_aload_n hx hb dX1_breakOff_11 rfl (lv_at hl 2 rfl) ?_
    refine x_callv (ws' := booksC ck a S ++ (outC o (upO O 0 1))) (booksC ck a S) (M := outC o O) (M' := outC o (upO O 0 1)) ([]) (by rw [List.append_nil]) (by rw [List.append_nil]) hP hD hS hA (fun hPm hDm => va_runV (As := []) (rest := []) ⟨hx, hb, hml, hown, htg⟩ (c_out_missIndex l dg ck o O _ ) (cwV 0 htg (gwV wq_798 wq_672 wq_673 wq_6 wq_674) rfl rfl rfl (by decide +kernel) ⟨Nat.le_of_ble_eq_true rfl, Nat.le_of_ble_eq_true rfl⟩) (wr_preV hK hPm hDm 0 8 rfl rfl) rfl rfl hl.1 rfl (lv_room (Nat.le_of_ble_eq_true rfl)) dX1_breakOff_12 ⟨Nat.zero_le _, Nat.zero_le _⟩) (fun H locs hP hD hS => ?_)
    refine lv_goto (tgt := 56) hx hb dX1_breakOff_15 (by decide) ?_
    have hEq : booksC ck a (enZ S b).2.2 ++ (outC o (outc O (enZ S b).1 (enZ S b).2.1)) = booksC ck a S ++ (outC o (upO O 0 1)) := (by first | (have hc : enZ S b = (-1, 0, S) := (by unfold enZ; repeat (first | rw [if_pos (by omega)] | rw [if_neg (by omega)])); rw [hc]; first | rfl | (show _ ++ outC o (outc O _ _) = _; rw [outc_r (by omega)])) | (exfalso; omega))
    exact W.vret hx hb hr (fun t9 ht9 hW9 => ⟨⟨(), rfl, trivial, by rw [ht9, hEq]; exact hP, by rw [hEq, hAe]; exact hD⟩, hS.F ht9⟩) hS.2.2 dX1_breakOff_56

set_option maxHeartbeats 4000000 in
set_option maxRecDepth 100000 in
/-- BenchBroker$Books.sign -/
theorem c_sign (l : Launch) (dg : va_G) (ck : Nat → ClassId) (a : Nat → Nat) (S : St) (o : Nat) (O : Nat → Int) (t b k : Int) (sz : Nat) (hI : Bd S) (rg_t : -2147483648 ≤ t ∧ t < 2147483648) (rg_b : -2147483648 ≤ b ∧ b < 2147483648) (rg_k : -2147483648 ≤ k ∧ k < 2147483648) : Met l yX1_sign (.code yX1_sign cX1_sign 7 none :: GW) ({ frames := 4, cells := 0, slots := 0, locals := 90 }) (va_Pc [.ref (a 0), .int (zI t), .int (zI b), .int (zI k), .ref o] (wrP dg ck sz (booksC ck a S ++ (outC o O)))) (va_Qv (fun _ : Unit => True) (fun _ t9 => wrQ dg sz (booksC ck a S ++ (outC o O)) (booksC ck a (leZ S t b k).2.2 ++ (outC o (outc O (leZ S t b k).1 (leZ S t b k).2.1))) t9) (va_A (booksC ck a S ++ (outC o O)) sz)) 0 0 (va_A (booksC ck a S ++ (outC o O)) sz) := by
  refine Met.ofW (cc := cX1_sign) (maxL := 7) (ret := none) (by decide) rfl ?_
  intro p e s m args below meth c s₁ B hml hv
  obtain ⟨rfl, hsz, hP, hK, hD0⟩ := hv
  have hx := B.exec
  have hb := B.bytes
  have hr := B.returns
  have hts := atoms_spec (ws := .code yX1_sign cX1_sign 7 none :: GW) B.pre
  have htg : ∀ w ∈ GW, w.before _ s = true := fun w h => hts w (List.mem_cons_of_mem _ h)
  have hown : s.vm.findClass RX1 = some m.cls := findClass_of_methodNamed B.named
  have hlocks := B.notSynchronized
  subst hsz
  have hD := hD0.self (sz := s.heap.size)
  generalize hAe : va_A (booksC ck a S ++ (outC o O)) s.heap.size = A at hD ⊢
  have hA : ∀ q : Nat, s.heap.size ≤ q → A q := fun q h => by rw [← hAe]; exact Or.inr h
  have hS : va_S A s.heap s.heap [] := va_S.rf
  have hP : va_P dg vwCl (booksC ck a S ++ (outC o O)) s.heap := hP
  have hl := lv_entry ([.ref (a 0), .int (zI t), .int (zI b), .int (zI k), .ref o]) (n := 7) (Nat.le_of_ble_eq_true rfl)
  rw [lg_entry_eq]
  generalize (lg_sl ([.ref (a 0), .int (zI t), .int (zI b), .int (zI k), .ref o]) ++ List.replicate (7 - (lg_sl ([.ref (a 0), .int (zI t), .int (zI b), .int (zI k), .ref o])).length) Slot.unset).toArray = ls at hl ⊢
  have hl : lv_has ls 7 [(0, .ref (a 0)), (1, .int (zI t)), (2, .int (zI b)), (3, .int (zI k)), (4, .ref o)] := hl
  obtain ⟨b00, b01, b02, b03, b1, b2, b3, b4, b5, b6, b7, b8, b9, b10, b11, b12⟩ := id hI
  have hob := obst_r S t b
  have hre := rent_r hI b
  refine lv_aload_n hx hb dX1_sign_0 rfl (lv_at hl 0 rfl) ?_
  refine lv_iload_n hx hb dX1_sign_1 rfl (lv_at hl 1 rfl) ?_
  refine vp_callSi (W.runV (As := [.int (zI t)]) (rest := []) ⟨hx, hb, hml, hown, htg⟩ (c_hasTenant l dg ck a S t hI (by omega)) (cwV 1 htg (gwV wq_519 wq_481 wq_482 wq_2 wq_483) rfl rfl rfl (by decide +kernel) ⟨Nat.le_of_ble_eq_true rfl, Nat.le_of_ble_eq_true rfl⟩) (rd_preV hK (va_P_l hP) 0 4 rfl rfl) rfl rfl hl.1 rfl (lv_room (Nat.le_of_ble_eq_true rfl)) dX1_sign_2 ⟨Nat.zero_le _, Nat.zero_le _⟩) (fun r2 hr2 => ?_)
  subst hr2
  refine x_bz_eq (tgt := 19) hx hb dX1_sign_5 (by decide) (fun c5 => ?_) (fun c5 => ?_)
  · refine lv_aload hx hb dX1_sign_19 (lv_at hl 4 rfl) ?_
    refine x_callv (ws' := booksC ck a S ++ (outC o (upO O 0 1))) (booksC ck a S) (M := outC o O) (M' := outC o (upO O 0 1)) ([]) (by rw [List.append_nil]) (by rw [List.append_nil]) hP hD hS hA (fun hPm hDm => va_runV (As := []) (rest := []) ⟨hx, hb, hml, hown, htg⟩ (c_out_missIndex l dg ck o O _ ) (cwV 0 htg (gwV wq_798 wq_672 wq_673 wq_6 wq_674) rfl rfl rfl (by decide +kernel) ⟨Nat.le_of_ble_eq_true rfl, Nat.le_of_ble_eq_true rfl⟩) (wr_preV hK hPm hDm 0 8 rfl rfl) rfl rfl hl.1 rfl (lv_room (Nat.le_of_ble_eq_true rfl)) dX1_sign_21 ⟨Nat.zero_le _, Nat.zero_le _⟩) (fun H locs hP hD hS => ?_)
    have hEq : booksC ck a (leZ S t b k).2.2 ++ (outC o (outc O (leZ S t b k).1 (leZ S t b k).2.1)) = booksC ck a S ++ (outC o (upO O 0 1)) := (by first | (have hc : leZ S t b k = (-1, 0, S) := (by unfold leZ; repeat (first | rw [if_pos (by omega)] | rw [if_neg (by omega)])); rw [hc]; first | rfl | (show _ ++ outC o (outc O _ _) = _; rw [outc_r (by omega)])) | (exfalso; omega))
    exact W.vret hx hb hr (fun t9 ht9 hW9 => ⟨⟨(), rfl, trivial, by rw [ht9, hEq]; exact hP, by rw [hEq, hAe]; exact hD⟩, hS.F ht9⟩) hS.2.2 dX1_sign_24
  · refine lv_aload_n hx hb dX1_sign_8 rfl (lv_at hl 0 rfl) ?_
    refine va_get (D := dg) (ci := 4) (v := .ref (a 6)) (C := RX1) (T := TX1) (N := 13) hx hb htg inG_X1 hown hK hP 0 rfl rfl 0 (Nat.le_of_ble_eq_true rfl) (htg _ wq_106) (fun _ h9 => h9) rfl dX1_sign_9 ?_
    refine lv_iload_n hx hb dX1_sign_12 rfl (lv_at hl 2 rfl) ?_
    refine vp_callSi (W.runV (As := [.int (zI b)]) (rest := []) ⟨hx, hb, hml, hown, htg⟩ (c_hasBench l dg ck (pa a) S b hI (by omega)) (cwV 1 htg (gwV wq_810 wq_430 wq_431 wq_3 wq_432) rfl rfl rfl (by decide +kernel) ⟨Nat.le_of_ble_eq_true rfl, Nat.le_of_ble_eq_true rfl⟩) (rd_preV hK (va_P_r (w1 := bookC ck a S) (w2 := parkC ck (pa a) S) (va_P_l hP)) 0 9 rfl rfl) rfl rfl hl.1 rfl (lv_room (Nat.le_of_ble_eq_true rfl)) dX1_sign_13 ⟨Nat.zero_le _, Nat.zero_le _⟩) (fun r13 hr13 => ?_)
    subst hr13
    refine x_bz_ne (tgt := 25) hx hb dX1_sign_16 (by decide) (fun c16 => ?_) (fun c16 => ?_)
    · refine lv_iload_n hx hb dX1_sign_25 rfl (lv_at hl 3 rfl) ?_
      refine vp_callSi (W.runS (As := [.int (zI k)]) (rest := []) ⟨hx, hb, hml, hown, htg⟩ (c_isTerm l dg ck k (by omega)) (cwS 1 htg (gwS wq_613 wq_576 wq_2 wq_577) rfl rfl rfl (by decide +kernel) ⟨Nat.le_of_ble_eq_true rfl, Nat.le_of_ble_eq_true rfl⟩) (rd_preS hK va_P_nil) rfl rfl hl.1 rfl (lv_room (Nat.le_of_ble_eq_true rfl)) dX1_sign_26 ⟨Nat.zero_le _, Nat.zero_le _⟩) (fun r26 hr26 => ?_)
      subst hr26
      refine x_bz_ne (tgt := 38) hx hb dX1_sign_29 (by decide) (fun c29 => ?_) (fun c29 => ?_)
      · refine lv_aload_n hx hb dX1_sign_38 rfl (lv_at hl 0 rfl) ?_
        refine lv_iload_n hx hb dX1_sign_39 rfl (lv_at hl 1 rfl) ?_
        refine lv_iload_n hx hb dX1_sign_40 rfl (lv_at hl 2 rfl) ?_
        refine vp_callSi (W.runV (As := [.int (zI t), .int (zI b)]) (rest := []) ⟨hx, hb, hml, hown, htg⟩ (c_leaseObstacle l dg ck a S t b hI (by omega) (by omega)) (cwV 2 htg (gwV wq_811 wq_511 wq_512 wq_2 wq_513) rfl rfl rfl (by decide +kernel) ⟨Nat.le_of_ble_eq_true rfl, Nat.le_of_ble_eq_true rfl⟩) (rd_preV hK (va_P_l hP) 0 4 rfl rfl) rfl rfl hl.1 rfl (lv_room (Nat.le_of_ble_eq_true rfl)) dX1_sign_41 ⟨Nat.zero_le _, Nat.zero_le _⟩) (fun r41 hr41 => ?_)
        subst hr41
        refine lv_istore (lv' := [(5, .int (zI (obst S t b))), (0, .ref (a 0)), (1, .int (zI t)), (2, .int (zI b)), (3, .int (zI k)), (4, .ref o)]) hx hb dX1_sign_44 hl (by decide) rfl (fun ls hl => ?_)
        refine lv_iload hx hb dX1_sign_46 (lv_at hl 0 rfl) ?_
        refine x_if_eq (tgt := 67) hx hb dX1_sign_48 (by decide) (by omega) (fun c48 => ?_) (fun c48 => ?_)
        · refine lv_aload_n hx hb dX1_sign_67 rfl (lv_at hl 1 rfl) ?_
          refine va_get (D := dg) (ci := 4) (v := .ref (a 6)) (C := RX1) (T := TX1) (N := 13) hx hb htg inG_X1 hown hK hP 0 rfl rfl 0 (Nat.le_of_ble_eq_true rfl) (htg _ wq_106) (fun _ h9 => h9) rfl dX1_sign_68 ?_
          refine lv_iload_n hx hb dX1_sign_71 rfl (lv_at hl 3 rfl) ?_
          refine vp_callSi (W.runV (As := [.int (zI b)]) (rest := []) ⟨hx, hb, hml, hown, htg⟩ (c_rent l dg ck (pa a) S b hI (by omega)) (cwV 1 htg (gwV wq_524 wq_455 wq_456 wq_3 wq_457) rfl rfl rfl (by decide +kernel) ⟨Nat.le_of_ble_eq_true rfl, Nat.le_of_ble_eq_true rfl⟩) (rd_preV hK (va_P_r (w1 := bookC ck a S) (w2 := parkC ck (pa a) S) (va_P_l hP)) 0 9 rfl rfl) rfl rfl hl.1 rfl (lv_room (Nat.le_of_ble_eq_true rfl)) dX1_sign_72 ⟨Nat.zero_le _, Nat.zero_le _⟩) (fun r72 hr72 => ?_)
          subst hr72
          refine lv_istore (lv' := [(6, .int (zI (rent S b))), (5, .int (zI (obst S t b))), (0, .ref (a 0)), (1, .int (zI t)), (2, .int (zI b)), (3, .int (zI k)), (4, .ref o)]) hx hb dX1_sign_75 hl (by decide) rfl (fun ls hl => ?_)
          refine lv_aload_n hx hb dX1_sign_77 rfl (lv_at hl 2 rfl) ?_
          refine va_get (D := dg) (ci := 4) (v := .ref (a 1)) (C := RX1) (T := TX1) (N := 13) hx hb htg inG_X1 hown hK hP 0 rfl rfl 2 (Nat.le_of_ble_eq_true rfl) (htg _ wq_110) (fun _ h9 => h9) rfl dX1_sign_78 ?_
          refine lv_iload_n hx hb dX1_sign_81 rfl (lv_at hl 3 rfl) ?_
          refine lv_dup2_11 hx hb dX1_sign_82 rfl rfl ?_
          refine x_iald hx hb hK hP 1 0 (S 11) rfl rfl (fun _ => rfl) (P := fun y => 0 ≤ y ∧ y ≤ 4000000) b11 (by decide) (by omega) dX1_sign_83 (fun g83 => ?_)
          refine lv_iload hx hb dX1_sign_84 (lv_at hl 0 rfl) ?_
          refine x_isub hx hb dX1_sign_86 ?_
          refine x_iast (ws' := booksC ck a (upS S 11 t ((S 11 t) - (rent S b))) ++ (outC o O)) hx hb hK hP hD hS 1 0 rfl rfl (by decide) (by omega) (by rw [ar_up (by omega)]; rfl) dX1_sign_87 (fun H locs hP hD hS => ?_)
          refine lv_aload_n hx hb dX1_sign_88 rfl (lv_at hl 2 rfl) ?_
          refine va_get (D := dg) (ci := 4) (v := .ref (a 3)) (C := RX1) (T := TX1) (N := 13) hx hb htg inG_X1 hown hK hP 0 rfl rfl 4 (Nat.le_of_ble_eq_true rfl) (htg _ wq_114) (fun _ h9 => h9) rfl dX1_sign_89 ?_
          refine lv_iload_n hx hb dX1_sign_92 rfl (lv_at hl 4 rfl) ?_
          refine lv_iload_n hx hb dX1_sign_93 rfl (lv_at hl 3 rfl) ?_
          refine x_iast (ws' := booksC ck a (upS (upS S 11 t ((S 11 t) - (rent S b))) 4 b (t + 1)) ++ (outC o O)) hx hb hK hP hD hS 3 0 rfl rfl (by decide) (by omega) (by rw [arB_up (by omega)]; rfl) dX1_sign_94 (fun H locs hP hD hS => ?_)
          refine lv_aload_n hx hb dX1_sign_95 rfl (lv_at hl 2 rfl) ?_
          refine va_get (D := dg) (ci := 4) (v := .ref (a 4)) (C := RX1) (T := TX1) (N := 13) hx hb htg inG_X1 hown hK hP 0 rfl rfl 5 (Nat.le_of_ble_eq_true rfl) (htg _ wq_116) (fun _ h9 => h9) rfl dX1_sign_96 ?_
          refine lv_iload_n hx hb dX1_sign_99 rfl (lv_at hl 4 rfl) ?_
          refine lv_iload hx hb dX1_sign_100 (lv_at hl 0 rfl) ?_
          refine x_iast (ws' := booksC ck a (upS (upS (upS S 11 t ((S 11 t) - (rent S b))) 4 b (t + 1)) 5 b (rent S b)) ++ (outC o O)) hx hb hK hP hD hS 4 0 rfl rfl (by decide) (by omega) (by rw [ar_up (by omega)]; rfl) dX1_sign_102 (fun H locs hP hD hS => ?_)
          refine lv_aload_n hx hb dX1_sign_103 rfl (lv_at hl 2 rfl) ?_
          refine va_get (D := dg) (ci := 4) (v := .ref (a 5)) (C := RX1) (T := TX1) (N := 13) hx hb htg inG_X1 hown hK hP 0 rfl rfl 6 (Nat.le_of_ble_eq_true rfl) (htg _ wq_118) (fun _ h9 => h9) rfl dX1_sign_104 ?_
          refine lv_iload_n hx hb dX1_sign_107 rfl (lv_at hl 4 rfl) ?_
          refine lv_iload_n hx hb dX1_sign_108 rfl (lv_at hl 5 rfl) ?_
          refine x_iast (ws' := booksC ck a (upS (upS (upS (upS S 11 t ((S 11 t) - (rent S b))) 4 b (t + 1)) 5 b (rent S b)) 6 b k) ++ (outC o O)) hx hb hK hP hD hS 5 0 rfl rfl (by decide) (by omega) (by rw [ar_up (by omega)]; rfl) dX1_sign_109 (fun H locs hP hD hS => ?_)
          refine lv_aload hx hb dX1_sign_110 (lv_at hl 6 rfl) ?_
          refine lv_iload hx hb dX1_sign_112 (lv_at hl 0 rfl) ?_
          refine x_callv (ws' := booksC ck a (upS (upS (upS (upS S 11 t ((S 11 t) - (rent S b))) 4 b (t + 1)) 5 b (rent S b)) 6 b k) ++ (outC o (upO (upO O 0 0) 1 (rent S b)))) (booksC ck a (upS (upS (upS (upS S 11 t ((S 11 t) - (rent S b))) 4 b (t + 1)) 5 b (rent S b)) 6 b k)) (M := outC o O) (M' := outC o (upO (upO O 0 0) 1 (rent S b))) ([]) (by rw [List.append_nil]) (by rw [List.append_nil]) hP hD hS hA (fun hPm hDm => va_runV (As := [.int (zI (rent S b))]) (rest := []) ⟨hx, hb, hml, hown, htg⟩ (c_out_succeed l dg ck o O (rent S b) _ ) (cwV 1 htg (gwV wq_626 wq_627 wq_628 wq_6 wq_629) rfl rfl rfl (by decide +kernel) ⟨Nat.le_of_ble_eq_true rfl, Nat.le_of_ble_eq_true rfl⟩) (wr_preV hK hPm hDm 0 8 rfl rfl) rfl rfl hl.1 rfl (lv_room (Nat.le_of_ble_eq_true rfl)) dX1_sign_114 ⟨Nat.zero_le _, Nat.zero_le _⟩) (fun H locs hP hD hS => ?_)
          have hEq : booksC ck a (leZ S t b k).2.2 ++ (outC o (outc O (leZ S t b k).1 (leZ S t b k).2.1)) = booksC ck a (upS (upS (upS (upS S 11 t ((S 11 t) - (rent S b))) 4 b (t + 1)) 5 b (rent S b)) 6 b k) ++ (outC o (upO (upO O 0 0) 1 (rent S b))) := (by first | (have hc : leZ S t b k = (0, (rent S b), (upS (upS (upS (upS S 11 t ((S 11 t) - (rent S b))) 4 b (t + 1)) 5 b (rent S b)) 6 b k)) := (by unfold leZ; repeat (first | rw [if_pos (by omega)] | rw [if_neg (by omega)])); rw [hc]; first | rfl | (show _ ++ outC o (outc O _ _) = _; rw [outc_r (by omega)])) | (exfalso; omega))
          exact W.vret hx hb hr (fun t9 ht9 hW9 => ⟨⟨(), rfl, trivial, by rw [ht9, hEq]; exact hP, by rw [hEq, hAe]; exact hD⟩, hS.F ht9⟩) hS.2.2 dX1_sign_117
        · refine lv_aload hx hb dX1_sign_51 (lv_at hl 5 rfl) ?_
          refine lv_iload hx hb dX1_sign_53 (lv_at hl 0 rfl) ?_
          refine lv_aload_n hx hb dX1_sign_55 rfl (lv_at hl 1 rfl) ?_
          refine lv_iload hx hb dX1_sign_56 (lv_at hl 0 rfl) ?_
          refine lv_iload_n hx hb dX1_sign_58 rfl (lv_at hl 2 rfl) ?_
          refine lv_iload_n hx hb dX1_sign_59 rfl (lv_at hl 3 rfl) ?_
          refine vp_callSi (W.runV (As := [.int (zI (obst S t b)), .int (zI t), .int (zI b)]) (rest := [.int (zI (obst S t b)), .ref o]) ⟨hx, hb, hml, hown, htg⟩ (c_obstacleDetail l dg ck a S (obst S t b) t b hI (by omega) (by omega) (by omega)) (cwV 3 htg (gwV wq_812 wq_814 wp_12 wq_2 wq_815) rfl rfl rfl (by decide +kernel) ⟨Nat.le_of_ble_eq_true rfl, Nat.le_of_ble_eq_true rfl⟩) (rd_preV hK (va_P_l hP) 0 4 rfl rfl) rfl rfl hl.1 rfl (lv_room (Nat.le_of_ble_eq_true rfl)) dX1_sign_60 ⟨Nat.zero_le _, Nat.zero_le _⟩) (fun r60 hr60 => ?_)
          subst hr60
          refine x_callv (ws' := booksC ck a S ++ (outC o (upO (upO (upO O 0 3) 2 (obst S t b)) 3 (obsD S (obst S t b) t b)))) (booksC ck a S) (M := outC o O) (M' := outC o (upO (upO (upO O 0 3) 2 (obst S t b)) 3 (obsD S (obst S t b) t b))) ([]) (by rw [List.append_nil]) (by rw [List.append_nil]) hP hD hS hA (fun hPm hDm => va_runV (As := [.int (zI (obst S t b)), .int (zI (obsD S (obst S t b) t b))]) (rest := []) ⟨hx, hb, hml, hown, htg⟩ (c_out_reject l dg ck o O (obst S t b) (obsD S (obst S t b) t b) _ ) (cwV 2 htg (gwV wq_753 wq_677 wq_678 wq_6 wq_679) rfl rfl rfl (by decide +kernel) ⟨Nat.le_of_ble_eq_true rfl, Nat.le_of_ble_eq_true rfl⟩) (wr_preV hK hPm hDm 0 8 rfl rfl) rfl rfl hl.1 rfl (lv_room (Nat.le_of_ble_eq_true rfl)) dX1_sign_63 ⟨Nat.zero_le _, Nat.zero_le _⟩) (fun H locs hP hD hS => ?_)
          have hEq : booksC ck a (leZ S t b k).2.2 ++ (outC o (outc O (leZ S t b k).1 (leZ S t b k).2.1)) = booksC ck a S ++ (outC o (upO (upO (upO O 0 3) 2 (obst S t b)) 3 (obsD S (obst S t b) t b))) := (by first | (have hc : leZ S t b k = ((obst S t b), (obsD S (obst S t b) t b), S) := (by unfold leZ; repeat (first | rw [if_pos (by omega)] | rw [if_neg (by omega)])); rw [hc]; first | rfl | (show _ ++ outC o (outc O _ _) = _; rw [outc_r (by omega)])) | (exfalso; omega))
          exact W.vret hx hb hr (fun t9 ht9 hW9 => ⟨⟨(), rfl, trivial, by rw [ht9, hEq]; exact hP, by rw [hEq, hAe]; exact hD⟩, hS.F ht9⟩) hS.2.2 dX1_sign_66
      · refine lv_aload hx hb dX1_sign_32 (lv_at hl 4 rfl) ?_
        refine x_callv (ws' := booksC ck a S ++ (outC o (upO O 0 2))) (booksC ck a S) (M := outC o O) (M' := outC o (upO O 0 2)) ([]) (by rw [List.append_nil]) (by rw [List.append_nil]) hP hD hS hA (fun hPm hDm => va_runV (As := []) (rest := []) ⟨hx, hb, hml, hown, htg⟩ (c_out_missNumber l dg ck o O _ ) (cwV 0 htg (gwV wq_614 wq_615 wq_616 wq_6 wq_617) rfl rfl rfl (by decide +kernel) ⟨Nat.le_of_ble_eq_true rfl, Nat.le_of_ble_eq_true rfl⟩) (wr_preV hK hPm hDm 0 8 rfl rfl) rfl rfl hl.1 rfl (lv_room (Nat.le_of_ble_eq_true rfl)) dX1_sign_34 ⟨Nat.zero_le _, Nat.zero_le _⟩) (fun H locs hP hD hS => ?_)
        have hEq : booksC ck a (leZ S t b k).2.2 ++ (outC o (outc O (leZ S t b k).1 (leZ S t b k).2.1)) = booksC ck a S ++ (outC o (upO O 0 2)) := (by first | (have hc : leZ S t b k = (-2, 0, S) := (by unfold leZ; repeat (first | rw [if_pos (by omega)] | rw [if_neg (by omega)])); rw [hc]; first | rfl | (show _ ++ outC o (outc O _ _) = _; rw [outc_r (by omega)])) | (exfalso; omega))
        exact W.vret hx hb hr (fun t9 ht9 hW9 => ⟨⟨(), rfl, trivial, by rw [ht9, hEq]; exact hP, by rw [hEq, hAe]; exact hD⟩, hS.F ht9⟩) hS.2.2 dX1_sign_37
    · refine lv_aload hx hb dX1_sign_19 (lv_at hl 4 rfl) ?_
      refine x_callv (ws' := booksC ck a S ++ (outC o (upO O 0 1))) (booksC ck a S) (M := outC o O) (M' := outC o (upO O 0 1)) ([]) (by rw [List.append_nil]) (by rw [List.append_nil]) hP hD hS hA (fun hPm hDm => va_runV (As := []) (rest := []) ⟨hx, hb, hml, hown, htg⟩ (c_out_missIndex l dg ck o O _ ) (cwV 0 htg (gwV wq_798 wq_672 wq_673 wq_6 wq_674) rfl rfl rfl (by decide +kernel) ⟨Nat.le_of_ble_eq_true rfl, Nat.le_of_ble_eq_true rfl⟩) (wr_preV hK hPm hDm 0 8 rfl rfl) rfl rfl hl.1 rfl (lv_room (Nat.le_of_ble_eq_true rfl)) dX1_sign_21 ⟨Nat.zero_le _, Nat.zero_le _⟩) (fun H locs hP hD hS => ?_)
      have hEq : booksC ck a (leZ S t b k).2.2 ++ (outC o (outc O (leZ S t b k).1 (leZ S t b k).2.1)) = booksC ck a S ++ (outC o (upO O 0 1)) := (by first | (have hc : leZ S t b k = (-1, 0, S) := (by unfold leZ; repeat (first | rw [if_pos (by omega)] | rw [if_neg (by omega)])); rw [hc]; first | rfl | (show _ ++ outC o (outc O _ _) = _; rw [outc_r (by omega)])) | (exfalso; omega))
      exact W.vret hx hb hr (fun t9 ht9 hW9 => ⟨⟨(), rfl, trivial, by rw [ht9, hEq]; exact hP, by rw [hEq, hAe]; exact hD⟩, hS.F ht9⟩) hS.2.2 dX1_sign_24
