/-! Books: months pass -/
theorem mN_y {T T2 : St} {i u u2 : Int} (h : 0 ≤ i) (hT : T2 = (mN T i.toNat).1) (hu : u2 = u + (mN T i.toNat).2) (c : T2 4 i ≠ 0) : (bil T2 i).1 = (mN T (i + 1).toNat).1 ∧ u2 + (bil T2 i).2 = u + (mN T (i + 1).toNat).2 := by
  rw [mN_s h, if_pos (by rw [← hT]; exact c), ← hT]
  exact ⟨rfl, by rw [hu]; show _ = u + ((mN T i.toNat).2 + (bil T2 i).2); omega⟩
theorem mN_n {T T2 : St} {i u u2 : Int} (h : 0 ≤ i) (hT : T2 = (mN T i.toNat).1) (hu : u2 = u + (mN T i.toNat).2) (c : ¬ T2 4 i ≠ 0) : T2 = (mN T (i + 1).toNat).1 ∧ u2 = u + (mN T (i + 1).toNat).2 := by
  rw [mN_s h, if_neg (by rw [← hT]; exact c)]
  exact ⟨hT, hu⟩
theorem msN_y {S T T2 : St} {k u u2 : Int} (h : 0 ≤ k) (hT : T = (msN S k.toNat).1) (hu : u = (msN S k.toNat).2) (hT2 : T2 = (mN T (T 0 0).toNat).1) (hu2 : u2 = u + (mN T (T 0 0).toNat).2) : upS T2 0 4 (T2 0 4 + 1) = (msN S (k + 1).toNat).1 ∧ u2 = (msN S (k + 1).toNat).2 := by
  rw [msN_s h, ← hT, ← hu]
  exact ⟨by rw [hT2]; rfl, hu2⟩

set_option maxHeartbeats 4000000 in
set_option maxRecDepth 100000 in
/-- BenchBroker$Books.elapse -/
theorem c_elapse (l : Launch) (dg : va_G) (ck : Nat → ClassId) (a : Nat → Nat) (S : St) (o : Nat) (O : Nat → Int) (x : Int) (sz : Nat) {M : Int} (hV : Inv M S) (rg_x : -2147483648 ≤ x ∧ x < 2147483648) : Met l yX1_elapse (.code yX1_elapse cX1_elapse 6 none :: GW) ({ frames := 4, cells := 0, slots := 0, locals := 91 }) (va_Pc [.ref (a 0), .int (zI x), .ref o] (wrP dg ck sz (booksC ck a S ++ (outC o O)))) (va_Qv (fun _ : Unit => True) (fun _ t9 => wrQ dg sz (booksC ck a S ++ (outC o O)) (booksC ck a (elZ S x).2.2 ++ (outC o (outc O (elZ S x).1 (elZ S x).2.1))) t9) (va_A (booksC ck a S ++ (outC o O)) sz)) 0 0 (va_A (booksC ck a S ++ (outC o O)) sz) := by
  refine Met.ofW (cc := cX1_elapse) (maxL := 6) (ret := none) (by decide) rfl ?_
  intro p e s m args below meth c s₁ B hml hv
  obtain ⟨rfl, hsz, hP, hK, hD0⟩ := hv
  have hx := B.exec
  have hb := B.bytes
  have hr := B.returns
  have hts := atoms_spec (ws := .code yX1_elapse cX1_elapse 6 none :: GW) B.pre
  have htg : ∀ w ∈ GW, w.before _ s = true := fun w h => hts w (List.mem_cons_of_mem _ h)
  have hown : s.vm.findClass RX1 = some m.cls := findClass_of_methodNamed B.named
  have hlocks := B.notSynchronized
  subst hsz
  have hD := hD0.self (sz := s.heap.size)
  generalize hAe : va_A (booksC ck a S ++ (outC o O)) s.heap.size = A at hD ⊢
  have hA : ∀ q : Nat, s.heap.size ≤ q → A q := fun q h => by rw [← hAe]; exact Or.inr h
  have hS : va_S A s.heap s.heap [] := va_S.rf
  have hP : va_P dg vwCl (booksC ck a S ++ (outC o O)) s.heap := hP
  have hl := lv_entry ([.ref (a 0), .int (zI x), .ref o]) (n := 6) (Nat.le_of_ble_eq_true rfl)
  rw [lg_entry_eq]
  generalize (lg_sl ([.ref (a 0), .int (zI x), .ref o]) ++ List.replicate (6 - (lg_sl ([.ref (a 0), .int (zI x), .ref o])).length) Slot.unset).toArray = ls at hl ⊢
  have hl : lv_has ls 6 [(0, .ref (a 0)), (1, .int (zI x)), (2, .ref o)] := hl
  have hI := hV.bd
  obtain ⟨b00, b01, b02, b03, b1, b2, b3, b4, b5, b6, b7, b8, b9, b10, b11, b12⟩ := id hI
  refine lv_iload_n hx hb dX1_elapse_0 rfl (lv_at hl 1 rfl) ?_
  refine vp_callSi (W.runS (As := [.int (zI x)]) (rest := []) ⟨hx, hb, hml, hown, htg⟩ (c_isTerm l dg ck x (by omega)) (cwS 1 htg (gwS wq_613 wq_576 wq_2 wq_577) rfl rfl rfl (by decide +kernel) ⟨Nat.le_of_ble_eq_true rfl, Nat.le_of_ble_eq_true rfl⟩) (rd_preS hK va_P_nil) rfl rfl hl.1 rfl (lv_room (Nat.le_of_ble_eq_true rfl)) dX1_elapse_1 ⟨Nat.zero_le _, Nat.zero_le _⟩) (fun r1 hr1 => ?_)
  subst hr1
  refine x_bz_ne (tgt := 12) hx hb dX1_elapse_4 (by decide) (fun c4 => ?_) (fun c4 => ?_)
  · refine x_iconst hx hb dX1_elapse_12 ?_
    refine lv_istore_n (lv' := [(3, .int (zI 0)), (0, .ref (a 0)), (1, .int (zI x)), (2, .ref o)]) hx hb dX1_elapse_13 rfl hl (by decide) rfl (fun ls hl => ?_)
    refine x_iconst hx hb dX1_elapse_14 ?_
    refine lv_istore (lv' := [(4, .int (zI 0)), (3, .int (zI 0)), (0, .ref (a 0)), (1, .int (zI x)), (2, .ref o)]) hx hb dX1_elapse_15 hl (by decide) rfl (fun ls hl => ?_)
    refine x_loopW (ι := St × Int × Int) (fun v => (0 ≤ v.2.2 ∧ v.2.2 ≤ x) ∧ v.1 = (msN S v.2.2.toNat).1 ∧ v.2.1 = (msN S v.2.2.toNat).2) (fun v => (x - v.2.2).toNat) (fun v => [(0, .ref (a 0)), (1, .int (zI x)), (2, .ref o), (3, .int (zI v.2.1)), (4, .int (zI v.2.2))]) (fun v => booksC ck a v.1 ++ (outC o O)) (S, 0, 0) (show (0 ≤ (0 : Int) ∧ (0 : Int) ≤ x) ∧ S = (msN S (0 : Int).toNat).1 ∧ (0 : Int) = (msN S (0 : Int).toNat).2 from ⟨by omega, rfl, rfl⟩) (lv_sub hl [2, 3, 4, 1, 0] rfl) hP hD hS ?_
    intro v hv ih_17 ls H locs hl hP hD hS
    obtain ⟨T, u, k⟩ := v
    have hl : lv_has ls 6 [(0, .ref (a 0)), (1, .int (zI x)), (2, .ref o), (3, .int (zI u)), (4, .int (zI k))] := hl
    have hv : (0 ≤ k ∧ k ≤ x) ∧ T = (msN S k.toNat).1 ∧ u = (msN S k.toNat).2 := hv
    have hP : va_P dg vwCl (booksC ck a T ++ (outC o O)) H := hP
    have hD : va_D A (booksC ck a T ++ (outC o O)) := hD
    obtain ⟨hk, hT, hu⟩ := hv
    have hIT := msN_inv hV k.toNat
    rw [← hT] at hIT
    refine lv_iload hx hb dX1_elapse_17 (lv_at hl 4 rfl) ?_
    refine lv_iload_n hx hb dX1_elapse_19 rfl (lv_at hl 1 rfl) ?_
    refine x_icmp_ge (tgt := 81) hx hb dX1_elapse_20 (by decide) (by omega) (by omega) (fun c20 => ?_) (fun c20 => ?_)
    · refine lv_aload_n hx hb dX1_elapse_81 rfl (lv_at hl 2 rfl) ?_
      refine lv_iload_n hx hb dX1_elapse_82 rfl (lv_at hl 3 rfl) ?_
      refine x_callv (ws' := booksC ck a T ++ (outC o (upO (upO O 0 0) 1 u))) (booksC ck a T) (M := outC o O) (M' := outC o (upO (upO O 0 0) 1 u)) ([]) (by rw [List.append_nil]) (by rw [List.append_nil]) hP hD hS hA (fun hPm hDm => va_runV (As := [.int (zI u)]) (rest := []) ⟨hx, hb, hml, hown, htg⟩ (c_out_succeed l dg ck o O u _ ) (cwV 1 htg (gwV wq_626 wq_627 wq_628 wq_6 wq_629) rfl rfl rfl (by decide +kernel) ⟨Nat.le_of_ble_eq_true rfl, Nat.le_of_ble_eq_true rfl⟩) (wr_preV hK hPm hDm 0 8 rfl rfl) rfl rfl hl.1 rfl (lv_room (Nat.le_of_ble_eq_true rfl)) dX1_elapse_83 ⟨Nat.zero_le _, Nat.zero_le _⟩) (fun H locs hP hD hS => ?_)
      have hEq : booksC ck a (elZ S x).2.2 ++ (outC o (outc O (elZ S x).1 (elZ S x).2.1)) = booksC ck a T ++ (outC o (upO (upO O 0 0) 1 u)) := (by have hc : elZ S x = (0, u, T) := (by unfold elZ; rw [if_neg (by omega), hT, hu, show k = x by omega]); rw [hc]; rfl)
      exact W.vret hx hb hr (fun t9 ht9 hW9 => ⟨⟨(), rfl, trivial, by rw [ht9, hEq]; exact hP, by rw [hEq, hAe]; exact hD⟩, hS.F ht9⟩) hS.2.2 dX1_elapse_86
    · refine x_iconst hx hb dX1_elapse_23 ?_
      refine lv_istore (lv' := [(5, .int (zI 0)), (0, .ref (a 0)), (1, .int (zI x)), (2, .ref o), (3, .int (zI u)), (4, .int (zI k))]) hx hb dX1_elapse_24 hl (by decide) rfl (fun ls hl => ?_)
      refine x_loopW (ι := St × Int × Int) (fun v => (0 ≤ v.2.2 ∧ v.2.2 ≤ S 0 0) ∧ v.1 = (mN T v.2.2.toNat).1 ∧ v.2.1 = u + (mN T v.2.2.toNat).2) (fun v => (S 0 0 - v.2.2).toNat) (fun v => [(0, .ref (a 0)), (1, .int (zI x)), (2, .ref o), (3, .int (zI v.2.1)), (4, .int (zI k)), (5, .int (zI v.2.2))]) (fun v => booksC ck a v.1 ++ (outC o O)) (T, u, 0) (show (0 ≤ (0 : Int) ∧ (0 : Int) ≤ S 0 0) ∧ T = (mN T (0 : Int).toNat).1 ∧ u = u + (mN T (0 : Int).toNat).2 from ⟨by omega, rfl, (Int.add_zero u).symm⟩) (lv_sub hl [1, 2, 3, 4, 5, 0] rfl) hP hD hS ?_
      intro v hv ih_26 ls H locs hl hP hD hS
      obtain ⟨T2, u2, i⟩ := v
      have hl : lv_has ls 6 [(0, .ref (a 0)), (1, .int (zI x)), (2, .ref o), (3, .int (zI u2)), (4, .int (zI k)), (5, .int (zI i))] := hl
      have hv : (0 ≤ i ∧ i ≤ S 0 0) ∧ T2 = (mN T i.toNat).1 ∧ u2 = u + (mN T i.toNat).2 := hv
      have hP : va_P dg vwCl (booksC ck a T2 ++ (outC o O)) H := hP
      have hD : va_D A (booksC ck a T2 ++ (outC o O)) := hD
      obtain ⟨hi, hT2, hu2⟩ := hv
      have hm := mN_inv hIT.1 i.toNat
      rw [← hT2] at hm
      have hB2 := hm.1.bd
      have hn2 := hm.2.trans hIT.2
      have hbr := bil_r T2 i
      refine lv_iload hx hb dX1_elapse_26 (lv_at hl 5 rfl) ?_
      refine lv_aload_n hx hb dX1_elapse_28 rfl (lv_at hl 0 rfl) ?_
      refine va_get (D := dg) (ci := 4) (v := .ref (a 6)) (C := RX1) (T := TX1) (N := 13) hx hb htg inG_X1 hown hK hP 0 rfl rfl 0 (Nat.le_of_ble_eq_true rfl) (htg _ wq_106) (fun _ h9 => h9) rfl dX1_elapse_29 ?_
      refine va_get (D := dg) (ci := 9) (v := .int (zI (T2 0 0))) (C := RX6) (T := TX6) (N := 10) hx hb htg inG_X6 hown hK hP 6 rfl rfl 0 (Nat.le_of_ble_eq_true rfl) (htg _ wq_55) (fun _ h9 => h9) rfl dX1_elapse_32 ?_
      refine x_icmp_ge (tgt := 65) hx hb dX1_elapse_35 (by decide) (by omega) (by omega) (fun c35 => ?_) (fun c35 => ?_)
      · refine lv_aload_n hx hb dX1_elapse_65 rfl (lv_at hl 0 rfl) ?_
        refine lv_dup hx hb dX1_elapse_66 rfl ?_
        refine va_get (D := dg) (ci := 4) (v := .int (zI (T2 0 4))) (C := RX1) (T := TX1) (N := 13) hx hb htg inG_X1 hown hK hP 0 rfl rfl 7 (Nat.le_of_ble_eq_true rfl) (htg _ wq_120) (fun _ h9 => h9) rfl dX1_elapse_67 ?_
        refine x_iconst hx hb dX1_elapse_70 ?_
        refine x_iadd hx hb dX1_elapse_71 ?_
        refine va_put (D := dg) (ci := 4) (v := .int (zI ((T2 0 4) + 1))) (ty := .int) (C := RX1) (T := TX1) (N := 13) hx hb htg inG_X1 tyX1 tyX1_ok nmX1 hown hK hP hD hS 0 rfl rfl 7 (Nat.le_of_ble_eq_true rfl) (htg _ wq_120) (fun _ h9 => h9) rfl (by decide +kernel) rfl rfl (Nat.le_of_ble_eq_true rfl) dX1_elapse_72 (fun H locs hP hD hS => ?_)
        have hP : va_P dg vwCl (booksC ck a (upS T2 0 4 ((T2 0 4) + 1)) ++ (outC o O)) H := hP
        have hD : va_D A (booksC ck a (upS T2 0 4 ((T2 0 4) + 1)) ++ (outC o O)) := hD
        obtain ⟨v75, e_v75⟩ : ∃ y : Int, y = k + 1 := ⟨_, rfl⟩
        refine lv_iinc (v := zI v75) (lv' := [(4, .int (zI v75)), (0, .ref (a 0)), (1, .int (zI x)), (2, .ref o), (3, .int (zI u2)), (5, .int (zI i))]) hx hb dX1_elapse_75 hl (k := 4) rfl (by rw [e_v75]; exact zI_add _ _) (by decide) rfl (fun ls hl => ?_)
        refine lv_goto (tgt := 17) hx hb dX1_elapse_78 (by decide) ?_
        exact ih_17 ((upS T2 0 4 ((T2 0 4) + 1)), u2, v75) (show (0 ≤ v75 ∧ v75 ≤ x) ∧ (upS T2 0 4 ((T2 0 4) + 1)) = (msN S v75.toNat).1 ∧ u2 = (msN S v75.toNat).2 from (by have hA1 : T2 = (mN T (T 0 0).toNat).1 := (by rw [hIT.2, hT2, show i = S 0 0 by omega]); have hA2 : u2 = u + (mN T (T 0 0).toNat).2 := (by rw [hIT.2, hu2, show i = S 0 0 by omega]); have h9 := msN_y hk.1 hT hu hA1 hA2; rw [← e_v75] at h9; exact ⟨by omega, h9.1, h9.2⟩)) (show (x - v75).toNat < (x - k).toNat from by omega) ls H locs (lv_sub hl [1, 2, 3, 4, 0] rfl) hP hD hS
      · refine lv_aload_n hx hb dX1_elapse_38 rfl (lv_at hl 0 rfl) ?_
        refine lv_iload hx hb dX1_elapse_39 (lv_at hl 5 rfl) ?_
        refine vp_callSi (W.runV (As := [.int (zI i)]) (rest := []) ⟨hx, hb, hml, hown, htg⟩ (c_leased l dg ck a T2 i hB2 (by omega)) (cwV 1 htg (gwV wq_515 wq_516 wq_517 wq_2 wq_518) rfl rfl rfl (by decide +kernel) ⟨Nat.le_of_ble_eq_true rfl, Nat.le_of_ble_eq_true rfl⟩) (rd_preV hK (va_P_l hP) 0 4 rfl rfl) rfl rfl hl.1 rfl (lv_room (Nat.le_of_ble_eq_true rfl)) dX1_elapse_41 ⟨Nat.zero_le _, Nat.zero_le _⟩) (fun r41 hr41 => ?_)
        subst hr41
        refine x_bz_eq (tgt := 59) hx hb dX1_elapse_44 (by decide) (fun c44 => ?_) (fun c44 => ?_)
        · obtain ⟨v59, e_v59⟩ : ∃ y : Int, y = i + 1 := ⟨_, rfl⟩
          refine lv_iinc (v := zI v59) (lv' := [(5, .int (zI v59)), (0, .ref (a 0)), (1, .int (zI x)), (2, .ref o), (3, .int (zI u2)), (4, .int (zI k))]) hx hb dX1_elapse_59 hl (k := 5) rfl (by rw [e_v59]; exact zI_add _ _) (by decide) rfl (fun ls hl => ?_)
          refine lv_goto (tgt := 26) hx hb dX1_elapse_62 (by decide) ?_
          exact ih_26 (T2, u2, v59) (show (0 ≤ v59 ∧ v59 ≤ S 0 0) ∧ T2 = (mN T v59.toNat).1 ∧ u2 = u + (mN T v59.toNat).2 from (by rw [e_v59]; first | (have h9 := mN_y hi.1 hT2 hu2 c44; exact ⟨by omega, h9.1, by omega⟩) | (have h9 := mN_n hi.1 hT2 hu2 c44; exact ⟨by omega, h9.1, h9.2⟩))) (show (S 0 0 - v59).toNat < (S 0 0 - i).toNat from by omega) ls H locs (lv_sub hl [1, 2, 3, 4, 5, 0] rfl) hP hD hS
        · refine lv_aload_n hx hb dX1_elapse_47 rfl (lv_at hl 0 rfl) ?_
          refine lv_iload hx hb dX1_elapse_48 (lv_at hl 5 rfl) ?_
          refine x_calli (ws' := booksC ck a (bil T2 i).1 ++ (outC o O)) [] (M := booksC ck a T2) (M' := booksC ck a (bil T2 i).1) (outC o O) rfl rfl hP hD hS hA (fun hPm hDm => va_runV (As := [.int (zI i)]) (rest := []) ⟨hx, hb, hml, hown, htg⟩ (c_endsThisMonth l dg ck a T2 i _ hB2 (by omega) c44) (cwV 1 htg (gwV wq_618 wq_620 wp_6 wq_2 wq_621) rfl rfl rfl (by decide +kernel) ⟨Nat.le_of_ble_eq_true rfl, Nat.le_of_ble_eq_true rfl⟩) (wr_preV hK hPm hDm 0 4 rfl rfl) rfl rfl hl.1 rfl (lv_room (Nat.le_of_ble_eq_true rfl)) dX1_elapse_50 ⟨Nat.zero_le _, Nat.zero_le _⟩) (fun r50 H locs hr50 hP hD hS => ?_)
          subst hr50
          refine x_if_eq (tgt := 59) hx hb dX1_elapse_53 (by decide) (by omega) (fun c53 => ?_) (fun c53 => ?_)
          · obtain ⟨v59, e_v59⟩ : ∃ y : Int, y = i + 1 := ⟨_, rfl⟩
            refine lv_iinc (v := zI v59) (lv' := [(5, .int (zI v59)), (0, .ref (a 0)), (1, .int (zI x)), (2, .ref o), (3, .int (zI u2)), (4, .int (zI k))]) hx hb dX1_elapse_59 hl (k := 5) rfl (by rw [e_v59]; exact zI_add _ _) (by decide) rfl (fun ls hl => ?_)
            refine lv_goto (tgt := 26) hx hb dX1_elapse_62 (by decide) ?_
            exact ih_26 ((bil T2 i).1, u2, v59) (show (0 ≤ v59 ∧ v59 ≤ S 0 0) ∧ (bil T2 i).1 = (mN T v59.toNat).1 ∧ u2 = u + (mN T v59.toNat).2 from (by rw [e_v59]; first | (have h9 := mN_y hi.1 hT2 hu2 c44; exact ⟨by omega, h9.1, by omega⟩) | (have h9 := mN_n hi.1 hT2 hu2 c44; exact ⟨by omega, h9.1, h9.2⟩))) (show (S 0 0 - v59).toNat < (S 0 0 - i).toNat from by omega) ls H locs (lv_sub hl [1, 2, 3, 4, 5, 0] rfl) hP hD hS
          · obtain ⟨v56, e_v56⟩ : ∃ y : Int, y = u2 + 1 := ⟨_, rfl⟩
            refine lv_iinc (v := zI v56) (lv' := [(3, .int (zI v56)), (0, .ref (a 0)), (1, .int (zI x)), (2, .ref o), (4, .int (zI k)), (5, .int (zI i))]) hx hb dX1_elapse_56 hl (k := 3) rfl (by rw [e_v56]; exact zI_add _ _) (by decide) rfl (fun ls hl => ?_)
            obtain ⟨v59, e_v59⟩ : ∃ y : Int, y = i + 1 := ⟨_, rfl⟩
            refine lv_iinc (v := zI v59) (lv' := [(5, .int (zI v59)), (3, .int (zI v56)), (0, .ref (a 0)), (1, .int (zI x)), (2, .ref o), (4, .int (zI k))]) hx hb dX1_elapse_59 hl (k := 5) rfl (by rw [e_v59]; exact zI_add _ _) (by decide) rfl (fun ls hl => ?_)
            refine lv_goto (tgt := 26) hx hb dX1_elapse_62 (by decide) ?_
            exact ih_26 ((bil T2 i).1, v56, v59) (show (0 ≤ v59 ∧ v59 ≤ S 0 0) ∧ (bil T2 i).1 = (mN T v59.toNat).1 ∧ v56 = u + (mN T v59.toNat).2 from (by rw [e_v59]; first | (have h9 := mN_y hi.1 hT2 hu2 c44; exact ⟨by omega, h9.1, by omega⟩) | (have h9 := mN_n hi.1 hT2 hu2 c44; exact ⟨by omega, h9.1, h9.2⟩))) (show (S 0 0 - v59).toNat < (S 0 0 - i).toNat from by omega) ls H locs (lv_sub hl [2, 3, 4, 1, 5, 0] rfl) hP hD hS
  · refine lv_aload_n hx hb dX1_elapse_7 rfl (lv_at hl 2 rfl) ?_
    refine x_callv (ws' := booksC ck a S ++ (outC o (upO O 0 2))) (booksC ck a S) (M := outC o O) (M' := outC o (upO O 0 2)) ([]) (by rw [List.append_nil]) (by rw [List.append_nil]) hP hD hS hA (fun hPm hDm => va_runV (As := []) (rest := []) ⟨hx, hb, hml, hown, htg⟩ (c_out_missNumber l dg ck o O _ ) (cwV 0 htg (gwV wq_614 wq_615 wq_616 wq_6 wq_617) rfl rfl rfl (by decide +kernel) ⟨Nat.le_of_ble_eq_true rfl, Nat.le_of_ble_eq_true rfl⟩) (wr_preV hK hPm hDm 0 8 rfl rfl) rfl rfl hl.1 rfl (lv_room (Nat.le_of_ble_eq_true rfl)) dX1_elapse_8 ⟨Nat.zero_le _, Nat.zero_le _⟩) (fun H locs hP hD hS => ?_)
    have hEq : booksC ck a (elZ S x).2.2 ++ (outC o (outc O (elZ S x).1 (elZ S x).2.1)) = booksC ck a S ++ (outC o (upO O 0 2)) := (by have hc : elZ S x = (-2, 0, S) := (by unfold elZ; rw [if_pos (by omega)]); rw [hc]; rfl)
    exact W.vret hx hb hr (fun t9 ht9 hW9 => ⟨⟨(), rfl, trivial, by rw [ht9, hEq]; exact hP, by rw [hEq, hAe]; exact hD⟩, hS.F ht9⟩) hS.2.2 dX1_elapse_11

set_option maxHeartbeats 4000000 in
set_option maxRecDepth 100000 in
/-- BenchBroker$Park.toggle -/
theorem c_toggle (l : Launch) (dg : va_G) (ck : Nat → ClassId) (a : Nat → Nat) (S : St) (o : Nat) (O : Nat → Int) (f : Int) (sz : Nat) (hI : Bd S) (rg_f : -2147483648 ≤ f ∧ f < 2147483648) : Met l yX6_toggle (.code yX6_toggle cX6_toggle 3 none :: GW) ({ frames := 1, cells := 0, slots := 0, locals := 21 }) (va_Pc [.ref (a 0), .int (zI f), .ref o] (wrP dg ck sz (parkC ck a S ++ (outC o O)))) (va_Qv (fun _ : Unit => True) (fun _ t9 => wrQ dg sz (parkC ck a S ++ (outC o O)) (parkC ck a (tgZ S f).2.2 ++ (outC o (outc O (tgZ S f).1 (tgZ S f).2.1))) t9) (va_A (parkC ck a S ++ (outC o O)) sz)) 0 0 (va_A (parkC ck a S ++ (outC o O)) sz) := by
  refine Met.ofW (cc := cX6_toggle) (maxL := 3) (ret := none) (by decide) rfl ?_
  intro p e s m args below meth c s₁ B hml hv
  obtain ⟨rfl, hsz, hP, hK, hD0⟩ := hv
  have hx := B.exec
  have hb := B.bytes
  have hr := B.returns
  have hts := atoms_spec (ws := .code yX6_toggle cX6_toggle 3 none :: GW) B.pre
  have htg : ∀ w ∈ GW, w.before _ s = true := fun w h => hts w (List.mem_cons_of_mem _ h)
  have hown : s.vm.findClass RX6 = some m.cls := findClass_of_methodNamed B.named
  have hlocks := B.notSynchronized
  subst hsz
  have hD := hD0.self (sz := s.heap.size)
  generalize hAe : va_A (parkC ck a S ++ (outC o O)) s.heap.size = A at hD ⊢
  have hA : ∀ q : Nat, s.heap.size ≤ q → A q := fun q h => by rw [← hAe]; exact Or.inr h
  have hS : va_S A s.heap s.heap [] := va_S.rf
  have hP : va_P dg vwCl (parkC ck a S ++ (outC o O)) s.heap := hP
  have hl := lv_entry ([.ref (a 0), .int (zI f), .ref o]) (n := 3) (Nat.le_of_ble_eq_true rfl)
  rw [lg_entry_eq]
  generalize (lg_sl ([.ref (a 0), .int (zI f), .ref o]) ++ List.replicate (3 - (lg_sl ([.ref (a 0), .int (zI f), .ref o])).length) Slot.unset).toArray = ls at hl ⊢
  have hl : lv_has ls 3 [(0, .ref (a 0)), (1, .int (zI f)), (2, .ref o)] := hl
  obtain ⟨b00, b01, b02, b03, b1, b2, b3, b4, b5, b6, b7, b8, b9, b10, b11, b12⟩ := id hI
  have h10 := b10 f
  refine lv_aload_n hx hb dX6_toggle_0 rfl (lv_at hl 0 rfl) ?_
  refine lv_iload_n hx hb dX6_toggle_1 rfl (lv_at hl 1 rfl) ?_
  refine vp_callSi (W.runV (As := [.int (zI f)]) (rest := []) ⟨hx, hb, hml, hown, htg⟩ (c_hasFountain l dg ck a S f hI (by omega)) (cwV 1 htg (gwV wq_765 wq_766 wq_767 wq_3 wq_768) rfl rfl rfl (by decide +kernel) ⟨Nat.le_of_ble_eq_true rfl, Nat.le_of_ble_eq_true rfl⟩) (rd_preV hK (va_P_l hP) 0 9 rfl rfl) rfl rfl hl.1 rfl (lv_room (Nat.le_of_ble_eq_true rfl)) dX6_toggle_2 ⟨Nat.zero_le _, Nat.zero_le _⟩) (fun r2 hr2 => ?_)
  subst hr2
  refine x_bz_ne (tgt := 15) hx hb dX6_toggle_5 (by decide) (fun c5 => ?_) (fun c5 => ?_)
  · refine lv_aload_n hx hb dX6_toggle_15 rfl (lv_at hl 0 rfl) ?_
    refine va_get (D := dg) (ci := 9) (v := .ref (a 7)) (C := RX6) (T := TX6) (N := 10) hx hb htg inG_X6 hown hK hP 0 rfl rfl 8 (Nat.le_of_ble_eq_true rfl) (htg _ wq_75) (fun _ h9 => h9) rfl dX6_toggle_16 ?_
    refine lv_iload_n hx hb dX6_toggle_19 rfl (lv_at hl 1 rfl) ?_
    refine lv_aload_n hx hb dX6_toggle_20 rfl (lv_at hl 0 rfl) ?_
    refine va_get (D := dg) (ci := 9) (v := .ref (a 7)) (C := RX6) (T := TX6) (N := 10) hx hb htg inG_X6 hown hK hP 0 rfl rfl 8 (Nat.le_of_ble_eq_true rfl) (htg _ wq_75) (fun _ h9 => h9) rfl dX6_toggle_21 ?_
    refine lv_iload_n hx hb dX6_toggle_24 rfl (lv_at hl 1 rfl) ?_
    refine x_zald hx hb hK hP 7 1 (S 10) rfl rfl (fun _ => rfl) (P := fun y => 0 ≤ y ∧ y ≤ 1) b10 (by decide) (by omega) dX6_toggle_25 (fun g25 => ?_)
    refine x_if_ne (tgt := 33) hx hb dX6_toggle_26 (by decide) (by omega) (fun c26 => ?_) (fun c26 => ?_)
    · refine x_iconst hx hb dX6_toggle_33 ?_
      refine x_zast (ws' := parkC ck a (upS S 10 f 0) ++ (outC o O)) hx hb hK hP hD hS 7 1 rfl rfl (by decide) (by omega) (by omega) (by rw [ar_up (by omega)]; rfl) dX6_toggle_34 (fun H locs hP hD hS => ?_)
      refine lv_aload_n hx hb dX6_toggle_35 rfl (lv_at hl 2 rfl) ?_
      refine lv_aload_n hx hb dX6_toggle_36 rfl (lv_at hl 0 rfl) ?_
      refine va_get (D := dg) (ci := 9) (v := .ref (a 7)) (C := RX6) (T := TX6) (N := 10) hx hb htg inG_X6 hown hK hP 0 rfl rfl 8 (Nat.le_of_ble_eq_true rfl) (htg _ wq_75) (fun _ h9 => h9) rfl dX6_toggle_37 ?_
      refine lv_iload_n hx hb dX6_toggle_40 rfl (lv_at hl 1 rfl) ?_
      refine x_zald hx hb hK hP 7 1 ((upS S 10 f 0) 10) rfl rfl (fun _ => rfl) (P := fun y => True) (fun _ => trivial) (by decide) (by omega) dX6_toggle_41 (fun g41 => ?_)
      refine x_is upS_s ?_
      refine x_if_eq (tgt := 49) hx hb dX6_toggle_42 (by decide) (by omega) (fun c42 => ?_) (fun c42 => absurd c42 (by decide))
      refine x_iconst hx hb dX6_toggle_49 ?_
      refine x_callv (ws' := parkC ck a (upS S 10 f 0) ++ (outC o (upO (upO O 0 0) 1 0))) (parkC ck a (upS S 10 f 0)) (M := outC o O) (M' := outC o (upO (upO O 0 0) 1 0)) ([]) (by rw [List.append_nil]) (by rw [List.append_nil]) hP hD hS hA (fun hPm hDm => va_runV (As := [.int (zI 0)]) (rest := []) ⟨hx, hb, hml, hown, htg⟩ (c_out_succeed l dg ck o O 0 _ ) (cwV 1 htg (gwV wq_684 wq_627 wq_628 wq_6 wq_629) rfl rfl rfl (by decide +kernel) ⟨Nat.le_of_ble_eq_true rfl, Nat.le_of_ble_eq_true rfl⟩) (wr_preV hK hPm hDm 0 8 rfl rfl) rfl rfl hl.1 rfl (lv_room (Nat.le_of_ble_eq_true rfl)) dX6_toggle_50 ⟨Nat.zero_le _, Nat.zero_le _⟩) (fun H locs hP hD hS => ?_)
      have hEq : parkC ck a (tgZ S f).2.2 ++ (outC o (outc O (tgZ S f).1 (tgZ S f).2.1)) = parkC ck a (upS S 10 f 0) ++ (outC o (upO (upO O 0 0) 1 0)) := (by first | (exfalso; omega) | (have hc : tgZ S f = (0, 0, (upS S 10 f 0)) := (by unfold tgZ; rw [if_neg (by omega), show 1 - S 10 f = 0 by omega]); rw [hc]; rfl))
      exact W.vret hx hb hr (fun t9 ht9 hW9 => ⟨⟨(), rfl, trivial, by rw [ht9, hEq]; exact hP, by rw [hEq, hAe]; exact hD⟩, hS.F ht9⟩) hS.2.2 dX6_toggle_53
    · refine x_iconst hx hb dX6_toggle_29 ?_
      refine lv_goto (tgt := 34) hx hb dX6_toggle_30 (by decide) ?_
      refine x_zast (ws' := parkC ck a (upS S 10 f 1) ++ (outC o O)) hx hb hK hP hD hS 7 1 rfl rfl (by decide) (by omega) (by omega) (by rw [ar_up (by omega)]; rfl) dX6_toggle_34 (fun H locs hP hD hS => ?_)
      refine lv_aload_n hx hb dX6_toggle_35 rfl (lv_at hl 2 rfl) ?_
      refine lv_aload_n hx hb dX6_toggle_36 rfl (lv_at hl 0 rfl) ?_
      refine va_get (D := dg) (ci := 9) (v := .ref (a 7)) (C := RX6) (T := TX6) (N := 10) hx hb htg inG_X6 hown hK hP 0 rfl rfl 8 (Nat.le_of_ble_eq_true rfl) (htg _ wq_75) (fun _ h9 => h9) rfl dX6_toggle_37 ?_
      refine lv_iload_n hx hb dX6_toggle_40 rfl (lv_at hl 1 rfl) ?_
      refine x_zald hx hb hK hP 7 1 ((upS S 10 f 1) 10) rfl rfl (fun _ => rfl) (P := fun y => True) (fun _ => trivial) (by decide) (by omega) dX6_toggle_41 (fun g41 => ?_)
      refine x_is upS_s ?_
      refine x_if_eq (tgt := 49) hx hb dX6_toggle_42 (by decide) (by omega) (fun c42 => absurd c42 (by decide)) (fun c42 => ?_)
      refine x_iconst hx hb dX6_toggle_45 ?_
      refine lv_goto (tgt := 50) hx hb dX6_toggle_46 (by decide) ?_
      refine x_callv (ws' := parkC ck a (upS S 10 f 1) ++ (outC o (upO (upO O 0 0) 1 1))) (parkC ck a (upS S 10 f 1)) (M := outC o O) (M' := outC o (upO (upO O 0 0) 1 1)) ([]) (by rw [List.append_nil]) (by rw [List.append_nil]) hP hD hS hA (fun hPm hDm => va_runV (As := [.int (zI 1)]) (rest := []) ⟨hx, hb, hml, hown, htg⟩ (c_out_succeed l dg ck o O 1 _ ) (cwV 1 htg (gwV wq_684 wq_627 wq_628 wq_6 wq_629) rfl rfl rfl (by decide +kernel) ⟨Nat.le_of_ble_eq_true rfl, Nat.le_of_ble_eq_true rfl⟩) (wr_preV hK hPm hDm 0 8 rfl rfl) rfl rfl hl.1 rfl (lv_room (Nat.le_of_ble_eq_true rfl)) dX6_toggle_50 ⟨Nat.zero_le _, Nat.zero_le _⟩) (fun H locs hP hD hS => ?_)
      have hEq : parkC ck a (tgZ S f).2.2 ++ (outC o (outc O (tgZ S f).1 (tgZ S f).2.1)) = parkC ck a (upS S 10 f 1) ++ (outC o (upO (upO O 0 0) 1 1)) := (by first | (exfalso; omega) | (have hc : tgZ S f = (0, 1, (upS S 10 f 1)) := (by unfold tgZ; rw [if_neg (by omega), show 1 - S 10 f = 1 by omega]); rw [hc]; rfl))
      exact W.vret hx hb hr (fun t9 ht9 hW9 => ⟨⟨(), rfl, trivial, by rw [ht9, hEq]; exact hP, by rw [hEq, hAe]; exact hD⟩, hS.F ht9⟩) hS.2.2 dX6_toggle_53
  · refine lv_aload_n hx hb dX6_toggle_8 rfl (lv_at hl 2 rfl) ?_
    refine x_callv (ws' := parkC ck a S ++ (outC o (upO O 0 1))) (parkC ck a S) (M := outC o O) (M' := outC o (upO O 0 1)) ([]) (by rw [List.append_nil]) (by rw [List.append_nil]) hP hD hS hA (fun hPm hDm => va_runV (As := []) (rest := []) ⟨hx, hb, hml, hown, htg⟩ (c_out_missIndex l dg ck o O _ ) (cwV 0 htg (gwV wq_671 wq_672 wq_673 wq_6 wq_674) rfl rfl rfl (by decide +kernel) ⟨Nat.le_of_ble_eq_true rfl, Nat.le_of_ble_eq_true rfl⟩) (wr_preV hK hPm hDm 0 8 rfl rfl) rfl rfl hl.1 rfl (lv_room (Nat.le_of_ble_eq_true rfl)) dX6_toggle_9 ⟨Nat.zero_le _, Nat.zero_le _⟩) (fun H locs hP hD hS => ?_)
    refine lv_goto (tgt := 53) hx hb dX6_toggle_12 (by decide) ?_
    have hEq : parkC ck a (tgZ S f).2.2 ++ (outC o (outc O (tgZ S f).1 (tgZ S f).2.1)) = parkC ck a S ++ (outC o (upO O 0 1)) := (by have hc : tgZ S f = (-1, 0, S) := (by unfold tgZ; rw [if_pos (by omega)]); rw [hc]; rfl)
    exact W.vret hx hb hr (fun t9 ht9 hW9 => ⟨⟨(), rfl, trivial, by rw [ht9, hEq]; exact hP, by rw [hEq, hAe]; exact hD⟩, hS.F ht9⟩) hS.2.2 dX6_toggle_53
