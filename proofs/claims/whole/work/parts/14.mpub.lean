/-! the reference: months, what is remembered, ends of acts -/
/-- the history with another row behind it -/
def k1Z (k : Int) : Int := if k = 8 then 8 else k + 1
def shZ (F : Int → Int) (k : Int) : Int → Int := fun j => if j < k then F (j + 102) else F j
def bsZ (F3 : Int → Int) (k : Int) : Int → Int := if k = 8 then shZ F3 714 else F3
def inZ (F G : Int → Int) (o k : Int) : Int → Int := fun j => if o ≤ j ∧ j < o + k then G (j - o) else F j
def hiZ (F3 F1 : Int → Int) (k : Int) : Int → Int := inZ (bsZ F3 k) F1 (102 * (k1Z k - 1)) 102
theorem sh_0 (F : Int → Int) (j : Nat) : zz F j = zz (shZ F 0) j := by
  unfold zz shZ
  rw [if_neg (by omega)]
theorem sh_put {F : Int → Int} {k : Int} (hk : 0 ≤ k) (j : Nat) (hj : j < 816) : upd (zz (shZ F k)) k.toNat (zI (shZ F k (k + 102))) j = zz (shZ F (k + 1)) j := by
  unfold upd zz shZ
  by_cases h : j = k.toNat
  · rw [if_pos h, if_neg (by omega), if_pos (by omega), show (j : Int) = k by omega]
  · rw [if_neg h]
    by_cases h2 : (j : Int) < k
    · rw [if_pos h2, if_pos (by omega)]
    · rw [if_neg h2, if_neg (by omega)]
theorem in_0 (F G : Int → Int) (o : Int) (j : Nat) : zz F j = zz (inZ F G o 0) j := by
  unfold zz inZ
  rw [if_neg (by omega)]
theorem in_put {F G : Int → Int} {o k : Int} (ho : 0 ≤ o) (hk : 0 ≤ k) (j : Nat) (hj : j < 816) : upd (zz (inZ F G o k)) (o + k).toNat (zI (G k)) j = zz (inZ F G o (k + 1)) j := by
  unfold upd zz inZ
  by_cases h : j = (o + k).toNat
  · rw [if_pos h, if_pos (by omega), show (j : Int) - o = k by omega]
  · rw [if_neg h]
    by_cases h2 : o ≤ (j : Int) ∧ (j : Int) < o + k
    · rw [if_pos h2, if_pos (by omega)]
    · rw [if_neg h2, if_neg (by omega)]
theorem va_P_eq {D : va_G} {cl : List vw_C} {ws ws' : va_W} {H : Heap} (h : ws' = ws) (hP : va_P D cl ws H) : va_P D cl ws' H := h ▸ hP
theorem va_D_eq {A : Nat → Prop} {ws ws' : va_W} (h : ws' = ws) (hD : va_D A ws) : va_D A ws' := h ▸ hD
theorem upS_id {S : St} {k : Nat} {i v : Int} (h : v = S k i) : upS S k i v = S := by
  funext k' j
  unfold upS
  by_cases e : k' = k ∧ j = i
  · rw [if_pos e, e.1, e.2, h]
  · rw [if_neg e]
theorem k1Z_r {k : Int} (h : 0 ≤ k ∧ k ≤ 8) : 1 ≤ k1Z k ∧ k1Z k ≤ 8 := by
  unfold k1Z
  split <;> omega
theorem mix_p {f g : Int → Int} {k : Int} (hk : 0 ≤ k) (j : Nat) (_ : j < 102) : upd (zz (mixZ k f g)) k.toNat (zI (f k)) j = zz (mixZ (k + 1) f g) j := congrFun (mix_s hk) j
/-- the end of an act with the result c -/
def endR (M : St) (c : Int) : Int := if c = 0 then M 8 10 else 0
def endF (F3 F1 : Int → Int) (M : St) (c : Int) : Int → Int := if c = 0 then hiZ F3 F1 (M 8 1) else F3
def endM (M : St) (c d : Int) : St := if c = 0 then upS M 8 1 (k1Z (M 8 1)) else if c < 0 then upS M 8 0 (-c) else upS (upS (upS (upS M 8 6 c) 8 7 (M 8 9)) 8 8 0) 8 0 d

set_option maxHeartbeats 4000000 in
set_option maxRecDepth 100000 in
/-- BenchBrokerModel.passes -/
theorem m_passes (l : Launch) (dg : va_G) (ck : Nat → ClassId) (mo : Nat → Nat) (S : St) (F1 F2 F3 F4 : Int → Int) (M : St) (x : Int) (sz : Nat) {Mx : Int} (hV : Inv Mx S) (rg_x : -2147483648 ≤ x ∧ x < 2147483648) : Met l yX9_passes (.code yX9_passes cX9_passes 5 (some .int) :: GW) ({ frames := 5, cells := 0, slots := 0, locals := 113 }) (va_Pc [.ref (mo 0), .int (zI x)] (wrP dg ck sz (modelC ck mo (encZ S) F1 F2 F3 F4 M))) (va_Qi (fun r (_ : Unit) => r = zI (mcd (elZ S x).1)) (fun _ t9 => wrQ dg sz (modelC ck mo (encZ S) F1 F2 F3 F4 M) (modelC ck mo (encZ (elZ S x).2.2) F1 F2 F3 F4 (mAns M (elZ S x).1 (elZ S x).2.1)) t9) (va_A (modelC ck mo (encZ S) F1 F2 F3 F4 M) sz)) 0 0 (va_A (modelC ck mo (encZ S) F1 F2 F3 F4 M) sz) := by
  refine Met.ofW (cc := cX9_passes) (maxL := 5) (ret := (some .int)) (by decide) rfl ?_
  intro p e s m args below meth c s₁ B hml hv
  obtain ⟨rfl, hsz, hP, hK, hD0⟩ := hv
  have hx := B.exec
  have hb := B.bytes
  have hr := B.returns
  have hts := atoms_spec (ws := .code yX9_passes cX9_passes 5 (some .int) :: GW) B.pre
  have htg : ∀ w ∈ GW, w.before _ s = true := fun w h => hts w (List.mem_cons_of_mem _ h)
  have hown : s.vm.findClass RX9 = some m.cls := findClass_of_methodNamed B.named
  have hlocks := B.notSynchronized
  subst hsz
  have hD := hD0.self (sz := s.heap.size)
  generalize hAe : va_A (modelC ck mo (encZ S) F1 F2 F3 F4 M) s.heap.size = A at hD ⊢
  have hA : ∀ q : Nat, s.heap.size ≤ q → A q := fun q h => by rw [← hAe]; exact Or.inr h
  have hS : va_S A s.heap s.heap [] := va_S.rf
  have hP : va_P dg vwCl (modelC ck mo (encZ S) F1 F2 F3 F4 M) s.heap := hP
  have hl := lv_entry ([.ref (mo 0), .int (zI x)]) (n := 5) (Nat.le_of_ble_eq_true rfl)
  rw [lg_entry_eq]
  generalize (lg_sl ([.ref (mo 0), .int (zI x)]) ++ List.replicate (5 - (lg_sl ([.ref (mo 0), .int (zI x)])).length) Slot.unset).toArray = ls at hl ⊢
  have hl : lv_has ls 5 [(0, .ref (mo 0)), (1, .int (zI x))] := hl
  have hI := hV.bd
  obtain ⟨b00, b01, b02, b03, b1, b2, b3, b4, b5, b6, b7, b8, b9, b10, b11, b12⟩ := id hI
  refine lv_iload_n hx hb dX9_passes_0 rfl (lv_at hl 1 rfl) ?_
  refine x_iconst hx hb dX9_passes_1 ?_
  refine x_bipush hx hb dX9_passes_2 (by decide) ?_
  refine vp_callSi (W.runS (As := [.int (zI x), .int (zI 1), .int (zI 12)]) (rest := []) ⟨hx, hb, hml, hown, htg⟩ (m_in l dg ck x 1 12 (by omega) (by omega) (by omega)) (cwS 3 htg (gwS wq_1646 wq_1647 wq_15 wq_1648) rfl rfl rfl (by decide +kernel) ⟨Nat.le_of_ble_eq_true rfl, Nat.le_of_ble_eq_true rfl⟩) (rd_preS hK va_P_nil) rfl rfl hl.1 rfl (lv_room (Nat.le_of_ble_eq_true rfl)) dX9_passes_4 ⟨Nat.zero_le _, Nat.zero_le _⟩) (fun r4 hr4 => ?_)
  subst hr4
  refine x_bz_ne (tgt := 12) hx hb dX9_passes_7 (by decide) (fun c7 => ?_) (fun c7 => ?_)
  · refine x_iconst hx hb dX9_passes_12 ?_
    refine lv_istore_n (lv' := [(2, .int (zI 0)), (0, .ref (mo 0)), (1, .int (zI x))]) hx hb dX9_passes_13 rfl hl (by decide) rfl (fun ls hl => ?_)
    refine x_iconst hx hb dX9_passes_14 ?_
    refine lv_istore_n (lv' := [(3, .int (zI 0)), (2, .int (zI 0)), (0, .ref (mo 0)), (1, .int (zI x))]) hx hb dX9_passes_15 rfl hl (by decide) rfl (fun ls hl => ?_)
    refine x_loopW (ι := St × Int × Int) (fun v => (0 ≤ v.2.2 ∧ v.2.2 ≤ x) ∧ v.1 = (msN S v.2.2.toNat).1 ∧ v.2.1 = (msN S v.2.2.toNat).2) (fun v => (x - v.2.2).toNat) (fun v => [(0, .ref (mo 0)), (1, .int (zI x)), (2, .int (zI v.2.1)), (3, .int (zI v.2.2))]) (fun v => modelC ck mo (encZ v.1) F1 F2 F3 F4 M) (S, 0, 0) (show (0 ≤ (0 : Int) ∧ (0 : Int) ≤ x) ∧ S = (msN S (0 : Int).toNat).1 ∧ (0 : Int) = (msN S (0 : Int).toNat).2 from ⟨by omega, rfl, rfl⟩) (lv_sub hl [2, 3, 1, 0] rfl) hP hD hS ?_
    intro v hv ih_16 ls H locs hl hP hD hS
    obtain ⟨T, u, k⟩ := v
    have hl : lv_has ls 5 [(0, .ref (mo 0)), (1, .int (zI x)), (2, .int (zI u)), (3, .int (zI k))] := hl
    have hv : (0 ≤ k ∧ k ≤ x) ∧ T = (msN S k.toNat).1 ∧ u = (msN S k.toNat).2 := hv
    have hP : va_P dg vwCl (modelC ck mo (encZ T) F1 F2 F3 F4 M) H := hP
    have hD : va_D A (modelC ck mo (encZ T) F1 F2 F3 F4 M) := hD
    obtain ⟨hk, hT, hu⟩ := hv
    have hIT := msN_inv hV k.toNat
    rw [← hT] at hIT
    refine lv_iload_n hx hb dX9_passes_16 rfl (lv_at hl 3 rfl) ?_
    refine lv_iload_n hx hb dX9_passes_17 rfl (lv_at hl 1 rfl) ?_
    refine x_icmp_ge (tgt := 80) hx hb dX9_passes_18 (by decide) (by omega) (by omega) (fun c18 => ?_) (fun c18 => ?_)
    · refine lv_aload_n hx hb dX9_passes_80 rfl (lv_at hl 0 rfl) ?_
      refine lv_iload_n hx hb dX9_passes_81 rfl (lv_at hl 2 rfl) ?_
      refine x_calli (ws' := modelC ck mo (encZ T) F1 F2 F3 F4 (upS M 8 10 u)) [] (M := modelC ck mo (encZ T) F1 F2 F3 F4 M) (M' := modelC ck mo (encZ T) F1 F2 F3 F4 (upS M 8 10 u)) ([]) (List.append_nil _).symm (List.append_nil _).symm hP hD hS hA (fun hPm hDm => va_runV (As := [.int (zI u)]) (rest := []) ⟨hx, hb, hml, hown, htg⟩ (m_done l dg ck mo T F1 F2 F3 F4 M u _ ) (cwV 1 htg (gwV wq_1665 wq_1667 wp_37 wq_15 wq_1668) rfl rfl rfl (by decide +kernel) ⟨Nat.le_of_ble_eq_true rfl, Nat.le_of_ble_eq_true rfl⟩) (wr_preV hK hPm hDm 0 11 rfl rfl) rfl rfl hl.1 rfl (lv_room (Nat.le_of_ble_eq_true rfl)) dX9_passes_82 ⟨Nat.zero_le _, Nat.zero_le _⟩) (fun r82 H locs hr82 hP hD hS => ?_)
      subst hr82
      have hc : elZ S x = (0, u, T) := by unfold elZ; rw [if_neg (by omega), hT, hu, show k = x by omega]
      have hEq : modelC ck mo (encZ (elZ S x).2.2) F1 F2 F3 F4 (mAns M (elZ S x).1 (elZ S x).2.1) = modelC ck mo (encZ T) F1 F2 F3 F4 (upS M 8 10 u) := (by rw [hc] <;> rfl)
      exact W.iret (v := _) hx hb hr (fun t9 ht9 hW9 => ⟨⟨_, (), rfl, (by rw [hc] <;> rfl), by rw [ht9, hEq]; exact hP, by rw [hEq, hAe]; exact hD⟩, hS.F ht9⟩) hS.2.2 dX9_passes_85
    · refine x_iconst hx hb dX9_passes_21 ?_
      refine lv_istore (lv' := [(4, .int (zI 0)), (0, .ref (mo 0)), (1, .int (zI x)), (2, .int (zI u)), (3, .int (zI k))]) hx hb dX9_passes_22 hl (by decide) rfl (fun ls hl => ?_)
      refine x_loopW (ι := St × Int × Int) (fun v => (0 ≤ v.2.2 ∧ v.2.2 ≤ S 0 0) ∧ v.1 = (mN T v.2.2.toNat).1 ∧ v.2.1 = u + (mN T v.2.2.toNat).2) (fun v => (S 0 0 - v.2.2).toNat) (fun v => [(0, .ref (mo 0)), (1, .int (zI x)), (2, .int (zI v.2.1)), (3, .int (zI k)), (4, .int (zI v.2.2))]) (fun v => modelC ck mo (encZ v.1) F1 F2 F3 F4 M) (T, u, 0) (show (0 ≤ (0 : Int) ∧ (0 : Int) ≤ S 0 0) ∧ T = (mN T (0 : Int).toNat).1 ∧ u = u + (mN T (0 : Int).toNat).2 from ⟨by omega, rfl, (Int.add_zero u).symm⟩) (lv_sub hl [1, 2, 3, 4, 0] rfl) hP hD hS ?_
      intro v hv ih_24 ls H locs hl hP hD hS
      obtain ⟨T2, u2, i⟩ := v
      have hl : lv_has ls 5 [(0, .ref (mo 0)), (1, .int (zI x)), (2, .int (zI u2)), (3, .int (zI k)), (4, .int (zI i))] := hl
      have hv : (0 ≤ i ∧ i ≤ S 0 0) ∧ T2 = (mN T i.toNat).1 ∧ u2 = u + (mN T i.toNat).2 := hv
      have hP : va_P dg vwCl (modelC ck mo (encZ T2) F1 F2 F3 F4 M) H := hP
      have hD : va_D A (modelC ck mo (encZ T2) F1 F2 F3 F4 M) := hD
      obtain ⟨hi, hT2, hu2⟩ := hv
      have hm := mN_inv hIT.1 i.toNat
      rw [← hT2] at hm
      have hB2 := hm.1.bd
      have hn2 := hm.2.trans hIT.2
      have hbr := bil_r T2 i
      have hb42 := hB2.2.2.2.2.2.2.2.1 i
      have hb22 := hB2.2.2.1
      refine lv_iload hx hb dX9_passes_24 (lv_at hl 4 rfl) ?_
      refine lv_aload_n hx hb dX9_passes_26 rfl (lv_at hl 0 rfl) ?_
      refine va_get (D := dg) (ci := 11) (v := .ref (mo 1)) (C := RX9) (T := TX9) (N := 23) hx hb htg inG_X9 hown hK hP 0 rfl rfl 1 (Nat.le_of_ble_eq_true rfl) (htg _ wq_1558) (fun _ h9 => h9) rfl dX9_passes_27 ?_
      refine x_iconst hx hb dX9_passes_30 ?_
      refine x_iald hx hb hK hP 1 0 (encZ T2) rfl rfl (fun _ => rfl) (P := fun _ => True) (fun _ => trivial) (by decide) (by omega) dX9_passes_31 (fun _ => ?_)
      refine x_is (show (encZ T2) 0 = (T2 0 0) from (encV (k := 0) (i := 0) (Or.inl ⟨rfl, by decide, by decide, rfl⟩)).trans (rfl)) ?_
      refine x_icmp_ge (tgt := 64) hx hb dX9_passes_32 (by decide) (by omega) (by omega) (fun c32 => ?_) (fun c32 => ?_)
      · refine lv_aload_n hx hb dX9_passes_64 rfl (lv_at hl 0 rfl) ?_
        refine va_get (D := dg) (ci := 11) (v := .ref (mo 1)) (C := RX9) (T := TX9) (N := 23) hx hb htg inG_X9 hown hK hP 0 rfl rfl 1 (Nat.le_of_ble_eq_true rfl) (htg _ wq_1558) (fun _ h9 => h9) rfl dX9_passes_65 ?_
        refine x_iconst hx hb dX9_passes_68 ?_
        refine lv_dup2_11 hx hb dX9_passes_69 rfl rfl ?_
        refine x_iald hx hb hK hP 1 0 (encZ T2) rfl rfl (fun _ => rfl) (P := fun _ => True) (fun _ => trivial) (by decide) (by omega) dX9_passes_70 (fun _ => ?_)
        refine x_is (show (encZ T2) 4 = (T2 0 4) from (encV (k := 0) (i := 4) (Or.inl ⟨rfl, by decide, by decide, rfl⟩)).trans (rfl)) ?_
        refine x_iconst hx hb dX9_passes_71 ?_
        refine x_iadd hx hb dX9_passes_72 ?_
        refine x_iastC (ws' := modelC ck mo (encZ (upS T2 0 4 ((T2 0 4) + 1))) F1 F2 F3 F4 M) hx hb hK hP hD hS 1 0 rfl rfl (by decide) (by omega) (encW (k := 0) (i := 4) (by omega) (Or.inl ⟨rfl, by decide, by decide, rfl⟩)) rfl dX9_passes_73 (fun H locs hP hD hS => ?_)
        obtain ⟨v74, e_v74⟩ : ∃ y : Int, y = k + 1 := ⟨_, rfl⟩
        refine lv_iinc (v := zI v74) (lv' := [(3, .int (zI v74)), (0, .ref (mo 0)), (1, .int (zI x)), (2, .int (zI u2)), (4, .int (zI i))]) hx hb dX9_passes_74 hl (k := 3) rfl (by rw [e_v74]; exact zI_add _ _) (by decide) rfl (fun ls hl => ?_)
        refine lv_goto (tgt := 16) hx hb dX9_passes_77 (by decide) ?_
        exact ih_16 ((upS T2 0 4 ((T2 0 4) + 1)), u2, v74) (show (0 ≤ v74 ∧ v74 ≤ x) ∧ (upS T2 0 4 ((T2 0 4) + 1)) = (msN S v74.toNat).1 ∧ u2 = (msN S v74.toNat).2 from (by have hA1 : T2 = (mN T (T 0 0).toNat).1 := (by rw [hIT.2, hT2, show i = S 0 0 by omega]); have hA2 : u2 = u + (mN T (T 0 0).toNat).2 := (by rw [hIT.2, hu2, show i = S 0 0 by omega]); have h9 := msN_y hk.1 hT hu hA1 hA2; rw [← e_v74] at h9; exact ⟨by omega, h9.1, h9.2⟩)) (show (x - v74).toNat < (x - k).toNat from by omega) ls H locs (lv_sub hl [1, 2, 3, 0] rfl) hP hD hS
      · refine lv_iload_n hx hb dX9_passes_35 rfl (lv_at hl 2 rfl) ?_
        refine lv_aload_n hx hb dX9_passes_36 rfl (lv_at hl 0 rfl) ?_
        refine lv_iload hx hb dX9_passes_37 (lv_at hl 4 rfl) ?_
        refine vp_callSi (W.runV (As := [.int (zI i)]) (rest := [.int (zI u2)]) ⟨hx, hb, hml, hown, htg⟩ (m_by l dg ck mo T2 F1 F2 F3 F4 M i (by omega)) (cwV 1 htg (gwV wq_1853 wq_1855 wp_59 wq_15 wq_1856) rfl rfl rfl (by decide +kernel) ⟨Nat.le_of_ble_eq_true rfl, Nat.le_of_ble_eq_true rfl⟩) (rd_preV hK hP 0 11 rfl rfl) rfl rfl hl.1 rfl (lv_room (Nat.le_of_ble_eq_true rfl)) dX9_passes_39 ⟨Nat.zero_le _, Nat.zero_le _⟩) (fun r39 hr39 => ?_)
        subst hr39
        have q39 := b4 i
        refine x_is (show (T2 4 i - 1) = ((T2 4 i) - 1) from rfl) ?_
        refine x_iconst hx hb dX9_passes_42 ?_
        refine x_icmp_ne (tgt := 50) hx hb dX9_passes_43 (by decide) (by omega) (by omega) (fun c43 => ?_) (fun c43 => ?_)
        · refine lv_aload_n hx hb dX9_passes_50 rfl (lv_at hl 0 rfl) ?_
          refine lv_iload hx hb dX9_passes_51 (lv_at hl 4 rfl) ?_
          refine x_calli (ws' := modelC ck mo (encZ (bil T2 i).1) F1 F2 F3 F4 M) [] (M := modelC ck mo (encZ T2) F1 F2 F3 F4 M) (M' := modelC ck mo (encZ (bil T2 i).1) F1 F2 F3 F4 M) ([]) (List.append_nil _).symm (List.append_nil _).symm hP hD hS hA (fun hPm hDm => va_runV (As := [.int (zI i)]) (rest := [.int (zI u2)]) ⟨hx, hb, hml, hown, htg⟩ (m_billed l dg ck mo T2 F1 F2 F3 F4 M i _ hB2 (by omega) (by omega)) (cwV 1 htg (gwV wq_1929 wq_1931 wp_67 wq_15 wq_1932) rfl rfl rfl (by decide +kernel) ⟨Nat.le_of_ble_eq_true rfl, Nat.le_of_ble_eq_true rfl⟩) (wr_preV hK hPm hDm 0 11 rfl rfl) rfl rfl hl.1 rfl (lv_room (Nat.le_of_ble_eq_true rfl)) dX9_passes_53 ⟨Nat.zero_le _, Nat.zero_le _⟩) (fun r53 H locs hr53 hP hD hS => ?_)
          subst hr53
          refine x_iadd hx hb dX9_passes_56 ?_
          refine x_top _ (fun v57 e_v57 => ?_)
          refine lv_istore_n (lv' := [(2, .int (zI v57)), (0, .ref (mo 0)), (1, .int (zI x)), (3, .int (zI k)), (4, .int (zI i))]) hx hb dX9_passes_57 rfl hl (by decide) rfl (fun ls hl => ?_)
          obtain ⟨v58, e_v58⟩ : ∃ y : Int, y = i + 1 := ⟨_, rfl⟩
          refine lv_iinc (v := zI v58) (lv' := [(4, .int (zI v58)), (2, .int (zI v57)), (0, .ref (mo 0)), (1, .int (zI x)), (3, .int (zI k))]) hx hb dX9_passes_58 hl (k := 4) rfl (by rw [e_v58]; exact zI_add _ _) (by decide) rfl (fun ls hl => ?_)
          refine lv_goto (tgt := 24) hx hb dX9_passes_61 (by decide) ?_
          exact ih_24 ((bil T2 i).1, v57, v58) (show (0 ≤ v58 ∧ v58 ≤ S 0 0) ∧ (bil T2 i).1 = (mN T v58.toNat).1 ∧ v57 = u + (mN T v58.toNat).2 from (by rw [e_v58]; first | (have h9 := mN_y hi.1 hT2 hu2 (show T2 4 i ≠ 0 by omega); exact ⟨by omega, h9.1, by omega⟩) | (have h9 := mN_n hi.1 hT2 hu2 (show ¬ T2 4 i ≠ 0 by omega); exact ⟨by omega, h9.1, by omega⟩))) (show (S 0 0 - v58).toNat < (S 0 0 - i).toNat from by omega) ls H locs (lv_sub hl [2, 3, 1, 4, 0] rfl) hP hD hS
        · refine x_iconst hx hb dX9_passes_46 ?_
          refine lv_goto (tgt := 56) hx hb dX9_passes_47 (by decide) ?_
          refine x_iadd hx hb dX9_passes_56 ?_
          refine x_top _ (fun v57 e_v57 => ?_)
          refine lv_istore_n (lv' := [(2, .int (zI v57)), (0, .ref (mo 0)), (1, .int (zI x)), (3, .int (zI k)), (4, .int (zI i))]) hx hb dX9_passes_57 rfl hl (by decide) rfl (fun ls hl => ?_)
          obtain ⟨v58, e_v58⟩ : ∃ y : Int, y = i + 1 := ⟨_, rfl⟩
          refine lv_iinc (v := zI v58) (lv' := [(4, .int (zI v58)), (2, .int (zI v57)), (0, .ref (mo 0)), (1, .int (zI x)), (3, .int (zI k))]) hx hb dX9_passes_58 hl (k := 4) rfl (by rw [e_v58]; exact zI_add _ _) (by decide) rfl (fun ls hl => ?_)
          refine lv_goto (tgt := 24) hx hb dX9_passes_61 (by decide) ?_
          exact ih_24 (T2, v57, v58) (show (0 ≤ v58 ∧ v58 ≤ S 0 0) ∧ T2 = (mN T v58.toNat).1 ∧ v57 = u + (mN T v58.toNat).2 from (by rw [e_v58]; first | (have h9 := mN_y hi.1 hT2 hu2 (show T2 4 i ≠ 0 by omega); exact ⟨by omega, h9.1, by omega⟩) | (have h9 := mN_n hi.1 hT2 hu2 (show ¬ T2 4 i ≠ 0 by omega); exact ⟨by omega, h9.1, by omega⟩))) (show (S 0 0 - v58).toNat < (S 0 0 - i).toNat from by omega) ls H locs (lv_sub hl [2, 3, 1, 4, 0] rfl) hP hD hS
  · refine x_iconst hx hb dX9_passes_10 ?_
    have hc : elZ S x = (-2, 0, S) := by unfold elZ; rw [if_pos (by omega)]
    have hEq : modelC ck mo (encZ (elZ S x).2.2) F1 F2 F3 F4 (mAns M (elZ S x).1 (elZ S x).2.1) = modelC ck mo (encZ S) F1 F2 F3 F4 M := (by rw [hc] <;> rfl)
    exact W.iret (v := _) hx hb hr (fun t9 ht9 hW9 => ⟨⟨_, (), rfl, (by rw [hc] <;> rfl), by rw [ht9, hEq]; exact hP, by rw [hEq, hAe]; exact hD⟩, hS.F ht9⟩) hS.2.2 dX9_passes_11

set_option maxHeartbeats 4000000 in
set_option maxRecDepth 100000 in
/-- BenchBrokerModel.remembers -/
theorem m_remembers (l : Launch) (dg : va_G) (ck : Nat → ClassId) (mo : Nat → Nat) (S : St) (F1 F2 F3 F4 : Int → Int) (M : St) (sz : Nat)  : Met l yX9_remembers (.code yX9_remembers cX9_remembers 2 none :: GW) ({ frames := 0, cells := 0, slots := 0, locals := 0 }) (va_Pc [.ref (mo 0)] (wrP dg ck sz (modelC ck mo (encZ S) F1 F2 F3 F4 M))) (va_Qv (fun _ : Unit => True) (fun _ t9 => wrQ dg sz (modelC ck mo (encZ S) F1 F2 F3 F4 M) (modelC ck mo (encZ S) (encZ S) F2 F3 F4 (upS M 8 0 0)) t9) (va_A (modelC ck mo (encZ S) F1 F2 F3 F4 M) sz)) 0 0 (va_A (modelC ck mo (encZ S) F1 F2 F3 F4 M) sz) := by
  refine Met.ofW (cc := cX9_remembers) (maxL := 2) (ret := none) (by decide) rfl ?_
  intro p e s m args below meth c s₁ B hml hv
  obtain ⟨rfl, hsz, hP, hK, hD0⟩ := hv
  have hx := B.exec
  have hb := B.bytes
  have hr := B.returns
  have hts := atoms_spec (ws := .code yX9_remembers cX9_remembers 2 none :: GW) B.pre
  have htg : ∀ w ∈ GW, w.before _ s = true := fun w h => hts w (List.mem_cons_of_mem _ h)
  have hown : s.vm.findClass RX9 = some m.cls := findClass_of_methodNamed B.named
  have hlocks := B.notSynchronized
  subst hsz
  have hD := hD0.self (sz := s.heap.size)
  generalize hAe : va_A (modelC ck mo (encZ S) F1 F2 F3 F4 M) s.heap.size = A at hD ⊢
  have hA : ∀ q : Nat, s.heap.size ≤ q → A q := fun q h => by rw [← hAe]; exact Or.inr h
  have hS : va_S A s.heap s.heap [] := va_S.rf
  have hP : va_P dg vwCl (modelC ck mo (encZ S) F1 F2 F3 F4 M) s.heap := hP
  have hl := lv_entry ([.ref (mo 0)]) (n := 2) (Nat.le_of_ble_eq_true rfl)
  rw [lg_entry_eq]
  generalize (lg_sl ([.ref (mo 0)]) ++ List.replicate (2 - (lg_sl ([.ref (mo 0)])).length) Slot.unset).toArray = ls at hl ⊢
  have hl : lv_has ls 2 [(0, .ref (mo 0))] := hl
  refine lv_aload_n hx hb dX9_remembers_0 rfl (lv_at hl 0 rfl) ?_
  refine x_iconst hx hb dX9_remembers_1 ?_
  refine va_put (D := dg) (ci := 11) (v := .int (zI 0)) (ty := .int) (C := RX9) (T := TX9) (N := 23) hx hb htg inG_X9 tyX9 tyX9_ok nmX9 hown hK hP hD hS 0 rfl rfl 0 (Nat.le_of_ble_eq_true rfl) (htg _ wq_1557) (fun _ h9 => h9) rfl (by decide +kernel) rfl rfl (Nat.le_of_ble_eq_true rfl) dX9_remembers_2 (fun H locs hP hD hS => ?_)
  have hP : va_P dg vwCl (modelC ck mo (encZ S) F1 F2 F3 F4 (upS M 8 0 0)) H := hP
  have hD : va_D A (modelC ck mo (encZ S) F1 F2 F3 F4 (upS M 8 0 0)) := hD
  refine x_iconst hx hb dX9_remembers_5 ?_
  refine lv_istore_n (lv' := [(1, .int (zI 0)), (0, .ref (mo 0))]) hx hb dX9_remembers_6 rfl hl (by decide) rfl (fun ls hl => ?_)
  have hP : va_P dg vwCl (modelC ck mo (encZ S) (mixZ 0 (encZ S) F1) F2 F3 F4 (upS M 8 0 0)) _ := va_P_ch hP 2 rfl (fun j _ => mix_0 _ _ j) rfl
  have hD : va_D A (modelC ck mo (encZ S) (mixZ 0 (encZ S) F1) F2 F3 F4 (upS M 8 0 0)) := va_D_ch hD 2 rfl rfl
  refine x_loopW (ι := Int) (fun v => 0 ≤ v ∧ v ≤ 102) (fun v => (102 - v).toNat) (fun v => [(0, .ref (mo 0)), (1, .int (zI v))]) (fun v => modelC ck mo (encZ S) (mixZ v (encZ S) F1) F2 F3 F4 (upS M 8 0 0)) (0) (show 0 ≤ (0 : Int) ∧ (0 : Int) ≤ 102 from (by omega)) (lv_sub hl [1, 0] rfl) hP hD hS ?_
  intro v hv ih_7 ls H locs hl hP hD hS
  obtain ⟨k, rfl⟩ : ∃ z : Int, z = v := ⟨_, rfl⟩
  have hl : lv_has ls 2 [(0, .ref (mo 0)), (1, .int (zI k))] := hl
  have hv : 0 ≤ k ∧ k ≤ 102 := hv
  have hP : va_P dg vwCl (modelC ck mo (encZ S) (mixZ k (encZ S) F1) F2 F3 F4 (upS M 8 0 0)) H := hP
  have hD : va_D A (modelC ck mo (encZ S) (mixZ k (encZ S) F1) F2 F3 F4 (upS M 8 0 0)) := hD
  obtain ⟨hk0, hk9⟩ := hv
  refine lv_iload_n hx hb dX9_remembers_7 rfl (lv_at hl 1 rfl) ?_
  refine x_bipush hx hb dX9_remembers_8 (by decide) ?_
  refine x_icmp_ge (tgt := 31) hx hb dX9_remembers_10 (by decide) (by omega) (by omega) (fun c10 => ?_) (fun c10 => ?_)
  · have hP : va_P dg vwCl (modelC ck mo (encZ S) (encZ S) F2 F3 F4 (upS M 8 0 0)) _ := va_P_ch hP 2 rfl (mix_e (by omega)) rfl
    have hD : va_D A (modelC ck mo (encZ S) (encZ S) F2 F3 F4 (upS M 8 0 0)) := va_D_ch hD 2 rfl rfl
    have hEq : modelC ck mo (encZ S) (encZ S) F2 F3 F4 (upS M 8 0 0) = modelC ck mo (encZ S) (encZ S) F2 F3 F4 (upS M 8 0 0) := rfl
    exact W.vret hx hb hr (fun t9 ht9 hW9 => ⟨⟨(), rfl, trivial, by rw [ht9, hEq]; exact hP, by rw [hEq, hAe]; exact hD⟩, hS.F ht9⟩) hS.2.2 dX9_remembers_31
  · refine lv_aload_n hx hb dX9_remembers_13 rfl (lv_at hl 0 rfl) ?_
    refine va_get (D := dg) (ci := 11) (v := .ref (mo 2)) (C := RX9) (T := TX9) (N := 23) hx hb htg inG_X9 hown hK hP 0 rfl rfl 2 (Nat.le_of_ble_eq_true rfl) (htg _ wq_1559) (fun _ h9 => h9) rfl dX9_remembers_14 ?_
    refine lv_iload_n hx hb dX9_remembers_17 rfl (lv_at hl 1 rfl) ?_
    refine lv_aload_n hx hb dX9_remembers_18 rfl (lv_at hl 0 rfl) ?_
    refine va_get (D := dg) (ci := 11) (v := .ref (mo 1)) (C := RX9) (T := TX9) (N := 23) hx hb htg inG_X9 hown hK hP 0 rfl rfl 1 (Nat.le_of_ble_eq_true rfl) (htg _ wq_1558) (fun _ h9 => h9) rfl dX9_remembers_19 ?_
    refine lv_iload_n hx hb dX9_remembers_22 rfl (lv_at hl 1 rfl) ?_
    refine x_iald hx hb hK hP 1 0 (encZ S) rfl rfl (fun _ => rfl) (P := fun _ => True) (fun _ => trivial) (by decide) (by omega) dX9_remembers_23 (fun _ => ?_)
    refine x_iastC (ws' := modelC ck mo (encZ S) (mixZ (k + 1) (encZ S) F1) F2 F3 F4 (upS M 8 0 0)) hx hb hK hP hD hS 2 0 rfl rfl (by decide) (by omega) (mix_p (by omega)) rfl dX9_remembers_24 (fun H locs hP hD hS => ?_)
    refine lv_iinc (v := zI (k + 1)) (lv' := [(1, .int (zI (k + 1))), (0, .ref (mo 0))]) hx hb dX9_remembers_25 hl (k := 1) rfl (zI_add _ _) (by decide) rfl (fun ls hl => ?_)
    refine lv_goto (tgt := 7) hx hb dX9_remembers_28 (by decide) ?_
    exact ih_7 ((k + 1)) (show 0 ≤ (k + 1) ∧ (k + 1) ≤ 102 from (by omega)) (show (102 - (k + 1)).toNat < (102 - k).toNat from by omega) ls H locs (lv_sub hl [1, 0] rfl) hP hD hS

set_option maxHeartbeats 4000000 in
set_option maxRecDepth 100000 in
/-- BenchBrokerModel.changed -/
theorem m_changed (l : Launch) (dg : va_G) (ck : Nat → ClassId) (mo : Nat → Nat) (S : St) (F1 F2 F3 F4 : Int → Int) (M : St) (x : Int) (sz : Nat) (hkp : 0 ≤ M 8 1 ∧ M 8 1 ≤ 8) : Met l yX9_changed (.code yX9_changed cX9_changed 3 (some .int) :: GW) ({ frames := 0, cells := 0, slots := 0, locals := 0 }) (va_Pc [.ref (mo 0), .int (zI x)] (wrP dg ck sz (modelC ck mo (encZ S) F1 F2 F3 F4 M))) (va_Qi (fun r (_ : Unit) => r = zI x) (fun _ t9 => wrQ dg sz (modelC ck mo (encZ S) F1 F2 F3 F4 M) (modelC ck mo (encZ S) F1 F2 (hiZ F3 F1 (M 8 1)) F4 (upS M 8 1 (k1Z (M 8 1)))) t9) (va_A (modelC ck mo (encZ S) F1 F2 F3 F4 M) sz)) 0 0 (va_A (modelC ck mo (encZ S) F1 F2 F3 F4 M) sz) := by
  refine Met.ofW (cc := cX9_changed) (maxL := 3) (ret := (some .int)) (by decide) rfl ?_
  intro p e s m args below meth c s₁ B hml hv
  obtain ⟨rfl, hsz, hP, hK, hD0⟩ := hv
  have hx := B.exec
  have hb := B.bytes
  have hr := B.returns
  have hts := atoms_spec (ws := .code yX9_changed cX9_changed 3 (some .int) :: GW) B.pre
  have htg : ∀ w ∈ GW, w.before _ s = true := fun w h => hts w (List.mem_cons_of_mem _ h)
  have hown : s.vm.findClass RX9 = some m.cls := findClass_of_methodNamed B.named
  have hlocks := B.notSynchronized
  subst hsz
  have hD := hD0.self (sz := s.heap.size)
  generalize hAe : va_A (modelC ck mo (encZ S) F1 F2 F3 F4 M) s.heap.size = A at hD ⊢
  have hA : ∀ q : Nat, s.heap.size ≤ q → A q := fun q h => by rw [← hAe]; exact Or.inr h
  have hS : va_S A s.heap s.heap [] := va_S.rf
  have hP : va_P dg vwCl (modelC ck mo (encZ S) F1 F2 F3 F4 M) s.heap := hP
  have hl := lv_entry ([.ref (mo 0), .int (zI x)]) (n := 3) (Nat.le_of_ble_eq_true rfl)
  rw [lg_entry_eq]
  generalize (lg_sl ([.ref (mo 0), .int (zI x)]) ++ List.replicate (3 - (lg_sl ([.ref (mo 0), .int (zI x)])).length) Slot.unset).toArray = ls at hl ⊢
  have hl : lv_has ls 3 [(0, .ref (mo 0)), (1, .int (zI x))] := hl
  have hk1 := k1Z_r hkp
  refine lv_aload_n hx hb dX9_changed_0 rfl (lv_at hl 0 rfl) ?_
  refine va_get (D := dg) (ci := 11) (v := .int (zI (M 8 1))) (C := RX9) (T := TX9) (N := 23) hx hb htg inG_X9 hown hK hP 0 rfl rfl 6 (Nat.le_of_ble_eq_true rfl) (htg _ wq_1563) (fun _ h9 => h9) rfl dX9_changed_1 ?_
  refine x_bipush hx hb dX9_changed_4 (by decide) ?_
  refine x_icmp_ne (tgt := 42) hx hb dX9_changed_6 (by decide) (by omega) (by omega) (fun c6 => ?_) (fun c6 => ?_)
  · refine lv_aload_n hx hb dX9_changed_42 rfl (lv_at hl 0 rfl) ?_
    refine lv_dup hx hb dX9_changed_43 rfl ?_
    refine va_get (D := dg) (ci := 11) (v := .int (zI (M 8 1))) (C := RX9) (T := TX9) (N := 23) hx hb htg inG_X9 hown hK hP 0 rfl rfl 6 (Nat.le_of_ble_eq_true rfl) (htg _ wq_1563) (fun _ h9 => h9) rfl dX9_changed_44 ?_
    refine x_iconst hx hb dX9_changed_47 ?_
    refine x_iadd hx hb dX9_changed_48 ?_
    refine va_put (D := dg) (ci := 11) (v := .int (zI ((M 8 1) + 1))) (ty := .int) (C := RX9) (T := TX9) (N := 23) hx hb htg inG_X9 tyX9 tyX9_ok nmX9 hown hK hP hD hS 0 rfl rfl 6 (Nat.le_of_ble_eq_true rfl) (htg _ wq_1563) (fun _ h9 => h9) rfl (by decide +kernel) rfl rfl (Nat.le_of_ble_eq_true rfl) dX9_changed_49 (fun H locs hP hD hS => ?_)
    have hP : va_P dg vwCl (modelC ck mo (encZ S) F1 F2 F3 F4 (upS M 8 1 ((M 8 1) + 1))) H := hP
    have hD : va_D A (modelC ck mo (encZ S) F1 F2 F3 F4 (upS M 8 1 ((M 8 1) + 1))) := hD
    have hCe : (upS M 8 1 (k1Z (M 8 1))) = (upS M 8 1 ((M 8 1) + 1)) := (by unfold k1Z; rw [if_neg (by omega)])
    have hP : va_P dg vwCl (modelC ck mo (encZ S) F1 F2 F3 F4 (upS M 8 1 (k1Z (M 8 1)))) _ := va_P_eq (by rw [hCe]) hP
    have hD : va_D A (modelC ck mo (encZ S) F1 F2 F3 F4 (upS M 8 1 (k1Z (M 8 1)))) := va_D_eq (by rw [hCe]) hD
    refine x_iconst hx hb dX9_changed_52 ?_
    refine lv_istore_n (lv' := [(2, .int (zI 0)), (0, .ref (mo 0)), (1, .int (zI x))]) hx hb dX9_changed_53 rfl hl (by decide) rfl (fun ls hl => ?_)
    have hP : va_P dg vwCl (modelC ck mo (encZ S) F1 F2 (inZ (bsZ F3 (M 8 1)) F1 (102 * (k1Z (M 8 1) - 1)) 0) F4 (upS M 8 1 (k1Z (M 8 1)))) _ := va_P_ch hP 4 rfl (fun j hj => by have h8 : ¬ M 8 1 = 8 := (by omega); rw [← in_0]; unfold bsZ; rw [if_neg h8]) rfl
    have hD : va_D A (modelC ck mo (encZ S) F1 F2 (inZ (bsZ F3 (M 8 1)) F1 (102 * (k1Z (M 8 1) - 1)) 0) F4 (upS M 8 1 (k1Z (M 8 1)))) := va_D_ch hD 4 rfl rfl
    refine x_loopW (ι := Int) (fun v => 0 ≤ v ∧ v ≤ 102) (fun v => (102 - v).toNat) (fun v => [(0, .ref (mo 0)), (1, .int (zI x)), (2, .int (zI v))]) (fun v => modelC ck mo (encZ S) F1 F2 (inZ (bsZ F3 (M 8 1)) F1 (102 * (k1Z (M 8 1) - 1)) v) F4 (upS M 8 1 (k1Z (M 8 1)))) (0) (show 0 ≤ (0 : Int) ∧ (0 : Int) ≤ 102 from (by omega)) (lv_sub hl [1, 2, 0] rfl) hP hD hS ?_
    intro v hv ih_54 ls H locs hl hP hD hS
    obtain ⟨k, rfl⟩ : ∃ z : Int, z = v := ⟨_, rfl⟩
    have hl : lv_has ls 3 [(0, .ref (mo 0)), (1, .int (zI x)), (2, .int (zI k))] := hl
    have hv : 0 ≤ k ∧ k ≤ 102 := hv
    have hP : va_P dg vwCl (modelC ck mo (encZ S) F1 F2 (inZ (bsZ F3 (M 8 1)) F1 (102 * (k1Z (M 8 1) - 1)) k) F4 (upS M 8 1 (k1Z (M 8 1)))) H := hP
    have hD : va_D A (modelC ck mo (encZ S) F1 F2 (inZ (bsZ F3 (M 8 1)) F1 (102 * (k1Z (M 8 1) - 1)) k) F4 (upS M 8 1 (k1Z (M 8 1)))) := hD
    obtain ⟨hk0, hk9⟩ := hv
    refine lv_iload_n hx hb dX9_changed_54 rfl (lv_at hl 2 rfl) ?_
    refine x_bipush hx hb dX9_changed_55 (by decide) ?_
    refine x_icmp_ge (tgt := 88) hx hb dX9_changed_57 (by decide) (by omega) (by omega) (fun c57 => ?_) (fun c57 => ?_)
    · have hP : va_P dg vwCl (modelC ck mo (encZ S) F1 F2 (hiZ F3 F1 (M 8 1)) F4 (upS M 8 1 (k1Z (M 8 1)))) _ := va_P_ch hP 4 rfl (fun j _ => by unfold hiZ; rw [show k = 102 by omega]) rfl
      have hD : va_D A (modelC ck mo (encZ S) F1 F2 (hiZ F3 F1 (M 8 1)) F4 (upS M 8 1 (k1Z (M 8 1)))) := va_D_ch hD 4 rfl rfl
      refine lv_iload_n hx hb dX9_changed_88 rfl (lv_at hl 1 rfl) ?_
      have hEq : modelC ck mo (encZ S) F1 F2 (hiZ F3 F1 (M 8 1)) F4 (upS M 8 1 (k1Z (M 8 1))) = modelC ck mo (encZ S) F1 F2 (hiZ F3 F1 (M 8 1)) F4 (upS M 8 1 (k1Z (M 8 1))) := rfl
      exact W.iret (v := _) hx hb hr (fun t9 ht9 hW9 => ⟨⟨_, (), rfl, rfl, by rw [ht9, hEq]; exact hP, by rw [hEq, hAe]; exact hD⟩, hS.F ht9⟩) hS.2.2 dX9_changed_89
    · refine lv_aload_n hx hb dX9_changed_60 rfl (lv_at hl 0 rfl) ?_
      refine va_get (D := dg) (ci := 11) (v := .ref (mo 4)) (C := RX9) (T := TX9) (N := 23) hx hb htg inG_X9 hown hK hP 0 rfl rfl 4 (Nat.le_of_ble_eq_true rfl) (htg _ wq_1561) (fun _ h9 => h9) rfl dX9_changed_61 ?_
      refine x_bipush hx hb dX9_changed_64 (by decide) ?_
      refine lv_aload_n hx hb dX9_changed_66 rfl (lv_at hl 0 rfl) ?_
      refine va_get (D := dg) (ci := 11) (v := .int (zI (k1Z (M 8 1)))) (C := RX9) (T := TX9) (N := 23) hx hb htg inG_X9 hown hK hP 0 rfl rfl 6 (Nat.le_of_ble_eq_true rfl) (htg _ wq_1563) (fun _ h9 => h9) rfl dX9_changed_67 ?_
      refine x_iconst hx hb dX9_changed_70 ?_
      refine x_isub hx hb dX9_changed_71 ?_
      refine x_imul hx hb dX9_changed_72 ?_
      refine lv_iload_n hx hb dX9_changed_73 rfl (lv_at hl 2 rfl) ?_
      refine x_iadd hx hb dX9_changed_74 ?_
      refine lv_aload_n hx hb dX9_changed_75 rfl (lv_at hl 0 rfl) ?_
      refine va_get (D := dg) (ci := 11) (v := .ref (mo 2)) (C := RX9) (T := TX9) (N := 23) hx hb htg inG_X9 hown hK hP 0 rfl rfl 2 (Nat.le_of_ble_eq_true rfl) (htg _ wq_1559) (fun _ h9 => h9) rfl dX9_changed_76 ?_
      refine lv_iload_n hx hb dX9_changed_79 rfl (lv_at hl 2 rfl) ?_
      refine x_iald hx hb hK hP 2 0 F1 rfl rfl (fun _ => rfl) (P := fun _ => True) (fun _ => trivial) (by decide) (by omega) dX9_changed_80 (fun _ => ?_)
      refine x_iastC (ws' := modelC ck mo (encZ S) F1 F2 (inZ (bsZ F3 (M 8 1)) F1 (102 * (k1Z (M 8 1) - 1)) (k + 1)) F4 (upS M 8 1 (k1Z (M 8 1)))) hx hb hK hP hD hS 4 0 rfl rfl (by decide) (by omega) (in_put (by omega) (by omega)) rfl dX9_changed_81 (fun H locs hP hD hS => ?_)
      refine lv_iinc (v := zI (k + 1)) (lv' := [(2, .int (zI (k + 1))), (0, .ref (mo 0)), (1, .int (zI x))]) hx hb dX9_changed_82 hl (k := 2) rfl (zI_add _ _) (by decide) rfl (fun ls hl => ?_)
      refine lv_goto (tgt := 54) hx hb dX9_changed_85 (by decide) ?_
      exact ih_54 ((k + 1)) (show 0 ≤ (k + 1) ∧ (k + 1) ≤ 102 from (by omega)) (show (102 - (k + 1)).toNat < (102 - k).toNat from by omega) ls H locs (lv_sub hl [1, 2, 0] rfl) hP hD hS
  · refine x_iconst hx hb dX9_changed_9 ?_
    refine lv_istore_n (lv' := [(2, .int (zI 0)), (0, .ref (mo 0)), (1, .int (zI x))]) hx hb dX9_changed_10 rfl hl (by decide) rfl (fun ls hl => ?_)
    have hP : va_P dg vwCl (modelC ck mo (encZ S) F1 F2 (shZ F3 0) F4 M) _ := va_P_ch hP 4 rfl (fun j _ => sh_0 _ j) rfl
    have hD : va_D A (modelC ck mo (encZ S) F1 F2 (shZ F3 0) F4 M) := va_D_ch hD 4 rfl rfl
    refine x_loopW (ι := Int) (fun v => 0 ≤ v ∧ v ≤ 714) (fun v => (714 - v).toNat) (fun v => [(0, .ref (mo 0)), (1, .int (zI x)), (2, .int (zI v))]) (fun v => modelC ck mo (encZ S) F1 F2 (shZ F3 v) F4 M) (0) (show 0 ≤ (0 : Int) ∧ (0 : Int) ≤ 714 from (by omega)) (lv_sub hl [1, 2, 0] rfl) hP hD hS ?_
    intro v hv ih_11 ls H locs hl hP hD hS
    obtain ⟨k, rfl⟩ : ∃ z : Int, z = v := ⟨_, rfl⟩
    have hl : lv_has ls 3 [(0, .ref (mo 0)), (1, .int (zI x)), (2, .int (zI k))] := hl
    have hv : 0 ≤ k ∧ k ≤ 714 := hv
    have hP : va_P dg vwCl (modelC ck mo (encZ S) F1 F2 (shZ F3 k) F4 M) H := hP
    have hD : va_D A (modelC ck mo (encZ S) F1 F2 (shZ F3 k) F4 M) := hD
    obtain ⟨hk0, hk9⟩ := hv
    refine lv_iload_n hx hb dX9_changed_11 rfl (lv_at hl 2 rfl) ?_
    refine x_sipush hx hb dX9_changed_12 (by decide) ?_
    refine x_icmp_ge (tgt := 39) hx hb dX9_changed_15 (by decide) (by omega) (by omega) (fun c15 => ?_) (fun c15 => ?_)
    · refine lv_goto (tgt := 52) hx hb dX9_changed_39 (by decide) ?_
      have hCe : (upS M 8 1 (k1Z (M 8 1))) = M := (upS_id (by unfold k1Z; rw [if_pos (by omega)]; omega))
      have hP : va_P dg vwCl (modelC ck mo (encZ S) F1 F2 (shZ F3 k) F4 (upS M 8 1 (k1Z (M 8 1)))) _ := va_P_eq (by rw [hCe]) hP
      have hD : va_D A (modelC ck mo (encZ S) F1 F2 (shZ F3 k) F4 (upS M 8 1 (k1Z (M 8 1)))) := va_D_eq (by rw [hCe]) hD
      refine x_iconst hx hb dX9_changed_52 ?_
      refine lv_istore_n (lv' := [(2, .int (zI 0)), (0, .ref (mo 0)), (1, .int (zI x))]) hx hb dX9_changed_53 rfl hl (by decide) rfl (fun ls hl => ?_)
      have hP : va_P dg vwCl (modelC ck mo (encZ S) F1 F2 (inZ (bsZ F3 (M 8 1)) F1 (102 * (k1Z (M 8 1) - 1)) 0) F4 (upS M 8 1 (k1Z (M 8 1)))) _ := va_P_ch hP 4 rfl (fun j hj => by have h8 : M 8 1 = 8 := (by omega); rw [← in_0]; unfold bsZ; rw [if_pos h8, show k = 714 by omega]) rfl
      have hD : va_D A (modelC ck mo (encZ S) F1 F2 (inZ (bsZ F3 (M 8 1)) F1 (102 * (k1Z (M 8 1) - 1)) 0) F4 (upS M 8 1 (k1Z (M 8 1)))) := va_D_ch hD 4 rfl rfl
      refine x_loopW (ι := Int) (fun v => 0 ≤ v ∧ v ≤ 102) (fun v => (102 - v).toNat) (fun v => [(0, .ref (mo 0)), (1, .int (zI x)), (2, .int (zI v))]) (fun v => modelC ck mo (encZ S) F1 F2 (inZ (bsZ F3 (M 8 1)) F1 (102 * (k1Z (M 8 1) - 1)) v) F4 (upS M 8 1 (k1Z (M 8 1)))) (0) (show 0 ≤ (0 : Int) ∧ (0 : Int) ≤ 102 from (by omega)) (lv_sub hl [1, 2, 0] rfl) hP hD hS ?_
      intro v hv ih_54 ls H locs hl hP hD hS
      obtain ⟨k, rfl⟩ : ∃ z : Int, z = v := ⟨_, rfl⟩
      have hl : lv_has ls 3 [(0, .ref (mo 0)), (1, .int (zI x)), (2, .int (zI k))] := hl
      have hv : 0 ≤ k ∧ k ≤ 102 := hv
      have hP : va_P dg vwCl (modelC ck mo (encZ S) F1 F2 (inZ (bsZ F3 (M 8 1)) F1 (102 * (k1Z (M 8 1) - 1)) k) F4 (upS M 8 1 (k1Z (M 8 1)))) H := hP
      have hD : va_D A (modelC ck mo (encZ S) F1 F2 (inZ (bsZ F3 (M 8 1)) F1 (102 * (k1Z (M 8 1) - 1)) k) F4 (upS M 8 1 (k1Z (M 8 1)))) := hD
      obtain ⟨hk0, hk9⟩ := hv
      refine lv_iload_n hx hb dX9_changed_54 rfl (lv_at hl 2 rfl) ?_
      refine x_bipush hx hb dX9_changed_55 (by decide) ?_
      refine x_icmp_ge (tgt := 88) hx hb dX9_changed_57 (by decide) (by omega) (by omega) (fun c57 => ?_) (fun c57 => ?_)
      · have hP : va_P dg vwCl (modelC ck mo (encZ S) F1 F2 (hiZ F3 F1 (M 8 1)) F4 (upS M 8 1 (k1Z (M 8 1)))) _ := va_P_ch hP 4 rfl (fun j _ => by unfold hiZ; rw [show k = 102 by omega]) rfl
        have hD : va_D A (modelC ck mo (encZ S) F1 F2 (hiZ F3 F1 (M 8 1)) F4 (upS M 8 1 (k1Z (M 8 1)))) := va_D_ch hD 4 rfl rfl
        refine lv_iload_n hx hb dX9_changed_88 rfl (lv_at hl 1 rfl) ?_
        have hEq : modelC ck mo (encZ S) F1 F2 (hiZ F3 F1 (M 8 1)) F4 (upS M 8 1 (k1Z (M 8 1))) = modelC ck mo (encZ S) F1 F2 (hiZ F3 F1 (M 8 1)) F4 (upS M 8 1 (k1Z (M 8 1))) := rfl
        exact W.iret (v := _) hx hb hr (fun t9 ht9 hW9 => ⟨⟨_, (), rfl, rfl, by rw [ht9, hEq]; exact hP, by rw [hEq, hAe]; exact hD⟩, hS.F ht9⟩) hS.2.2 dX9_changed_89
      · refine lv_aload_n hx hb dX9_changed_60 rfl (lv_at hl 0 rfl) ?_
        refine va_get (D := dg) (ci := 11) (v := .ref (mo 4)) (C := RX9) (T := TX9) (N := 23) hx hb htg inG_X9 hown hK hP 0 rfl rfl 4 (Nat.le_of_ble_eq_true rfl) (htg _ wq_1561) (fun _ h9 => h9) rfl dX9_changed_61 ?_
        refine x_bipush hx hb dX9_changed_64 (by decide) ?_
        refine lv_aload_n hx hb dX9_changed_66 rfl (lv_at hl 0 rfl) ?_
        refine va_get (D := dg) (ci := 11) (v := .int (zI (k1Z (M 8 1)))) (C := RX9) (T := TX9) (N := 23) hx hb htg inG_X9 hown hK hP 0 rfl rfl 6 (Nat.le_of_ble_eq_true rfl) (htg _ wq_1563) (fun _ h9 => h9) rfl dX9_changed_67 ?_
        refine x_iconst hx hb dX9_changed_70 ?_
        refine x_isub hx hb dX9_changed_71 ?_
        refine x_imul hx hb dX9_changed_72 ?_
        refine lv_iload_n hx hb dX9_changed_73 rfl (lv_at hl 2 rfl) ?_
        refine x_iadd hx hb dX9_changed_74 ?_
        refine lv_aload_n hx hb dX9_changed_75 rfl (lv_at hl 0 rfl) ?_
        refine va_get (D := dg) (ci := 11) (v := .ref (mo 2)) (C := RX9) (T := TX9) (N := 23) hx hb htg inG_X9 hown hK hP 0 rfl rfl 2 (Nat.le_of_ble_eq_true rfl) (htg _ wq_1559) (fun _ h9 => h9) rfl dX9_changed_76 ?_
        refine lv_iload_n hx hb dX9_changed_79 rfl (lv_at hl 2 rfl) ?_
        refine x_iald hx hb hK hP 2 0 F1 rfl rfl (fun _ => rfl) (P := fun _ => True) (fun _ => trivial) (by decide) (by omega) dX9_changed_80 (fun _ => ?_)
        refine x_iastC (ws' := modelC ck mo (encZ S) F1 F2 (inZ (bsZ F3 (M 8 1)) F1 (102 * (k1Z (M 8 1) - 1)) (k + 1)) F4 (upS M 8 1 (k1Z (M 8 1)))) hx hb hK hP hD hS 4 0 rfl rfl (by decide) (by omega) (in_put (by omega) (by omega)) rfl dX9_changed_81 (fun H locs hP hD hS => ?_)
        refine lv_iinc (v := zI (k + 1)) (lv' := [(2, .int (zI (k + 1))), (0, .ref (mo 0)), (1, .int (zI x))]) hx hb dX9_changed_82 hl (k := 2) rfl (zI_add _ _) (by decide) rfl (fun ls hl => ?_)
        refine lv_goto (tgt := 54) hx hb dX9_changed_85 (by decide) ?_
        exact ih_54 ((k + 1)) (show 0 ≤ (k + 1) ∧ (k + 1) ≤ 102 from (by omega)) (show (102 - (k + 1)).toNat < (102 - k).toNat from by omega) ls H locs (lv_sub hl [1, 2, 0] rfl) hP hD hS
    · refine lv_aload_n hx hb dX9_changed_18 rfl (lv_at hl 0 rfl) ?_
      refine va_get (D := dg) (ci := 11) (v := .ref (mo 4)) (C := RX9) (T := TX9) (N := 23) hx hb htg inG_X9 hown hK hP 0 rfl rfl 4 (Nat.le_of_ble_eq_true rfl) (htg _ wq_1561) (fun _ h9 => h9) rfl dX9_changed_19 ?_
      refine lv_iload_n hx hb dX9_changed_22 rfl (lv_at hl 2 rfl) ?_
      refine lv_aload_n hx hb dX9_changed_23 rfl (lv_at hl 0 rfl) ?_
      refine va_get (D := dg) (ci := 11) (v := .ref (mo 4)) (C := RX9) (T := TX9) (N := 23) hx hb htg inG_X9 hown hK hP 0 rfl rfl 4 (Nat.le_of_ble_eq_true rfl) (htg _ wq_1561) (fun _ h9 => h9) rfl dX9_changed_24 ?_
      refine lv_iload_n hx hb dX9_changed_27 rfl (lv_at hl 2 rfl) ?_
      refine x_bipush hx hb dX9_changed_28 (by decide) ?_
      refine x_iadd hx hb dX9_changed_30 ?_
      refine x_iald hx hb hK hP 4 0 (shZ F3 k) rfl rfl (fun _ => rfl) (P := fun _ => True) (fun _ => trivial) (by decide) (by omega) dX9_changed_31 (fun _ => ?_)
      refine x_iastC (ws' := modelC ck mo (encZ S) F1 F2 (shZ F3 (k + 1)) F4 M) hx hb hK hP hD hS 4 0 rfl rfl (by decide) (by omega) (sh_put (by omega)) rfl dX9_changed_32 (fun H locs hP hD hS => ?_)
      refine lv_iinc (v := zI (k + 1)) (lv' := [(2, .int (zI (k + 1))), (0, .ref (mo 0)), (1, .int (zI x))]) hx hb dX9_changed_33 hl (k := 2) rfl (zI_add _ _) (by decide) rfl (fun ls hl => ?_)
      refine lv_goto (tgt := 11) hx hb dX9_changed_36 (by decide) ?_
      exact ih_11 ((k + 1)) (show 0 ≤ (k + 1) ∧ (k + 1) ≤ 714 from (by omega)) (show (714 - (k + 1)).toNat < (714 - k).toNat from by omega) ls H locs (lv_sub hl [1, 2, 0] rfl) hP hD hS

set_option maxHeartbeats 4000000 in
set_option maxRecDepth 100000 in
/-- BenchBrokerModel.ends -/
theorem m_ends (l : Launch) (dg : va_G) (ck : Nat → ClassId) (mo : Nat → Nat) (S : St) (F1 F2 F3 F4 : Int → Int) (M : St) (g d : Int) (sz : Nat) (rg_g : -2147483648 ≤ g ∧ g < 2147483648) (rg_d : -2147483648 ≤ d ∧ d < 2147483648) (hkp : 0 ≤ M 8 1 ∧ M 8 1 ≤ 8) : Met l yX9_ends (.code yX9_ends cX9_ends 3 (some .int) :: GW) ({ frames := 1, cells := 0, slots := 0, locals := 22 }) (va_Pc [.ref (mo 0), .int (zI g), .int (zI d)] (wrP dg ck sz (modelC ck mo (encZ S) F1 F2 F3 F4 M))) (va_Qi (fun r (_ : Unit) => r = zI (endR M g)) (fun _ t9 => wrQ dg sz (modelC ck mo (encZ S) F1 F2 F3 F4 M) (modelC ck mo (encZ S) F1 F2 (endF F3 F1 M g) F4 (endM M g d)) t9) (va_A (modelC ck mo (encZ S) F1 F2 F3 F4 M) sz)) 0 0 (va_A (modelC ck mo (encZ S) F1 F2 F3 F4 M) sz) := by
  refine Met.ofW (cc := cX9_ends) (maxL := 3) (ret := (some .int)) (by decide) rfl ?_
  intro p e s m args below meth c s₁ B hml hv
  obtain ⟨rfl, hsz, hP, hK, hD0⟩ := hv
  have hx := B.exec
  have hb := B.bytes
  have hr := B.returns
  have hts := atoms_spec (ws := .code yX9_ends cX9_ends 3 (some .int) :: GW) B.pre
  have htg : ∀ w ∈ GW, w.before _ s = true := fun w h => hts w (List.mem_cons_of_mem _ h)
  have hown : s.vm.findClass RX9 = some m.cls := findClass_of_methodNamed B.named
  have hlocks := B.notSynchronized
  subst hsz
  have hD := hD0.self (sz := s.heap.size)
  generalize hAe : va_A (modelC ck mo (encZ S) F1 F2 F3 F4 M) s.heap.size = A at hD ⊢
  have hA : ∀ q : Nat, s.heap.size ≤ q → A q := fun q h => by rw [← hAe]; exact Or.inr h
  have hS : va_S A s.heap s.heap [] := va_S.rf
  have hP : va_P dg vwCl (modelC ck mo (encZ S) F1 F2 F3 F4 M) s.heap := hP
  have hl := lv_entry ([.ref (mo 0), .int (zI g), .int (zI d)]) (n := 3) (Nat.le_of_ble_eq_true rfl)
  rw [lg_entry_eq]
  generalize (lg_sl ([.ref (mo 0), .int (zI g), .int (zI d)]) ++ List.replicate (3 - (lg_sl ([.ref (mo 0), .int (zI g), .int (zI d)])).length) Slot.unset).toArray = ls at hl ⊢
  have hl : lv_has ls 3 [(0, .ref (mo 0)), (1, .int (zI g)), (2, .int (zI d))] := hl
  refine lv_iload_n hx hb dX9_ends_0 rfl (lv_at hl 1 rfl) ?_
  refine x_if_ne (tgt := 13) hx hb dX9_ends_1 (by decide) (by omega) (fun c1 => ?_) (fun c1 => ?_)
  · refine lv_iload_n hx hb dX9_ends_13 rfl (lv_at hl 1 rfl) ?_
    refine x_if_ge (tgt := 24) hx hb dX9_ends_14 (by decide) (by omega) (fun c14 => ?_) (fun c14 => ?_)
    · refine lv_aload_n hx hb dX9_ends_24 rfl (lv_at hl 0 rfl) ?_
      refine lv_iload_n hx hb dX9_ends_25 rfl (lv_at hl 1 rfl) ?_
      refine va_put (D := dg) (ci := 11) (v := .int (zI g)) (ty := .int) (C := RX9) (T := TX9) (N := 23) hx hb htg inG_X9 tyX9 tyX9_ok nmX9 hown hK hP hD hS 0 rfl rfl 14 (Nat.le_of_ble_eq_true rfl) (htg _ wq_1571) (fun _ h9 => h9) rfl (by decide +kernel) rfl rfl (Nat.le_of_ble_eq_true rfl) dX9_ends_26 (fun H locs hP hD hS => ?_)
      have hP : va_P dg vwCl (modelC ck mo (encZ S) F1 F2 F3 F4 (upS M 8 6 g)) H := hP
      have hD : va_D A (modelC ck mo (encZ S) F1 F2 F3 F4 (upS M 8 6 g)) := hD
      refine lv_aload_n hx hb dX9_ends_29 rfl (lv_at hl 0 rfl) ?_
      refine lv_aload_n hx hb dX9_ends_30 rfl (lv_at hl 0 rfl) ?_
      refine va_get (D := dg) (ci := 11) (v := .int (zI (M 8 9))) (C := RX9) (T := TX9) (N := 23) hx hb htg inG_X9 hown hK hP 0 rfl rfl 17 (Nat.le_of_ble_eq_true rfl) (htg _ wq_1574) (fun _ h9 => h9) rfl dX9_ends_31 ?_
      refine va_put (D := dg) (ci := 11) (v := .int (zI (M 8 9))) (ty := .int) (C := RX9) (T := TX9) (N := 23) hx hb htg inG_X9 tyX9 tyX9_ok nmX9 hown hK hP hD hS 0 rfl rfl 15 (Nat.le_of_ble_eq_true rfl) (htg _ wq_1572) (fun _ h9 => h9) rfl (by decide +kernel) rfl rfl (Nat.le_of_ble_eq_true rfl) dX9_ends_34 (fun H locs hP hD hS => ?_)
      have hP : va_P dg vwCl (modelC ck mo (encZ S) F1 F2 F3 F4 (upS (upS M 8 6 g) 8 7 (M 8 9))) H := hP
      have hD : va_D A (modelC ck mo (encZ S) F1 F2 F3 F4 (upS (upS M 8 6 g) 8 7 (M 8 9))) := hD
      refine lv_aload_n hx hb dX9_ends_37 rfl (lv_at hl 0 rfl) ?_
      refine x_iconst hx hb dX9_ends_38 ?_
      refine va_put (D := dg) (ci := 11) (v := .int (zI 0)) (ty := .int) (C := RX9) (T := TX9) (N := 23) hx hb htg inG_X9 tyX9 tyX9_ok nmX9 hown hK hP hD hS 0 rfl rfl 16 (Nat.le_of_ble_eq_true rfl) (htg _ wq_1573) (fun _ h9 => h9) rfl (by decide +kernel) rfl rfl (Nat.le_of_ble_eq_true rfl) dX9_ends_39 (fun H locs hP hD hS => ?_)
      have hP : va_P dg vwCl (modelC ck mo (encZ S) F1 F2 F3 F4 (upS (upS (upS M 8 6 g) 8 7 (M 8 9)) 8 8 0)) H := hP
      have hD : va_D A (modelC ck mo (encZ S) F1 F2 F3 F4 (upS (upS (upS M 8 6 g) 8 7 (M 8 9)) 8 8 0)) := hD
      refine lv_aload_n hx hb dX9_ends_42 rfl (lv_at hl 0 rfl) ?_
      refine lv_iload_n hx hb dX9_ends_43 rfl (lv_at hl 2 rfl) ?_
      refine x_calli (ws' := modelC ck mo (encZ S) F1 F2 F3 F4 (upS (upS (upS (upS M 8 6 g) 8 7 (M 8 9)) 8 8 0) 8 0 d)) [] (M := modelC ck mo (encZ S) F1 F2 F3 F4 (upS (upS (upS M 8 6 g) 8 7 (M 8 9)) 8 8 0)) (M' := modelC ck mo (encZ S) F1 F2 F3 F4 (upS (upS (upS (upS M 8 6 g) 8 7 (M 8 9)) 8 8 0) 8 0 d)) ([]) (List.append_nil _).symm (List.append_nil _).symm hP hD hS hA (fun hPm hDm => va_runV (As := [.int (zI d)]) (rest := []) ⟨hx, hb, hml, hown, htg⟩ (m_fails l dg ck mo S F1 F2 F3 F4 (upS (upS (upS M 8 6 g) 8 7 (M 8 9)) 8 8 0) d _ ) (cwV 1 htg (gwV wq_1677 wq_1679 wp_40 wq_15 wq_1680) rfl rfl rfl (by decide +kernel) ⟨Nat.le_of_ble_eq_true rfl, Nat.le_of_ble_eq_true rfl⟩) (wr_preV hK hPm hDm 0 11 rfl rfl) rfl rfl hl.1 rfl (lv_room (Nat.le_of_ble_eq_true rfl)) dX9_ends_44 ⟨Nat.zero_le _, Nat.zero_le _⟩) (fun r44 H locs hr44 hP hD hS => ?_)
      subst hr44
      have hc : ¬ g = 0 := by omega
      have hEq : modelC ck mo (encZ S) F1 F2 (endF F3 F1 M g) F4 (endM M g d) = modelC ck mo (encZ S) F1 F2 F3 F4 (upS (upS (upS (upS M 8 6 g) 8 7 (M 8 9)) 8 8 0) 8 0 d) := (by unfold endF endM; rw [if_neg hc, if_neg hc, if_neg (by omega)] <;> rfl)
      exact W.iret (v := _) hx hb hr (fun t9 ht9 hW9 => ⟨⟨_, (), rfl, (by unfold endR; rw [if_neg hc]), by rw [ht9, hEq]; exact hP, by rw [hEq, hAe]; exact hD⟩, hS.F ht9⟩) hS.2.2 dX9_ends_47
    · refine lv_aload_n hx hb dX9_ends_17 rfl (lv_at hl 0 rfl) ?_
      refine lv_iload_n hx hb dX9_ends_18 rfl (lv_at hl 1 rfl) ?_
      refine x_ineg hx hb dX9_ends_19 ?_
      refine x_calli (ws' := modelC ck mo (encZ S) F1 F2 F3 F4 (upS M 8 0 (-g))) [] (M := modelC ck mo (encZ S) F1 F2 F3 F4 M) (M' := modelC ck mo (encZ S) F1 F2 F3 F4 (upS M 8 0 (-g))) ([]) (List.append_nil _).symm (List.append_nil _).symm hP hD hS hA (fun hPm hDm => va_runV (As := [.int (zI (-g))]) (rest := []) ⟨hx, hb, hml, hown, htg⟩ (m_fails l dg ck mo S F1 F2 F3 F4 M (-g) _ ) (cwV 1 htg (gwV wq_1677 wq_1679 wp_40 wq_15 wq_1680) rfl rfl rfl (by decide +kernel) ⟨Nat.le_of_ble_eq_true rfl, Nat.le_of_ble_eq_true rfl⟩) (wr_preV hK hPm hDm 0 11 rfl rfl) rfl rfl hl.1 rfl (lv_room (Nat.le_of_ble_eq_true rfl)) dX9_ends_20 ⟨Nat.zero_le _, Nat.zero_le _⟩) (fun r20 H locs hr20 hP hD hS => ?_)
      subst hr20
      have hc : ¬ g = 0 := by omega
      have hEq : modelC ck mo (encZ S) F1 F2 (endF F3 F1 M g) F4 (endM M g d) = modelC ck mo (encZ S) F1 F2 F3 F4 (upS M 8 0 (-g)) := (by unfold endF endM; rw [if_neg hc, if_neg hc, if_pos (by omega)])
      exact W.iret (v := _) hx hb hr (fun t9 ht9 hW9 => ⟨⟨_, (), rfl, (by unfold endR; rw [if_neg hc]), by rw [ht9, hEq]; exact hP, by rw [hEq, hAe]; exact hD⟩, hS.F ht9⟩) hS.2.2 dX9_ends_23
  · refine lv_aload_n hx hb dX9_ends_4 rfl (lv_at hl 0 rfl) ?_
    refine lv_aload_n hx hb dX9_ends_5 rfl (lv_at hl 0 rfl) ?_
    refine va_get (D := dg) (ci := 11) (v := .int (zI (M 8 10))) (C := RX9) (T := TX9) (N := 23) hx hb htg inG_X9 hown hK hP 0 rfl rfl 18 (Nat.le_of_ble_eq_true rfl) (htg _ wq_1575) (fun _ h9 => h9) rfl dX9_ends_6 ?_
    refine x_calli (ws' := modelC ck mo (encZ S) F1 F2 (hiZ F3 F1 (M 8 1)) F4 (upS M 8 1 (k1Z (M 8 1)))) [] (M := modelC ck mo (encZ S) F1 F2 F3 F4 M) (M' := modelC ck mo (encZ S) F1 F2 (hiZ F3 F1 (M 8 1)) F4 (upS M 8 1 (k1Z (M 8 1)))) ([]) (List.append_nil _).symm (List.append_nil _).symm hP hD hS hA (fun hPm hDm => va_runV (As := [.int (zI (M 8 10))]) (rest := []) ⟨hx, hb, hml, hown, htg⟩ (m_changed l dg ck mo S F1 F2 F3 F4 M (M 8 10) _ (by first | omega | assumption)) (cwV 1 htg (gwV wq_1673 wq_1675 wp_39 wq_15 wq_1676) rfl rfl rfl (by decide +kernel) ⟨Nat.le_of_ble_eq_true rfl, Nat.le_of_ble_eq_true rfl⟩) (wr_preV hK hPm hDm 0 11 rfl rfl) rfl rfl hl.1 rfl (lv_room (Nat.le_of_ble_eq_true rfl)) dX9_ends_9 ⟨Nat.zero_le _, Nat.zero_le _⟩) (fun r9 H locs hr9 hP hD hS => ?_)
    subst hr9
    have hc : g = 0 := by omega
    have hEq : modelC ck mo (encZ S) F1 F2 (endF F3 F1 M g) F4 (endM M g d) = modelC ck mo (encZ S) F1 F2 (hiZ F3 F1 (M 8 1)) F4 (upS M 8 1 (k1Z (M 8 1))) := (by unfold endF endM; rw [if_pos hc, if_pos hc])
    exact W.iret (v := _) hx hb hr (fun t9 ht9 hW9 => ⟨⟨_, (), rfl, (by unfold endR; rw [if_pos hc]), by rw [ht9, hEq]; exact hP, by rw [hEq, hAe]; exact hD⟩, hS.F ht9⟩) hS.2.2 dX9_ends_12
