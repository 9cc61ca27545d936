/-! members of the JDK: the builder of the output -/
section LIBR
variable {p : Program} {l : Launch} {e : Env} {R : Room} {s : State} {m : MethodId} {args : Array Value} {below : List Frame} {meth : Method} {c : Code} {H : Heap} {locs : List Loc} {cells slots : Nat} {Q : State → Prop}
variable {cc : ByteArray} {pc : Nat} {ls : Array Slot} {rest st0 : List Value} {ar9 : Array Value} {A0 A : Nat → Prop} {H0 : Heap} {mc ms : Nat} {dg : va_G} {ws ws' M M' N : va_W} {D : va_G} {cl : List vw_C} {a : Nat} {tys : List (ClassId × FieldType)}
theorem x_callrB {ad : Nat} (e1 : ws.Perm (M ++ N)) (e2 : ws'.Perm (M' ++ N)) (hP : va_P dg vwCl ws H) (hD : va_D A0 ws) (hS : va_S A0 H0 H locs) (hA : ∀ q, H0.size ≤ q → A0 q)
    (hr : va_P dg vwCl M H → va_D A0 M → va_Run p l e R s m args below meth c H locs cells slots mc ms (F0 m pc ls st0) rest (va_Qr (fun _ : Unit => True) (fun _ ra t => ra = ad ∧ wrQ dg H.size M M' t) (va_A M H.size) ar9) (va_A M H.size))
    (kk : ∀ (H1 : Heap) (locs1 : List Loc), va_P dg vwCl ws' H1 → va_D A0 ws' → va_S A0 H0 H1 locs1 → W p l e R s m args below meth c H1 locs1 (cells + mc) (slots + ms) Q (F0 m (pc + 3) ls (.ref ad :: rest))) : W p l e R s m args below meth c H locs cells slots Q (F0 m pc ls st0) := by
  have hP' : va_P dg vwCl ([] ++ (M ++ N)) H := va_P_perm e1 hP
  have hD' : va_D A0 ([] ++ (M ++ N)) := va_D_perm e1 hD
  have hF := fr_F (dg := dg) (L := []) (M := M) (N := N) hD' hS hA
  refine va_callr (hr (va_P_l hP') (va_D_l hD')) hS (fun q _ h => hF q h) hF (fun u ra t H1 locs1 ht hvm hw hB hz1 hk1 hS1 => ?_)
  obtain ⟨rfl, hP1, hD1⟩ := hB
  rw [ht] at hP1
  obtain ⟨g1, g2⟩ := fr_mid hP' hD' hk1 hF hP1 hD1
  exact kk H1 locs1 (va_P_perm e2.symm g1) (va_D_perm e2.symm g2) hS1
theorem x_bastC (hexec : p.tables.exec = Jvm.exec) (hb : c.code = cc) (hK : va_K D cl tys s) (hP : va_P D cl ws H) (hD : va_D A ws) (hS : va_S A H0 H locs) (q0 t0 : Nat) {cA : ClassId} {n : Nat} {f f' : Nat → Int32} (ha : ws[q0]? = some (a, .inl (cA, n, .inl f))) (ht : tys[t0]? = some (cA, .byte)) {z v : Int} (hn : n < 2147483648) (hz : 0 ≤ z ∧ z < n) (hv : 0 ≤ v ∧ v < 128) (hf : ∀ j, j < n → upd f z.toNat (zI v) j = f' j) (hw : ws.set q0 (a, .inl (cA, n, .inl f')) = ws') (hdg : decode cc pc = .ok (.bastore, 1))
    (kk : ∀ (H1 : Heap) (locs1 : List Loc), va_P D cl ws' H1 → va_D A ws' → va_S A H0 H1 locs1 → W p l e R s m args below meth c H1 locs1 cells slots Q (F0 m (pc + 1) ls (rest))) : W p l e R s m args below meth c H locs cells slots Q (F0 m pc ls (.int (zI v) :: .int (zI z) :: .ref a :: rest)) := by
  refine x_bast hexec hb hK hP hD hS q0 t0 ha ht hn hz hv rfl hdg (fun H1 locs1 hP1 hD1 hS1 => ?_)
  subst hw
  exact kk H1 locs1 (va_P_cell hf hP1) (va_D_cell hD1) hS1
end LIBR
def sboC (ia : Nat → Nat) (O : Nat → Int) : va_W := [(ia 0, .inr (1, [.ref (ia 1), .int (zI 0), .int (zI (O 1)), .int (zI (O 0))]))]
def sbvC (ck : Nat → ClassId) (a : Nat) (Y : Int → Int) : va_W := [(a, .inl (ck 3, 16, .inl (zz Y)))]
/-- the letters of the list, from the place p on -/
def wrY (Y : Int → Int) (p : Int) : List Int → Int → Int
  | [] => Y
  | x :: xs => wrY (upZ Y p x) (p + 1) xs
theorem upZ_cm {Y : Int → Int} {i j v w : Int} (h : i ≠ j) : upZ (upZ Y i v) j w = upZ (upZ Y j w) i v := by
  funext z
  unfold upZ
  by_cases h1 : z = j
  · rw [if_pos h1, if_neg (by omega), if_pos h1]
  · rw [if_neg h1, if_neg h1]
def nnZ (x : Int) : Int := if 9 < x then 2 else 1
abbrev y7Z (Y : Int → Int) : Prop := ∀ z, 0 ≤ z → z < 16 → 0 ≤ Y z ∧ Y z ≤ 126

set_option maxHeartbeats 4000000 in
set_option maxRecDepth 100000 in
/-- java/lang/AbstractStringBuilder.isLatin1 -/
theorem j_sbLatin (l : Launch) (dg : va_G) (ck : Nat → ClassId) (ka : Nat → Nat) (ia : Nat → Nat) (O : Nat → Int)  : Met l yJ5_isLatin1_aae02 (.code yJ5_isLatin1_aae02 cJ5_isLatin1_aae02 1 (some .boolean) :: GW) ({ frames := 0, cells := 0, slots := 0, locals := 0 }) (va_Pc [.ref (ia 0)] (rdK dg ck ka (sboC ia O))) (vp_Si (fun r => r = zI 1)) 0 0 (fun _ => False) := by
  refine Met.ofW (cc := cJ5_isLatin1_aae02) (maxL := 1) (ret := (some .boolean)) (by decide) rfl ?_
  intro p e s m args below meth c s₁ B hml hv
  obtain ⟨rfl, ⟨hP, hK⟩, hC⟩ := hv
  have hx := B.exec
  have hb := B.bytes
  have hr := B.returns
  have hts := atoms_spec (ws := .code yJ5_isLatin1_aae02 cJ5_isLatin1_aae02 1 (some .boolean) :: GW) B.pre
  have htg : ∀ w ∈ GW, w.before _ s = true := fun w h => hts w (List.mem_cons_of_mem _ h)
  have hown : s.vm.findClass RJ5 = some m.cls := findClass_of_methodNamed B.named
  have hlocks := B.notSynchronized
  have hS : va_S (fun _ => False) s.heap s.heap [] := va_S.rf
  have hl := lv_entry ([.ref (ia 0)]) (n := 1) (Nat.le_of_ble_eq_true rfl)
  rw [lg_entry_eq]
  generalize (lg_sl ([.ref (ia 0)]) ++ List.replicate (1 - (lg_sl ([.ref (ia 0)])).length) Slot.unset).toArray = ls at hl ⊢
  have hl : lv_has ls 1 [(0, .ref (ia 0))] := hl
  refine va_gets (v := .int (zI 1)) hx hb hC.cmp hS hown (htg _ wq_256) (fun _ h9 => h9) dJ5_isLatin1_aae02_0 ?_
  refine x_if_eq (tgt := 17) hx hb dJ5_isLatin1_aae02_3 (by decide) (by omega) (fun c3 => absurd c3 (by decide)) (fun c3 => ?_)
  refine lv_aload_n hx hb dJ5_isLatin1_aae02_6 rfl (lv_at hl 0 rfl) ?_
  refine va_get (D := dg) (ci := 1) (v := .int (zI 0)) (C := RJ4) (T := TJ4) (N := 4) hx hb htg inG_J4 hown hK hP 0 rfl rfl 1 (Nat.le_of_ble_eq_true rfl) (htg _ wq_266) (fun _ h9 => h9) rfl dJ5_isLatin1_aae02_7 ?_
  refine x_if_ne (tgt := 17) hx hb dJ5_isLatin1_aae02_10 (by decide) (by omega) (fun c10 => absurd c10 (by decide)) (fun c10 => ?_)
  refine x_iconst hx hb dJ5_isLatin1_aae02_13 ?_
  refine lv_goto (tgt := 18) hx hb dJ5_isLatin1_aae02_14 (by decide) ?_
  exact W.zret (v := _) hx hb hr (by first | rfl | rfl) (fun t9 ht9 hW9 => ⟨_, rfl, rfl, ht9⟩) (fun _ h => by cases h) dJ5_isLatin1_aae02_18

set_option maxHeartbeats 4000000 in
set_option maxRecDepth 100000 in
/-- java/lang/AbstractStringBuilder.ensureCapacityInternal -/
theorem j_ensure (l : Launch) (dg : va_G) (ck : Nat → ClassId) (ka : Nat → Nat) (ia : Nat → Nat) (O : Nat → Int) (Y : Int → Int) (x : Int) (sz : Nat) (hx0 : 0 ≤ x ∧ x ≤ 16) : Met l yJ5_ensureCapacityInternal_d00df (.code yJ5_ensureCapacityInternal_d00df cJ5_ensureCapacityInternal_d00df 3 none :: GW) ({ frames := 0, cells := 0, slots := 0, locals := 0 }) (va_Pc [.ref (ia 0), .int (zI x)] (wrK dg ck ka sz (sboC ia O ++ (sbvC ck (ia 1) Y)))) (va_Qv (fun _ : Unit => True) (fun _ t9 => wrQ dg sz (sboC ia O ++ (sbvC ck (ia 1) Y)) (sboC ia O ++ (sbvC ck (ia 1) Y)) t9) (va_A (sboC ia O ++ (sbvC ck (ia 1) Y)) sz)) 0 0 (va_A (sboC ia O ++ (sbvC ck (ia 1) Y)) sz) := by
  refine Met.ofW (cc := cJ5_ensureCapacityInternal_d00df) (maxL := 3) (ret := none) (by decide) rfl ?_
  intro p e s m args below meth c s₁ B hml hv
  obtain ⟨rfl, ⟨hsz, hP, hK, hD0⟩, hC⟩ := hv
  have hx := B.exec
  have hb := B.bytes
  have hr := B.returns
  have hts := atoms_spec (ws := .code yJ5_ensureCapacityInternal_d00df cJ5_ensureCapacityInternal_d00df 3 none :: GW) B.pre
  have htg : ∀ w ∈ GW, w.before _ s = true := fun w h => hts w (List.mem_cons_of_mem _ h)
  have hown : s.vm.findClass RJ5 = some m.cls := findClass_of_methodNamed B.named
  have hlocks := B.notSynchronized
  subst hsz
  have hD := hD0.self (sz := s.heap.size)
  generalize hAe : va_A (sboC ia O ++ (sbvC ck (ia 1) Y)) s.heap.size = A at hD hC ⊢
  have hA : ∀ q : Nat, s.heap.size ≤ q → A q := fun q h => by rw [← hAe]; exact Or.inr h
  have hS : va_S A s.heap s.heap [] := va_S.rf
  have hP : va_P dg vwCl (sboC ia O ++ (sbvC ck (ia 1) Y)) s.heap := hP
  have hl := lv_entry ([.ref (ia 0), .int (zI x)]) (n := 3) (Nat.le_of_ble_eq_true rfl)
  rw [lg_entry_eq]
  generalize (lg_sl ([.ref (ia 0), .int (zI x)]) ++ List.replicate (3 - (lg_sl ([.ref (ia 0), .int (zI x)])).length) Slot.unset).toArray = ls at hl ⊢
  have hl : lv_has ls 3 [(0, .ref (ia 0)), (1, .int (zI x))] := hl
  refine lv_aload_n hx hb dJ5_ensureCapacityInternal_d00df_0 rfl (lv_at hl 0 rfl) ?_
  refine va_get (D := dg) (ci := 1) (v := .ref (ia 1)) (C := RJ4) (T := TJ4) (N := 4) hx hb htg inG_J4 hown hK hP 0 rfl rfl 0 (Nat.le_of_ble_eq_true rfl) (htg _ wq_265) (fun _ h9 => h9) rfl dJ5_ensureCapacityInternal_d00df_1 ?_
  refine x_alen hx hb hK hP 1 3 rfl rfl dJ5_ensureCapacityInternal_d00df_4 ?_
  refine lv_aload_n hx hb dJ5_ensureCapacityInternal_d00df_5 rfl (lv_at hl 0 rfl) ?_
  refine va_get (D := dg) (ci := 1) (v := .int (zI 0)) (C := RJ4) (T := TJ4) (N := 4) hx hb htg inG_J4 hown hK hP 0 rfl rfl 1 (Nat.le_of_ble_eq_true rfl) (htg _ wq_266) (fun _ h9 => h9) rfl dJ5_ensureCapacityInternal_d00df_6 ?_
  refine x_ishr0 hx hb dJ5_ensureCapacityInternal_d00df_9 ?_
  refine lv_istore_n (lv' := [(2, .int (zI 16)), (0, .ref (ia 0)), (1, .int (zI x))]) hx hb dJ5_ensureCapacityInternal_d00df_10 rfl hl (by decide) rfl (fun ls hl => ?_)
  refine lv_iload_n hx hb dJ5_ensureCapacityInternal_d00df_11 rfl (lv_at hl 2 rfl) ?_
  refine lv_iload_n hx hb dJ5_ensureCapacityInternal_d00df_12 rfl (lv_at hl 0 rfl) ?_
  refine x_isub hx hb dJ5_ensureCapacityInternal_d00df_13 ?_
  refine x_if_le (tgt := 38) hx hb dJ5_ensureCapacityInternal_d00df_14 (by decide) (by omega) (fun c14 => ?_) (fun c14 => ?_)
  · have hEq : sboC ia O ++ (sbvC ck (ia 1) Y) = sboC ia O ++ (sbvC ck (ia 1) Y) := rfl
    exact W.vret hx hb hr (fun t9 ht9 hW9 => ⟨⟨(), rfl, trivial, by rw [ht9, hEq]; exact hP, by rw [hEq, hAe]; exact hD⟩, hS.F ht9⟩) hS.2.2 dJ5_ensureCapacityInternal_d00df_38
  · exfalso; omega

set_option maxHeartbeats 4000000 in
set_option maxRecDepth 100000 in
/-- java/lang/StringLatin1.canEncode -/
theorem j_canEncode (l : Launch) (dg : va_G) (ck : Nat → ClassId) (ka : Nat → Nat) (x : Int) (hx0 : 0 ≤ x ∧ x ≤ 126) : Met l yJ1_canEncode_fc78d (.code yJ1_canEncode_fc78d cJ1_canEncode_fc78d 1 (some .boolean) :: GW) ({ frames := 0, cells := 0, slots := 0, locals := 0 }) (va_Pc [.int (zI x)] (rdK dg ck ka ([]))) (vp_Si (fun r => r = zI 1)) 0 0 (fun _ => False) := by
  refine Met.ofW (cc := cJ1_canEncode_fc78d) (maxL := 1) (ret := (some .boolean)) (by decide) rfl ?_
  intro p e s m args below meth c s₁ B hml hv
  obtain ⟨rfl, ⟨hP, hK⟩, hC⟩ := hv
  have hx := B.exec
  have hb := B.bytes
  have hr := B.returns
  have hts := atoms_spec (ws := .code yJ1_canEncode_fc78d cJ1_canEncode_fc78d 1 (some .boolean) :: GW) B.pre
  have htg : ∀ w ∈ GW, w.before _ s = true := fun w h => hts w (List.mem_cons_of_mem _ h)
  have hown : s.vm.findClass RJ1 = some m.cls := findClass_of_methodNamed B.named
  have hlocks := B.notSynchronized
  have hS : va_S (fun _ => False) s.heap s.heap [] := va_S.rf
  have hl := lv_entry ([.int (zI x)]) (n := 1) (Nat.le_of_ble_eq_true rfl)
  rw [lg_entry_eq]
  generalize (lg_sl ([.int (zI x)]) ++ List.replicate (1 - (lg_sl ([.int (zI x)])).length) Slot.unset).toArray = ls at hl ⊢
  have hl : lv_has ls 1 [(0, .int (zI x))] := hl
  refine lv_iload_n hx hb dJ1_canEncode_fc78d_0 rfl (lv_at hl 0 rfl) ?_
  refine x_sipush hx hb dJ1_canEncode_fc78d_1 (by decide) ?_
  refine x_icmp_gt (tgt := 11) hx hb dJ1_canEncode_fc78d_4 (by decide) (by omega) (by omega) (fun c4 => ?_) (fun c4 => ?_)
  · exfalso; omega
  · refine x_iconst hx hb dJ1_canEncode_fc78d_7 ?_
    refine lv_goto (tgt := 12) hx hb dJ1_canEncode_fc78d_8 (by decide) ?_
    exact W.zret (v := _) hx hb hr (by first | rfl | rfl) (fun t9 ht9 hW9 => ⟨_, rfl, rfl, ht9⟩) (fun _ h => by cases h) dJ1_canEncode_fc78d_12

set_option maxHeartbeats 4000000 in
set_option maxRecDepth 100000 in
/-- java/lang/AbstractStringBuilder.append -/
theorem j_appC_J5 (l : Launch) (dg : va_G) (ck : Nat → ClassId) (ka : Nat → Nat) (ia : Nat → Nat) (O : Nat → Int) (Y : Int → Int) (x : Int) (sz : Nat) (hc0 : 0 ≤ O 0 ∧ O 0 ≤ 15) (hx0 : 0 ≤ x ∧ x ≤ 126) : Met l yJ5_append_3fe6f (.code yJ5_append_3fe6f cJ5_append_3fe6f 2 (some (.object "java/lang/AbstractStringBuilder")) :: GW) ({ frames := 1, cells := 0, slots := 0, locals := 22 }) (va_Pc [.ref (ia 0), .int (zI x)] (wrK dg ck ka sz (sboC ia O ++ (sbvC ck (ia 1) Y)))) (va_Qr (fun _ : Unit => True) (fun _ ra t9 => ra = (ia 0) ∧ wrQ dg sz (sboC ia O ++ (sbvC ck (ia 1) Y)) (sboC ia (upO O 0 (O 0 + 1)) ++ (sbvC ck (ia 1) (upZ Y (O 0) x))) t9) (va_A (sboC ia O ++ (sbvC ck (ia 1) Y)) sz)) 0 0 (va_A (sboC ia O ++ (sbvC ck (ia 1) Y)) sz) := by
  refine Met.ofW (cc := cJ5_append_3fe6f) (maxL := 2) (ret := (some (.object "java/lang/AbstractStringBuilder"))) (by decide) rfl ?_
  intro p e s m args below meth c s₁ B hml hv
  obtain ⟨rfl, ⟨hsz, hP, hK, hD0⟩, hC⟩ := hv
  have hx := B.exec
  have hb := B.bytes
  have hr := B.returns
  have hts := atoms_spec (ws := .code yJ5_append_3fe6f cJ5_append_3fe6f 2 (some (.object "java/lang/AbstractStringBuilder")) :: GW) B.pre
  have htg : ∀ w ∈ GW, w.before _ s = true := fun w h => hts w (List.mem_cons_of_mem _ h)
  have hown : s.vm.findClass RJ5 = some m.cls := findClass_of_methodNamed B.named
  have hlocks := B.notSynchronized
  subst hsz
  have hD := hD0.self (sz := s.heap.size)
  generalize hAe : va_A (sboC ia O ++ (sbvC ck (ia 1) Y)) s.heap.size = A at hD hC ⊢
  have hA : ∀ q : Nat, s.heap.size ≤ q → A q := fun q h => by rw [← hAe]; exact Or.inr h
  have hS : va_S A s.heap s.heap [] := va_S.rf
  have hP : va_P dg vwCl (sboC ia O ++ (sbvC ck (ia 1) Y)) s.heap := hP
  have hl := lv_entry ([.ref (ia 0), .int (zI x)]) (n := 2) (Nat.le_of_ble_eq_true rfl)
  rw [lg_entry_eq]
  generalize (lg_sl ([.ref (ia 0), .int (zI x)]) ++ List.replicate (2 - (lg_sl ([.ref (ia 0), .int (zI x)])).length) Slot.unset).toArray = ls at hl ⊢
  have hl : lv_has ls 2 [(0, .ref (ia 0)), (1, .int (zI x))] := hl
  refine lv_aload_n hx hb dJ5_append_3fe6f_0 rfl (lv_at hl 0 rfl) ?_
  refine lv_aload_n hx hb dJ5_append_3fe6f_1 rfl (lv_at hl 0 rfl) ?_
  refine va_get (D := dg) (ci := 1) (v := .int (zI (O 0))) (C := RJ4) (T := TJ4) (N := 4) hx hb htg inG_J4 hown hK hP 0 rfl rfl 3 (Nat.le_of_ble_eq_true rfl) (htg _ wq_269) (fun _ h9 => h9) rfl dJ5_append_3fe6f_2 ?_
  refine x_iconst hx hb dJ5_append_3fe6f_5 ?_
  refine x_iadd hx hb dJ5_append_3fe6f_6 ?_
  refine x_callv (ws' := sboC ia O ++ (sbvC ck (ia 1) Y)) [] (M := sboC ia O ++ (sbvC ck (ia 1) Y)) (M' := sboC ia O ++ (sbvC ck (ia 1) Y)) ([]) (List.append_nil _).symm (List.append_nil _).symm hP hD hS hA (fun hPm hDm => va_runV (As := [.int (zI ((O 0) + 1))]) (rest := []) ⟨hx, hb, hml, hown, htg⟩ (j_ensure l dg ck ka ia O Y ((O 0) + 1) _ (by omega)) (cwVC 1 htg wq_1126 wq_1128 (va_Nw.use rfl (hC.nw (w := .selects "java/lang/StringBuilder" ⟨"java/lang/AbstractStringBuilder", "ensureCapacityInternal", "(I)V"⟩ ⟨"java/lang/AbstractStringBuilder", "ensureCapacityInternal", "(I)V"⟩) (by decide +kernel))) wq_11 wq_1129 rfl rfl (by decide +kernel) ⟨Nat.le_of_ble_eq_true rfl, Nat.le_of_ble_eq_true rfl⟩) (wrK_preV hK hPm hDm hC hS hA 0 1 rfl rfl) rfl rfl hl.1 rfl (lv_room (Nat.le_of_ble_eq_true rfl)) dJ5_append_3fe6f_7 ⟨Nat.zero_le _, Nat.zero_le _⟩) (fun H locs hP hD hS => ?_)
  refine lv_aload_n hx hb dJ5_append_3fe6f_10 rfl (lv_at hl 0 rfl) ?_
  refine vp_callSi (W.runV (As := []) (rest := []) ⟨hx, hb, hml, hown, htg⟩ (j_sbLatin l dg ck ka ia O ) (cwVC 0 htg wq_1155 wq_1156 (htg _ wq_1158) wq_11 wq_1159 rfl rfl (by decide +kernel) ⟨Nat.le_of_ble_eq_true rfl, Nat.le_of_ble_eq_true rfl⟩) (rdK_preV hK (va_P_l hP) hC hS 0 1 rfl rfl) rfl rfl hl.1 rfl (lv_room (Nat.le_of_ble_eq_true rfl)) dJ5_append_3fe6f_11 ⟨Nat.zero_le _, Nat.zero_le _⟩) (fun r11 hr11 => ?_)
  subst hr11
  refine x_if_eq (tgt := 45) hx hb dJ5_append_3fe6f_14 (by decide) (by omega) (fun c14 => absurd c14 (by decide)) (fun c14 => ?_)
  refine lv_iload_n hx hb dJ5_append_3fe6f_17 rfl (lv_at hl 1 rfl) ?_
  refine vp_callSi (W.runS (As := [.int (zI x)]) (rest := []) ⟨hx, hb, hml, hown, htg⟩ (j_canEncode l dg ck ka x (by omega)) (cwSC 1 htg wq_1362 wq_1363 wq_30 wq_1364 rfl rfl (by decide +kernel) ⟨Nat.le_of_ble_eq_true rfl, Nat.le_of_ble_eq_true rfl⟩) (rdK_preS hK va_P_nil hC hS) rfl rfl hl.1 rfl (lv_room (Nat.le_of_ble_eq_true rfl)) dJ5_append_3fe6f_18 ⟨Nat.zero_le _, Nat.zero_le _⟩) (fun r18 hr18 => ?_)
  subst hr18
  refine x_if_eq (tgt := 45) hx hb dJ5_append_3fe6f_21 (by decide) (by omega) (fun c21 => absurd c21 (by decide)) (fun c21 => ?_)
  refine lv_aload_n hx hb dJ5_append_3fe6f_24 rfl (lv_at hl 0 rfl) ?_
  refine va_get (D := dg) (ci := 1) (v := .ref (ia 1)) (C := RJ4) (T := TJ4) (N := 4) hx hb htg inG_J4 hown hK hP 0 rfl rfl 0 (Nat.le_of_ble_eq_true rfl) (htg _ wq_265) (fun _ h9 => h9) rfl dJ5_append_3fe6f_25 ?_
  refine lv_aload_n hx hb dJ5_append_3fe6f_28 rfl (lv_at hl 0 rfl) ?_
  refine lv_dup hx hb dJ5_append_3fe6f_29 rfl ?_
  refine va_get (D := dg) (ci := 1) (v := .int (zI (O 0))) (C := RJ4) (T := TJ4) (N := 4) hx hb htg inG_J4 hown hK hP 0 rfl rfl 3 (Nat.le_of_ble_eq_true rfl) (htg _ wq_269) (fun _ h9 => h9) rfl dJ5_append_3fe6f_30 ?_
  refine lv_dup_x1 hx hb dJ5_append_3fe6f_33 rfl rfl ?_
  refine x_iconst hx hb dJ5_append_3fe6f_34 ?_
  refine x_iadd hx hb dJ5_append_3fe6f_35 ?_
  refine va_put (D := dg) (ci := 1) (v := .int (zI ((O 0) + 1))) (ty := .int) (C := RJ4) (T := TJ4) (N := 4) hx hb htg inG_J4 tyJ4 tyJ4_ok nmJ4 hown hK hP hD hS 0 rfl rfl 3 (Nat.le_of_ble_eq_true rfl) (htg _ wq_269) (fun _ h9 => h9) rfl (by decide +kernel) rfl rfl (Nat.le_of_ble_eq_true rfl) dJ5_append_3fe6f_36 (fun H locs hP hD hS => ?_)
  have hP : va_P dg vwCl (sboC ia (upO O 0 ((O 0) + 1)) ++ (sbvC ck (ia 1) Y)) H := hP
  have hD : va_D A (sboC ia (upO O 0 ((O 0) + 1)) ++ (sbvC ck (ia 1) Y)) := hD
  refine lv_iload_n hx hb dJ5_append_3fe6f_39 rfl (lv_at hl 1 rfl) ?_
  refine x_i2b hx hb dJ5_append_3fe6f_40 (by omega) ?_
  refine x_bastC (ws' := sboC ia (upO O 0 ((O 0) + 1)) ++ (sbvC ck (ia 1) (upZ Y (O 0) x))) hx hb hK hP hD hS 1 3 rfl rfl (by decide) (by omega) (by omega) (fun j _ => congrFun (zz_up (by omega)) j) rfl dJ5_append_3fe6f_41 (fun H locs hP hD hS => ?_)
  refine lv_goto (tgt := 75) hx hb dJ5_append_3fe6f_42 (by decide) ?_
  refine lv_aload_n hx hb dJ5_append_3fe6f_75 rfl (lv_at hl 0 rfl) ?_
  have hEq : sboC ia (upO O 0 (O 0 + 1)) ++ (sbvC ck (ia 1) (upZ Y (O 0) x)) = sboC ia (upO O 0 ((O 0) + 1)) ++ (sbvC ck (ia 1) (upZ Y (O 0) x)) := rfl
  exact W.aret (v := .ref (ia 0)) hx hb hr (Or.inl ⟨_, rfl⟩) (Or.inr ⟨_, rfl⟩) (fun t9 ht9 hW9 => ⟨⟨(), _, rfl, trivial, rfl, by rw [ht9, hEq]; exact hP, by rw [hEq, hAe]; exact hD⟩, hS.F ht9⟩) hS.2.2 dJ5_append_3fe6f_76

set_option maxHeartbeats 4000000 in
set_option maxRecDepth 100000 in
/-- java/lang/StringBuilder.append -/
theorem j_appC_J4 (l : Launch) (dg : va_G) (ck : Nat → ClassId) (ka : Nat → Nat) (ia : Nat → Nat) (O : Nat → Int) (Y : Int → Int) (x : Int) (sz : Nat) (hc0 : 0 ≤ O 0 ∧ O 0 ≤ 15) (hx0 : 0 ≤ x ∧ x ≤ 126) : Met l yJ4_append_cf468 (.code yJ4_append_cf468 cJ4_append_cf468 2 (some (.object "java/lang/StringBuilder")) :: GW) ({ frames := 2, cells := 0, slots := 0, locals := 43 }) (va_Pc [.ref (ia 0), .int (zI x)] (wrK dg ck ka sz (sboC ia O ++ (sbvC ck (ia 1) Y)))) (va_Qr (fun _ : Unit => True) (fun _ ra t9 => ra = (ia 0) ∧ wrQ dg sz (sboC ia O ++ (sbvC ck (ia 1) Y)) (sboC ia (upO O 0 (O 0 + 1)) ++ (sbvC ck (ia 1) (upZ Y (O 0) x))) t9) (va_A (sboC ia O ++ (sbvC ck (ia 1) Y)) sz)) 0 0 (va_A (sboC ia O ++ (sbvC ck (ia 1) Y)) sz) := by
  refine Met.ofW (cc := cJ4_append_cf468) (maxL := 2) (ret := (some (.object "java/lang/StringBuilder"))) (by decide) rfl ?_
  intro p e s m args below meth c s₁ B hml hv
  obtain ⟨rfl, ⟨hsz, hP, hK, hD0⟩, hC⟩ := hv
  have hx := B.exec
  have hb := B.bytes
  have hr := B.returns
  have hts := atoms_spec (ws := .code yJ4_append_cf468 cJ4_append_cf468 2 (some (.object "java/lang/StringBuilder")) :: GW) B.pre
  have htg : ∀ w ∈ GW, w.before _ s = true := fun w h => hts w (List.mem_cons_of_mem _ h)
  have hown : s.vm.findClass RJ4 = some m.cls := findClass_of_methodNamed B.named
  have hlocks := B.notSynchronized
  subst hsz
  have hD := hD0.self (sz := s.heap.size)
  generalize hAe : va_A (sboC ia O ++ (sbvC ck (ia 1) Y)) s.heap.size = A at hD hC ⊢
  have hA : ∀ q : Nat, s.heap.size ≤ q → A q := fun q h => by rw [← hAe]; exact Or.inr h
  have hS : va_S A s.heap s.heap [] := va_S.rf
  have hP : va_P dg vwCl (sboC ia O ++ (sbvC ck (ia 1) Y)) s.heap := hP
  have hl := lv_entry ([.ref (ia 0), .int (zI x)]) (n := 2) (Nat.le_of_ble_eq_true rfl)
  rw [lg_entry_eq]
  generalize (lg_sl ([.ref (ia 0), .int (zI x)]) ++ List.replicate (2 - (lg_sl ([.ref (ia 0), .int (zI x)])).length) Slot.unset).toArray = ls at hl ⊢
  have hl : lv_has ls 2 [(0, .ref (ia 0)), (1, .int (zI x))] := hl
  refine lv_aload_n hx hb dJ4_append_cf468_0 rfl (lv_at hl 0 rfl) ?_
  refine lv_iload_n hx hb dJ4_append_cf468_1 rfl (lv_at hl 1 rfl) ?_
  refine x_callrB (ws' := sboC ia (upO O 0 ((O 0) + 1)) ++ (sbvC ck (ia 1) (upZ Y (O 0) x))) (M := sboC ia O ++ (sbvC ck (ia 1) Y)) (M' := sboC ia (upO O 0 ((O 0) + 1)) ++ (sbvC ck (ia 1) (upZ Y (O 0) x))) (N := []) (cat_perm [sboC ia O, sbvC ck (ia 1) Y] [0, 1] [] 2 rfl (by decide)) (cat_perm [sboC ia (upO O 0 ((O 0) + 1)), sbvC ck (ia 1) (upZ Y (O 0) x)] [0, 1] [] 2 rfl (by decide)) hP hD hS hA (fun hPm hDm => va_runSU ((hK.1 1 _ rfl).2) (As := [.int (zI x)]) (rest := []) ⟨hx, hb, hml, hown, htg⟩ (j_appC_J5 l dg ck ka ia O Y x _ (show 0 ≤ (O 0) ∧ (O 0) ≤ 15 by omega) (by omega)) (va_cwSU 1 htg (gwSU wq_1359 wq_2111 wq_278 wq_1360 wq_11 wq_1361) rfl rfl rfl (by decide +kernel) ⟨Nat.le_of_ble_eq_true rfl, Nat.le_of_ble_eq_true rfl⟩) (wrK_preV hK hPm hDm hC hS hA 0 1 rfl rfl) rfl rfl hl.1 rfl (lv_room (Nat.le_of_ble_eq_true rfl)) dJ4_append_cf468_2 ⟨Nat.zero_le _, Nat.zero_le _⟩) (fun H locs hP hD hS => ?_)
  refine lv_pop hx hb dJ4_append_cf468_5 rfl ?_
  refine lv_aload_n hx hb dJ4_append_cf468_6 rfl (lv_at hl 0 rfl) ?_
  have hEq : sboC ia (upO O 0 (O 0 + 1)) ++ (sbvC ck (ia 1) (upZ Y (O 0) x)) = sboC ia (upO O 0 ((O 0) + 1)) ++ (sbvC ck (ia 1) (upZ Y (O 0) x)) := rfl
  exact W.aret (v := .ref (ia 0)) hx hb hr (Or.inl ⟨_, rfl⟩) (Or.inr ⟨_, rfl⟩) (fun t9 ht9 hW9 => ⟨⟨(), _, rfl, trivial, rfl, by rw [ht9, hEq]; exact hP, by rw [hEq, hAe]; exact hD⟩, hS.F ht9⟩) hS.2.2 dJ4_append_cf468_7
