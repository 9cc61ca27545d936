/-! members of the JDK: the builder of the output -/
section LIBR
variable {p : Program} {l : Launch} {e : Env} {R : Room} {s : State} {m : MethodId} {args : Array Value} {below : List Frame} {meth : Method} {c : Code} {H : Heap} {locs : List Loc} {cells slots : Nat} {Q : State → Prop}
variable {cc : ByteArray} {pc : Nat} {ls : Array Slot} {rest st0 : List Value} {ar9 : Array Value} {A0 A : Nat → Prop} {H0 : Heap} {mc ms : Nat} {dg : va_G} {ws ws' M M' N : va_W} {D : va_G} {cl : List vw_C} {a : Nat} {tys : List (ClassId × FieldType)}
theorem x_callrB {ad : Nat} (e1 : ws.Perm (M ++ N)) (e2 : ws'.Perm (M' ++ N)) (hP : va_P dg vwCl ws H) (hD : va_D A0 ws) (hS : va_S A0 H0 H locs) (hA : ∀ q, H0.size ≤ q → A0 q)
    (hr : va_P dg vwCl M H → va_D A0 M → va_Run p l e R s m args below meth c H locs cells slots mc ms (F0 m pc ls st0) rest (va_Qr (fun _ : Unit => True) (fun _ ra t => ra = ad ∧ wrQ dg H.size M M' t) (va_A M H.size) ar9) (va_A M H.size))
    (kk : ∀ (H1 : Heap) (locs1 : List Loc), va_P dg vwCl ws' H1 → va_D A0 ws' → va_S A0 H0 H1 locs1 → W p l e R s m args below meth c H1 locs1 (cells + mc) (slots + ms) Q (F0 m (pc + 3) ls (.ref ad :: rest))) : W p l e R s m args below meth c H locs cells slots Q (F0 m pc ls st0) := by
  have hP' : va_P dg vwCl ([] ++ (M ++ N)) H := va_P_perm e1 hP
  have hD' : va_D A0 ([] ++ (M ++ N)) := va_D_perm e1 hD
  have hF := fr_F (dg := dg) (L := []) (M := M) (N := N) hD' hS hA
  refine va_callr (hr (va_P_l hP') (va_D_l hD')) hS (fun q _ h => hF q h) hF (fun u ra t H1 locs1 ht hvm hw hB hz1 hk1 hS1 => ?_)
  obtain ⟨rfl, hP1, hD1⟩ := hB
  rw [ht] at hP1
  obtain ⟨g1, g2⟩ := fr_mid hP' hD' hk1 hF hP1 hD1
  exact kk H1 locs1 (va_P_perm e2.symm g1) (va_D_perm e2.symm g2) hS1
theorem x_bastC (hexec : p.tables.exec = Jvm.exec) (hb : c.code = cc) (hK : va_K D cl tys s) (hP : va_P D cl ws H) (hD : va_D A ws) (hS : va_S A H0 H locs) (q0 t0 : Nat) {cA : ClassId} {n : Nat} {f f' : Nat → Int32} (ha : ws[q0]? = some (a, .inl (cA, n, .inl f))) (ht : tys[t0]? = some (cA, .byte)) {z v : Int} (hn : n < 2147483648) (hz : 0 ≤ z ∧ z < n) (hv : 0 ≤ v ∧ v < 128) (hf : ∀ j, j < n → upd f z.toNat (zI v) j = f' j) (hw : ws.set q0 (a, .inl (cA, n, .inl f')) = ws') (hdg : decode cc pc = .ok (.bastore, 1))
    (kk : ∀ (H1 : Heap) (locs1 : List Loc), va_P D cl ws' H1 → va_D A ws' → va_S A H0 H1 locs1 → W p l e R s m args below meth c H1 locs1 cells slots Q (F0 m (pc + 1) ls (rest))) : W p l e R s m args below meth c H locs cells slots Q (F0 m pc ls (.int (zI v) :: .int (zI z) :: .ref a :: rest)) := by
  refine x_bast hexec hb hK hP hD hS q0 t0 ha ht hn hz hv rfl hdg (fun H1 locs1 hP1 hD1 hS1 => ?_)
  subst hw
  exact kk H1 locs1 (va_P_cell hf hP1) (va_D_cell hD1) hS1
end LIBR
def sboC (ia : Nat → Nat) (O : Nat → Int) : va_W := [(ia 0, .inr (1, [.ref (ia 1), .int (zI 0), .int (zI (O 1)), .int (zI (O 0))]))]
def sbvC (ck : Nat → ClassId) (a : Nat) (Y : Int → Int) : va_W := [(a, .inl (ck 3, 16, .inl (zz Y)))]
/-- the letters of the list, from the place p on -/
def wrY (Y : Int → Int) (p : Int) : List Int → Int → Int
  | [] => Y
  | x :: xs => wrY (upZ Y p x) (p + 1) xs
theorem upZ_cm {Y : Int → Int} {i j v w : Int} (h : i ≠ j) : upZ (upZ Y i v) j w = upZ (upZ Y j w) i v := by
  funext z
  unfold upZ
  by_cases h1 : z = j
  · rw [if_pos h1, if_neg (by omega), if_pos h1]
  · rw [if_neg h1, if_neg h1]
theorem upO_id {O : Nat → Int} {k : Nat} : upO O k (O k) = O := by
  funext j
  unfold upO
  split
  · rename_i h; rw [h]
  · rfl
def nnZ (x : Int) : Int := if 9 < x then 2 else 1
abbrev y7Z (Y : Int → Int) : Prop := ∀ z, 0 ≤ z → z < 16 → 0 ≤ Y z ∧ Y z ≤ 126

set_option maxHeartbeats 4000000 in
set_option maxRecDepth 100000 in
/-- java/lang/AbstractStringBuilder.isLatin1 -/
theorem j_sbLatin (l : Launch) (dg : va_G) (ck : Nat → ClassId) (ka : Nat → Nat) (ia : Nat → Nat) (O : Nat → Int)  : Met l yJ5_isLatin1_aae02 (.code yJ5_isLatin1_aae02 cJ5_isLatin1_aae02 1 (some .boolean) :: GW) ({ frames := 0, cells := 0, slots := 0, locals := 0 }) (va_Pc [.ref (ia 0)] (rdK dg ck ka (sboC ia O))) (vp_Si (fun r => r = zI 1)) 0 0 (fun _ => False) := by
  refine Met.ofW (cc := cJ5_isLatin1_aae02) (maxL := 1) (ret := (some .boolean)) (by decide) rfl ?_
  intro p e s m args below meth c s₁ B hml hv
  obtain ⟨rfl, ⟨hP, hK⟩, hC⟩ := hv
  have hx := B.exec
  have hb := B.bytes
  have hr := B.returns
  have hts := atoms_spec (ws := .code yJ5_isLatin1_aae02 cJ5_isLatin1_aae02 1 (some .boolean) :: GW) B.pre
  have htg : ∀ w ∈ GW, w.before _ s = true := fun w h => hts w (List.mem_cons_of_mem _ h)
  have hown : s.vm.findClass RJ5 = some m.cls := findClass_of_methodNamed B.named
  have hlocks := B.notSynchronized
  have hS : va_S (fun _ => False) s.heap s.heap [] := va_S.rf
  have hl := lv_entry ([.ref (ia 0)]) (n := 1) (Nat.le_of_ble_eq_true rfl)
  rw [lg_entry_eq]
  generalize (lg_sl ([.ref (ia 0)]) ++ List.replicate (1 - (lg_sl ([.ref (ia 0)])).length) Slot.unset).toArray = ls at hl ⊢
  have hl : lv_has ls 1 [(0, .ref (ia 0))] := hl
  refine va_gets (v := .int (zI 1)) hx hb hC.cmp hS hown (htg _ wq_255) (fun _ h9 => h9) dJ5_isLatin1_aae02_0 ?_
  refine x_if_eq (tgt := 17) hx hb dJ5_isLatin1_aae02_3 (by decide) (by omega) (fun c3 => absurd c3 (by decide)) (fun c3 => ?_)
  refine lv_aload_n hx hb dJ5_isLatin1_aae02_6 rfl (lv_at hl 0 rfl) ?_
  refine va_get (D := dg) (ci := 1) (v := .int (zI 0)) (C := RJ4) (T := TJ4) (N := 4) hx hb htg inG_J4 hown hK hP 0 rfl rfl 1 (Nat.le_of_ble_eq_true rfl) (htg _ wq_265) (fun _ h9 => h9) rfl dJ5_isLatin1_aae02_7 ?_
  refine x_if_ne (tgt := 17) hx hb dJ5_isLatin1_aae02_10 (by decide) (by omega) (fun c10 => absurd c10 (by decide)) (fun c10 => ?_)
  refine x_iconst hx hb dJ5_isLatin1_aae02_13 ?_
  refine lv_goto (tgt := 18) hx hb dJ5_isLatin1_aae02_14 (by decide) ?_
  exact W.zret (v := _) hx hb hr (by first | rfl | rfl) (fun t9 ht9 hW9 => ⟨_, rfl, rfl, ht9⟩) (fun _ h => by cases h) dJ5_isLatin1_aae02_18

set_option maxHeartbeats 4000000 in
set_option maxRecDepth 100000 in
/-- java/lang/AbstractStringBuilder.ensureCapacityInternal -/
theorem j_ensure (l : Launch) (dg : va_G) (ck : Nat → ClassId) (ka : Nat → Nat) (ia : Nat → Nat) (O : Nat → Int) (Y : Int → Int) (x : Int) (sz : Nat) (hx0 : 0 ≤ x ∧ x ≤ 16) : Met l yJ5_ensureCapacityInternal_d00df (.code yJ5_ensureCapacityInternal_d00df cJ5_ensureCapacityInternal_d00df 3 none :: GW) ({ frames := 0, cells := 0, slots := 0, locals := 0 }) (va_Pc [.ref (ia 0), .int (zI x)] (wrK dg ck ka sz (sboC ia O ++ (sbvC ck (ia 1) Y)))) (va_Qv (fun _ : Unit => True) (fun _ t9 => wrQ dg sz (sboC ia O ++ (sbvC ck (ia 1) Y)) (sboC ia O ++ (sbvC ck (ia 1) Y)) t9) (va_A (sboC ia O ++ (sbvC ck (ia 1) Y)) sz)) 0 0 (va_A (sboC ia O ++ (sbvC ck (ia 1) Y)) sz) := by
  refine Met.ofW (cc := cJ5_ensureCapacityInternal_d00df) (maxL := 3) (ret := none) (by decide) rfl ?_
  intro p e s m args below meth c s₁ B hml hv
  obtain ⟨rfl, ⟨hsz, hP, hK, hD0⟩, hC⟩ := hv
  have hx := B.exec
  have hb := B.bytes
  have hr := B.returns
  have hts := atoms_spec (ws := .code yJ5_ensureCapacityInternal_d00df cJ5_ensureCapacityInternal_d00df 3 none :: GW) B.pre
  have htg : ∀ w ∈ GW, w.before _ s = true := fun w h => hts w (List.mem_cons_of_mem _ h)
  have hown : s.vm.findClass RJ5 = some m.cls := findClass_of_methodNamed B.named
  have hlocks := B.notSynchronized
  subst hsz
  have hD := hD0.self (sz := s.heap.size)
  generalize hAe : va_A (sboC ia O ++ (sbvC ck (ia 1) Y)) s.heap.size = A at hD hC ⊢
  have hA : ∀ q : Nat, s.heap.size ≤ q → A q := fun q h => by rw [← hAe]; exact Or.inr h
  have hS : va_S A s.heap s.heap [] := va_S.rf
  have hP : va_P dg vwCl (sboC ia O ++ (sbvC ck (ia 1) Y)) s.heap := hP
  have hl := lv_entry ([.ref (ia 0), .int (zI x)]) (n := 3) (Nat.le_of_ble_eq_true rfl)
  rw [lg_entry_eq]
  generalize (lg_sl ([.ref (ia 0), .int (zI x)]) ++ List.replicate (3 - (lg_sl ([.ref (ia 0), .int (zI x)])).length) Slot.unset).toArray = ls at hl ⊢
  have hl : lv_has ls 3 [(0, .ref (ia 0)), (1, .int (zI x))] := hl
  refine lv_aload_n hx hb dJ5_ensureCapacityInternal_d00df_0 rfl (lv_at hl 0 rfl) ?_
  refine va_get (D := dg) (ci := 1) (v := .ref (ia 1)) (C := RJ4) (T := TJ4) (N := 4) hx hb htg inG_J4 hown hK hP 0 rfl rfl 0 (Nat.le_of_ble_eq_true rfl) (htg _ wq_264) (fun _ h9 => h9) rfl dJ5_ensureCapacityInternal_d00df_1 ?_
  refine x_alen hx hb hK hP 1 3 rfl rfl dJ5_ensureCapacityInternal_d00df_4 ?_
  refine lv_aload_n hx hb dJ5_ensureCapacityInternal_d00df_5 rfl (lv_at hl 0 rfl) ?_
  refine va_get (D := dg) (ci := 1) (v := .int (zI 0)) (C := RJ4) (T := TJ4) (N := 4) hx hb htg inG_J4 hown hK hP 0 rfl rfl 1 (Nat.le_of_ble_eq_true rfl) (htg _ wq_265) (fun _ h9 => h9) rfl dJ5_ensureCapacityInternal_d00df_6 ?_
  refine x_ishr0 hx hb dJ5_ensureCapacityInternal_d00df_9 ?_
  refine lv_istore_n (lv' := [(2, .int (zI 16)), (0, .ref (ia 0)), (1, .int (zI x))]) hx hb dJ5_ensureCapacityInternal_d00df_10 rfl hl (by decide) rfl (fun ls hl => ?_)
  refine lv_iload_n hx hb dJ5_ensureCapacityInternal_d00df_11 rfl (lv_at hl 2 rfl) ?_
  refine lv_iload_n hx hb dJ5_ensureCapacityInternal_d00df_12 rfl (lv_at hl 0 rfl) ?_
  refine x_isub hx hb dJ5_ensureCapacityInternal_d00df_13 ?_
  refine x_if_le (tgt := 38) hx hb dJ5_ensureCapacityInternal_d00df_14 (by decide) (by omega) (fun c14 => ?_) (fun c14 => ?_)
  · have hEq : sboC ia O ++ (sbvC ck (ia 1) Y) = sboC ia O ++ (sbvC ck (ia 1) Y) := rfl
    exact W.vret hx hb hr (fun t9 ht9 hW9 => ⟨⟨(), rfl, trivial, by rw [ht9, hEq]; exact hP, by rw [hEq, hAe]; exact hD⟩, hS.F ht9⟩) hS.2.2 dJ5_ensureCapacityInternal_d00df_38
  · exfalso; omega

set_option maxHeartbeats 4000000 in
set_option maxRecDepth 100000 in
/-- java/lang/StringLatin1.canEncode -/
theorem j_canEncode (l : Launch) (dg : va_G) (ck : Nat → ClassId) (ka : Nat → Nat) (x : Int) (hx0 : 0 ≤ x ∧ x ≤ 126) : Met l yJ1_canEncode_fc78d (.code yJ1_canEncode_fc78d cJ1_canEncode_fc78d 1 (some .boolean) :: GW) ({ frames := 0, cells := 0, slots := 0, locals := 0 }) (va_Pc [.int (zI x)] (rdK dg ck ka ([]))) (vp_Si (fun r => r = zI 1)) 0 0 (fun _ => False) := by
  refine Met.ofW (cc := cJ1_canEncode_fc78d) (maxL := 1) (ret := (some .boolean)) (by decide) rfl ?_
  intro p e s m args below meth c s₁ B hml hv
  obtain ⟨rfl, ⟨hP, hK⟩, hC⟩ := hv
  have hx := B.exec
  have hb := B.bytes
  have hr := B.returns
  have hts := atoms_spec (ws := .code yJ1_canEncode_fc78d cJ1_canEncode_fc78d 1 (some .boolean) :: GW) B.pre
  have htg : ∀ w ∈ GW, w.before _ s = true := fun w h => hts w (List.mem_cons_of_mem _ h)
  have hown : s.vm.findClass RJ1 = some m.cls := findClass_of_methodNamed B.named
  have hlocks := B.notSynchronized
  have hS : va_S (fun _ => False) s.heap s.heap [] := va_S.rf
  have hl := lv_entry ([.int (zI x)]) (n := 1) (Nat.le_of_ble_eq_true rfl)
  rw [lg_entry_eq]
  generalize (lg_sl ([.int (zI x)]) ++ List.replicate (1 - (lg_sl ([.int (zI x)])).length) Slot.unset).toArray = ls at hl ⊢
  have hl : lv_has ls 1 [(0, .int (zI x))] := hl
  refine lv_iload_n hx hb dJ1_canEncode_fc78d_0 rfl (lv_at hl 0 rfl) ?_
  refine x_sipush hx hb dJ1_canEncode_fc78d_1 (by decide) ?_
  refine x_icmp_gt (tgt := 11) hx hb dJ1_canEncode_fc78d_4 (by decide) (by omega) (by omega) (fun c4 => ?_) (fun c4 => ?_)
  · exfalso; omega
  · refine x_iconst hx hb dJ1_canEncode_fc78d_7 ?_
    refine lv_goto (tgt := 12) hx hb dJ1_canEncode_fc78d_8 (by decide) ?_
    exact W.zret (v := _) hx hb hr (by first | rfl | rfl) (fun t9 ht9 hW9 => ⟨_, rfl, rfl, ht9⟩) (fun _ h => by cases h) dJ1_canEncode_fc78d_12

set_option maxHeartbeats 4000000 in
set_option maxRecDepth 100000 in
/-- java/lang/AbstractStringBuilder.append -/
theorem j_appC_J5 (l : Launch) (dg : va_G) (ck : Nat → ClassId) (ka : Nat → Nat) (ia : Nat → Nat) (O : Nat → Int) (Y : Int → Int) (x : Int) (sz : Nat) (hc0 : 0 ≤ O 0 ∧ O 0 ≤ 15) (hx0 : 0 ≤ x ∧ x ≤ 126) : Met l yJ5_append_3fe6f (.code yJ5_append_3fe6f cJ5_append_3fe6f 2 (some (.object "java/lang/AbstractStringBuilder")) :: GW) ({ frames := 1, cells := 0, slots := 0, locals := 22 }) (va_Pc [.ref (ia 0), .int (zI x)] (wrK dg ck ka sz (sboC ia O ++ (sbvC ck (ia 1) Y)))) (va_Qr (fun _ : Unit => True) (fun _ ra t9 => ra = (ia 0) ∧ wrQ dg sz (sboC ia O ++ (sbvC ck (ia 1) Y)) (sboC ia (upO O 0 (O 0 + 1)) ++ (sbvC ck (ia 1) (upZ Y (O 0) x))) t9) (va_A (sboC ia O ++ (sbvC ck (ia 1) Y)) sz)) 0 0 (va_A (sboC ia O ++ (sbvC ck (ia 1) Y)) sz) := by
  refine Met.ofW (cc := cJ5_append_3fe6f) (maxL := 2) (ret := (some (.object "java/lang/AbstractStringBuilder"))) (by decide) rfl ?_
  intro p e s m args below meth c s₁ B hml hv
  obtain ⟨rfl, ⟨hsz, hP, hK, hD0⟩, hC⟩ := hv
  have hx := B.exec
  have hb := B.bytes
  have hr := B.returns
  have hts := atoms_spec (ws := .code yJ5_append_3fe6f cJ5_append_3fe6f 2 (some (.object "java/lang/AbstractStringBuilder")) :: GW) B.pre
  have htg : ∀ w ∈ GW, w.before _ s = true := fun w h => hts w (List.mem_cons_of_mem _ h)
  have hown : s.vm.findClass RJ5 = some m.cls := findClass_of_methodNamed B.named
  have hlocks := B.notSynchronized
  subst hsz
  have hD := hD0.self (sz := s.heap.size)
  generalize hAe : va_A (sboC ia O ++ (sbvC ck (ia 1) Y)) s.heap.size = A at hD hC ⊢
  have hA : ∀ q : Nat, s.heap.size ≤ q → A q := fun q h => by rw [← hAe]; exact Or.inr h
  have hS : va_S A s.heap s.heap [] := va_S.rf
  have hP : va_P dg vwCl (sboC ia O ++ (sbvC ck (ia 1) Y)) s.heap := hP
  have hl := lv_entry ([.ref (ia 0), .int (zI x)]) (n := 2) (Nat.le_of_ble_eq_true rfl)
  rw [lg_entry_eq]
  generalize (lg_sl ([.ref (ia 0), .int (zI x)]) ++ List.replicate (2 - (lg_sl ([.ref (ia 0), .int (zI x)])).length) Slot.unset).toArray = ls at hl ⊢
  have hl : lv_has ls 2 [(0, .ref (ia 0)), (1, .int (zI x))] := hl
  refine lv_aload_n hx hb dJ5_append_3fe6f_0 rfl (lv_at hl 0 rfl) ?_
  refine lv_aload_n hx hb dJ5_append_3fe6f_1 rfl (lv_at hl 0 rfl) ?_
  refine va_get (D := dg) (ci := 1) (v := .int (zI (O 0))) (C := RJ4) (T := TJ4) (N := 4) hx hb htg inG_J4 hown hK hP 0 rfl rfl 3 (Nat.le_of_ble_eq_true rfl) (htg _ wq_268) (fun _ h9 => h9) rfl dJ5_append_3fe6f_2 ?_
  refine x_iconst hx hb dJ5_append_3fe6f_5 ?_
  refine x_iadd hx hb dJ5_append_3fe6f_6 ?_
  refine x_callv (ws' := sboC ia O ++ (sbvC ck (ia 1) Y)) [] (M := sboC ia O ++ (sbvC ck (ia 1) Y)) (M' := sboC ia O ++ (sbvC ck (ia 1) Y)) ([]) (List.append_nil _).symm (List.append_nil _).symm hP hD hS hA (fun hPm hDm => va_runV (As := [.int (zI ((O 0) + 1))]) (rest := []) ⟨hx, hb, hml, hown, htg⟩ (j_ensure l dg ck ka ia O Y ((O 0) + 1) _ (by omega)) (cwVC 1 htg wq_865 wq_867 (va_Nw.use rfl (hC.nw (w := .selects "java/lang/StringBuilder" ⟨"java/lang/AbstractStringBuilder", "ensureCapacityInternal", "(I)V"⟩ ⟨"java/lang/AbstractStringBuilder", "ensureCapacityInternal", "(I)V"⟩) (by decide +kernel))) wq_11 wq_868 rfl rfl (by decide +kernel) ⟨Nat.le_of_ble_eq_true rfl, Nat.le_of_ble_eq_true rfl⟩) (wrK_preV hK hPm hDm hC hS hA 0 1 rfl rfl) rfl rfl hl.1 rfl (lv_room (Nat.le_of_ble_eq_true rfl)) dJ5_append_3fe6f_7 ⟨Nat.zero_le _, Nat.zero_le _⟩) (fun H locs hP hD hS => ?_)
  refine lv_aload_n hx hb dJ5_append_3fe6f_10 rfl (lv_at hl 0 rfl) ?_
  refine vp_callSi (W.runV (As := []) (rest := []) ⟨hx, hb, hml, hown, htg⟩ (j_sbLatin l dg ck ka ia O ) (cwVC 0 htg wq_894 wq_895 (htg _ wq_897) wq_11 wq_898 rfl rfl (by decide +kernel) ⟨Nat.le_of_ble_eq_true rfl, Nat.le_of_ble_eq_true rfl⟩) (rdK_preV hK (va_P_l hP) hC hS 0 1 rfl rfl) rfl rfl hl.1 rfl (lv_room (Nat.le_of_ble_eq_true rfl)) dJ5_append_3fe6f_11 ⟨Nat.zero_le _, Nat.zero_le _⟩) (fun r11 hr11 => ?_)
  subst hr11
  refine x_if_eq (tgt := 45) hx hb dJ5_append_3fe6f_14 (by decide) (by omega) (fun c14 => absurd c14 (by decide)) (fun c14 => ?_)
  refine lv_iload_n hx hb dJ5_append_3fe6f_17 rfl (lv_at hl 1 rfl) ?_
  refine vp_callSi (W.runS (As := [.int (zI x)]) (rest := []) ⟨hx, hb, hml, hown, htg⟩ (j_canEncode l dg ck ka x (by omega)) (cwSC 1 htg wq_1333 wq_1334 wq_26 wq_1335 rfl rfl (by decide +kernel) ⟨Nat.le_of_ble_eq_true rfl, Nat.le_of_ble_eq_true rfl⟩) (rdK_preS hK va_P_nil hC hS) rfl rfl hl.1 rfl (lv_room (Nat.le_of_ble_eq_true rfl)) dJ5_append_3fe6f_18 ⟨Nat.zero_le _, Nat.zero_le _⟩) (fun r18 hr18 => ?_)
  subst hr18
  refine x_if_eq (tgt := 45) hx hb dJ5_append_3fe6f_21 (by decide) (by omega) (fun c21 => absurd c21 (by decide)) (fun c21 => ?_)
  refine lv_aload_n hx hb dJ5_append_3fe6f_24 rfl (lv_at hl 0 rfl) ?_
  refine va_get (D := dg) (ci := 1) (v := .ref (ia 1)) (C := RJ4) (T := TJ4) (N := 4) hx hb htg inG_J4 hown hK hP 0 rfl rfl 0 (Nat.le_of_ble_eq_true rfl) (htg _ wq_264) (fun _ h9 => h9) rfl dJ5_append_3fe6f_25 ?_
  refine lv_aload_n hx hb dJ5_append_3fe6f_28 rfl (lv_at hl 0 rfl) ?_
  refine lv_dup hx hb dJ5_append_3fe6f_29 rfl ?_
  refine va_get (D := dg) (ci := 1) (v := .int (zI (O 0))) (C := RJ4) (T := TJ4) (N := 4) hx hb htg inG_J4 hown hK hP 0 rfl rfl 3 (Nat.le_of_ble_eq_true rfl) (htg _ wq_268) (fun _ h9 => h9) rfl dJ5_append_3fe6f_30 ?_
  refine lv_dup_x1 hx hb dJ5_append_3fe6f_33 rfl rfl ?_
  refine x_iconst hx hb dJ5_append_3fe6f_34 ?_
  refine x_iadd hx hb dJ5_append_3fe6f_35 ?_
  refine va_put (D := dg) (ci := 1) (v := .int (zI ((O 0) + 1))) (ty := .int) (C := RJ4) (T := TJ4) (N := 4) hx hb htg inG_J4 tyJ4 tyJ4_ok nmJ4 hown hK hP hD hS 0 rfl rfl 3 (Nat.le_of_ble_eq_true rfl) (htg _ wq_268) (fun _ h9 => h9) rfl (by decide +kernel) rfl rfl (Nat.le_of_ble_eq_true rfl) dJ5_append_3fe6f_36 (fun H locs hP hD hS => ?_)
  have hP : va_P dg vwCl (sboC ia (upO O 0 ((O 0) + 1)) ++ (sbvC ck (ia 1) Y)) H := hP
  have hD : va_D A (sboC ia (upO O 0 ((O 0) + 1)) ++ (sbvC ck (ia 1) Y)) := hD
  refine lv_iload_n hx hb dJ5_append_3fe6f_39 rfl (lv_at hl 1 rfl) ?_
  refine x_i2b hx hb dJ5_append_3fe6f_40 (by omega) ?_
  refine x_bastC (ws' := sboC ia (upO O 0 ((O 0) + 1)) ++ (sbvC ck (ia 1) (upZ Y (O 0) x))) hx hb hK hP hD hS 1 3 rfl rfl (by decide) (by omega) (by omega) (fun j _ => congrFun (zz_up (by omega)) j) rfl dJ5_append_3fe6f_41 (fun H locs hP hD hS => ?_)
  refine lv_goto (tgt := 75) hx hb dJ5_append_3fe6f_42 (by decide) ?_
  refine lv_aload_n hx hb dJ5_append_3fe6f_75 rfl (lv_at hl 0 rfl) ?_
  have hEq : sboC ia (upO O 0 (O 0 + 1)) ++ (sbvC ck (ia 1) (upZ Y (O 0) x)) = sboC ia (upO O 0 ((O 0) + 1)) ++ (sbvC ck (ia 1) (upZ Y (O 0) x)) := rfl
  exact W.aret (v := .ref (ia 0)) hx hb hr (Or.inl ⟨_, rfl⟩) (Or.inr ⟨_, rfl⟩) (fun t9 ht9 hW9 => ⟨⟨(), _, rfl, trivial, rfl, by rw [ht9, hEq]; exact hP, by rw [hEq, hAe]; exact hD⟩, hS.F ht9⟩) hS.2.2 dJ5_append_3fe6f_76

set_option maxHeartbeats 4000000 in
set_option maxRecDepth 100000 in
/-- java/lang/StringBuilder.append -/
theorem j_appC_J4 (l : Launch) (dg : va_G) (ck : Nat → ClassId) (ka : Nat → Nat) (ia : Nat → Nat) (O : Nat → Int) (Y : Int → Int) (x : Int) (sz : Nat) (hc0 : 0 ≤ O 0 ∧ O 0 ≤ 15) (hx0 : 0 ≤ x ∧ x ≤ 126) : Met l yJ4_append_cf468 (.code yJ4_append_cf468 cJ4_append_cf468 2 (some (.object "java/lang/StringBuilder")) :: GW) ({ frames := 2, cells := 0, slots := 0, locals := 43 }) (va_Pc [.ref (ia 0), .int (zI x)] (wrK dg ck ka sz (sboC ia O ++ (sbvC ck (ia 1) Y)))) (va_Qr (fun _ : Unit => True) (fun _ ra t9 => ra = (ia 0) ∧ wrQ dg sz (sboC ia O ++ (sbvC ck (ia 1) Y)) (sboC ia (upO O 0 (O 0 + 1)) ++ (sbvC ck (ia 1) (upZ Y (O 0) x))) t9) (va_A (sboC ia O ++ (sbvC ck (ia 1) Y)) sz)) 0 0 (va_A (sboC ia O ++ (sbvC ck (ia 1) Y)) sz) := by
  refine Met.ofW (cc := cJ4_append_cf468) (maxL := 2) (ret := (some (.object "java/lang/StringBuilder"))) (by decide) rfl ?_
  intro p e s m args below meth c s₁ B hml hv
  obtain ⟨rfl, ⟨hsz, hP, hK, hD0⟩, hC⟩ := hv
  have hx := B.exec
  have hb := B.bytes
  have hr := B.returns
  have hts := atoms_spec (ws := .code yJ4_append_cf468 cJ4_append_cf468 2 (some (.object "java/lang/StringBuilder")) :: GW) B.pre
  have htg : ∀ w ∈ GW, w.before _ s = true := fun w h => hts w (List.mem_cons_of_mem _ h)
  have hown : s.vm.findClass RJ4 = some m.cls := findClass_of_methodNamed B.named
  have hlocks := B.notSynchronized
  subst hsz
  have hD := hD0.self (sz := s.heap.size)
  generalize hAe : va_A (sboC ia O ++ (sbvC ck (ia 1) Y)) s.heap.size = A at hD hC ⊢
  have hA : ∀ q : Nat, s.heap.size ≤ q → A q := fun q h => by rw [← hAe]; exact Or.inr h
  have hS : va_S A s.heap s.heap [] := va_S.rf
  have hP : va_P dg vwCl (sboC ia O ++ (sbvC ck (ia 1) Y)) s.heap := hP
  have hl := lv_entry ([.ref (ia 0), .int (zI x)]) (n := 2) (Nat.le_of_ble_eq_true rfl)
  rw [lg_entry_eq]
  generalize (lg_sl ([.ref (ia 0), .int (zI x)]) ++ List.replicate (2 - (lg_sl ([.ref (ia 0), .int (zI x)])).length) Slot.unset).toArray = ls at hl ⊢
  have hl : lv_has ls 2 [(0, .ref (ia 0)), (1, .int (zI x))] := hl
  refine lv_aload_n hx hb dJ4_append_cf468_0 rfl (lv_at hl 0 rfl) ?_
  refine lv_iload_n hx hb dJ4_append_cf468_1 rfl (lv_at hl 1 rfl) ?_
  refine x_callrB (ws' := sboC ia (upO O 0 ((O 0) + 1)) ++ (sbvC ck (ia 1) (upZ Y (O 0) x))) (M := sboC ia O ++ (sbvC ck (ia 1) Y)) (M' := sboC ia (upO O 0 ((O 0) + 1)) ++ (sbvC ck (ia 1) (upZ Y (O 0) x))) (N := []) (cat_perm [sboC ia O, sbvC ck (ia 1) Y] [0, 1] [] 2 rfl (by decide)) (cat_perm [sboC ia (upO O 0 ((O 0) + 1)), sbvC ck (ia 1) (upZ Y (O 0) x)] [0, 1] [] 2 rfl (by decide)) hP hD hS hA (fun hPm hDm => va_runSU ((hK.1 1 _ rfl).2) (As := [.int (zI x)]) (rest := []) ⟨hx, hb, hml, hown, htg⟩ (j_appC_J5 l dg ck ka ia O Y x _ (show 0 ≤ (O 0) ∧ (O 0) ≤ 15 by omega) (by omega)) (va_cwSU 1 htg (gwSU wq_1330 wq_1578 wq_277 wq_1331 wq_11 wq_1332) rfl rfl rfl (by decide +kernel) ⟨Nat.le_of_ble_eq_true rfl, Nat.le_of_ble_eq_true rfl⟩) (wrK_preV hK hPm hDm hC hS hA 0 1 rfl rfl) rfl rfl hl.1 rfl (lv_room (Nat.le_of_ble_eq_true rfl)) dJ4_append_cf468_2 ⟨Nat.zero_le _, Nat.zero_le _⟩) (fun H locs hP hD hS => ?_)
  refine lv_pop hx hb dJ4_append_cf468_5 rfl ?_
  refine lv_aload_n hx hb dJ4_append_cf468_6 rfl (lv_at hl 0 rfl) ?_
  have hEq : sboC ia (upO O 0 (O 0 + 1)) ++ (sbvC ck (ia 1) (upZ Y (O 0) x)) = sboC ia (upO O 0 ((O 0) + 1)) ++ (sbvC ck (ia 1) (upZ Y (O 0) x)) := rfl
  exact W.aret (v := .ref (ia 0)) hx hb hr (Or.inl ⟨_, rfl⟩) (Or.inr ⟨_, rfl⟩) (fun t9 ht9 hW9 => ⟨⟨(), _, rfl, trivial, rfl, by rw [ht9, hEq]; exact hP, by rw [hEq, hAe]; exact hD⟩, hS.F ht9⟩) hS.2.2 dJ4_append_cf468_7

set_option maxHeartbeats 4000000 in
set_option maxRecDepth 100000 in
/-- java/lang/Integer.stringSize -/
theorem j_strSize (l : Launch) (dg : va_G) (ck : Nat → ClassId) (x : Int) (hx0 : 0 ≤ x ∧ x ≤ 99) : Met l yJ6_stringSize_0f7a4 (.code yJ6_stringSize_0f7a4 cJ6_stringSize_0f7a4 4 (some .int) :: GW) ({ frames := 0, cells := 0, slots := 0, locals := 0 }) (va_Pc [.int (zI x)] (rdP dg ck ([]))) (vp_Si (fun r => r = zI (nnZ x))) 0 0 (fun _ => False) := by
  refine Met.ofW (cc := cJ6_stringSize_0f7a4) (maxL := 4) (ret := (some .int)) (by decide) rfl ?_
  intro p e s m args below meth c s₁ B hml hv
  obtain ⟨rfl, hP, hK⟩ := hv
  have hx := B.exec
  have hb := B.bytes
  have hr := B.returns
  have hts := atoms_spec (ws := .code yJ6_stringSize_0f7a4 cJ6_stringSize_0f7a4 4 (some .int) :: GW) B.pre
  have htg : ∀ w ∈ GW, w.before _ s = true := fun w h => hts w (List.mem_cons_of_mem _ h)
  have hown : s.vm.findClass RJ6 = some m.cls := findClass_of_methodNamed B.named
  have hlocks := B.notSynchronized
  have hl := lv_entry ([.int (zI x)]) (n := 4) (Nat.le_of_ble_eq_true rfl)
  rw [lg_entry_eq]
  generalize (lg_sl ([.int (zI x)]) ++ List.replicate (4 - (lg_sl ([.int (zI x)])).length) Slot.unset).toArray = ls at hl ⊢
  have hl : lv_has ls 4 [(0, .int (zI x))] := hl
  refine x_iconst hx hb dJ6_stringSize_0f7a4_0 ?_
  refine lv_istore_n (lv' := [(1, .int (zI 1)), (0, .int (zI x))]) hx hb dJ6_stringSize_0f7a4_1 rfl hl (by decide) rfl (fun ls hl => ?_)
  refine lv_iload_n hx hb dJ6_stringSize_0f7a4_2 rfl (lv_at hl 1 rfl) ?_
  refine x_if_lt (tgt := 11) hx hb dJ6_stringSize_0f7a4_3 (by decide) (by omega) (fun c3 => ?_) (fun c3 => ?_)
  · exfalso; omega
  · refine x_iconst hx hb dJ6_stringSize_0f7a4_6 ?_
    refine lv_istore_n (lv' := [(1, .int (zI 0)), (0, .int (zI x))]) hx hb dJ6_stringSize_0f7a4_7 rfl hl (by decide) rfl (fun ls hl => ?_)
    refine lv_iload_n hx hb dJ6_stringSize_0f7a4_8 rfl (lv_at hl 1 rfl) ?_
    refine x_ineg hx hb dJ6_stringSize_0f7a4_9 ?_
    refine lv_istore_n (lv' := [(0, .int (zI (-x))), (1, .int (zI 0))]) hx hb dJ6_stringSize_0f7a4_10 rfl hl (by decide) rfl (fun ls hl => ?_)
    refine x_bipush hx hb dJ6_stringSize_0f7a4_11 (by decide) ?_
    refine lv_istore_n (lv' := [(2, .int (zI (-10))), (0, .int (zI (-x))), (1, .int (zI 0))]) hx hb dJ6_stringSize_0f7a4_13 rfl hl (by decide) rfl (fun ls hl => ?_)
    refine x_iconst hx hb dJ6_stringSize_0f7a4_14 ?_
    refine lv_istore_n (lv' := [(3, .int (zI 1)), (2, .int (zI (-10))), (0, .int (zI (-x))), (1, .int (zI 0))]) hx hb dJ6_stringSize_0f7a4_15 rfl hl (by decide) rfl (fun ls hl => ?_)
    refine lv_iload_n hx hb dJ6_stringSize_0f7a4_16 rfl (lv_at hl 0 rfl) ?_
    refine x_bipush hx hb dJ6_stringSize_0f7a4_17 (by decide) ?_
    refine x_icmp_ge (tgt := 42) hx hb dJ6_stringSize_0f7a4_19 (by decide) (by omega) (by omega) (fun c19 => absurd c19 (by decide)) (fun c19 => ?_)
    refine lv_iload_n hx hb dJ6_stringSize_0f7a4_22 rfl (lv_at hl 2 rfl) ?_
    refine lv_iload_n hx hb dJ6_stringSize_0f7a4_23 rfl (lv_at hl 1 rfl) ?_
    refine x_icmp_le (tgt := 31) hx hb dJ6_stringSize_0f7a4_24 (by decide) (by omega) (by omega) (fun c24 => ?_) (fun c24 => ?_)
    · refine x_bipush hx hb dJ6_stringSize_0f7a4_31 (by decide) ?_
      refine lv_iload_n hx hb dJ6_stringSize_0f7a4_33 rfl (lv_at hl 1 rfl) ?_
      refine x_imul hx hb dJ6_stringSize_0f7a4_34 ?_
      refine lv_istore_n (lv' := [(2, .int (zI (10 * (-10)))), (3, .int (zI 1)), (0, .int (zI (-x))), (1, .int (zI 0))]) hx hb dJ6_stringSize_0f7a4_35 rfl hl (by decide) rfl (fun ls hl => ?_)
      refine lv_iinc (v := zI 2) (lv' := [(3, .int (zI 2)), (2, .int (zI (10 * (-10)))), (0, .int (zI (-x))), (1, .int (zI 0))]) hx hb dJ6_stringSize_0f7a4_36 hl (k := 1) rfl (by decide) (by decide) rfl (fun ls hl => ?_)
      refine lv_goto (tgt := 16) hx hb dJ6_stringSize_0f7a4_39 (by decide) ?_
      refine lv_iload_n hx hb dJ6_stringSize_0f7a4_16 rfl (lv_at hl 0 rfl) ?_
      refine x_bipush hx hb dJ6_stringSize_0f7a4_17 (by decide) ?_
      refine x_icmp_ge (tgt := 42) hx hb dJ6_stringSize_0f7a4_19 (by decide) (by omega) (by omega) (fun c19 => absurd c19 (by decide)) (fun c19 => ?_)
      refine lv_iload_n hx hb dJ6_stringSize_0f7a4_22 rfl (lv_at hl 2 rfl) ?_
      refine lv_iload_n hx hb dJ6_stringSize_0f7a4_23 rfl (lv_at hl 1 rfl) ?_
      refine x_icmp_le (tgt := 31) hx hb dJ6_stringSize_0f7a4_24 (by decide) (by omega) (by omega) (fun c24 => ?_) (fun c24 => ?_)
      · exfalso; omega
      · refine lv_iload_n hx hb dJ6_stringSize_0f7a4_27 rfl (lv_at hl 0 rfl) ?_
        refine lv_iload_n hx hb dJ6_stringSize_0f7a4_28 rfl (lv_at hl 3 rfl) ?_
        refine x_iadd hx hb dJ6_stringSize_0f7a4_29 ?_
        exact W.iret (v := _) hx hb hr (fun t9 ht9 hW9 => ⟨_, rfl, (congrArg zI (by unfold nnZ; first | (rw [if_pos (by omega)] <;> rfl) | (rw [if_neg (by omega)] <;> rfl))), ht9⟩) (fun _ h => by cases h) dJ6_stringSize_0f7a4_30
    · refine lv_iload_n hx hb dJ6_stringSize_0f7a4_27 rfl (lv_at hl 0 rfl) ?_
      refine lv_iload_n hx hb dJ6_stringSize_0f7a4_28 rfl (lv_at hl 3 rfl) ?_
      refine x_iadd hx hb dJ6_stringSize_0f7a4_29 ?_
      exact W.iret (v := _) hx hb hr (fun t9 ht9 hW9 => ⟨_, rfl, (congrArg zI (by unfold nnZ; first | (rw [if_pos (by omega)] <;> rfl) | (rw [if_neg (by omega)] <;> rfl))), ht9⟩) (fun _ h => by cases h) dJ6_stringSize_0f7a4_30

set_option maxHeartbeats 4000000 in
set_option maxRecDepth 100000 in
/-- java/lang/Integer.getChars -/
theorem j_getChars (l : Launch) (dg : va_G) (ck : Nat → ClassId) (ka : Nat → Nat) (o : Nat) (Y : Int → Int) (x k : Int) (sz : Nat) (hx0 : 0 ≤ x ∧ x ≤ 99) (hk : nnZ x ≤ k ∧ k ≤ 16) : Met l yJ6_getChars_ba4f3 (.code yJ6_getChars_ba4f3 cJ6_getChars_ba4f3 7 (some .int) :: GW) ({ frames := 0, cells := 0, slots := 0, locals := 0 }) (va_Pc [.int (zI x), .int (zI k), .ref o] (wrK dg ck ka sz (sbvC ck o Y))) (va_Qi (fun r (_ : Unit) => r = zI (k - nnZ x)) (fun _ t9 => wrQ dg sz (sbvC ck o Y) (sbvC ck o (if 9 < x then upZ (upZ Y (k - 1) (48 + x % 10)) (k - 2) (48 + x / 10) else upZ Y (k - 1) (48 + x % 10))) t9) (va_A (sbvC ck o Y) sz)) 0 0 (va_A (sbvC ck o Y) sz) := by
  refine Met.ofW (cc := cJ6_getChars_ba4f3) (maxL := 7) (ret := (some .int)) (by decide) rfl ?_
  intro p e s m args below meth c s₁ B hml hv
  obtain ⟨rfl, ⟨hsz, hP, hK, hD0⟩, hC⟩ := hv
  have hx := B.exec
  have hb := B.bytes
  have hr := B.returns
  have hts := atoms_spec (ws := .code yJ6_getChars_ba4f3 cJ6_getChars_ba4f3 7 (some .int) :: GW) B.pre
  have htg : ∀ w ∈ GW, w.before _ s = true := fun w h => hts w (List.mem_cons_of_mem _ h)
  have hown : s.vm.findClass RJ6 = some m.cls := findClass_of_methodNamed B.named
  have hlocks := B.notSynchronized
  subst hsz
  have hD := hD0.self (sz := s.heap.size)
  generalize hAe : va_A (sbvC ck o Y) s.heap.size = A at hD hC ⊢
  have hA : ∀ q : Nat, s.heap.size ≤ q → A q := fun q h => by rw [← hAe]; exact Or.inr h
  have hS : va_S A s.heap s.heap [] := va_S.rf
  have hP : va_P dg vwCl (sbvC ck o Y) s.heap := hP
  have hl := lv_entry ([.int (zI x), .int (zI k), .ref o]) (n := 7) (Nat.le_of_ble_eq_true rfl)
  rw [lg_entry_eq]
  generalize (lg_sl ([.int (zI x), .int (zI k), .ref o]) ++ List.replicate (7 - (lg_sl ([.int (zI x), .int (zI k), .ref o])).length) Slot.unset).toArray = ls at hl ⊢
  have hl : lv_has ls 7 [(0, .int (zI x)), (1, .int (zI k)), (2, .ref o)] := hl
  have hnz : nnZ x = if 9 < x then 2 else 1 := rfl
  have hn1 : 9 < x → nnZ x = 2 := fun h => if_pos h
  have hn2 : ¬ 9 < x → nnZ x = 1 := fun h => if_neg h
  refine lv_iload_n hx hb dJ6_getChars_ba4f3_0 rfl (lv_at hl 1 rfl) ?_
  refine lv_istore (lv' := [(5, .int (zI k)), (0, .int (zI x)), (1, .int (zI k)), (2, .ref o)]) hx hb dJ6_getChars_ba4f3_1 hl (by decide) rfl (fun ls hl => ?_)
  refine lv_iload_n hx hb dJ6_getChars_ba4f3_3 rfl (lv_at hl 1 rfl) ?_
  refine x_if_ge (tgt := 11) hx hb dJ6_getChars_ba4f3_4 (by decide) (by omega) (fun c4 => ?_) (fun c4 => ?_)
  · refine x_iconst hx hb dJ6_getChars_ba4f3_11 ?_
    refine lv_istore (lv' := [(6, .int (zI 0)), (5, .int (zI k)), (0, .int (zI x)), (1, .int (zI k)), (2, .ref o)]) hx hb dJ6_getChars_ba4f3_12 hl (by decide) rfl (fun ls hl => ?_)
    refine lv_iload hx hb dJ6_getChars_ba4f3_14 (lv_at hl 0 rfl) ?_
    refine x_if_ne (tgt := 22) hx hb dJ6_getChars_ba4f3_16 (by decide) (by omega) (fun c16 => absurd c16 (by decide)) (fun c16 => ?_)
    refine lv_iload_n hx hb dJ6_getChars_ba4f3_19 rfl (lv_at hl 2 rfl) ?_
    refine x_ineg hx hb dJ6_getChars_ba4f3_20 ?_
    refine lv_istore_n (lv' := [(0, .int (zI (-x))), (6, .int (zI 0)), (5, .int (zI k)), (1, .int (zI k)), (2, .ref o)]) hx hb dJ6_getChars_ba4f3_21 rfl hl (by decide) rfl (fun ls hl => ?_)
    refine lv_iload_n hx hb dJ6_getChars_ba4f3_22 rfl (lv_at hl 0 rfl) ?_
    refine x_bipush hx hb dJ6_getChars_ba4f3_23 (by decide) ?_
    refine x_icmp_gt (tgt := 72) hx hb dJ6_getChars_ba4f3_25 (by decide) (by omega) (by omega) (fun c25 => ?_) (fun c25 => ?_)
    · refine lv_aload_n hx hb dJ6_getChars_ba4f3_72 rfl (lv_at hl 4 rfl) ?_
      refine lv_iinc (v := zI (k + (-1))) (lv' := [(5, .int (zI (k + (-1)))), (0, .int (zI (-x))), (6, .int (zI 0)), (1, .int (zI k)), (2, .ref o)]) hx hb dJ6_getChars_ba4f3_73 hl (k := 2) rfl (zI_add _ _) (by decide) rfl (fun ls hl => ?_)
      refine lv_iload hx hb dJ6_getChars_ba4f3_76 (lv_at hl 0 rfl) ?_
      refine va_gets (v := .ref (ka 0)) hx hb hC.ones.1 hS hown (htg _ wq_981) (fun _ h9 => h9) dJ6_getChars_ba4f3_78 ?_
      refine lv_iload_n hx hb dJ6_getChars_ba4f3_81 rfl (lv_at hl 1 rfl) ?_
      refine x_ineg hx hb dJ6_getChars_ba4f3_82 ?_
      refine x_tb (g := (fun j => 48 + j % 10)) hx hb hC.ones.2 hS (by omega) (by decide) dJ6_getChars_ba4f3_83 ?_
      refine x_bastC (ws' := sbvC ck o (upZ Y (k + (-1)) (48 + (-(-x)) % 10))) hx hb hK hP hD hS 0 3 rfl rfl (by decide) (by omega) (by omega) (fun j _ => congrFun (zz_up (by omega)) j) rfl dJ6_getChars_ba4f3_84 (fun H locs hP hD hS => ?_)
      refine lv_iload_n hx hb dJ6_getChars_ba4f3_85 rfl (lv_at hl 1 rfl) ?_
      refine x_bipush hx hb dJ6_getChars_ba4f3_86 (by decide) ?_
      refine x_icmp_ge (tgt := 104) hx hb dJ6_getChars_ba4f3_88 (by decide) (by omega) (by omega) (fun c88 => ?_) (fun c88 => ?_)
      · refine lv_iload hx hb dJ6_getChars_ba4f3_104 (lv_at hl 2 rfl) ?_
        refine x_if_eq (tgt := 118) hx hb dJ6_getChars_ba4f3_106 (by decide) (by omega) (fun c106 => ?_) (fun c106 => absurd c106 (by decide))
        refine lv_iload hx hb dJ6_getChars_ba4f3_118 (lv_at hl 0 rfl) ?_
        have hyy : - -x = x := Int.neg_neg x
        have hEq : sbvC ck o (if 9 < x then upZ (upZ Y (k - 1) (48 + x % 10)) (k - 2) (48 + x / 10) else upZ Y (k - 1) (48 + x % 10)) = sbvC ck o (upZ Y (k + (-1)) (48 + (-(-x)) % 10)) := (by first | (rw [if_pos (show 9 < x by omega), hyy, show k - 2 = k + -1 + -1 by omega] <;> rfl) | (rw [if_neg (show ¬ 9 < x by omega), hyy] <;> rfl))
        exact W.iret (v := _) hx hb hr (fun t9 ht9 hW9 => ⟨⟨_, (), rfl, (congrArg zI (by first | (rw [hn1 (by omega)]; omega) | (rw [hn2 (by omega)]; omega))), by rw [ht9, hEq]; exact hP, by rw [hEq, hAe]; exact hD⟩, hS.F ht9⟩) hS.2.2 dJ6_getChars_ba4f3_120
      · refine lv_aload_n hx hb dJ6_getChars_ba4f3_91 rfl (lv_at hl 4 rfl) ?_
        refine lv_iinc (v := zI ((k + (-1)) + (-1))) (lv' := [(5, .int (zI ((k + (-1)) + (-1)))), (0, .int (zI (-x))), (6, .int (zI 0)), (1, .int (zI k)), (2, .ref o)]) hx hb dJ6_getChars_ba4f3_92 hl (k := 0) rfl (zI_add _ _) (by decide) rfl (fun ls hl => ?_)
        refine lv_iload hx hb dJ6_getChars_ba4f3_95 (lv_at hl 0 rfl) ?_
        refine va_gets (v := .ref (ka 1)) hx hb hC.tens.1 hS hown (htg _ wq_983) (fun _ h9 => h9) dJ6_getChars_ba4f3_97 ?_
        refine lv_iload_n hx hb dJ6_getChars_ba4f3_100 rfl (lv_at hl 1 rfl) ?_
        refine x_ineg hx hb dJ6_getChars_ba4f3_101 ?_
        refine x_tb (g := (fun j => 48 + j / 10)) hx hb hC.tens.2 hS (by omega) (by decide) dJ6_getChars_ba4f3_102 ?_
        refine x_bastC (ws' := sbvC ck o (upZ (upZ Y (k + (-1)) (48 + (-(-x)) % 10)) ((k + (-1)) + (-1)) (48 + (-(-x)) / 10))) hx hb hK hP hD hS 0 3 rfl rfl (by decide) (by omega) (by omega) (fun j _ => congrFun (zz_up (by omega)) j) rfl dJ6_getChars_ba4f3_103 (fun H locs hP hD hS => ?_)
        refine lv_iload hx hb dJ6_getChars_ba4f3_104 (lv_at hl 2 rfl) ?_
        refine x_if_eq (tgt := 118) hx hb dJ6_getChars_ba4f3_106 (by decide) (by omega) (fun c106 => ?_) (fun c106 => absurd c106 (by decide))
        refine lv_iload hx hb dJ6_getChars_ba4f3_118 (lv_at hl 0 rfl) ?_
        have hyy : - -x = x := Int.neg_neg x
        have hEq : sbvC ck o (if 9 < x then upZ (upZ Y (k - 1) (48 + x % 10)) (k - 2) (48 + x / 10) else upZ Y (k - 1) (48 + x % 10)) = sbvC ck o (upZ (upZ Y (k + (-1)) (48 + (-(-x)) % 10)) ((k + (-1)) + (-1)) (48 + (-(-x)) / 10)) := (by first | (rw [if_pos (show 9 < x by omega), hyy, show k - 2 = k + -1 + -1 by omega] <;> rfl) | (rw [if_neg (show ¬ 9 < x by omega), hyy] <;> rfl))
        exact W.iret (v := _) hx hb hr (fun t9 ht9 hW9 => ⟨⟨_, (), rfl, (congrArg zI (by first | (rw [hn1 (by omega)]; omega) | (rw [hn2 (by omega)]; omega))), by rw [ht9, hEq]; exact hP, by rw [hEq, hAe]; exact hD⟩, hS.F ht9⟩) hS.2.2 dJ6_getChars_ba4f3_120
    · exfalso; omega
  · exfalso; omega

theorem gc_w (Y : Int → Int) (x p : Int) : wrY Y p (digZ x) = if 9 < x then upZ (upZ Y ((p + nnZ x) - 1) (48 + x % 10)) ((p + nnZ x) - 2) (48 + x / 10) else upZ Y ((p + nnZ x) - 1) (48 + x % 10) := by
  unfold digZ nnZ
  by_cases h : 9 < x
  · rw [if_pos h, if_pos h, if_pos h, show p + 2 - 1 = p + 1 by omega, show p + 2 - 2 = p by omega]
    exact upZ_cm (by omega)
  · rw [if_neg h, if_neg h, if_neg h, show p + 1 - 1 = p by omega]
    rfl

set_option maxHeartbeats 4000000 in
set_option maxRecDepth 100000 in
/-- java/lang/AbstractStringBuilder.append -/
theorem j_appI_J5 (l : Launch) (dg : va_G) (ck : Nat → ClassId) (ka : Nat → Nat) (ia : Nat → Nat) (O : Nat → Int) (Y : Int → Int) (x : Int) (sz : Nat) (hc0 : 0 ≤ O 0 ∧ O 0 + nnZ x ≤ 16) (hx0 : 0 ≤ x ∧ x ≤ 99) : Met l yJ5_append_c97b9 (.code yJ5_append_c97b9 cJ5_append_c97b9 4 (some (.object "java/lang/AbstractStringBuilder")) :: GW) ({ frames := 1, cells := 0, slots := 0, locals := 26 }) (va_Pc [.ref (ia 0), .int (zI x)] (wrK dg ck ka sz (sboC ia O ++ (sbvC ck (ia 1) Y)))) (va_Qr (fun _ : Unit => True) (fun _ ra t9 => ra = (ia 0) ∧ wrQ dg sz (sboC ia O ++ (sbvC ck (ia 1) Y)) (sboC ia (upO O 0 (O 0 + nnZ x)) ++ (sbvC ck (ia 1) (wrY Y (O 0) (digZ x)))) t9) (va_A (sboC ia O ++ (sbvC ck (ia 1) Y)) sz)) 0 0 (va_A (sboC ia O ++ (sbvC ck (ia 1) Y)) sz) := by
  refine Met.ofW (cc := cJ5_append_c97b9) (maxL := 4) (ret := (some (.object "java/lang/AbstractStringBuilder"))) (by decide) rfl ?_
  intro p e s m args below meth c s₁ B hml hv
  obtain ⟨rfl, ⟨hsz, hP, hK, hD0⟩, hC⟩ := hv
  have hx := B.exec
  have hb := B.bytes
  have hr := B.returns
  have hts := atoms_spec (ws := .code yJ5_append_c97b9 cJ5_append_c97b9 4 (some (.object "java/lang/AbstractStringBuilder")) :: GW) B.pre
  have htg : ∀ w ∈ GW, w.before _ s = true := fun w h => hts w (List.mem_cons_of_mem _ h)
  have hown : s.vm.findClass RJ5 = some m.cls := findClass_of_methodNamed B.named
  have hlocks := B.notSynchronized
  subst hsz
  have hD := hD0.self (sz := s.heap.size)
  generalize hAe : va_A (sboC ia O ++ (sbvC ck (ia 1) Y)) s.heap.size = A at hD hC ⊢
  have hA : ∀ q : Nat, s.heap.size ≤ q → A q := fun q h => by rw [← hAe]; exact Or.inr h
  have hS : va_S A s.heap s.heap [] := va_S.rf
  have hP : va_P dg vwCl (sboC ia O ++ (sbvC ck (ia 1) Y)) s.heap := hP
  have hl := lv_entry ([.ref (ia 0), .int (zI x)]) (n := 4) (Nat.le_of_ble_eq_true rfl)
  rw [lg_entry_eq]
  generalize (lg_sl ([.ref (ia 0), .int (zI x)]) ++ List.replicate (4 - (lg_sl ([.ref (ia 0), .int (zI x)])).length) Slot.unset).toArray = ls at hl ⊢
  have hl : lv_has ls 4 [(0, .ref (ia 0)), (1, .int (zI x))] := hl
  have hnz : 1 ≤ nnZ x ∧ nnZ x ≤ 2 := by unfold nnZ; split <;> omega
  refine lv_aload_n hx hb dJ5_append_c97b9_0 rfl (lv_at hl 0 rfl) ?_
  refine va_get (D := dg) (ci := 1) (v := .int (zI (O 0))) (C := RJ4) (T := TJ4) (N := 4) hx hb htg inG_J4 hown hK hP 0 rfl rfl 3 (Nat.le_of_ble_eq_true rfl) (htg _ wq_268) (fun _ h9 => h9) rfl dJ5_append_c97b9_1 ?_
  refine lv_istore_n (lv' := [(2, .int (zI (O 0))), (0, .ref (ia 0)), (1, .int (zI x))]) hx hb dJ5_append_c97b9_4 rfl hl (by decide) rfl (fun ls hl => ?_)
  refine lv_iload_n hx hb dJ5_append_c97b9_5 rfl (lv_at hl 0 rfl) ?_
  refine lv_iload_n hx hb dJ5_append_c97b9_6 rfl (lv_at hl 2 rfl) ?_
  refine vp_callSi (W.runS (As := [.int (zI x)]) (rest := [.int (zI (O 0))]) ⟨hx, hb, hml, hown, htg⟩ (j_strSize l dg ck x (by omega)) (cwSC 1 htg wq_975 wq_976 wq_28 wq_977 rfl rfl (by decide +kernel) ⟨Nat.le_of_ble_eq_true rfl, Nat.le_of_ble_eq_true rfl⟩) (rd_preS hK va_P_nil) rfl rfl hl.1 rfl (lv_room (Nat.le_of_ble_eq_true rfl)) dJ5_append_c97b9_7 ⟨Nat.zero_le _, Nat.zero_le _⟩) (fun r7 hr7 => ?_)
  subst hr7
  refine x_iadd hx hb dJ5_append_c97b9_10 ?_
  refine lv_istore_n (lv' := [(3, .int (zI ((O 0) + (nnZ x)))), (2, .int (zI (O 0))), (0, .ref (ia 0)), (1, .int (zI x))]) hx hb dJ5_append_c97b9_11 rfl hl (by decide) rfl (fun ls hl => ?_)
  refine lv_aload_n hx hb dJ5_append_c97b9_12 rfl (lv_at hl 2 rfl) ?_
  refine lv_iload_n hx hb dJ5_append_c97b9_13 rfl (lv_at hl 0 rfl) ?_
  refine x_callv (ws' := sboC ia O ++ (sbvC ck (ia 1) Y)) [] (M := sboC ia O ++ (sbvC ck (ia 1) Y)) (M' := sboC ia O ++ (sbvC ck (ia 1) Y)) ([]) (List.append_nil _).symm (List.append_nil _).symm hP hD hS hA (fun hPm hDm => va_runV (As := [.int (zI ((O 0) + (nnZ x)))]) (rest := []) ⟨hx, hb, hml, hown, htg⟩ (j_ensure l dg ck ka ia O Y ((O 0) + (nnZ x)) _ (by omega)) (cwVC 1 htg wq_865 wq_867 (va_Nw.use rfl (hC.nw (w := .selects "java/lang/StringBuilder" ⟨"java/lang/AbstractStringBuilder", "ensureCapacityInternal", "(I)V"⟩ ⟨"java/lang/AbstractStringBuilder", "ensureCapacityInternal", "(I)V"⟩) (by decide +kernel))) wq_11 wq_868 rfl rfl (by decide +kernel) ⟨Nat.le_of_ble_eq_true rfl, Nat.le_of_ble_eq_true rfl⟩) (wrK_preV hK hPm hDm hC hS hA 0 1 rfl rfl) rfl rfl hl.1 rfl (lv_room (Nat.le_of_ble_eq_true rfl)) dJ5_append_c97b9_14 ⟨Nat.zero_le _, Nat.zero_le _⟩) (fun H locs hP hD hS => ?_)
  refine lv_aload_n hx hb dJ5_append_c97b9_17 rfl (lv_at hl 2 rfl) ?_
  refine vp_callSi (W.runV (As := []) (rest := []) ⟨hx, hb, hml, hown, htg⟩ (j_sbLatin l dg ck ka ia O ) (cwVC 0 htg wq_894 wq_895 (htg _ wq_897) wq_11 wq_898 rfl rfl (by decide +kernel) ⟨Nat.le_of_ble_eq_true rfl, Nat.le_of_ble_eq_true rfl⟩) (rdK_preV hK (va_P_l hP) hC hS 0 1 rfl rfl) rfl rfl hl.1 rfl (lv_room (Nat.le_of_ble_eq_true rfl)) dJ5_append_c97b9_18 ⟨Nat.zero_le _, Nat.zero_le _⟩) (fun r18 hr18 => ?_)
  subst hr18
  refine x_if_eq (tgt := 37) hx hb dJ5_append_c97b9_21 (by decide) (by omega) (fun c21 => absurd c21 (by decide)) (fun c21 => ?_)
  refine lv_iload_n hx hb dJ5_append_c97b9_24 rfl (lv_at hl 3 rfl) ?_
  refine lv_iload_n hx hb dJ5_append_c97b9_25 rfl (lv_at hl 0 rfl) ?_
  refine lv_aload_n hx hb dJ5_append_c97b9_26 rfl (lv_at hl 2 rfl) ?_
  refine va_get (D := dg) (ci := 1) (v := .ref (ia 1)) (C := RJ4) (T := TJ4) (N := 4) hx hb htg inG_J4 hown hK hP 0 rfl rfl 0 (Nat.le_of_ble_eq_true rfl) (htg _ wq_264) (fun _ h9 => h9) rfl dJ5_append_c97b9_27 ?_
  refine x_calli (ws' := sboC ia O ++ (sbvC ck (ia 1) (if 9 < x then upZ (upZ Y (((O 0) + (nnZ x)) - 1) (48 + x % 10)) (((O 0) + (nnZ x)) - 2) (48 + x / 10) else upZ Y (((O 0) + (nnZ x)) - 1) (48 + x % 10)))) (sboC ia O) (M := sbvC ck (ia 1) Y) (M' := sbvC ck (ia 1) (if 9 < x then upZ (upZ Y (((O 0) + (nnZ x)) - 1) (48 + x % 10)) (((O 0) + (nnZ x)) - 2) (48 + x / 10) else upZ Y (((O 0) + (nnZ x)) - 1) (48 + x % 10))) ([]) (by rw [List.append_nil]) (by rw [List.append_nil]) hP hD hS hA (fun hPm hDm => va_runS (As := [.int (zI x), .int (zI ((O 0) + (nnZ x))), .ref (ia 1)]) (rest := []) ⟨hx, hb, hml, hown, htg⟩ (j_getChars l dg ck ka (ia 1) Y x ((O 0) + (nnZ x)) _ (by omega) (by omega)) (cwSC 3 htg wq_978 wq_979 wq_28 wq_980 rfl rfl (by decide +kernel) ⟨Nat.le_of_ble_eq_true rfl, Nat.le_of_ble_eq_true rfl⟩) (wrK_preS hK hPm hDm hC hS hA) rfl rfl hl.1 rfl (lv_room (Nat.le_of_ble_eq_true rfl)) dJ5_append_c97b9_30 ⟨Nat.zero_le _, Nat.zero_le _⟩) (fun r30 H locs hr30 hP hD hS => ?_)
  subst hr30
  refine lv_pop hx hb dJ5_append_c97b9_33 rfl ?_
  refine lv_goto (tgt := 48) hx hb dJ5_append_c97b9_34 (by decide) ?_
  have hCe : (wrY Y (O 0) (digZ x)) = (if 9 < x then upZ (upZ Y (((O 0) + (nnZ x)) - 1) (48 + x % 10)) (((O 0) + (nnZ x)) - 2) (48 + x / 10) else upZ Y (((O 0) + (nnZ x)) - 1) (48 + x % 10)) := (gc_w Y x (O 0))
  have hP : va_P dg vwCl (sboC ia O ++ (sbvC ck (ia 1) (wrY Y (O 0) (digZ x)))) _ := va_P_eq (by rw [hCe]) hP
  have hD : va_D A (sboC ia O ++ (sbvC ck (ia 1) (wrY Y (O 0) (digZ x)))) := va_D_eq (by rw [hCe]) hD
  refine lv_aload_n hx hb dJ5_append_c97b9_48 rfl (lv_at hl 2 rfl) ?_
  refine lv_iload_n hx hb dJ5_append_c97b9_49 rfl (lv_at hl 0 rfl) ?_
  refine va_put (D := dg) (ci := 1) (v := .int (zI ((O 0) + (nnZ x)))) (ty := .int) (C := RJ4) (T := TJ4) (N := 4) hx hb htg inG_J4 tyJ4 tyJ4_ok nmJ4 hown hK hP hD hS 0 rfl rfl 3 (Nat.le_of_ble_eq_true rfl) (htg _ wq_268) (fun _ h9 => h9) rfl (by decide +kernel) rfl rfl (Nat.le_of_ble_eq_true rfl) dJ5_append_c97b9_50 (fun H locs hP hD hS => ?_)
  have hP : va_P dg vwCl (sboC ia (upO O 0 ((O 0) + (nnZ x))) ++ (sbvC ck (ia 1) (wrY Y (O 0) (digZ x)))) H := hP
  have hD : va_D A (sboC ia (upO O 0 ((O 0) + (nnZ x))) ++ (sbvC ck (ia 1) (wrY Y (O 0) (digZ x)))) := hD
  refine lv_aload_n hx hb dJ5_append_c97b9_53 rfl (lv_at hl 2 rfl) ?_
  have hEq : sboC ia (upO O 0 (O 0 + nnZ x)) ++ (sbvC ck (ia 1) (wrY Y (O 0) (digZ x))) = sboC ia (upO O 0 ((O 0) + (nnZ x))) ++ (sbvC ck (ia 1) (wrY Y (O 0) (digZ x))) := rfl
  exact W.aret (v := .ref (ia 0)) hx hb hr (Or.inl ⟨_, rfl⟩) (Or.inr ⟨_, rfl⟩) (fun t9 ht9 hW9 => ⟨⟨(), _, rfl, trivial, rfl, by rw [ht9, hEq]; exact hP, by rw [hEq, hAe]; exact hD⟩, hS.F ht9⟩) hS.2.2 dJ5_append_c97b9_54

set_option maxHeartbeats 4000000 in
set_option maxRecDepth 100000 in
/-- java/lang/StringBuilder.append -/
theorem j_appI_J4 (l : Launch) (dg : va_G) (ck : Nat → ClassId) (ka : Nat → Nat) (ia : Nat → Nat) (O : Nat → Int) (Y : Int → Int) (x : Int) (sz : Nat) (hc0 : 0 ≤ O 0 ∧ O 0 + nnZ x ≤ 16) (hx0 : 0 ≤ x ∧ x ≤ 99) : Met l yJ4_append_bf812 (.code yJ4_append_bf812 cJ4_append_bf812 2 (some (.object "java/lang/StringBuilder")) :: GW) ({ frames := 2, cells := 0, slots := 0, locals := 49 }) (va_Pc [.ref (ia 0), .int (zI x)] (wrK dg ck ka sz (sboC ia O ++ (sbvC ck (ia 1) Y)))) (va_Qr (fun _ : Unit => True) (fun _ ra t9 => ra = (ia 0) ∧ wrQ dg sz (sboC ia O ++ (sbvC ck (ia 1) Y)) (sboC ia (upO O 0 (O 0 + nnZ x)) ++ (sbvC ck (ia 1) (wrY Y (O 0) (digZ x)))) t9) (va_A (sboC ia O ++ (sbvC ck (ia 1) Y)) sz)) 0 0 (va_A (sboC ia O ++ (sbvC ck (ia 1) Y)) sz) := by
  refine Met.ofW (cc := cJ4_append_bf812) (maxL := 2) (ret := (some (.object "java/lang/StringBuilder"))) (by decide) rfl ?_
  intro p e s m args below meth c s₁ B hml hv
  obtain ⟨rfl, ⟨hsz, hP, hK, hD0⟩, hC⟩ := hv
  have hx := B.exec
  have hb := B.bytes
  have hr := B.returns
  have hts := atoms_spec (ws := .code yJ4_append_bf812 cJ4_append_bf812 2 (some (.object "java/lang/StringBuilder")) :: GW) B.pre
  have htg : ∀ w ∈ GW, w.before _ s = true := fun w h => hts w (List.mem_cons_of_mem _ h)
  have hown : s.vm.findClass RJ4 = some m.cls := findClass_of_methodNamed B.named
  have hlocks := B.notSynchronized
  subst hsz
  have hD := hD0.self (sz := s.heap.size)
  generalize hAe : va_A (sboC ia O ++ (sbvC ck (ia 1) Y)) s.heap.size = A at hD hC ⊢
  have hA : ∀ q : Nat, s.heap.size ≤ q → A q := fun q h => by rw [← hAe]; exact Or.inr h
  have hS : va_S A s.heap s.heap [] := va_S.rf
  have hP : va_P dg vwCl (sboC ia O ++ (sbvC ck (ia 1) Y)) s.heap := hP
  have hl := lv_entry ([.ref (ia 0), .int (zI x)]) (n := 2) (Nat.le_of_ble_eq_true rfl)
  rw [lg_entry_eq]
  generalize (lg_sl ([.ref (ia 0), .int (zI x)]) ++ List.replicate (2 - (lg_sl ([.ref (ia 0), .int (zI x)])).length) Slot.unset).toArray = ls at hl ⊢
  have hl : lv_has ls 2 [(0, .ref (ia 0)), (1, .int (zI x))] := hl
  have hnz : 1 ≤ nnZ x ∧ nnZ x ≤ 2 := by unfold nnZ; split <;> omega
  refine lv_aload_n hx hb dJ4_append_bf812_0 rfl (lv_at hl 0 rfl) ?_
  refine lv_iload_n hx hb dJ4_append_bf812_1 rfl (lv_at hl 1 rfl) ?_
  refine x_callrB (ws' := sboC ia (upO O 0 ((O 0) + nnZ x)) ++ (sbvC ck (ia 1) (wrY Y (O 0) (digZ x)))) (M := sboC ia O ++ (sbvC ck (ia 1) Y)) (M' := sboC ia (upO O 0 ((O 0) + nnZ x)) ++ (sbvC ck (ia 1) (wrY Y (O 0) (digZ x)))) (N := []) (cat_perm [sboC ia O, sbvC ck (ia 1) Y] [0, 1] [] 2 rfl (by decide)) (cat_perm [sboC ia (upO O 0 ((O 0) + nnZ x)), sbvC ck (ia 1) (wrY Y (O 0) (digZ x))] [0, 1] [] 2 rfl (by decide)) hP hD hS hA (fun hPm hDm => va_runSU ((hK.1 1 _ rfl).2) (As := [.int (zI x)]) (rest := []) ⟨hx, hb, hml, hown, htg⟩ (j_appI_J5 l dg ck ka ia O Y x _ (show 0 ≤ (O 0) ∧ (O 0) + nnZ x ≤ 16 by omega) (by omega)) (va_cwSU 1 htg (gwSU wq_972 wq_1576 wq_277 wq_973 wq_11 wq_974) rfl rfl rfl (by decide +kernel) ⟨Nat.le_of_ble_eq_true rfl, Nat.le_of_ble_eq_true rfl⟩) (wrK_preV hK hPm hDm hC hS hA 0 1 rfl rfl) rfl rfl hl.1 rfl (lv_room (Nat.le_of_ble_eq_true rfl)) dJ4_append_bf812_2 ⟨Nat.zero_le _, Nat.zero_le _⟩) (fun H locs hP hD hS => ?_)
  refine lv_pop hx hb dJ4_append_bf812_5 rfl ?_
  refine lv_aload_n hx hb dJ4_append_bf812_6 rfl (lv_at hl 0 rfl) ?_
  have hEq : sboC ia (upO O 0 (O 0 + nnZ x)) ++ (sbvC ck (ia 1) (wrY Y (O 0) (digZ x))) = sboC ia (upO O 0 ((O 0) + nnZ x)) ++ (sbvC ck (ia 1) (wrY Y (O 0) (digZ x))) := rfl
  exact W.aret (v := .ref (ia 0)) hx hb hr (Or.inl ⟨_, rfl⟩) (Or.inr ⟨_, rfl⟩) (fun t9 ht9 hW9 => ⟨⟨(), _, rfl, trivial, rfl, by rw [ht9, hEq]; exact hP, by rw [hEq, hAe]; exact hD⟩, hS.F ht9⟩) hS.2.2 dJ4_append_bf812_7

set_option maxHeartbeats 4000000 in
set_option maxRecDepth 100000 in
/-- java/lang/AbstractStringBuilder.setLength -/
theorem j_setLen_J5 (l : Launch) (dg : va_G) (ck : Nat → ClassId) (ka : Nat → Nat) (ia : Nat → Nat) (O : Nat → Int) (Y : Int → Int) (sz : Nat) (hc0 : 0 ≤ O 0 ∧ O 0 ≤ 16) : Met l yJ5_setLength_d00df (.code yJ5_setLength_d00df cJ5_setLength_d00df 2 none :: GW) ({ frames := 1, cells := 0, slots := 0, locals := 22 }) (va_Pc [.ref (ia 0), .int (zI 0)] (wrK dg ck ka sz (sboC ia O ++ (sbvC ck (ia 1) Y)))) (va_Qv (fun _ : Unit => True) (fun _ t9 => wrQ dg sz (sboC ia O ++ (sbvC ck (ia 1) Y)) (sboC ia (upO (upO O 1 (if 0 < O 0 then 1 else O 1)) 0 0) ++ (sbvC ck (ia 1) Y)) t9) (va_A (sboC ia O ++ (sbvC ck (ia 1) Y)) sz)) 0 0 (va_A (sboC ia O ++ (sbvC ck (ia 1) Y)) sz) := by
  refine Met.ofW (cc := cJ5_setLength_d00df) (maxL := 2) (ret := none) (by decide) rfl ?_
  intro p e s m args below meth c s₁ B hml hv
  obtain ⟨rfl, ⟨hsz, hP, hK, hD0⟩, hC⟩ := hv
  have hx := B.exec
  have hb := B.bytes
  have hr := B.returns
  have hts := atoms_spec (ws := .code yJ5_setLength_d00df cJ5_setLength_d00df 2 none :: GW) B.pre
  have htg : ∀ w ∈ GW, w.before _ s = true := fun w h => hts w (List.mem_cons_of_mem _ h)
  have hown : s.vm.findClass RJ5 = some m.cls := findClass_of_methodNamed B.named
  have hlocks := B.notSynchronized
  subst hsz
  have hD := hD0.self (sz := s.heap.size)
  generalize hAe : va_A (sboC ia O ++ (sbvC ck (ia 1) Y)) s.heap.size = A at hD hC ⊢
  have hA : ∀ q : Nat, s.heap.size ≤ q → A q := fun q h => by rw [← hAe]; exact Or.inr h
  have hS : va_S A s.heap s.heap [] := va_S.rf
  have hP : va_P dg vwCl (sboC ia O ++ (sbvC ck (ia 1) Y)) s.heap := hP
  have hl := lv_entry ([.ref (ia 0), .int (zI 0)]) (n := 2) (Nat.le_of_ble_eq_true rfl)
  rw [lg_entry_eq]
  generalize (lg_sl ([.ref (ia 0), .int (zI 0)]) ++ List.replicate (2 - (lg_sl ([.ref (ia 0), .int (zI 0)])).length) Slot.unset).toArray = ls at hl ⊢
  have hl : lv_has ls 2 [(0, .ref (ia 0)), (1, .int (zI 0))] := hl
  refine lv_iload_n hx hb dJ5_setLength_d00df_0 rfl (lv_at hl 1 rfl) ?_
  refine x_if_ge (tgt := 13) hx hb dJ5_setLength_d00df_1 (by decide) (by omega) (fun c1 => ?_) (fun c1 => absurd c1 (by decide))
  refine lv_aload_n hx hb dJ5_setLength_d00df_13 rfl (lv_at hl 0 rfl) ?_
  refine lv_iload_n hx hb dJ5_setLength_d00df_14 rfl (lv_at hl 1 rfl) ?_
  refine x_callv (ws' := sboC ia O ++ (sbvC ck (ia 1) Y)) [] (M := sboC ia O ++ (sbvC ck (ia 1) Y)) (M' := sboC ia O ++ (sbvC ck (ia 1) Y)) ([]) (List.append_nil _).symm (List.append_nil _).symm hP hD hS hA (fun hPm hDm => va_runV (As := [.int (zI 0)]) (rest := []) ⟨hx, hb, hml, hown, htg⟩ (j_ensure l dg ck ka ia O Y 0 _ (by omega)) (cwVC 1 htg wq_865 wq_867 (va_Nw.use rfl (hC.nw (w := .selects "java/lang/StringBuilder" ⟨"java/lang/AbstractStringBuilder", "ensureCapacityInternal", "(I)V"⟩ ⟨"java/lang/AbstractStringBuilder", "ensureCapacityInternal", "(I)V"⟩) (by decide +kernel))) wq_11 wq_868 rfl rfl (by decide +kernel) ⟨Nat.le_of_ble_eq_true rfl, Nat.le_of_ble_eq_true rfl⟩) (wrK_preV hK hPm hDm hC hS hA 0 1 rfl rfl) rfl rfl hl.1 rfl (lv_room (Nat.le_of_ble_eq_true rfl)) dJ5_setLength_d00df_15 ⟨Nat.zero_le _, Nat.zero_le _⟩) (fun H locs hP hD hS => ?_)
  refine lv_aload_n hx hb dJ5_setLength_d00df_18 rfl (lv_at hl 0 rfl) ?_
  refine va_get (D := dg) (ci := 1) (v := .int (zI (O 0))) (C := RJ4) (T := TJ4) (N := 4) hx hb htg inG_J4 hown hK hP 0 rfl rfl 3 (Nat.le_of_ble_eq_true rfl) (htg _ wq_268) (fun _ h9 => h9) rfl dJ5_setLength_d00df_19 ?_
  refine lv_iload_n hx hb dJ5_setLength_d00df_22 rfl (lv_at hl 1 rfl) ?_
  refine x_icmp_ge (tgt := 63) hx hb dJ5_setLength_d00df_23 (by decide) (by omega) (by omega) (fun c23 => ?_) (fun c23 => ?_)
  · refine lv_aload_n hx hb dJ5_setLength_d00df_63 rfl (lv_at hl 0 rfl) ?_
    refine va_get (D := dg) (ci := 1) (v := .int (zI (O 0))) (C := RJ4) (T := TJ4) (N := 4) hx hb htg inG_J4 hown hK hP 0 rfl rfl 3 (Nat.le_of_ble_eq_true rfl) (htg _ wq_268) (fun _ h9 => h9) rfl dJ5_setLength_d00df_64 ?_
    refine lv_iload_n hx hb dJ5_setLength_d00df_67 rfl (lv_at hl 1 rfl) ?_
    refine x_icmp_le (tgt := 76) hx hb dJ5_setLength_d00df_68 (by decide) (by omega) (by omega) (fun c68 => ?_) (fun c68 => ?_)
    · refine lv_aload_n hx hb dJ5_setLength_d00df_76 rfl (lv_at hl 0 rfl) ?_
      refine lv_iload_n hx hb dJ5_setLength_d00df_77 rfl (lv_at hl 1 rfl) ?_
      refine va_put (D := dg) (ci := 1) (v := .int (zI 0)) (ty := .int) (C := RJ4) (T := TJ4) (N := 4) hx hb htg inG_J4 tyJ4 tyJ4_ok nmJ4 hown hK hP hD hS 0 rfl rfl 3 (Nat.le_of_ble_eq_true rfl) (htg _ wq_268) (fun _ h9 => h9) rfl (by decide +kernel) rfl rfl (Nat.le_of_ble_eq_true rfl) dJ5_setLength_d00df_78 (fun H locs hP hD hS => ?_)
      have hP : va_P dg vwCl (sboC ia (upO O 0 0) ++ (sbvC ck (ia 1) Y)) H := hP
      have hD : va_D A (sboC ia (upO O 0 0) ++ (sbvC ck (ia 1) Y)) := hD
      have hEq : sboC ia (upO (upO O 1 (if 0 < O 0 then 1 else O 1)) 0 0) ++ (sbvC ck (ia 1) Y) = sboC ia (upO O 0 0) ++ (sbvC ck (ia 1) Y) := (by first | (rw [if_pos (show 0 < O 0 by omega)] <;> rfl) | (rw [if_neg (show ¬ 0 < O 0 by omega), upO_id] <;> rfl))
      exact W.vret hx hb hr (fun t9 ht9 hW9 => ⟨⟨(), rfl, trivial, by rw [ht9, hEq]; exact hP, by rw [hEq, hAe]; exact hD⟩, hS.F ht9⟩) hS.2.2 dJ5_setLength_d00df_81
    · refine lv_aload_n hx hb dJ5_setLength_d00df_71 rfl (lv_at hl 0 rfl) ?_
      refine x_iconst hx hb dJ5_setLength_d00df_72 ?_
      refine va_put (D := dg) (ci := 1) (v := .int (zI 1)) (ty := .boolean) (C := RJ4) (T := TJ4) (N := 4) hx hb htg inG_J4 tyJ4 tyJ4_ok nmJ4 hown hK hP hD hS 0 rfl rfl 2 (Nat.le_of_ble_eq_true rfl) (htg _ wq_266) (fun _ h9 => h9) rfl (by decide +kernel) rfl rfl (Nat.le_of_ble_eq_true rfl) dJ5_setLength_d00df_73 (fun H locs hP hD hS => ?_)
      have hP : va_P dg vwCl (sboC ia (upO O 1 1) ++ (sbvC ck (ia 1) Y)) H := hP
      have hD : va_D A (sboC ia (upO O 1 1) ++ (sbvC ck (ia 1) Y)) := hD
      refine lv_aload_n hx hb dJ5_setLength_d00df_76 rfl (lv_at hl 0 rfl) ?_
      refine lv_iload_n hx hb dJ5_setLength_d00df_77 rfl (lv_at hl 1 rfl) ?_
      refine va_put (D := dg) (ci := 1) (v := .int (zI 0)) (ty := .int) (C := RJ4) (T := TJ4) (N := 4) hx hb htg inG_J4 tyJ4 tyJ4_ok nmJ4 hown hK hP hD hS 0 rfl rfl 3 (Nat.le_of_ble_eq_true rfl) (htg _ wq_268) (fun _ h9 => h9) rfl (by decide +kernel) rfl rfl (Nat.le_of_ble_eq_true rfl) dJ5_setLength_d00df_78 (fun H locs hP hD hS => ?_)
      have hP : va_P dg vwCl (sboC ia (upO (upO O 1 1) 0 0) ++ (sbvC ck (ia 1) Y)) H := hP
      have hD : va_D A (sboC ia (upO (upO O 1 1) 0 0) ++ (sbvC ck (ia 1) Y)) := hD
      have hEq : sboC ia (upO (upO O 1 (if 0 < O 0 then 1 else O 1)) 0 0) ++ (sbvC ck (ia 1) Y) = sboC ia (upO (upO O 1 1) 0 0) ++ (sbvC ck (ia 1) Y) := (by first | (rw [if_pos (show 0 < O 0 by omega)] <;> rfl) | (rw [if_neg (show ¬ 0 < O 0 by omega), upO_id] <;> rfl))
      exact W.vret hx hb hr (fun t9 ht9 hW9 => ⟨⟨(), rfl, trivial, by rw [ht9, hEq]; exact hP, by rw [hEq, hAe]; exact hD⟩, hS.F ht9⟩) hS.2.2 dJ5_setLength_d00df_81
  · exfalso; omega

set_option maxHeartbeats 4000000 in
set_option maxRecDepth 100000 in
/-- java/lang/AbstractStringBuilder.length -/
theorem j_len_J5 (l : Launch) (dg : va_G) (ck : Nat → ClassId) (ka : Nat → Nat) (ia : Nat → Nat) (O : Nat → Int) (Y : Int → Int) (sz : Nat)  : Met l yJ5_length_8abf5 (.code yJ5_length_8abf5 cJ5_length_8abf5 1 (some .int) :: GW) ({ frames := 0, cells := 0, slots := 0, locals := 0 }) (va_Pc [.ref (ia 0)] (wrK dg ck ka sz (sboC ia O ++ (sbvC ck (ia 1) Y)))) (va_Qi (fun r (_ : Unit) => r = zI (O 0)) (fun _ t9 => wrQ dg sz (sboC ia O ++ (sbvC ck (ia 1) Y)) (sboC ia O ++ (sbvC ck (ia 1) Y)) t9) (va_A (sboC ia O ++ (sbvC ck (ia 1) Y)) sz)) 0 0 (va_A (sboC ia O ++ (sbvC ck (ia 1) Y)) sz) := by
  refine Met.ofW (cc := cJ5_length_8abf5) (maxL := 1) (ret := (some .int)) (by decide) rfl ?_
  intro p e s m args below meth c s₁ B hml hv
  obtain ⟨rfl, ⟨hsz, hP, hK, hD0⟩, hC⟩ := hv
  have hx := B.exec
  have hb := B.bytes
  have hr := B.returns
  have hts := atoms_spec (ws := .code yJ5_length_8abf5 cJ5_length_8abf5 1 (some .int) :: GW) B.pre
  have htg : ∀ w ∈ GW, w.before _ s = true := fun w h => hts w (List.mem_cons_of_mem _ h)
  have hown : s.vm.findClass RJ5 = some m.cls := findClass_of_methodNamed B.named
  have hlocks := B.notSynchronized
  subst hsz
  have hD := hD0.self (sz := s.heap.size)
  generalize hAe : va_A (sboC ia O ++ (sbvC ck (ia 1) Y)) s.heap.size = A at hD hC ⊢
  have hA : ∀ q : Nat, s.heap.size ≤ q → A q := fun q h => by rw [← hAe]; exact Or.inr h
  have hS : va_S A s.heap s.heap [] := va_S.rf
  have hP : va_P dg vwCl (sboC ia O ++ (sbvC ck (ia 1) Y)) s.heap := hP
  have hl := lv_entry ([.ref (ia 0)]) (n := 1) (Nat.le_of_ble_eq_true rfl)
  rw [lg_entry_eq]
  generalize (lg_sl ([.ref (ia 0)]) ++ List.replicate (1 - (lg_sl ([.ref (ia 0)])).length) Slot.unset).toArray = ls at hl ⊢
  have hl : lv_has ls 1 [(0, .ref (ia 0))] := hl
  refine lv_aload_n hx hb dJ5_length_8abf5_0 rfl (lv_at hl 0 rfl) ?_
  refine va_get (D := dg) (ci := 1) (v := .int (zI (O 0))) (C := RJ4) (T := TJ4) (N := 4) hx hb htg inG_J4 hown hK hP 0 rfl rfl 3 (Nat.le_of_ble_eq_true rfl) (htg _ wq_268) (fun _ h9 => h9) rfl dJ5_length_8abf5_1 ?_
  have hEq : sboC ia O ++ (sbvC ck (ia 1) Y) = sboC ia O ++ (sbvC ck (ia 1) Y) := rfl
  exact W.iret (v := _) hx hb hr (fun t9 ht9 hW9 => ⟨⟨_, (), rfl, rfl, by rw [ht9, hEq]; exact hP, by rw [hEq, hAe]; exact hD⟩, hS.F ht9⟩) hS.2.2 dJ5_length_8abf5_4

set_option maxHeartbeats 4000000 in
set_option maxRecDepth 100000 in
/-- java/lang/AbstractStringBuilder.charAt -/
theorem j_sbAt_J5 (l : Launch) (dg : va_G) (ck : Nat → ClassId) (ka : Nat → Nat) (ia : Nat → Nat) (O : Nat → Int) (Y : Int → Int) (x : Int) (sz : Nat) (hx0 : 0 ≤ x ∧ x < O 0 ∧ O 0 ≤ 16) (hY : y7Z Y) : Met l yJ5_charAt_5068e (.code yJ5_charAt_5068e cJ5_charAt_5068e 5 (some .char) :: GW) ({ frames := 2, cells := 0, slots := 0, locals := 43 }) (va_Pc [.ref (ia 0), .int (zI x)] (wrK dg ck ka sz (sboC ia O ++ (sbvC ck (ia 1) Y)))) (va_Qi (fun r (_ : Unit) => r = zI (Y x)) (fun _ t9 => wrQ dg sz (sboC ia O ++ (sbvC ck (ia 1) Y)) (sboC ia O ++ (sbvC ck (ia 1) Y)) t9) (va_A (sboC ia O ++ (sbvC ck (ia 1) Y)) sz)) 0 0 (va_A (sboC ia O ++ (sbvC ck (ia 1) Y)) sz) := by
  refine Met.ofW (cc := cJ5_charAt_5068e) (maxL := 5) (ret := (some .char)) (by decide) rfl ?_
  intro p e s m args below meth c s₁ B hml hv
  obtain ⟨rfl, ⟨hsz, hP, hK, hD0⟩, hC⟩ := hv
  have hx := B.exec
  have hb := B.bytes
  have hr := B.returns
  have hts := atoms_spec (ws := .code yJ5_charAt_5068e cJ5_charAt_5068e 5 (some .char) :: GW) B.pre
  have htg : ∀ w ∈ GW, w.before _ s = true := fun w h => hts w (List.mem_cons_of_mem _ h)
  have hown : s.vm.findClass RJ5 = some m.cls := findClass_of_methodNamed B.named
  have hlocks := B.notSynchronized
  subst hsz
  have hD := hD0.self (sz := s.heap.size)
  generalize hAe : va_A (sboC ia O ++ (sbvC ck (ia 1) Y)) s.heap.size = A at hD hC ⊢
  have hA : ∀ q : Nat, s.heap.size ≤ q → A q := fun q h => by rw [← hAe]; exact Or.inr h
  have hS : va_S A s.heap s.heap [] := va_S.rf
  have hP : va_P dg vwCl (sboC ia O ++ (sbvC ck (ia 1) Y)) s.heap := hP
  have hl := lv_entry ([.ref (ia 0), .int (zI x)]) (n := 5) (Nat.le_of_ble_eq_true rfl)
  rw [lg_entry_eq]
  generalize (lg_sl ([.ref (ia 0), .int (zI x)]) ++ List.replicate (5 - (lg_sl ([.ref (ia 0), .int (zI x)])).length) Slot.unset).toArray = ls at hl ⊢
  have hl : lv_has ls 5 [(0, .ref (ia 0)), (1, .int (zI x))] := hl
  have hy8 := hY x hx0.1 (by omega)
  refine lv_aload_n hx hb dJ5_charAt_5068e_0 rfl (lv_at hl 0 rfl) ?_
  refine va_get (D := dg) (ci := 1) (v := .int (zI 0)) (C := RJ4) (T := TJ4) (N := 4) hx hb htg inG_J4 hown hK hP 0 rfl rfl 1 (Nat.le_of_ble_eq_true rfl) (htg _ wq_265) (fun _ h9 => h9) rfl dJ5_charAt_5068e_1 ?_
  refine lv_istore_n (lv' := [(2, .int (zI 0)), (0, .ref (ia 0)), (1, .int (zI x))]) hx hb dJ5_charAt_5068e_4 rfl hl (by decide) rfl (fun ls hl => ?_)
  refine lv_aload_n hx hb dJ5_charAt_5068e_5 rfl (lv_at hl 1 rfl) ?_
  refine va_get (D := dg) (ci := 1) (v := .ref (ia 1)) (C := RJ4) (T := TJ4) (N := 4) hx hb htg inG_J4 hown hK hP 0 rfl rfl 0 (Nat.le_of_ble_eq_true rfl) (htg _ wq_264) (fun _ h9 => h9) rfl dJ5_charAt_5068e_6 ?_
  refine lv_astore_n (lv' := [(3, .ref (ia 1)), (2, .int (zI 0)), (0, .ref (ia 0)), (1, .int (zI x))]) hx hb dJ5_charAt_5068e_9 rfl hl (by decide) rfl (fun ls hl => ?_)
  refine lv_aload_n hx hb dJ5_charAt_5068e_10 rfl (lv_at hl 2 rfl) ?_
  refine va_get (D := dg) (ci := 1) (v := .int (zI (O 0))) (C := RJ4) (T := TJ4) (N := 4) hx hb htg inG_J4 hown hK hP 0 rfl rfl 3 (Nat.le_of_ble_eq_true rfl) (htg _ wq_268) (fun _ h9 => h9) rfl dJ5_charAt_5068e_11 ?_
  refine lv_aload_n hx hb dJ5_charAt_5068e_14 rfl (lv_at hl 0 rfl) ?_
  refine x_alen hx hb hK hP 1 3 rfl rfl dJ5_charAt_5068e_15 ?_
  refine lv_iload_n hx hb dJ5_charAt_5068e_16 rfl (lv_at hl 1 rfl) ?_
  refine x_ishr0 hx hb dJ5_charAt_5068e_17 ?_
  refine x_mmin hx hb (hml.trans hl.1.symm) hown (htg _ wq_1354) (htg _ wq_718) (htg _ wq_23) (htg _ wq_719) (Nat.le_of_ble_eq_true rfl) (Nat.le_of_ble_eq_true rfl) (Nat.zero_le _) (Nat.zero_le _) (by omega) (by omega) dJ5_charAt_5068e_18 (fun m18 hm18 => ?_)
  refine lv_istore (lv' := [(4, .int (zI m18)), (3, .ref (ia 1)), (2, .int (zI 0)), (0, .ref (ia 0)), (1, .int (zI x))]) hx hb dJ5_charAt_5068e_21 hl (by decide) rfl (fun ls hl => ?_)
  refine lv_iload_n hx hb dJ5_charAt_5068e_23 rfl (lv_at hl 4 rfl) ?_
  refine lv_iload hx hb dJ5_charAt_5068e_24 (lv_at hl 0 rfl) ?_
  refine x_callSv (W.runS (As := [.int (zI x), .int (zI m18)]) (rest := []) ⟨hx, hb, hml, hown, htg⟩ (j_checkIndex l dg ck ka x m18 (by omega) (by omega)) (cwSC 2 htg wq_1355 wq_1081 wq_13 wq_1082 rfl rfl (by decide +kernel) ⟨Nat.le_of_ble_eq_true rfl, Nat.le_of_ble_eq_true rfl⟩) (rdK_preS hK va_P_nil hC hS) rfl rfl hl.1 rfl (lv_room (Nat.le_of_ble_eq_true rfl)) dJ5_charAt_5068e_26 ⟨Nat.zero_le _, Nat.zero_le _⟩) ?_
  refine lv_iload_n hx hb dJ5_charAt_5068e_29 rfl (lv_at hl 2 rfl) ?_
  refine x_if_ne (tgt := 42) hx hb dJ5_charAt_5068e_30 (by decide) (by omega) (fun c30 => absurd c30 (by decide)) (fun c30 => ?_)
  refine lv_aload_n hx hb dJ5_charAt_5068e_33 rfl (lv_at hl 1 rfl) ?_
  refine lv_iload_n hx hb dJ5_charAt_5068e_34 rfl (lv_at hl 4 rfl) ?_
  have hy9 := hY x hx0.1 (by omega)
  refine x_bald hx hb hK hP 1 3 Y rfl rfl (fun _ => rfl) (P := fun _ => True) (fun _ => trivial) (by decide) (by omega) dJ5_charAt_5068e_35 (fun _ => ?_)
  refine x_sipush hx hb dJ5_charAt_5068e_36 (by decide) ?_
  refine x_and255 hx hb dJ5_charAt_5068e_39 (by omega) ?_
  refine x_i2c hx hb dJ5_charAt_5068e_40 (by omega) ?_
  have hEq : sboC ia O ++ (sbvC ck (ia 1) Y) = sboC ia O ++ (sbvC ck (ia 1) Y) := rfl
  exact W.zret (v := _) hx hb hr (by first | rfl | exact narC (by omega)) (fun t9 ht9 hW9 => ⟨⟨_, (), rfl, rfl, by rw [ht9, hEq]; exact hP, by rw [hEq, hAe]; exact hD⟩, hS.F ht9⟩) hS.2.2 dJ5_charAt_5068e_41

set_option maxHeartbeats 4000000 in
set_option maxRecDepth 100000 in
/-- java/lang/StringBuilder.setLength -/
theorem j_setLen_J4 (l : Launch) (dg : va_G) (ck : Nat → ClassId) (ka : Nat → Nat) (ia : Nat → Nat) (O : Nat → Int) (Y : Int → Int) (sz : Nat) (hc0 : 0 ≤ O 0 ∧ O 0 ≤ 16) : Met l yJ4_setLength_d00df (.code yJ4_setLength_d00df cJ4_setLength_d00df 2 none :: GW) ({ frames := 2, cells := 0, slots := 0, locals := 43 }) (va_Pc [.ref (ia 0), .int (zI 0)] (wrK dg ck ka sz (sboC ia O ++ (sbvC ck (ia 1) Y)))) (va_Qv (fun _ : Unit => True) (fun _ t9 => wrQ dg sz (sboC ia O ++ (sbvC ck (ia 1) Y)) (sboC ia (upO (upO O 1 (if 0 < O 0 then 1 else O 1)) 0 0) ++ (sbvC ck (ia 1) Y)) t9) (va_A (sboC ia O ++ (sbvC ck (ia 1) Y)) sz)) 0 0 (va_A (sboC ia O ++ (sbvC ck (ia 1) Y)) sz) := by
  refine Met.ofW (cc := cJ4_setLength_d00df) (maxL := 2) (ret := none) (by decide) rfl ?_
  intro p e s m args below meth c s₁ B hml hv
  obtain ⟨rfl, ⟨hsz, hP, hK, hD0⟩, hC⟩ := hv
  have hx := B.exec
  have hb := B.bytes
  have hr := B.returns
  have hts := atoms_spec (ws := .code yJ4_setLength_d00df cJ4_setLength_d00df 2 none :: GW) B.pre
  have htg : ∀ w ∈ GW, w.before _ s = true := fun w h => hts w (List.mem_cons_of_mem _ h)
  have hown : s.vm.findClass RJ4 = some m.cls := findClass_of_methodNamed B.named
  have hlocks := B.notSynchronized
  subst hsz
  have hD := hD0.self (sz := s.heap.size)
  generalize hAe : va_A (sboC ia O ++ (sbvC ck (ia 1) Y)) s.heap.size = A at hD hC ⊢
  have hA : ∀ q : Nat, s.heap.size ≤ q → A q := fun q h => by rw [← hAe]; exact Or.inr h
  have hS : va_S A s.heap s.heap [] := va_S.rf
  have hP : va_P dg vwCl (sboC ia O ++ (sbvC ck (ia 1) Y)) s.heap := hP
  have hl := lv_entry ([.ref (ia 0), .int (zI 0)]) (n := 2) (Nat.le_of_ble_eq_true rfl)
  rw [lg_entry_eq]
  generalize (lg_sl ([.ref (ia 0), .int (zI 0)]) ++ List.replicate (2 - (lg_sl ([.ref (ia 0), .int (zI 0)])).length) Slot.unset).toArray = ls at hl ⊢
  have hl : lv_has ls 2 [(0, .ref (ia 0)), (1, .int (zI 0))] := hl
  refine lv_aload_n hx hb dJ4_setLength_d00df_0 rfl (lv_at hl 0 rfl) ?_
  refine lv_iload_n hx hb dJ4_setLength_d00df_1 rfl (lv_at hl 1 rfl) ?_
  refine x_callv (ws' := sboC ia (upO (upO O 1 (if 0 < (O 0) then 1 else (O 1))) 0 0) ++ (sbvC ck (ia 1) Y)) [] (M := sboC ia O ++ (sbvC ck (ia 1) Y)) (M' := sboC ia (upO (upO O 1 (if 0 < (O 0) then 1 else (O 1))) 0 0) ++ (sbvC ck (ia 1) Y)) ([]) (List.append_nil _).symm (List.append_nil _).symm hP hD hS hA (fun hPm hDm => va_runSU ((hK.1 1 _ rfl).2) (As := [.int (zI 0)]) (rest := []) ⟨hx, hb, hml, hown, htg⟩ (j_setLen_J5 l dg ck ka ia O Y _ (show 0 ≤ (O 0) ∧ (O 0) ≤ 16 by omega)) (va_cwSU 1 htg (gwSU wq_1274 wq_1577 wq_277 wq_1275 wq_11 wq_1276) rfl rfl rfl (by decide +kernel) ⟨Nat.le_of_ble_eq_true rfl, Nat.le_of_ble_eq_true rfl⟩) (wrK_preV hK hPm hDm hC hS hA 0 1 rfl rfl) rfl rfl hl.1 rfl (lv_room (Nat.le_of_ble_eq_true rfl)) dJ4_setLength_d00df_2 ⟨Nat.zero_le _, Nat.zero_le _⟩) (fun H locs hP hD hS => ?_)
  have hEq : sboC ia (upO (upO O 1 (if 0 < O 0 then 1 else O 1)) 0 0) ++ (sbvC ck (ia 1) Y) = sboC ia (upO (upO O 1 (if 0 < (O 0) then 1 else (O 1))) 0 0) ++ (sbvC ck (ia 1) Y) := rfl
  exact W.vret hx hb hr (fun t9 ht9 hW9 => ⟨⟨(), rfl, trivial, by rw [ht9, hEq]; exact hP, by rw [hEq, hAe]; exact hD⟩, hS.F ht9⟩) hS.2.2 dJ4_setLength_d00df_5

set_option maxHeartbeats 4000000 in
set_option maxRecDepth 100000 in
/-- java/lang/StringBuilder.length -/
theorem j_len_J4 (l : Launch) (dg : va_G) (ck : Nat → ClassId) (ka : Nat → Nat) (ia : Nat → Nat) (O : Nat → Int) (Y : Int → Int) (sz : Nat)  : Met l yJ4_length_8abf5 (.code yJ4_length_8abf5 cJ4_length_8abf5 1 (some .int) :: GW) ({ frames := 1, cells := 0, slots := 0, locals := 20 }) (va_Pc [.ref (ia 0)] (wrK dg ck ka sz (sboC ia O ++ (sbvC ck (ia 1) Y)))) (va_Qi (fun r (_ : Unit) => r = zI (O 0)) (fun _ t9 => wrQ dg sz (sboC ia O ++ (sbvC ck (ia 1) Y)) (sboC ia O ++ (sbvC ck (ia 1) Y)) t9) (va_A (sboC ia O ++ (sbvC ck (ia 1) Y)) sz)) 0 0 (va_A (sboC ia O ++ (sbvC ck (ia 1) Y)) sz) := by
  refine Met.ofW (cc := cJ4_length_8abf5) (maxL := 1) (ret := (some .int)) (by decide) rfl ?_
  intro p e s m args below meth c s₁ B hml hv
  obtain ⟨rfl, ⟨hsz, hP, hK, hD0⟩, hC⟩ := hv
  have hx := B.exec
  have hb := B.bytes
  have hr := B.returns
  have hts := atoms_spec (ws := .code yJ4_length_8abf5 cJ4_length_8abf5 1 (some .int) :: GW) B.pre
  have htg : ∀ w ∈ GW, w.before _ s = true := fun w h => hts w (List.mem_cons_of_mem _ h)
  have hown : s.vm.findClass RJ4 = some m.cls := findClass_of_methodNamed B.named
  have hlocks := B.notSynchronized
  subst hsz
  have hD := hD0.self (sz := s.heap.size)
  generalize hAe : va_A (sboC ia O ++ (sbvC ck (ia 1) Y)) s.heap.size = A at hD hC ⊢
  have hA : ∀ q : Nat, s.heap.size ≤ q → A q := fun q h => by rw [← hAe]; exact Or.inr h
  have hS : va_S A s.heap s.heap [] := va_S.rf
  have hP : va_P dg vwCl (sboC ia O ++ (sbvC ck (ia 1) Y)) s.heap := hP
  have hl := lv_entry ([.ref (ia 0)]) (n := 1) (Nat.le_of_ble_eq_true rfl)
  rw [lg_entry_eq]
  generalize (lg_sl ([.ref (ia 0)]) ++ List.replicate (1 - (lg_sl ([.ref (ia 0)])).length) Slot.unset).toArray = ls at hl ⊢
  have hl : lv_has ls 1 [(0, .ref (ia 0))] := hl
  refine lv_aload_n hx hb dJ4_length_8abf5_0 rfl (lv_at hl 0 rfl) ?_
  refine x_calli (ws' := sboC ia O ++ (sbvC ck (ia 1) Y)) [] (M := sboC ia O ++ (sbvC ck (ia 1) Y)) (M' := sboC ia O ++ (sbvC ck (ia 1) Y)) ([]) (List.append_nil _).symm (List.append_nil _).symm hP hD hS hA (fun hPm hDm => va_runSU ((hK.1 1 _ rfl).2) (As := []) (rest := []) ⟨hx, hb, hml, hown, htg⟩ (j_len_J5 l dg ck ka ia O Y _ ) (va_cwSU 0 htg (gwSU wq_1019 wq_1015 wq_277 wq_1014 wq_11 wq_1020) rfl rfl rfl (by decide +kernel) ⟨Nat.le_of_ble_eq_true rfl, Nat.le_of_ble_eq_true rfl⟩) (wrK_preV hK hPm hDm hC hS hA 0 1 rfl rfl) rfl rfl hl.1 rfl (lv_room (Nat.le_of_ble_eq_true rfl)) dJ4_length_8abf5_1 ⟨Nat.zero_le _, Nat.zero_le _⟩) (fun r1 H locs hr1 hP hD hS => ?_)
  subst hr1
  have hEq : sboC ia O ++ (sbvC ck (ia 1) Y) = sboC ia O ++ (sbvC ck (ia 1) Y) := rfl
  exact W.iret (v := _) hx hb hr (fun t9 ht9 hW9 => ⟨⟨_, (), rfl, rfl, by rw [ht9, hEq]; exact hP, by rw [hEq, hAe]; exact hD⟩, hS.F ht9⟩) hS.2.2 dJ4_length_8abf5_4

set_option maxHeartbeats 4000000 in
set_option maxRecDepth 100000 in
/-- java/lang/StringBuilder.charAt -/
theorem j_sbAt_J4 (l : Launch) (dg : va_G) (ck : Nat → ClassId) (ka : Nat → Nat) (ia : Nat → Nat) (O : Nat → Int) (Y : Int → Int) (x : Int) (sz : Nat) (hx0 : 0 ≤ x ∧ x < O 0 ∧ O 0 ≤ 16) (hY : y7Z Y) : Met l yJ4_charAt_5068e (.code yJ4_charAt_5068e cJ4_charAt_5068e 2 (some .char) :: GW) ({ frames := 3, cells := 0, slots := 0, locals := 67 }) (va_Pc [.ref (ia 0), .int (zI x)] (wrK dg ck ka sz (sboC ia O ++ (sbvC ck (ia 1) Y)))) (va_Qi (fun r (_ : Unit) => r = zI (Y x)) (fun _ t9 => wrQ dg sz (sboC ia O ++ (sbvC ck (ia 1) Y)) (sboC ia O ++ (sbvC ck (ia 1) Y)) t9) (va_A (sboC ia O ++ (sbvC ck (ia 1) Y)) sz)) 0 0 (va_A (sboC ia O ++ (sbvC ck (ia 1) Y)) sz) := by
  refine Met.ofW (cc := cJ4_charAt_5068e) (maxL := 2) (ret := (some .char)) (by decide) rfl ?_
  intro p e s m args below meth c s₁ B hml hv
  obtain ⟨rfl, ⟨hsz, hP, hK, hD0⟩, hC⟩ := hv
  have hx := B.exec
  have hb := B.bytes
  have hr := B.returns
  have hts := atoms_spec (ws := .code yJ4_charAt_5068e cJ4_charAt_5068e 2 (some .char) :: GW) B.pre
  have htg : ∀ w ∈ GW, w.before _ s = true := fun w h => hts w (List.mem_cons_of_mem _ h)
  have hown : s.vm.findClass RJ4 = some m.cls := findClass_of_methodNamed B.named
  have hlocks := B.notSynchronized
  subst hsz
  have hD := hD0.self (sz := s.heap.size)
  generalize hAe : va_A (sboC ia O ++ (sbvC ck (ia 1) Y)) s.heap.size = A at hD hC ⊢
  have hA : ∀ q : Nat, s.heap.size ≤ q → A q := fun q h => by rw [← hAe]; exact Or.inr h
  have hS : va_S A s.heap s.heap [] := va_S.rf
  have hP : va_P dg vwCl (sboC ia O ++ (sbvC ck (ia 1) Y)) s.heap := hP
  have hl := lv_entry ([.ref (ia 0), .int (zI x)]) (n := 2) (Nat.le_of_ble_eq_true rfl)
  rw [lg_entry_eq]
  generalize (lg_sl ([.ref (ia 0), .int (zI x)]) ++ List.replicate (2 - (lg_sl ([.ref (ia 0), .int (zI x)])).length) Slot.unset).toArray = ls at hl ⊢
  have hl : lv_has ls 2 [(0, .ref (ia 0)), (1, .int (zI x))] := hl
  have hy8 := hY x hx0.1 (by omega)
  refine lv_aload_n hx hb dJ4_charAt_5068e_0 rfl (lv_at hl 0 rfl) ?_
  refine lv_iload_n hx hb dJ4_charAt_5068e_1 rfl (lv_at hl 1 rfl) ?_
  refine x_calli (ws' := sboC ia O ++ (sbvC ck (ia 1) Y)) [] (M := sboC ia O ++ (sbvC ck (ia 1) Y)) (M' := sboC ia O ++ (sbvC ck (ia 1) Y)) ([]) (List.append_nil _).symm (List.append_nil _).symm hP hD hS hA (fun hPm hDm => va_runSU ((hK.1 1 _ rfl).2) (As := [.int (zI x)]) (rest := []) ⟨hx, hb, hml, hown, htg⟩ (j_sbAt_J5 l dg ck ka ia O Y x _ (show 0 ≤ x ∧ x < (O 0) ∧ (O 0) ≤ 16 by omega) hY) (va_cwSU 1 htg (gwSU wq_1351 wq_1580 wq_277 wq_1352 wq_11 wq_1353) rfl rfl rfl (by decide +kernel) ⟨Nat.le_of_ble_eq_true rfl, Nat.le_of_ble_eq_true rfl⟩) (wrK_preV hK hPm hDm hC hS hA 0 1 rfl rfl) rfl rfl hl.1 rfl (lv_room (Nat.le_of_ble_eq_true rfl)) dJ4_charAt_5068e_2 ⟨Nat.zero_le _, Nat.zero_le _⟩) (fun r2 H locs hr2 hP hD hS => ?_)
  subst hr2
  have hEq : sboC ia O ++ (sbvC ck (ia 1) Y) = sboC ia O ++ (sbvC ck (ia 1) Y) := rfl
  exact W.zret (v := _) hx hb hr (by first | rfl | exact narC (by omega)) (fun t9 ht9 hW9 => ⟨⟨_, (), rfl, rfl, by rw [ht9, hEq]; exact hP, by rw [hEq, hAe]; exact hD⟩, hS.F ht9⟩) hS.2.2 dJ4_charAt_5068e_5
