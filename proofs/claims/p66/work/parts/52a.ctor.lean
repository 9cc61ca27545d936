/-! what is made: rows for new arrays, constructors -/
section NEWX
variable {p : Program} {l : Launch} {e : Env} {R : Room} {s : State} {m : MethodId} {args : Array Value} {below : List Frame} {meth : Method} {c : Code} {H : Heap} {locs : List Loc} {cells slots : Nat} {Q : State → Prop}
variable {cc : ByteArray} {pc : Nat} {ls : Array Slot} {rest : List Value} {D : va_G} {cl : List vw_C} {A : Nat → Prop} {a : Nat} {tys : List (ClassId × FieldType)} {ws ws' : va_W} {H0 : Heap}
theorem x_newi (hexec : p.tables.exec = Jvm.exec) (hb : c.code = cc) {atype : ArrayType} {ty : FieldType} (harr : (Cond.arrayClass ty).before args s = true) (hty : newarray.typeOf atype = ty) (hobj : ∀ c9, va_RA s c9 ty → s.vm.findClass ("[" ++ ty.toString) = some c9) (hK : va_K D cl tys s) (hP : va_P D cl ws H) (hD : va_D A ws) (hS : va_S A H0 H locs) (hA : ∀ q, H0.size ≤ q → A q) (t0 : Nat) {c0 : ClassId} (ht : tys[t0]? = some (c0, ty)) {N : Nat} {n : Int32} {f : Nat → Int32} (hdf : ∀ j, Value.int (f j) = defaultValue ty) (hn : ¬ n < 0) (hN : n.toNatClampNeg = N) (hbytes : N * componentBytes ty ≤ 536870912) (hcells : cells + 1 ≤ R.cells) (hslots : slots + N ≤ R.slots) (hdg : decode cc pc = .ok (.newarray atype, 2))
    (kk : ∀ (q : Nat) (H1 : Heap), va_P D cl (ws ++ [(q, .inl (c0, N, .inl f))]) H1 → va_D A (ws ++ [(q, .inl (c0, N, .inl f))]) → va_S A H0 H1 locs → W p l e R s m args below meth c H1 locs (cells + 1) (slots + N) Q (F0 m (pc + 2) ls (.ref q :: rest))) : W p l e R s m args below meth c H locs cells slots Q (F0 m pc ls (.int n :: rest)) := by
  refine va_newa hexec hb (by rw [hty]; exact harr) hty hK hP hD hS hA (a0 := (N, .inl f)) (fun cA => congrArg (fun g => arrV cA N g) (funext hdf)) hn hN hbytes hcells hslots hdg (fun q cA H1 hK1 hP1 hD1 hS1 => ?_)
  have h1 := hobj cA (hK1.2 tys.length (cA, ty) (by rw [List.getElem?_append_right (Nat.le_refl _), Nat.sub_self]; rfl)).2
  have h2 := hobj c0 (hK.2 t0 _ ht).2
  cases Option.some.inj (h1.symm.trans h2)
  exact kk q H1 hP1 hD1 hS1
theorem x_newl (hexec : p.tables.exec = Jvm.exec) (hb : c.code = cc) {atype : ArrayType} {ty : FieldType} (harr : (Cond.arrayClass ty).before args s = true) (hty : newarray.typeOf atype = ty) (hobj : ∀ c9, va_RA s c9 ty → s.vm.findClass ("[" ++ ty.toString) = some c9) (hK : va_K D cl tys s) (hP : va_P D cl ws H) (hD : va_D A ws) (hS : va_S A H0 H locs) (hA : ∀ q, H0.size ≤ q → A q) (t0 : Nat) {c0 : ClassId} (ht : tys[t0]? = some (c0, ty)) {N : Nat} {n : Int32} {f : Nat → Int64} (hdf : ∀ j, Value.long (f j) = defaultValue ty) (hn : ¬ n < 0) (hN : n.toNatClampNeg = N) (hbytes : N * componentBytes ty ≤ 536870912) (hcells : cells + 1 ≤ R.cells) (hslots : slots + N ≤ R.slots) (hdg : decode cc pc = .ok (.newarray atype, 2))
    (kk : ∀ (q : Nat) (H1 : Heap), va_P D cl (ws ++ [(q, .inl (c0, N, .inr (.inl f)))]) H1 → va_D A (ws ++ [(q, .inl (c0, N, .inr (.inl f)))]) → va_S A H0 H1 locs → W p l e R s m args below meth c H1 locs (cells + 1) (slots + N) Q (F0 m (pc + 2) ls (.ref q :: rest))) : W p l e R s m args below meth c H locs cells slots Q (F0 m pc ls (.int n :: rest)) := by
  refine va_newa hexec hb (by rw [hty]; exact harr) hty hK hP hD hS hA (a0 := (N, .inr (.inl f))) (fun cA => congrArg (fun g => arrV cA N g) (funext hdf)) hn hN hbytes hcells hslots hdg (fun q cA H1 hK1 hP1 hD1 hS1 => ?_)
  have h1 := hobj cA (hK1.2 tys.length (cA, ty) (by rw [List.getElem?_append_right (Nat.le_refl _), Nat.sub_self]; rfl)).2
  have h2 := hobj c0 (hK.2 t0 _ ht).2
  cases Option.some.inj (h1.symm.trans h2)
  exact kk q H1 hP1 hD1 hS1
theorem x_newd (hexec : p.tables.exec = Jvm.exec) (hb : c.code = cc) {atype : ArrayType} {ty : FieldType} (harr : (Cond.arrayClass ty).before args s = true) (hty : newarray.typeOf atype = ty) (hobj : ∀ c9, va_RA s c9 ty → s.vm.findClass ("[" ++ ty.toString) = some c9) (hK : va_K D cl tys s) (hP : va_P D cl ws H) (hD : va_D A ws) (hS : va_S A H0 H locs) (hA : ∀ q, H0.size ≤ q → A q) (t0 : Nat) {c0 : ClassId} (ht : tys[t0]? = some (c0, ty)) {N : Nat} {n : Int32} {f : Nat → UInt64} (hdf : ∀ j, Value.double (f j) = defaultValue ty) (hn : ¬ n < 0) (hN : n.toNatClampNeg = N) (hbytes : N * componentBytes ty ≤ 536870912) (hcells : cells + 1 ≤ R.cells) (hslots : slots + N ≤ R.slots) (hdg : decode cc pc = .ok (.newarray atype, 2))
    (kk : ∀ (q : Nat) (H1 : Heap), va_P D cl (ws ++ [(q, .inl (c0, N, .inr (.inr (.inr (.inl f)))))]) H1 → va_D A (ws ++ [(q, .inl (c0, N, .inr (.inr (.inr (.inl f)))))]) → va_S A H0 H1 locs → W p l e R s m args below meth c H1 locs (cells + 1) (slots + N) Q (F0 m (pc + 2) ls (.ref q :: rest))) : W p l e R s m args below meth c H locs cells slots Q (F0 m pc ls (.int n :: rest)) := by
  refine va_newa hexec hb (by rw [hty]; exact harr) hty hK hP hD hS hA (a0 := (N, .inr (.inr (.inr (.inl f))))) (fun cA => congrArg (fun g => arrV cA N g) (funext hdf)) hn hN hbytes hcells hslots hdg (fun q cA H1 hK1 hP1 hD1 hS1 => ?_)
  have h1 := hobj cA (hK1.2 tys.length (cA, ty) (by rw [List.getElem?_append_right (Nat.le_refl _), Nat.sub_self]; rfl)).2
  have h2 := hobj c0 (hK.2 t0 _ ht).2
  cases Option.some.inj (h1.symm.trans h2)
  exact kk q H1 hP1 hD1 hS1
theorem x_newq (hexec : p.tables.exec = Jvm.exec) (hb : c.code = cc) {own C : String} {index : Nat} (hown : s.vm.findClass own = some m.cls) (hclink : (Cond.classLink own index C).before args s = true) (hover : va_AO C s) (hK : va_K D cl tys s) (hP : va_P D cl ws H) (hD : va_D A ws) (hS : va_S A H0 H locs) (hA : ∀ q, H0.size ≤ q → A q) (t0 : Nat) {c0 : ClassId} (ht : tys[t0]? = some (c0, .object C))
    {n : Int32} {N : Nat} (hn : ¬ n < 0) (hN : n.toNatClampNeg = N) (hbytes : N * 4 ≤ 536870912) (hcells : cells + 1 ≤ R.cells) (hslots : slots + N ≤ R.slots) (hdg : decode cc pc = .ok (.anewarray index, 3))
    (kk : ∀ (q : Nat) (H1 : Heap), va_P D cl (ws ++ [(q, .inl (c0, N, .inr (.inr (.inr (.inr (fun _ => none))))))]) H1 → va_D A (ws ++ [(q, .inl (c0, N, .inr (.inr (.inr (.inr (fun _ => none))))))]) → va_S A H0 H1 locs → W p l e R s m args below meth c H1 locs (cells + 1) (slots + N) Q (F0 m (pc + 3) ls (.ref q :: rest))) : W p l e R s m args below meth c H locs cells slots Q (F0 m pc ls (.int n :: rest)) := by
  refine va_newq hexec hb hown hclink hover hK hP hD hS hA hn hN hbytes hcells hslots hdg (fun q cA H1 hK1 hP1 hD1 hS1 => ?_)
  obtain ⟨k1, d1, -, -, -, h1⟩ := (hK1.2 tys.length (cA, .object C) (by rw [List.getElem?_append_right (Nat.le_refl _), Nat.sub_self]; rfl)).2
  obtain ⟨k2, d2, -, -, -, h2⟩ := (hK.2 t0 _ ht).2
  cases Option.some.inj (h1.symm.trans h2)
  exact kk q H1 hP1 hD1 hS1
theorem va_P_cellq {q : Nat} {cA : ClassId} {n : Nat} {f g : Nat → Option Nat} (h : ∀ j, j < n → f j = g j) (hP : va_P D cl (ws.set q (a, .inl (cA, n, .inr (.inr (.inr (.inr f)))))) H) : va_P D cl (ws.set q (a, .inl (cA, n, .inr (.inr (.inr (.inr g)))))) H := by
  have he : vp_cell cA (n, .inr (.inr (.inr (.inr f)))) = vp_cell cA (n, .inr (.inr (.inr (.inr g)))) := by
    rw [vp_cell_q, vp_cell_q]
    unfold arrV
    congr 1
    congr 1
    funext j
    exact congrArg va_rf (h j.val j.isLt)
  intro k x hk
  by_cases e : k = q
  · subst e
    by_cases hl : k < ws.length
    · rw [List.getElem?_set_self hl] at hk
      cases hk
      have h1 := hP k (a, .inl (cA, n, .inr (.inr (.inr (.inr f))))) (List.getElem?_set_self hl)
      exact (show H[a]? = some (vp_cell cA (n, .inr (.inr (.inr (.inr f))))) from h1).trans (congrArg some he)
    · rw [List.getElem?_eq_none (by rw [List.length_set]; omega)] at hk
      cases hk
  · rw [List.getElem?_set_ne (Ne.symm e)] at hk
    exact hP k x (by rw [List.getElem?_set_ne (Ne.symm e)]; exact hk)
end NEWX
theorem cat_permA (bs : List va_W) (is : List Nat) (n : Nat) (hn : bs.length = n) (h : is.Perm (List.range n)) : (cat bs).Perm (cat (is.map (fun i => bs.getD i []))) := by
  have h1 := cat_perm bs is [] n hn (by rw [List.append_nil]; exact h)
  rwa [show cat (([] : List Nat).map (fun i => bs.getD i [])) = ([] : va_W) from rfl, List.append_nil] at h1
/-- a constructor's start that makes an array of references, too -/
def wrA (dg : va_G) (ck : Nat → ClassId) (ka : Nat → Nat) (sz : Nat) (ws : va_W) : State → Prop := fun U => wrK dg ck ka sz ws U ∧ va_AO "BenchBroker$Books" U
theorem wrA_preS {dg : va_G} {ck : Nat → ClassId} {ka : Nat → Nat} {A : Nat → Prop} {ws : va_W} {As : List Value} {s : State} {H : Heap} {locs : List Loc} (hAO : va_AO "BenchBroker$Books" s) (h : PreS s H (va_Pc As (wrK dg ck ka H.size ws)) As) : PreS s H (va_Pc As (wrA dg ck ka H.size ws)) As :=
  ⟨fun a U g mk q => ⟨(h.1 a U g mk ⟨q.1, q.2.1⟩).1, (h.1 a U g mk ⟨q.1, q.2.1⟩).2, va_AO.moved (u := U) (U := U.calling g mk a) (Vm.Alike.refl U.vm) q.2.2⟩, fun U hU hW => ⟨(h.2 U hU hW).1, (h.2 U hU hW).2, va_AO.moved hW.alike hAO⟩⟩
/-- a new park with nothing in it -/
def S0 : St := fun k i => if k = 0 then (if i = 3 then 3 else 0) else 0

set_option maxHeartbeats 4000000 in
set_option maxRecDepth 100000 in
/-- BenchBroker$Park's constructor -/
theorem k_Park (l : Launch) (dg : va_G) (ck : Nat → ClassId) (ka : Nat → Nat) (o : Nat) (sz : Nat) : Met l yX6_init (.code yX6_init cX6_init 1 none :: GW) ({ frames := 1, cells := 7, slots := 46, locals := 24 }) (va_Pc [.ref o] (wrK dg ck ka sz ([(o, .inr (9, [.int (zI 0), .null, .null, .null, .int (zI 0), .null, .null, .null, .null, .int (zI 0)]))]))) (va_Qv (fun u : Nat → Nat => u 0 = o) (fun u t9 => wrQ dg sz ([(o, .inr (9, [.int (zI 0), .null, .null, .null, .int (zI 0), .null, .null, .null, .null, .int (zI 0)]))]) (parkC ck u S0) t9) (va_A ([(o, .inr (9, [.int (zI 0), .null, .null, .null, .int (zI 0), .null, .null, .null, .null, .int (zI 0)]))]) sz)) 7 46 (va_A ([(o, .inr (9, [.int (zI 0), .null, .null, .null, .int (zI 0), .null, .null, .null, .null, .int (zI 0)]))]) sz) := by
  refine Met.ofW (cc := cX6_init) (maxL := 1) (ret := none) (by decide) rfl ?_
  intro p e s m args below meth c s₁ B hml hv
  obtain ⟨rfl, ⟨hsz, hP, hK, hD0⟩, hC⟩ := hv
  have hx := B.exec
  have hb := B.bytes
  have hr := B.returns
  have hts := atoms_spec (ws := .code yX6_init cX6_init 1 none :: GW) B.pre
  have htg : ∀ w ∈ GW, w.before _ s = true := fun w h => hts w (List.mem_cons_of_mem _ h)
  have hown : s.vm.findClass RX6 = some m.cls := findClass_of_methodNamed B.named
  have hlocks := B.notSynchronized
  have hin : meth.name = "<init>" := (name_of_methodNamed B.named B.method).1
  subst hsz
  have hD := hD0.self (sz := s.heap.size)
  generalize hAe : va_A ([(o, .inr (9, [.int (zI 0), .null, .null, .null, .int (zI 0), .null, .null, .null, .null, .int (zI 0)]))]) s.heap.size = A at hD hC ⊢
  have hA : ∀ q : Nat, s.heap.size ≤ q → A q := fun q h => by rw [← hAe]; exact Or.inr h
  have hS : va_S A s.heap s.heap [] := va_S.rf
  have hP : va_P dg vwCl ([(o, .inr (9, [.int (zI 0), .null, .null, .null, .int (zI 0), .null, .null, .null, .null, .int (zI 0)]))]) s.heap := hP
  have hl := lv_entry ([.ref o]) (n := 1) (Nat.le_of_ble_eq_true rfl)
  rw [lg_entry_eq]
  generalize (lg_sl ([.ref o]) ++ List.replicate (1 - (lg_sl ([.ref o])).length) Slot.unset).toArray = ls at hl ⊢
  have hl : lv_has ls 1 [(0, .ref o)] := hl
  refine lv_aload_n hx hb dX6_init_0 rfl (lv_at hl 0 rfl) ?_
  refine W.objInit hx hb hown (htg _ wq_53) (htg _ wq_40) (htg _ wq_41) rfl (by rw [hml]; exact hl.1) rfl dX6_init_1 (Nat.le_of_ble_eq_true rfl) (Nat.le_of_ble_eq_true rfl) ?_
  refine W.eq (g2 := F0 m 4 ls []) rfl ?_
  refine lv_aload_n hx hb dX6_init_4 rfl (lv_at hl 0 rfl) ?_
  refine x_iconst hx hb dX6_init_5 ?_
  refine va_put (D := dg) (ci := 9) (v := .int (zI 0)) (ty := .int) (C := RX6) (T := TX6) (N := 10) hx hb htg inG_X6 tyX6 tyX6_ok nmX6 hown hK hP hD hS 0 rfl rfl 0 (Nat.le_of_ble_eq_true rfl) (htg _ wq_54) (fun _ h9 => h9) rfl (by decide +kernel) rfl rfl (Nat.le_of_ble_eq_true rfl) dX6_init_6 (fun H locs hP hD hS => ?_)
  have hP : va_P dg vwCl ([(o, .inr (9, [.int (zI 0), .null, .null, .null, .int (zI 0), .null, .null, .null, .null, .int (zI 0)]))]) H := hP
  have hD : va_D A ([(o, .inr (9, [.int (zI 0), .null, .null, .null, .int (zI 0), .null, .null, .null, .null, .int (zI 0)]))]) := hD
  refine lv_aload_n hx hb dX6_init_9 rfl (lv_at hl 0 rfl) ?_
  refine x_bipush hx hb dX6_init_10 (by decide) ?_
  refine x_newi (atype := .int) (ty := .int) (f := (ar S0 1)) (N := 10) hx hb (htg _ wq_101) rfl (fun _ h => h) hK hP hD hS hA 0 rfl (fun _ => rfl) (by decide) (by decide) (by decide) (Nat.le_of_ble_eq_true rfl) (Nat.le_of_ble_eq_true rfl) dX6_init_12 (fun q12 H hP hD hS => ?_)
  have hP : va_P dg vwCl ([(o, .inr (9, [.int (zI 0), .null, .null, .null, .int (zI 0), .null, .null, .null, .null, .int (zI 0)]))] ++ ([(q12, .inl (ck 0, 10, .inl (ar S0 1)))])) H := hP
  have hD : va_D A ([(o, .inr (9, [.int (zI 0), .null, .null, .null, .int (zI 0), .null, .null, .null, .null, .int (zI 0)]))] ++ ([(q12, .inl (ck 0, 10, .inl (ar S0 1)))])) := hD
  refine va_putF (D := dg) (ci := 9) (v := .ref q12) (ty := (.array .int)) (C := RX6) (T := TX6) (N := 10) hx hb htg inG_X6 tyX6 tyX6_ok nmX6 hown hK hP hD hS 0 rfl rfl 1 (Nat.le_of_ble_eq_true rfl) (htg _ wq_57) (fun _ h9 => h9) rfl hin rfl (by decide +kernel) rfl rfl (Nat.le_of_ble_eq_true rfl) dX6_init_14 (fun H locs hP hD hS => ?_)
  have hP : va_P dg vwCl ([(o, .inr (9, [.int (zI 0), .ref q12, .null, .null, .int (zI 0), .null, .null, .null, .null, .int (zI 0)]))] ++ ([(q12, .inl (ck 0, 10, .inl (ar S0 1)))])) H := hP
  have hD : va_D A ([(o, .inr (9, [.int (zI 0), .ref q12, .null, .null, .int (zI 0), .null, .null, .null, .null, .int (zI 0)]))] ++ ([(q12, .inl (ck 0, 10, .inl (ar S0 1)))])) := hD
  refine lv_aload_n hx hb dX6_init_17 rfl (lv_at hl 0 rfl) ?_
  refine x_bipush hx hb dX6_init_18 (by decide) ?_
  refine x_newi (atype := .int) (ty := .int) (f := (ar S0 2)) (N := 10) hx hb (htg _ wq_101) rfl (fun _ h => h) hK hP hD hS hA 0 rfl (fun _ => rfl) (by decide) (by decide) (by decide) (Nat.le_of_ble_eq_true rfl) (Nat.le_of_ble_eq_true rfl) dX6_init_20 (fun q20 H hP hD hS => ?_)
  have hP : va_P dg vwCl ([(o, .inr (9, [.int (zI 0), .ref q12, .null, .null, .int (zI 0), .null, .null, .null, .null, .int (zI 0)]))] ++ ([(q12, .inl (ck 0, 10, .inl (ar S0 1)))] ++ ([(q20, .inl (ck 0, 10, .inl (ar S0 2)))]))) H := (va_P_eq (by simp only [List.append_assoc] <;> rfl) hP)
  have hD : va_D A ([(o, .inr (9, [.int (zI 0), .ref q12, .null, .null, .int (zI 0), .null, .null, .null, .null, .int (zI 0)]))] ++ ([(q12, .inl (ck 0, 10, .inl (ar S0 1)))] ++ ([(q20, .inl (ck 0, 10, .inl (ar S0 2)))]))) := (va_D_eq (by simp only [List.append_assoc] <;> rfl) hD)
  refine va_putF (D := dg) (ci := 9) (v := .ref q20) (ty := (.array .int)) (C := RX6) (T := TX6) (N := 10) hx hb htg inG_X6 tyX6 tyX6_ok nmX6 hown hK hP hD hS 0 rfl rfl 2 (Nat.le_of_ble_eq_true rfl) (htg _ wq_60) (fun _ h9 => h9) rfl hin rfl (by decide +kernel) rfl rfl (Nat.le_of_ble_eq_true rfl) dX6_init_22 (fun H locs hP hD hS => ?_)
  have hP : va_P dg vwCl ([(o, .inr (9, [.int (zI 0), .ref q12, .ref q20, .null, .int (zI 0), .null, .null, .null, .null, .int (zI 0)]))] ++ ([(q12, .inl (ck 0, 10, .inl (ar S0 1)))] ++ ([(q20, .inl (ck 0, 10, .inl (ar S0 2)))]))) H := hP
  have hD : va_D A ([(o, .inr (9, [.int (zI 0), .ref q12, .ref q20, .null, .int (zI 0), .null, .null, .null, .null, .int (zI 0)]))] ++ ([(q12, .inl (ck 0, 10, .inl (ar S0 1)))] ++ ([(q20, .inl (ck 0, 10, .inl (ar S0 2)))]))) := hD
  refine lv_aload_n hx hb dX6_init_25 rfl (lv_at hl 0 rfl) ?_
  refine x_bipush hx hb dX6_init_26 (by decide) ?_
  refine x_newi (atype := .int) (ty := .int) (f := (ar S0 3)) (N := 10) hx hb (htg _ wq_101) rfl (fun _ h => h) hK hP hD hS hA 0 rfl (fun _ => rfl) (by decide) (by decide) (by decide) (Nat.le_of_ble_eq_true rfl) (Nat.le_of_ble_eq_true rfl) dX6_init_28 (fun q28 H hP hD hS => ?_)
  have hP : va_P dg vwCl ([(o, .inr (9, [.int (zI 0), .ref q12, .ref q20, .null, .int (zI 0), .null, .null, .null, .null, .int (zI 0)]))] ++ ([(q12, .inl (ck 0, 10, .inl (ar S0 1)))] ++ ([(q20, .inl (ck 0, 10, .inl (ar S0 2)))] ++ ([(q28, .inl (ck 0, 10, .inl (ar S0 3)))])))) H := (va_P_eq (by simp only [List.append_assoc] <;> rfl) hP)
  have hD : va_D A ([(o, .inr (9, [.int (zI 0), .ref q12, .ref q20, .null, .int (zI 0), .null, .null, .null, .null, .int (zI 0)]))] ++ ([(q12, .inl (ck 0, 10, .inl (ar S0 1)))] ++ ([(q20, .inl (ck 0, 10, .inl (ar S0 2)))] ++ ([(q28, .inl (ck 0, 10, .inl (ar S0 3)))])))) := (va_D_eq (by simp only [List.append_assoc] <;> rfl) hD)
  refine va_putF (D := dg) (ci := 9) (v := .ref q28) (ty := (.array .int)) (C := RX6) (T := TX6) (N := 10) hx hb htg inG_X6 tyX6 tyX6_ok nmX6 hown hK hP hD hS 0 rfl rfl 3 (Nat.le_of_ble_eq_true rfl) (htg _ wq_63) (fun _ h9 => h9) rfl hin rfl (by decide +kernel) rfl rfl (Nat.le_of_ble_eq_true rfl) dX6_init_30 (fun H locs hP hD hS => ?_)
  have hP : va_P dg vwCl ([(o, .inr (9, [.int (zI 0), .ref q12, .ref q20, .ref q28, .int (zI 0), .null, .null, .null, .null, .int (zI 0)]))] ++ ([(q12, .inl (ck 0, 10, .inl (ar S0 1)))] ++ ([(q20, .inl (ck 0, 10, .inl (ar S0 2)))] ++ ([(q28, .inl (ck 0, 10, .inl (ar S0 3)))])))) H := hP
  have hD : va_D A ([(o, .inr (9, [.int (zI 0), .ref q12, .ref q20, .ref q28, .int (zI 0), .null, .null, .null, .null, .int (zI 0)]))] ++ ([(q12, .inl (ck 0, 10, .inl (ar S0 1)))] ++ ([(q20, .inl (ck 0, 10, .inl (ar S0 2)))] ++ ([(q28, .inl (ck 0, 10, .inl (ar S0 3)))])))) := hD
  refine lv_aload_n hx hb dX6_init_33 rfl (lv_at hl 0 rfl) ?_
  refine x_iconst hx hb dX6_init_34 ?_
  refine va_put (D := dg) (ci := 9) (v := .int (zI 0)) (ty := .int) (C := RX6) (T := TX6) (N := 10) hx hb htg inG_X6 tyX6 tyX6_ok nmX6 hown hK hP hD hS 0 rfl rfl 4 (Nat.le_of_ble_eq_true rfl) (htg _ wq_65) (fun _ h9 => h9) rfl (by decide +kernel) rfl rfl (Nat.le_of_ble_eq_true rfl) dX6_init_35 (fun H locs hP hD hS => ?_)
  have hP : va_P dg vwCl ([(o, .inr (9, [.int (zI 0), .ref q12, .ref q20, .ref q28, .int (zI 0), .null, .null, .null, .null, .int (zI 0)]))] ++ ([(q12, .inl (ck 0, 10, .inl (ar S0 1)))] ++ ([(q20, .inl (ck 0, 10, .inl (ar S0 2)))] ++ ([(q28, .inl (ck 0, 10, .inl (ar S0 3)))])))) H := hP
  have hD : va_D A ([(o, .inr (9, [.int (zI 0), .ref q12, .ref q20, .ref q28, .int (zI 0), .null, .null, .null, .null, .int (zI 0)]))] ++ ([(q12, .inl (ck 0, 10, .inl (ar S0 1)))] ++ ([(q20, .inl (ck 0, 10, .inl (ar S0 2)))] ++ ([(q28, .inl (ck 0, 10, .inl (ar S0 3)))])))) := hD
  refine lv_aload_n hx hb dX6_init_38 rfl (lv_at hl 0 rfl) ?_
  refine x_iconst hx hb dX6_init_39 ?_
  refine x_newi (atype := .int) (ty := .int) (f := (ar S0 7)) (N := 4) hx hb (htg _ wq_101) rfl (fun _ h => h) hK hP hD hS hA 0 rfl (fun _ => rfl) (by decide) (by decide) (by decide) (Nat.le_of_ble_eq_true rfl) (Nat.le_of_ble_eq_true rfl) dX6_init_40 (fun q40 H hP hD hS => ?_)
  have hP : va_P dg vwCl ([(o, .inr (9, [.int (zI 0), .ref q12, .ref q20, .ref q28, .int (zI 0), .null, .null, .null, .null, .int (zI 0)]))] ++ ([(q12, .inl (ck 0, 10, .inl (ar S0 1)))] ++ ([(q20, .inl (ck 0, 10, .inl (ar S0 2)))] ++ ([(q28, .inl (ck 0, 10, .inl (ar S0 3)))] ++ ([(q40, .inl (ck 0, 4, .inl (ar S0 7)))]))))) H := (va_P_eq (by simp only [List.append_assoc] <;> rfl) hP)
  have hD : va_D A ([(o, .inr (9, [.int (zI 0), .ref q12, .ref q20, .ref q28, .int (zI 0), .null, .null, .null, .null, .int (zI 0)]))] ++ ([(q12, .inl (ck 0, 10, .inl (ar S0 1)))] ++ ([(q20, .inl (ck 0, 10, .inl (ar S0 2)))] ++ ([(q28, .inl (ck 0, 10, .inl (ar S0 3)))] ++ ([(q40, .inl (ck 0, 4, .inl (ar S0 7)))]))))) := (va_D_eq (by simp only [List.append_assoc] <;> rfl) hD)
  refine va_putF (D := dg) (ci := 9) (v := .ref q40) (ty := (.array .int)) (C := RX6) (T := TX6) (N := 10) hx hb htg inG_X6 tyX6 tyX6_ok nmX6 hown hK hP hD hS 0 rfl rfl 5 (Nat.le_of_ble_eq_true rfl) (htg _ wq_68) (fun _ h9 => h9) rfl hin rfl (by decide +kernel) rfl rfl (Nat.le_of_ble_eq_true rfl) dX6_init_42 (fun H locs hP hD hS => ?_)
  have hP : va_P dg vwCl ([(o, .inr (9, [.int (zI 0), .ref q12, .ref q20, .ref q28, .int (zI 0), .ref q40, .null, .null, .null, .int (zI 0)]))] ++ ([(q12, .inl (ck 0, 10, .inl (ar S0 1)))] ++ ([(q20, .inl (ck 0, 10, .inl (ar S0 2)))] ++ ([(q28, .inl (ck 0, 10, .inl (ar S0 3)))] ++ ([(q40, .inl (ck 0, 4, .inl (ar S0 7)))]))))) H := hP
  have hD : va_D A ([(o, .inr (9, [.int (zI 0), .ref q12, .ref q20, .ref q28, .int (zI 0), .ref q40, .null, .null, .null, .int (zI 0)]))] ++ ([(q12, .inl (ck 0, 10, .inl (ar S0 1)))] ++ ([(q20, .inl (ck 0, 10, .inl (ar S0 2)))] ++ ([(q28, .inl (ck 0, 10, .inl (ar S0 3)))] ++ ([(q40, .inl (ck 0, 4, .inl (ar S0 7)))]))))) := hD
  refine lv_aload_n hx hb dX6_init_45 rfl (lv_at hl 0 rfl) ?_
  refine x_iconst hx hb dX6_init_46 ?_
  refine x_newi (atype := .int) (ty := .int) (f := (ar S0 8)) (N := 4) hx hb (htg _ wq_101) rfl (fun _ h => h) hK hP hD hS hA 0 rfl (fun _ => rfl) (by decide) (by decide) (by decide) (Nat.le_of_ble_eq_true rfl) (Nat.le_of_ble_eq_true rfl) dX6_init_47 (fun q47 H hP hD hS => ?_)
  have hP : va_P dg vwCl ([(o, .inr (9, [.int (zI 0), .ref q12, .ref q20, .ref q28, .int (zI 0), .ref q40, .null, .null, .null, .int (zI 0)]))] ++ ([(q12, .inl (ck 0, 10, .inl (ar S0 1)))] ++ ([(q20, .inl (ck 0, 10, .inl (ar S0 2)))] ++ ([(q28, .inl (ck 0, 10, .inl (ar S0 3)))] ++ ([(q40, .inl (ck 0, 4, .inl (ar S0 7)))] ++ ([(q47, .inl (ck 0, 4, .inl (ar S0 8)))])))))) H := (va_P_eq (by simp only [List.append_assoc] <;> rfl) hP)
  have hD : va_D A ([(o, .inr (9, [.int (zI 0), .ref q12, .ref q20, .ref q28, .int (zI 0), .ref q40, .null, .null, .null, .int (zI 0)]))] ++ ([(q12, .inl (ck 0, 10, .inl (ar S0 1)))] ++ ([(q20, .inl (ck 0, 10, .inl (ar S0 2)))] ++ ([(q28, .inl (ck 0, 10, .inl (ar S0 3)))] ++ ([(q40, .inl (ck 0, 4, .inl (ar S0 7)))] ++ ([(q47, .inl (ck 0, 4, .inl (ar S0 8)))])))))) := (va_D_eq (by simp only [List.append_assoc] <;> rfl) hD)
  refine va_putF (D := dg) (ci := 9) (v := .ref q47) (ty := (.array .int)) (C := RX6) (T := TX6) (N := 10) hx hb htg inG_X6 tyX6 tyX6_ok nmX6 hown hK hP hD hS 0 rfl rfl 6 (Nat.le_of_ble_eq_true rfl) (htg _ wq_70) (fun _ h9 => h9) rfl hin rfl (by decide +kernel) rfl rfl (Nat.le_of_ble_eq_true rfl) dX6_init_49 (fun H locs hP hD hS => ?_)
  have hP : va_P dg vwCl ([(o, .inr (9, [.int (zI 0), .ref q12, .ref q20, .ref q28, .int (zI 0), .ref q40, .ref q47, .null, .null, .int (zI 0)]))] ++ ([(q12, .inl (ck 0, 10, .inl (ar S0 1)))] ++ ([(q20, .inl (ck 0, 10, .inl (ar S0 2)))] ++ ([(q28, .inl (ck 0, 10, .inl (ar S0 3)))] ++ ([(q40, .inl (ck 0, 4, .inl (ar S0 7)))] ++ ([(q47, .inl (ck 0, 4, .inl (ar S0 8)))])))))) H := hP
  have hD : va_D A ([(o, .inr (9, [.int (zI 0), .ref q12, .ref q20, .ref q28, .int (zI 0), .ref q40, .ref q47, .null, .null, .int (zI 0)]))] ++ ([(q12, .inl (ck 0, 10, .inl (ar S0 1)))] ++ ([(q20, .inl (ck 0, 10, .inl (ar S0 2)))] ++ ([(q28, .inl (ck 0, 10, .inl (ar S0 3)))] ++ ([(q40, .inl (ck 0, 4, .inl (ar S0 7)))] ++ ([(q47, .inl (ck 0, 4, .inl (ar S0 8)))])))))) := hD
  refine lv_aload_n hx hb dX6_init_52 rfl (lv_at hl 0 rfl) ?_
  refine x_iconst hx hb dX6_init_53 ?_
  refine x_newi (atype := .int) (ty := .int) (f := (ar S0 9)) (N := 4) hx hb (htg _ wq_101) rfl (fun _ h => h) hK hP hD hS hA 0 rfl (fun _ => rfl) (by decide) (by decide) (by decide) (Nat.le_of_ble_eq_true rfl) (Nat.le_of_ble_eq_true rfl) dX6_init_54 (fun q54 H hP hD hS => ?_)
  have hP : va_P dg vwCl ([(o, .inr (9, [.int (zI 0), .ref q12, .ref q20, .ref q28, .int (zI 0), .ref q40, .ref q47, .null, .null, .int (zI 0)]))] ++ ([(q12, .inl (ck 0, 10, .inl (ar S0 1)))] ++ ([(q20, .inl (ck 0, 10, .inl (ar S0 2)))] ++ ([(q28, .inl (ck 0, 10, .inl (ar S0 3)))] ++ ([(q40, .inl (ck 0, 4, .inl (ar S0 7)))] ++ ([(q47, .inl (ck 0, 4, .inl (ar S0 8)))] ++ ([(q54, .inl (ck 0, 4, .inl (ar S0 9)))]))))))) H := (va_P_eq (by simp only [List.append_assoc] <;> rfl) hP)
  have hD : va_D A ([(o, .inr (9, [.int (zI 0), .ref q12, .ref q20, .ref q28, .int (zI 0), .ref q40, .ref q47, .null, .null, .int (zI 0)]))] ++ ([(q12, .inl (ck 0, 10, .inl (ar S0 1)))] ++ ([(q20, .inl (ck 0, 10, .inl (ar S0 2)))] ++ ([(q28, .inl (ck 0, 10, .inl (ar S0 3)))] ++ ([(q40, .inl (ck 0, 4, .inl (ar S0 7)))] ++ ([(q47, .inl (ck 0, 4, .inl (ar S0 8)))] ++ ([(q54, .inl (ck 0, 4, .inl (ar S0 9)))]))))))) := (va_D_eq (by simp only [List.append_assoc] <;> rfl) hD)
  refine va_putF (D := dg) (ci := 9) (v := .ref q54) (ty := (.array .int)) (C := RX6) (T := TX6) (N := 10) hx hb htg inG_X6 tyX6 tyX6_ok nmX6 hown hK hP hD hS 0 rfl rfl 7 (Nat.le_of_ble_eq_true rfl) (htg _ wq_72) (fun _ h9 => h9) rfl hin rfl (by decide +kernel) rfl rfl (Nat.le_of_ble_eq_true rfl) dX6_init_56 (fun H locs hP hD hS => ?_)
  have hP : va_P dg vwCl ([(o, .inr (9, [.int (zI 0), .ref q12, .ref q20, .ref q28, .int (zI 0), .ref q40, .ref q47, .ref q54, .null, .int (zI 0)]))] ++ ([(q12, .inl (ck 0, 10, .inl (ar S0 1)))] ++ ([(q20, .inl (ck 0, 10, .inl (ar S0 2)))] ++ ([(q28, .inl (ck 0, 10, .inl (ar S0 3)))] ++ ([(q40, .inl (ck 0, 4, .inl (ar S0 7)))] ++ ([(q47, .inl (ck 0, 4, .inl (ar S0 8)))] ++ ([(q54, .inl (ck 0, 4, .inl (ar S0 9)))]))))))) H := hP
  have hD : va_D A ([(o, .inr (9, [.int (zI 0), .ref q12, .ref q20, .ref q28, .int (zI 0), .ref q40, .ref q47, .ref q54, .null, .int (zI 0)]))] ++ ([(q12, .inl (ck 0, 10, .inl (ar S0 1)))] ++ ([(q20, .inl (ck 0, 10, .inl (ar S0 2)))] ++ ([(q28, .inl (ck 0, 10, .inl (ar S0 3)))] ++ ([(q40, .inl (ck 0, 4, .inl (ar S0 7)))] ++ ([(q47, .inl (ck 0, 4, .inl (ar S0 8)))] ++ ([(q54, .inl (ck 0, 4, .inl (ar S0 9)))]))))))) := hD
  refine lv_aload_n hx hb dX6_init_59 rfl (lv_at hl 0 rfl) ?_
  refine x_iconst hx hb dX6_init_60 ?_
  refine x_newi (atype := .boolean) (ty := .boolean) (f := (ar S0 10)) (N := 4) hx hb (htg _ wq_102) rfl (fun _ h => h) hK hP hD hS hA 1 rfl (fun _ => rfl) (by decide) (by decide) (by decide) (Nat.le_of_ble_eq_true rfl) (Nat.le_of_ble_eq_true rfl) dX6_init_61 (fun q61 H hP hD hS => ?_)
  have hP : va_P dg vwCl ([(o, .inr (9, [.int (zI 0), .ref q12, .ref q20, .ref q28, .int (zI 0), .ref q40, .ref q47, .ref q54, .null, .int (zI 0)]))] ++ ([(q12, .inl (ck 0, 10, .inl (ar S0 1)))] ++ ([(q20, .inl (ck 0, 10, .inl (ar S0 2)))] ++ ([(q28, .inl (ck 0, 10, .inl (ar S0 3)))] ++ ([(q40, .inl (ck 0, 4, .inl (ar S0 7)))] ++ ([(q47, .inl (ck 0, 4, .inl (ar S0 8)))] ++ ([(q54, .inl (ck 0, 4, .inl (ar S0 9)))] ++ ([(q61, .inl (ck 1, 4, .inl (ar S0 10)))])))))))) H := (va_P_eq (by simp only [List.append_assoc] <;> rfl) hP)
  have hD : va_D A ([(o, .inr (9, [.int (zI 0), .ref q12, .ref q20, .ref q28, .int (zI 0), .ref q40, .ref q47, .ref q54, .null, .int (zI 0)]))] ++ ([(q12, .inl (ck 0, 10, .inl (ar S0 1)))] ++ ([(q20, .inl (ck 0, 10, .inl (ar S0 2)))] ++ ([(q28, .inl (ck 0, 10, .inl (ar S0 3)))] ++ ([(q40, .inl (ck 0, 4, .inl (ar S0 7)))] ++ ([(q47, .inl (ck 0, 4, .inl (ar S0 8)))] ++ ([(q54, .inl (ck 0, 4, .inl (ar S0 9)))] ++ ([(q61, .inl (ck 1, 4, .inl (ar S0 10)))])))))))) := (va_D_eq (by simp only [List.append_assoc] <;> rfl) hD)
  refine va_putF (D := dg) (ci := 9) (v := .ref q61) (ty := (.array .boolean)) (C := RX6) (T := TX6) (N := 10) hx hb htg inG_X6 tyX6 tyX6_ok nmX6 hown hK hP hD hS 0 rfl rfl 8 (Nat.le_of_ble_eq_true rfl) (htg _ wq_75) (fun _ h9 => h9) rfl hin rfl (by decide +kernel) rfl rfl (Nat.le_of_ble_eq_true rfl) dX6_init_63 (fun H locs hP hD hS => ?_)
  have hP : va_P dg vwCl ([(o, .inr (9, [.int (zI 0), .ref q12, .ref q20, .ref q28, .int (zI 0), .ref q40, .ref q47, .ref q54, .ref q61, .int (zI 0)]))] ++ ([(q12, .inl (ck 0, 10, .inl (ar S0 1)))] ++ ([(q20, .inl (ck 0, 10, .inl (ar S0 2)))] ++ ([(q28, .inl (ck 0, 10, .inl (ar S0 3)))] ++ ([(q40, .inl (ck 0, 4, .inl (ar S0 7)))] ++ ([(q47, .inl (ck 0, 4, .inl (ar S0 8)))] ++ ([(q54, .inl (ck 0, 4, .inl (ar S0 9)))] ++ ([(q61, .inl (ck 1, 4, .inl (ar S0 10)))])))))))) H := hP
  have hD : va_D A ([(o, .inr (9, [.int (zI 0), .ref q12, .ref q20, .ref q28, .int (zI 0), .ref q40, .ref q47, .ref q54, .ref q61, .int (zI 0)]))] ++ ([(q12, .inl (ck 0, 10, .inl (ar S0 1)))] ++ ([(q20, .inl (ck 0, 10, .inl (ar S0 2)))] ++ ([(q28, .inl (ck 0, 10, .inl (ar S0 3)))] ++ ([(q40, .inl (ck 0, 4, .inl (ar S0 7)))] ++ ([(q47, .inl (ck 0, 4, .inl (ar S0 8)))] ++ ([(q54, .inl (ck 0, 4, .inl (ar S0 9)))] ++ ([(q61, .inl (ck 1, 4, .inl (ar S0 10)))])))))))) := hD
  refine lv_aload_n hx hb dX6_init_66 rfl (lv_at hl 0 rfl) ?_
  refine x_iconst hx hb dX6_init_67 ?_
  refine va_put (D := dg) (ci := 9) (v := .int (zI 3)) (ty := .int) (C := RX6) (T := TX6) (N := 10) hx hb htg inG_X6 tyX6 tyX6_ok nmX6 hown hK hP hD hS 0 rfl rfl 9 (Nat.le_of_ble_eq_true rfl) (htg _ wq_78) (fun _ h9 => h9) rfl (by decide +kernel) rfl rfl (Nat.le_of_ble_eq_true rfl) dX6_init_68 (fun H locs hP hD hS => ?_)
  have hP : va_P dg vwCl ([(o, .inr (9, [.int (zI 0), .ref q12, .ref q20, .ref q28, .int (zI 0), .ref q40, .ref q47, .ref q54, .ref q61, .int (zI 3)]))] ++ ([(q12, .inl (ck 0, 10, .inl (ar S0 1)))] ++ ([(q20, .inl (ck 0, 10, .inl (ar S0 2)))] ++ ([(q28, .inl (ck 0, 10, .inl (ar S0 3)))] ++ ([(q40, .inl (ck 0, 4, .inl (ar S0 7)))] ++ ([(q47, .inl (ck 0, 4, .inl (ar S0 8)))] ++ ([(q54, .inl (ck 0, 4, .inl (ar S0 9)))] ++ ([(q61, .inl (ck 1, 4, .inl (ar S0 10)))])))))))) H := hP
  have hD : va_D A ([(o, .inr (9, [.int (zI 0), .ref q12, .ref q20, .ref q28, .int (zI 0), .ref q40, .ref q47, .ref q54, .ref q61, .int (zI 3)]))] ++ ([(q12, .inl (ck 0, 10, .inl (ar S0 1)))] ++ ([(q20, .inl (ck 0, 10, .inl (ar S0 2)))] ++ ([(q28, .inl (ck 0, 10, .inl (ar S0 3)))] ++ ([(q40, .inl (ck 0, 4, .inl (ar S0 7)))] ++ ([(q47, .inl (ck 0, 4, .inl (ar S0 8)))] ++ ([(q54, .inl (ck 0, 4, .inl (ar S0 9)))] ++ ([(q61, .inl (ck 1, 4, .inl (ar S0 10)))])))))))) := hD
  refine W.widen (k := 7) (n := 46) (Nat.le_of_ble_eq_true rfl) (Nat.le_of_ble_eq_true rfl) ?_
  exact W.vret hx hb hr (fun t9 ht9 hW9 => ⟨⟨(fun k => ([o, q12, q20, q28, q40, q47, q54, q61] : List Nat).getD k 0), rfl, rfl, by rw [ht9]; exact hP, by rw [hAe]; exact hD⟩, hS.F ht9⟩) hS.2.2 dX6_init_71

set_option maxHeartbeats 4000000 in
set_option maxRecDepth 100000 in
/-- BenchBroker$Outcome's constructor -/
theorem k_Outcome (l : Launch) (dg : va_G) (ck : Nat → ClassId) (ka : Nat → Nat) (o : Nat) (sz : Nat) : Met l yX5_init (.code yX5_init cX5_init 1 none :: GW) ({ frames := 1, cells := 0, slots := 0, locals := 24 }) (va_Pc [.ref o] (wrK dg ck ka sz ([(o, .inr (8, [.int (zI 0), .int (zI 0), .int (zI 0), .int (zI 0)]))]))) (va_Qv (fun u : Nat → Nat => u 0 = o) (fun u t9 => wrQ dg sz ([(o, .inr (8, [.int (zI 0), .int (zI 0), .int (zI 0), .int (zI 0)]))]) (outC (u 0) (fun _ => 0)) t9) (va_A ([(o, .inr (8, [.int (zI 0), .int (zI 0), .int (zI 0), .int (zI 0)]))]) sz)) 0 0 (va_A ([(o, .inr (8, [.int (zI 0), .int (zI 0), .int (zI 0), .int (zI 0)]))]) sz) := by
  refine Met.ofW (cc := cX5_init) (maxL := 1) (ret := none) (by decide) rfl ?_
  intro p e s m args below meth c s₁ B hml hv
  obtain ⟨rfl, ⟨hsz, hP, hK, hD0⟩, hC⟩ := hv
  have hx := B.exec
  have hb := B.bytes
  have hr := B.returns
  have hts := atoms_spec (ws := .code yX5_init cX5_init 1 none :: GW) B.pre
  have htg : ∀ w ∈ GW, w.before _ s = true := fun w h => hts w (List.mem_cons_of_mem _ h)
  have hown : s.vm.findClass RX5 = some m.cls := findClass_of_methodNamed B.named
  have hlocks := B.notSynchronized
  have hin : meth.name = "<init>" := (name_of_methodNamed B.named B.method).1
  subst hsz
  have hD := hD0.self (sz := s.heap.size)
  generalize hAe : va_A ([(o, .inr (8, [.int (zI 0), .int (zI 0), .int (zI 0), .int (zI 0)]))]) s.heap.size = A at hD hC ⊢
  have hA : ∀ q : Nat, s.heap.size ≤ q → A q := fun q h => by rw [← hAe]; exact Or.inr h
  have hS : va_S A s.heap s.heap [] := va_S.rf
  have hP : va_P dg vwCl ([(o, .inr (8, [.int (zI 0), .int (zI 0), .int (zI 0), .int (zI 0)]))]) s.heap := hP
  have hl := lv_entry ([.ref o]) (n := 1) (Nat.le_of_ble_eq_true rfl)
  rw [lg_entry_eq]
  generalize (lg_sl ([.ref o]) ++ List.replicate (1 - (lg_sl ([.ref o])).length) Slot.unset).toArray = ls at hl ⊢
  have hl : lv_has ls 1 [(0, .ref o)] := hl
  refine lv_aload_n hx hb dX5_init_0 rfl (lv_at hl 0 rfl) ?_
  refine W.objInit hx hb hown (htg _ wq_184) (htg _ wq_40) (htg _ wq_41) rfl (by rw [hml]; exact hl.1) rfl dX5_init_1 (Nat.le_of_ble_eq_true rfl) (Nat.le_of_ble_eq_true rfl) ?_
  refine W.eq (g2 := F0 m 4 ls []) rfl ?_
  refine lv_aload_n hx hb dX5_init_4 rfl (lv_at hl 0 rfl) ?_
  refine x_iconst hx hb dX5_init_5 ?_
  refine va_put (D := dg) (ci := 8) (v := .int (zI 0)) (ty := .int) (C := RX5) (T := TX5) (N := 4) hx hb htg inG_X5 tyX5 tyX5_ok nmX5 hown hK hP hD hS 0 rfl rfl 0 (Nat.le_of_ble_eq_true rfl) (htg _ wq_185) (fun _ h9 => h9) rfl (by decide +kernel) rfl rfl (Nat.le_of_ble_eq_true rfl) dX5_init_6 (fun H locs hP hD hS => ?_)
  have hP : va_P dg vwCl ([(o, .inr (8, [.int (zI 0), .int (zI 0), .int (zI 0), .int (zI 0)]))]) H := hP
  have hD : va_D A ([(o, .inr (8, [.int (zI 0), .int (zI 0), .int (zI 0), .int (zI 0)]))]) := hD
  refine lv_aload_n hx hb dX5_init_9 rfl (lv_at hl 0 rfl) ?_
  refine x_iconst hx hb dX5_init_10 ?_
  refine va_put (D := dg) (ci := 8) (v := .int (zI 0)) (ty := .int) (C := RX5) (T := TX5) (N := 4) hx hb htg inG_X5 tyX5 tyX5_ok nmX5 hown hK hP hD hS 0 rfl rfl 1 (Nat.le_of_ble_eq_true rfl) (htg _ wq_187) (fun _ h9 => h9) rfl (by decide +kernel) rfl rfl (Nat.le_of_ble_eq_true rfl) dX5_init_11 (fun H locs hP hD hS => ?_)
  have hP : va_P dg vwCl ([(o, .inr (8, [.int (zI 0), .int (zI 0), .int (zI 0), .int (zI 0)]))]) H := hP
  have hD : va_D A ([(o, .inr (8, [.int (zI 0), .int (zI 0), .int (zI 0), .int (zI 0)]))]) := hD
  refine lv_aload_n hx hb dX5_init_14 rfl (lv_at hl 0 rfl) ?_
  refine x_iconst hx hb dX5_init_15 ?_
  refine va_put (D := dg) (ci := 8) (v := .int (zI 0)) (ty := .int) (C := RX5) (T := TX5) (N := 4) hx hb htg inG_X5 tyX5 tyX5_ok nmX5 hown hK hP hD hS 0 rfl rfl 2 (Nat.le_of_ble_eq_true rfl) (htg _ wq_189) (fun _ h9 => h9) rfl (by decide +kernel) rfl rfl (Nat.le_of_ble_eq_true rfl) dX5_init_16 (fun H locs hP hD hS => ?_)
  have hP : va_P dg vwCl ([(o, .inr (8, [.int (zI 0), .int (zI 0), .int (zI 0), .int (zI 0)]))]) H := hP
  have hD : va_D A ([(o, .inr (8, [.int (zI 0), .int (zI 0), .int (zI 0), .int (zI 0)]))]) := hD
  refine lv_aload_n hx hb dX5_init_19 rfl (lv_at hl 0 rfl) ?_
  refine x_iconst hx hb dX5_init_20 ?_
  refine va_put (D := dg) (ci := 8) (v := .int (zI 0)) (ty := .int) (C := RX5) (T := TX5) (N := 4) hx hb htg inG_X5 tyX5 tyX5_ok nmX5 hown hK hP hD hS 0 rfl rfl 3 (Nat.le_of_ble_eq_true rfl) (htg _ wq_191) (fun _ h9 => h9) rfl (by decide +kernel) rfl rfl (Nat.le_of_ble_eq_true rfl) dX5_init_21 (fun H locs hP hD hS => ?_)
  have hP : va_P dg vwCl ([(o, .inr (8, [.int (zI 0), .int (zI 0), .int (zI 0), .int (zI 0)]))]) H := hP
  have hD : va_D A ([(o, .inr (8, [.int (zI 0), .int (zI 0), .int (zI 0), .int (zI 0)]))]) := hD
  refine W.widen (k := 0) (n := 0) (Nat.le_of_ble_eq_true rfl) (Nat.le_of_ble_eq_true rfl) ?_
  exact W.vret hx hb hr (fun t9 ht9 hW9 => ⟨⟨(fun _ => o), rfl, rfl, by rw [ht9]; exact hP, by rw [hAe]; exact hD⟩, hS.F ht9⟩) hS.2.2 dX5_init_24

set_option maxHeartbeats 4000000 in
set_option maxRecDepth 100000 in
/-- BenchBroker$NoiseMap's constructor -/
theorem k_Noise (l : Launch) (dg : va_G) (ck : Nat → ClassId) (ka : Nat → Nat) (o : Nat) (sz : Nat) : Met l yX4_init (.code yX4_init cX4_init 1 none :: GW) ({ frames := 1, cells := 2, slots := 72, locals := 24 }) (va_Pc [.ref o] (wrK dg ck ka sz ([(o, .inr (7, [.null, .null]))]))) (va_Qv (fun u : Nat → Nat => u 0 = o) (fun u t9 => wrQ dg sz ([(o, .inr (7, [.null, .null]))]) (nobjC u ++ (rowC ck 36 (u 1) (fun _ => 0) ++ rowC ck 36 (u 2) (fun _ => 0))) t9) (va_A ([(o, .inr (7, [.null, .null]))]) sz)) 2 72 (va_A ([(o, .inr (7, [.null, .null]))]) sz) := by
  refine Met.ofW (cc := cX4_init) (maxL := 1) (ret := none) (by decide) rfl ?_
  intro p e s m args below meth c s₁ B hml hv
  obtain ⟨rfl, ⟨hsz, hP, hK, hD0⟩, hC⟩ := hv
  have hx := B.exec
  have hb := B.bytes
  have hr := B.returns
  have hts := atoms_spec (ws := .code yX4_init cX4_init 1 none :: GW) B.pre
  have htg : ∀ w ∈ GW, w.before _ s = true := fun w h => hts w (List.mem_cons_of_mem _ h)
  have hown : s.vm.findClass RX4 = some m.cls := findClass_of_methodNamed B.named
  have hlocks := B.notSynchronized
  have hin : meth.name = "<init>" := (name_of_methodNamed B.named B.method).1
  subst hsz
  have hD := hD0.self (sz := s.heap.size)
  generalize hAe : va_A ([(o, .inr (7, [.null, .null]))]) s.heap.size = A at hD hC ⊢
  have hA : ∀ q : Nat, s.heap.size ≤ q → A q := fun q h => by rw [← hAe]; exact Or.inr h
  have hS : va_S A s.heap s.heap [] := va_S.rf
  have hP : va_P dg vwCl ([(o, .inr (7, [.null, .null]))]) s.heap := hP
  have hl := lv_entry ([.ref o]) (n := 1) (Nat.le_of_ble_eq_true rfl)
  rw [lg_entry_eq]
  generalize (lg_sl ([.ref o]) ++ List.replicate (1 - (lg_sl ([.ref o])).length) Slot.unset).toArray = ls at hl ⊢
  have hl : lv_has ls 1 [(0, .ref o)] := hl
  refine lv_aload_n hx hb dX4_init_0 rfl (lv_at hl 0 rfl) ?_
  refine W.objInit hx hb hown (htg _ wq_207) (htg _ wq_40) (htg _ wq_41) rfl (by rw [hml]; exact hl.1) rfl dX4_init_1 (Nat.le_of_ble_eq_true rfl) (Nat.le_of_ble_eq_true rfl) ?_
  refine W.eq (g2 := F0 m 4 ls []) rfl ?_
  refine lv_aload_n hx hb dX4_init_4 rfl (lv_at hl 0 rfl) ?_
  refine x_bipush hx hb dX4_init_5 (by decide) ?_
  refine x_newi (atype := .int) (ty := .int) (f := (zz (fun _ => 0))) (N := 36) hx hb (htg _ wq_101) rfl (fun _ h => h) hK hP hD hS hA 0 rfl (fun _ => rfl) (by decide) (by decide) (by decide) (Nat.le_of_ble_eq_true rfl) (Nat.le_of_ble_eq_true rfl) dX4_init_7 (fun q7 H hP hD hS => ?_)
  have hP : va_P dg vwCl ([(o, .inr (7, [.null, .null]))] ++ (rowC ck 36 q7 (fun _ => 0))) H := hP
  have hD : va_D A ([(o, .inr (7, [.null, .null]))] ++ (rowC ck 36 q7 (fun _ => 0))) := hD
  refine va_putF (D := dg) (ci := 7) (v := .ref q7) (ty := (.array .int)) (C := RX4) (T := TX4) (N := 2) hx hb htg inG_X4 tyX4 tyX4_ok nmX4 hown hK hP hD hS 0 rfl rfl 0 (Nat.le_of_ble_eq_true rfl) (htg _ wq_208) (fun _ h9 => h9) rfl hin rfl (by decide +kernel) rfl rfl (Nat.le_of_ble_eq_true rfl) dX4_init_9 (fun H locs hP hD hS => ?_)
  have hP : va_P dg vwCl ([(o, .inr (7, [.ref q7, .null]))] ++ (rowC ck 36 q7 (fun _ => 0))) H := hP
  have hD : va_D A ([(o, .inr (7, [.ref q7, .null]))] ++ (rowC ck 36 q7 (fun _ => 0))) := hD
  refine lv_aload_n hx hb dX4_init_12 rfl (lv_at hl 0 rfl) ?_
  refine x_bipush hx hb dX4_init_13 (by decide) ?_
  refine x_newi (atype := .int) (ty := .int) (f := (zz (fun _ => 0))) (N := 36) hx hb (htg _ wq_101) rfl (fun _ h => h) hK hP hD hS hA 0 rfl (fun _ => rfl) (by decide) (by decide) (by decide) (Nat.le_of_ble_eq_true rfl) (Nat.le_of_ble_eq_true rfl) dX4_init_15 (fun q15 H hP hD hS => ?_)
  have hP : va_P dg vwCl ([(o, .inr (7, [.ref q7, .null]))] ++ (rowC ck 36 q7 (fun _ => 0) ++ (rowC ck 36 q15 (fun _ => 0)))) H := (va_P_eq (by simp only [List.append_assoc] <;> rfl) hP)
  have hD : va_D A ([(o, .inr (7, [.ref q7, .null]))] ++ (rowC ck 36 q7 (fun _ => 0) ++ (rowC ck 36 q15 (fun _ => 0)))) := (va_D_eq (by simp only [List.append_assoc] <;> rfl) hD)
  refine va_putF (D := dg) (ci := 7) (v := .ref q15) (ty := (.array .int)) (C := RX4) (T := TX4) (N := 2) hx hb htg inG_X4 tyX4 tyX4_ok nmX4 hown hK hP hD hS 0 rfl rfl 1 (Nat.le_of_ble_eq_true rfl) (htg _ wq_210) (fun _ h9 => h9) rfl hin rfl (by decide +kernel) rfl rfl (Nat.le_of_ble_eq_true rfl) dX4_init_17 (fun H locs hP hD hS => ?_)
  have hP : va_P dg vwCl ([(o, .inr (7, [.ref q7, .ref q15]))] ++ (rowC ck 36 q7 (fun _ => 0) ++ (rowC ck 36 q15 (fun _ => 0)))) H := hP
  have hD : va_D A ([(o, .inr (7, [.ref q7, .ref q15]))] ++ (rowC ck 36 q7 (fun _ => 0) ++ (rowC ck 36 q15 (fun _ => 0)))) := hD
  refine W.widen (k := 2) (n := 72) (Nat.le_of_ble_eq_true rfl) (Nat.le_of_ble_eq_true rfl) ?_
  exact W.vret hx hb hr (fun t9 ht9 hW9 => ⟨⟨(fun k => ([o, q7, q15] : List Nat).getD k 0), rfl, rfl, by rw [ht9]; exact hP, by rw [hAe]; exact hD⟩, hS.F ht9⟩) hS.2.2 dX4_init_20

set_option maxHeartbeats 4000000 in
set_option maxRecDepth 100000 in
/-- BenchBroker$Input's constructor -/
theorem k_Input (l : Launch) (dg : va_G) (ck : Nat → ClassId) (ka : Nat → Nat) (o : Nat) (sz : Nat) : Met l yX3_init (.code yX3_init cX3_init 1 none :: GW) ({ frames := 1, cells := 2, slots := 63, locals := 24 }) (va_Pc [.ref o] (wrK dg ck ka sz ([(o, .inr (6, [.null, .int (zI 0), .int (zI 0), .null, .null]))]))) (va_Qv (fun u : Nat → Nat => u 0 = o) (fun u t9 => wrQ dg sz ([(o, .inr (6, [.null, .int (zI 0), .int (zI 0), .null, .null]))]) (inputC ck ka u (fun _ _ => 0)) t9) (va_A ([(o, .inr (6, [.null, .int (zI 0), .int (zI 0), .null, .null]))]) sz)) 2 63 (va_A ([(o, .inr (6, [.null, .int (zI 0), .int (zI 0), .null, .null]))]) sz) := by
  refine Met.ofW (cc := cX3_init) (maxL := 1) (ret := none) (by decide) rfl ?_
  intro p e s m args below meth c s₁ B hml hv
  obtain ⟨rfl, ⟨hsz, hP, hK, hD0⟩, hC⟩ := hv
  have hx := B.exec
  have hb := B.bytes
  have hr := B.returns
  have hts := atoms_spec (ws := .code yX3_init cX3_init 1 none :: GW) B.pre
  have htg : ∀ w ∈ GW, w.before _ s = true := fun w h => hts w (List.mem_cons_of_mem _ h)
  have hown : s.vm.findClass RX3 = some m.cls := findClass_of_methodNamed B.named
  have hlocks := B.notSynchronized
  have hin : meth.name = "<init>" := (name_of_methodNamed B.named B.method).1
  subst hsz
  have hD := hD0.self (sz := s.heap.size)
  generalize hAe : va_A ([(o, .inr (6, [.null, .int (zI 0), .int (zI 0), .null, .null]))]) s.heap.size = A at hD hC ⊢
  have hA : ∀ q : Nat, s.heap.size ≤ q → A q := fun q h => by rw [← hAe]; exact Or.inr h
  have hS : va_S A s.heap s.heap [] := va_S.rf
  have hP : va_P dg vwCl ([(o, .inr (6, [.null, .int (zI 0), .int (zI 0), .null, .null]))]) s.heap := hP
  have hl := lv_entry ([.ref o]) (n := 1) (Nat.le_of_ble_eq_true rfl)
  rw [lg_entry_eq]
  generalize (lg_sl ([.ref o]) ++ List.replicate (1 - (lg_sl ([.ref o])).length) Slot.unset).toArray = ls at hl ⊢
  have hl : lv_has ls 1 [(0, .ref o)] := hl
  refine lv_aload_n hx hb dX3_init_0 rfl (lv_at hl 0 rfl) ?_
  refine W.objInit hx hb hown (htg _ wq_221) (htg _ wq_40) (htg _ wq_41) rfl (by rw [hml]; exact hl.1) rfl dX3_init_1 (Nat.le_of_ble_eq_true rfl) (Nat.le_of_ble_eq_true rfl) ?_
  refine W.eq (g2 := F0 m 4 ls []) rfl ?_
  refine lv_aload_n hx hb dX3_init_4 rfl (lv_at hl 0 rfl) ?_
  refine x_bipush hx hb dX3_init_5 (by decide) ?_
  refine x_newi (atype := .char) (ty := .char) (f := (ar (fun _ _ => 0) 1)) (N := 60) hx hb (htg _ wq_245) rfl (fun _ h => h) hK hP hD hS hA 2 rfl (fun _ => rfl) (by decide) (by decide) (by decide) (Nat.le_of_ble_eq_true rfl) (Nat.le_of_ble_eq_true rfl) dX3_init_7 (fun q7 H hP hD hS => ?_)
  have hP : va_P dg vwCl ([(o, .inr (6, [.null, .int (zI 0), .int (zI 0), .null, .null]))] ++ ([(q7, .inl (ck 2, 60, .inl (ar (fun _ _ => 0) 1)))])) H := hP
  have hD : va_D A ([(o, .inr (6, [.null, .int (zI 0), .int (zI 0), .null, .null]))] ++ ([(q7, .inl (ck 2, 60, .inl (ar (fun _ _ => 0) 1)))])) := hD
  refine va_putF (D := dg) (ci := 6) (v := .ref q7) (ty := (.array .char)) (C := RX3) (T := TX3) (N := 5) hx hb htg inG_X3 tyX3 tyX3_ok nmX3 hown hK hP hD hS 0 rfl rfl 0 (Nat.le_of_ble_eq_true rfl) (htg _ wq_224) (fun _ h9 => h9) rfl hin rfl (by decide +kernel) rfl rfl (Nat.le_of_ble_eq_true rfl) dX3_init_9 (fun H locs hP hD hS => ?_)
  have hP : va_P dg vwCl ([(o, .inr (6, [.ref q7, .int (zI 0), .int (zI 0), .null, .null]))] ++ ([(q7, .inl (ck 2, 60, .inl (ar (fun _ _ => 0) 1)))])) H := hP
  have hD : va_D A ([(o, .inr (6, [.ref q7, .int (zI 0), .int (zI 0), .null, .null]))] ++ ([(q7, .inl (ck 2, 60, .inl (ar (fun _ _ => 0) 1)))])) := hD
  refine lv_aload_n hx hb dX3_init_12 rfl (lv_at hl 0 rfl) ?_
  refine x_iconst hx hb dX3_init_13 ?_
  refine va_put (D := dg) (ci := 6) (v := .int (zI 0)) (ty := .int) (C := RX3) (T := TX3) (N := 5) hx hb htg inG_X3 tyX3 tyX3_ok nmX3 hown hK hP hD hS 0 rfl rfl 1 (Nat.le_of_ble_eq_true rfl) (htg _ wq_226) (fun _ h9 => h9) rfl (by decide +kernel) rfl rfl (Nat.le_of_ble_eq_true rfl) dX3_init_14 (fun H locs hP hD hS => ?_)
  have hP : va_P dg vwCl ([(o, .inr (6, [.ref q7, .int (zI 0), .int (zI 0), .null, .null]))] ++ ([(q7, .inl (ck 2, 60, .inl (ar (fun _ _ => 0) 1)))])) H := hP
  have hD : va_D A ([(o, .inr (6, [.ref q7, .int (zI 0), .int (zI 0), .null, .null]))] ++ ([(q7, .inl (ck 2, 60, .inl (ar (fun _ _ => 0) 1)))])) := hD
  refine lv_aload_n hx hb dX3_init_17 rfl (lv_at hl 0 rfl) ?_
  refine x_iconst hx hb dX3_init_18 ?_
  refine va_put (D := dg) (ci := 6) (v := .int (zI 0)) (ty := .int) (C := RX3) (T := TX3) (N := 5) hx hb htg inG_X3 tyX3 tyX3_ok nmX3 hown hK hP hD hS 0 rfl rfl 2 (Nat.le_of_ble_eq_true rfl) (htg _ wq_228) (fun _ h9 => h9) rfl (by decide +kernel) rfl rfl (Nat.le_of_ble_eq_true rfl) dX3_init_19 (fun H locs hP hD hS => ?_)
  have hP : va_P dg vwCl ([(o, .inr (6, [.ref q7, .int (zI 0), .int (zI 0), .null, .null]))] ++ ([(q7, .inl (ck 2, 60, .inl (ar (fun _ _ => 0) 1)))])) H := hP
  have hD : va_D A ([(o, .inr (6, [.ref q7, .int (zI 0), .int (zI 0), .null, .null]))] ++ ([(q7, .inl (ck 2, 60, .inl (ar (fun _ _ => 0) 1)))])) := hD
  refine lv_aload_n hx hb dX3_init_22 rfl (lv_at hl 0 rfl) ?_
  refine va_gets (v := .ref (ka (10 + 0))) hx hb hC.bench hS hown (htg _ wq_222) (fun _ h9 => h9) dX3_init_23 ?_
  refine va_put (D := dg) (ci := 6) (v := .ref (ka (10 + 0))) (ty := (.object "BenchBroker$Verb")) (C := RX3) (T := TX3) (N := 5) hx hb htg inG_X3 tyX3 tyX3_ok nmX3 hown hK hP hD hS 0 rfl rfl 3 (Nat.le_of_ble_eq_true rfl) (htg _ wq_230) (fun _ h9 => h9) rfl (by decide +kernel) rfl rfl (Nat.le_of_ble_eq_true rfl) dX3_init_26 (fun H locs hP hD hS => ?_)
  have hP : va_P dg vwCl ([(o, .inr (6, [.ref q7, .int (zI 0), .int (zI 0), .ref (ka (10 + 0)), .null]))] ++ ([(q7, .inl (ck 2, 60, .inl (ar (fun _ _ => 0) 1)))])) H := hP
  have hD : va_D A ([(o, .inr (6, [.ref q7, .int (zI 0), .int (zI 0), .ref (ka (10 + 0)), .null]))] ++ ([(q7, .inl (ck 2, 60, .inl (ar (fun _ _ => 0) 1)))])) := hD
  refine lv_aload_n hx hb dX3_init_29 rfl (lv_at hl 0 rfl) ?_
  refine x_iconst hx hb dX3_init_30 ?_
  refine x_newi (atype := .int) (ty := .int) (f := (ar (fun _ _ => 0) 2)) (N := 3) hx hb (htg _ wq_101) rfl (fun _ h => h) hK hP hD hS hA 0 rfl (fun _ => rfl) (by decide) (by decide) (by decide) (Nat.le_of_ble_eq_true rfl) (Nat.le_of_ble_eq_true rfl) dX3_init_31 (fun q31 H hP hD hS => ?_)
  have hP : va_P dg vwCl ([(o, .inr (6, [.ref q7, .int (zI 0), .int (zI 0), .ref (ka (10 + 0)), .null]))] ++ ([(q7, .inl (ck 2, 60, .inl (ar (fun _ _ => 0) 1)))] ++ ([(q31, .inl (ck 0, 3, .inl (ar (fun _ _ => 0) 2)))]))) H := (va_P_eq (by simp only [List.append_assoc] <;> rfl) hP)
  have hD : va_D A ([(o, .inr (6, [.ref q7, .int (zI 0), .int (zI 0), .ref (ka (10 + 0)), .null]))] ++ ([(q7, .inl (ck 2, 60, .inl (ar (fun _ _ => 0) 1)))] ++ ([(q31, .inl (ck 0, 3, .inl (ar (fun _ _ => 0) 2)))]))) := (va_D_eq (by simp only [List.append_assoc] <;> rfl) hD)
  refine va_putF (D := dg) (ci := 6) (v := .ref q31) (ty := (.array .int)) (C := RX3) (T := TX3) (N := 5) hx hb htg inG_X3 tyX3 tyX3_ok nmX3 hown hK hP hD hS 0 rfl rfl 4 (Nat.le_of_ble_eq_true rfl) (htg _ wq_232) (fun _ h9 => h9) rfl hin rfl (by decide +kernel) rfl rfl (Nat.le_of_ble_eq_true rfl) dX3_init_33 (fun H locs hP hD hS => ?_)
  have hP : va_P dg vwCl ([(o, .inr (6, [.ref q7, .int (zI 0), .int (zI 0), .ref (ka (10 + 0)), .ref q31]))] ++ ([(q7, .inl (ck 2, 60, .inl (ar (fun _ _ => 0) 1)))] ++ ([(q31, .inl (ck 0, 3, .inl (ar (fun _ _ => 0) 2)))]))) H := hP
  have hD : va_D A ([(o, .inr (6, [.ref q7, .int (zI 0), .int (zI 0), .ref (ka (10 + 0)), .ref q31]))] ++ ([(q7, .inl (ck 2, 60, .inl (ar (fun _ _ => 0) 1)))] ++ ([(q31, .inl (ck 0, 3, .inl (ar (fun _ _ => 0) 2)))]))) := hD
  refine W.widen (k := 2) (n := 63) (Nat.le_of_ble_eq_true rfl) (Nat.le_of_ble_eq_true rfl) ?_
  exact W.vret hx hb hr (fun t9 ht9 hW9 => ⟨⟨(fun k => ([o, q7, q31] : List Nat).getD k 0), rfl, rfl, by rw [ht9]; exact hP, by rw [hAe]; exact hD⟩, hS.F ht9⟩) hS.2.2 dX3_init_36

set_option maxHeartbeats 4000000 in
set_option maxRecDepth 100000 in
/-- BenchBroker$Books's constructor -/
theorem k_Books (l : Launch) (dg : va_G) (ck : Nat → ClassId) (ka : Nat → Nat) (o : Nat) (sz : Nat) : Met l yX1_init (.code yX1_init cX1_init 1 none :: GW) ({ frames := 2, cells := 13, slots := 102, locals := 44 }) (va_Pc [.ref o] (wrK dg ck ka sz ([(o, .inr (4, [.null, .int (zI 0), .null, .null, .null, .null, .null, .int (zI 0), .int (zI 0), .int (zI 0), .int (zI 0), .int (zI 0), .int (zI 0)]))]))) (va_Qv (fun u : Nat → Nat => u 0 = o) (fun u t9 => wrQ dg sz ([(o, .inr (4, [.null, .int (zI 0), .null, .null, .null, .null, .null, .int (zI 0), .int (zI 0), .int (zI 0), .int (zI 0), .int (zI 0), .int (zI 0)]))]) (booksC ck u S0) t9) (va_A ([(o, .inr (4, [.null, .int (zI 0), .null, .null, .null, .null, .null, .int (zI 0), .int (zI 0), .int (zI 0), .int (zI 0), .int (zI 0), .int (zI 0)]))]) sz)) 13 102 (va_A ([(o, .inr (4, [.null, .int (zI 0), .null, .null, .null, .null, .null, .int (zI 0), .int (zI 0), .int (zI 0), .int (zI 0), .int (zI 0), .int (zI 0)]))]) sz) := by
  refine Met.ofW (cc := cX1_init) (maxL := 1) (ret := none) (by decide) rfl ?_
  intro p e s m args below meth c s₁ B hml hv
  obtain ⟨rfl, ⟨hsz, hP, hK, hD0⟩, hC⟩ := hv
  have hx := B.exec
  have hb := B.bytes
  have hr := B.returns
  have hts := atoms_spec (ws := .code yX1_init cX1_init 1 none :: GW) B.pre
  have htg : ∀ w ∈ GW, w.before _ s = true := fun w h => hts w (List.mem_cons_of_mem _ h)
  have hown : s.vm.findClass RX1 = some m.cls := findClass_of_methodNamed B.named
  have hlocks := B.notSynchronized
  have hin : meth.name = "<init>" := (name_of_methodNamed B.named B.method).1
  subst hsz
  have hD := hD0.self (sz := s.heap.size)
  generalize hAe : va_A ([(o, .inr (4, [.null, .int (zI 0), .null, .null, .null, .null, .null, .int (zI 0), .int (zI 0), .int (zI 0), .int (zI 0), .int (zI 0), .int (zI 0)]))]) s.heap.size = A at hD hC ⊢
  have hA : ∀ q : Nat, s.heap.size ≤ q → A q := fun q h => by rw [← hAe]; exact Or.inr h
  have hS : va_S A s.heap s.heap [] := va_S.rf
  have hP : va_P dg vwCl ([(o, .inr (4, [.null, .int (zI 0), .null, .null, .null, .null, .null, .int (zI 0), .int (zI 0), .int (zI 0), .int (zI 0), .int (zI 0), .int (zI 0)]))]) s.heap := hP
  have hl := lv_entry ([.ref o]) (n := 1) (Nat.le_of_ble_eq_true rfl)
  rw [lg_entry_eq]
  generalize (lg_sl ([.ref o]) ++ List.replicate (1 - (lg_sl ([.ref o])).length) Slot.unset).toArray = ls at hl ⊢
  have hl : lv_has ls 1 [(0, .ref o)] := hl
  refine lv_aload_n hx hb dX1_init_0 rfl (lv_at hl 0 rfl) ?_
  refine W.objInit hx hb hown (htg _ wq_47) (htg _ wq_40) (htg _ wq_41) rfl (by rw [hml]; exact hl.1) rfl dX1_init_1 (Nat.le_of_ble_eq_true rfl) (Nat.le_of_ble_eq_true rfl) ?_
  refine W.eq (g2 := F0 m 4 ls []) rfl ?_
  refine lv_aload_n hx hb dX1_init_4 rfl (lv_at hl 0 rfl) ?_
  refine va_new (ci := 9) (fs := [.int (zI 0), .null, .null, .null, .int (zI 0), .null, .null, .null, .null, .int (zI 0)]) (C := RX6) (T := TX6) (N := 10) hx hb htg inG_X6 tyX6 tyX6_ok hown (htg _ wq_48) (htg _ wq_49) (htg _ wq_3) hK hP hD hS hA rfl (fun j hj => by rcases (show j = 0 ∨ j = 1 ∨ j = 2 ∨ j = 3 ∨ j = 4 ∨ j = 5 ∨ j = 6 ∨ j = 7 ∨ j = 8 ∨ j = 9 by omega) with rfl | rfl | rfl | rfl | rfl | rfl | rfl | rfl | rfl | rfl <;> rfl) (Nat.le_of_ble_eq_true rfl) (Nat.le_of_ble_eq_true rfl) dX1_init_5 (fun q5_0 H hP hD hS => ?_)
  have hP : va_P dg vwCl ([(o, .inr (4, [.null, .int (zI 0), .null, .null, .null, .null, .null, .int (zI 0), .int (zI 0), .int (zI 0), .int (zI 0), .int (zI 0), .int (zI 0)]))] ++ ([(q5_0, .inr (9, [.int (zI 0), .null, .null, .null, .int (zI 0), .null, .null, .null, .null, .int (zI 0)]))])) H := hP
  have hD : va_D A ([(o, .inr (4, [.null, .int (zI 0), .null, .null, .null, .null, .null, .int (zI 0), .int (zI 0), .int (zI 0), .int (zI 0), .int (zI 0), .int (zI 0)]))] ++ ([(q5_0, .inr (9, [.int (zI 0), .null, .null, .null, .int (zI 0), .null, .null, .null, .null, .int (zI 0)]))])) := hD
  refine lv_dup hx hb dX1_init_8 rfl ?_
  refine x_callvUB (wf := fun u9_1 : Nat → Nat => [(o, .inr (4, [.null, .int (zI 0), .null, .null, .null, .null, .null, .int (zI 0), .int (zI 0), .int (zI 0), .int (zI 0), .int (zI 0), .int (zI 0)]))] ++ (parkC ck u9_1 S0)) (M := [(q5_0, .inr (9, [.int (zI 0), .null, .null, .null, .int (zI 0), .null, .null, .null, .null, .int (zI 0)]))]) (Mf := fun u9_1 => parkC ck u9_1 S0) (N := [(o, .inr (4, [.null, .int (zI 0), .null, .null, .null, .null, .null, .int (zI 0), .int (zI 0), .int (zI 0), .int (zI 0), .int (zI 0), .int (zI 0)]))]) (cat_perm [[(o, .inr (4, [.null, .int (zI 0), .null, .null, .null, .null, .null, .int (zI 0), .int (zI 0), .int (zI 0), .int (zI 0), .int (zI 0), .int (zI 0)]))], [(q5_0, .inr (9, [.int (zI 0), .null, .null, .null, .int (zI 0), .null, .null, .null, .null, .int (zI 0)]))]] [1] [0] 2 rfl (by decide)) (fun u9_1 => cat_perm [[(o, .inr (4, [.null, .int (zI 0), .null, .null, .null, .null, .null, .int (zI 0), .int (zI 0), .int (zI 0), .int (zI 0), .int (zI 0), .int (zI 0)]))], parkC ck u9_1 S0] [1] [0] 2 rfl (by decide)) hP hD hS hA (fun hPm hDm => va_runIN (As := []) (rest := [.ref q5_0, .ref o]) ⟨hx, hb, hml, hown, htg⟩ (k_Park l dg ck ka q5_0 _) ⟨va_cnB (host := "BenchBroker") 0 htg (gwG wq_52) rfl rfl rfl (hC.nw (w := .methodLinkNest "BenchBroker$Books" 11 ⟨"BenchBroker$Park", "<init>", "()V"⟩ "BenchBroker") (by decide +kernel)) (htg _ wq_3) (by decide +kernel) ⟨Nat.le_of_ble_eq_true rfl, Nat.le_of_ble_eq_true rfl⟩, rfl, htg _ wq_51⟩ (wrK_preS hK hPm hDm hC hS hA) rfl rfl hl.1 rfl (lv_room (Nat.le_of_ble_eq_true rfl)) dX1_init_9 ⟨Nat.le_of_ble_eq_true rfl, Nat.le_of_ble_eq_true rfl⟩) (fun u9_1 H locs hu9_1 hP hD hS => ?_)
  refine W.eq (g2 := F0 m 12 ls [.ref (u9_1 0), .ref o]) (by rw [show (u9_1 0) = q5_0 from hu9_1] <;> rfl) ?_
  have hP : va_P dg vwCl ([(o, .inr (4, [.null, .int (zI 0), .null, .null, .null, .null, .null, .int (zI 0), .int (zI 0), .int (zI 0), .int (zI 0), .int (zI 0), .int (zI 0)]))] ++ (parkC ck u9_1 S0)) H := hP
  have hD : va_D A ([(o, .inr (4, [.null, .int (zI 0), .null, .null, .null, .null, .null, .int (zI 0), .int (zI 0), .int (zI 0), .int (zI 0), .int (zI 0), .int (zI 0)]))] ++ (parkC ck u9_1 S0)) := hD
  refine va_putF (D := dg) (ci := 4) (v := .ref (u9_1 0)) (ty := (.object "BenchBroker$Park")) (C := RX1) (T := TX1) (N := 13) hx hb htg inG_X1 tyX1 tyX1_ok nmX1 hown hK hP hD hS 0 rfl rfl 0 (Nat.le_of_ble_eq_true rfl) (htg _ wq_106) (fun _ h9 => h9) rfl hin rfl (by decide +kernel) rfl rfl (Nat.le_of_ble_eq_true rfl) dX1_init_12 (fun H locs hP hD hS => ?_)
  have hP : va_P dg vwCl ([(o, .inr (4, [.ref (u9_1 0), .int (zI 0), .null, .null, .null, .null, .null, .int (zI 0), .int (zI 0), .int (zI 0), .int (zI 0), .int (zI 0), .int (zI 0)]))] ++ (parkC ck u9_1 S0)) H := hP
  have hD : va_D A ([(o, .inr (4, [.ref (u9_1 0), .int (zI 0), .null, .null, .null, .null, .null, .int (zI 0), .int (zI 0), .int (zI 0), .int (zI 0), .int (zI 0), .int (zI 0)]))] ++ (parkC ck u9_1 S0)) := hD
  refine lv_aload_n hx hb dX1_init_15 rfl (lv_at hl 0 rfl) ?_
  refine x_iconst hx hb dX1_init_16 ?_
  refine va_put (D := dg) (ci := 4) (v := .int (zI 0)) (ty := .int) (C := RX1) (T := TX1) (N := 13) hx hb htg inG_X1 tyX1 tyX1_ok nmX1 hown hK hP hD hS 0 rfl rfl 1 (Nat.le_of_ble_eq_true rfl) (htg _ wq_108) (fun _ h9 => h9) rfl (by decide +kernel) rfl rfl (Nat.le_of_ble_eq_true rfl) dX1_init_17 (fun H locs hP hD hS => ?_)
  have hP : va_P dg vwCl ([(o, .inr (4, [.ref (u9_1 0), .int (zI 0), .null, .null, .null, .null, .null, .int (zI 0), .int (zI 0), .int (zI 0), .int (zI 0), .int (zI 0), .int (zI 0)]))] ++ (parkC ck u9_1 S0)) H := hP
  have hD : va_D A ([(o, .inr (4, [.ref (u9_1 0), .int (zI 0), .null, .null, .null, .null, .null, .int (zI 0), .int (zI 0), .int (zI 0), .int (zI 0), .int (zI 0), .int (zI 0)]))] ++ (parkC ck u9_1 S0)) := hD
  refine lv_aload_n hx hb dX1_init_20 rfl (lv_at hl 0 rfl) ?_
  refine x_bipush hx hb dX1_init_21 (by decide) ?_
  refine x_newi (atype := .int) (ty := .int) (f := (ar S0 11)) (N := 8) hx hb (htg _ wq_101) rfl (fun _ h => h) hK hP hD hS hA 0 rfl (fun _ => rfl) (by decide) (by decide) (by decide) (Nat.le_of_ble_eq_true rfl) (Nat.le_of_ble_eq_true rfl) dX1_init_23 (fun q23 H hP hD hS => ?_)
  have hP : va_P dg vwCl ([(o, .inr (4, [.ref (u9_1 0), .int (zI 0), .null, .null, .null, .null, .null, .int (zI 0), .int (zI 0), .int (zI 0), .int (zI 0), .int (zI 0), .int (zI 0)]))] ++ (parkC ck u9_1 S0 ++ ([(q23, .inl (ck 0, 8, .inl (ar S0 11)))]))) H := (va_P_eq (by simp only [List.append_assoc] <;> rfl) hP)
  have hD : va_D A ([(o, .inr (4, [.ref (u9_1 0), .int (zI 0), .null, .null, .null, .null, .null, .int (zI 0), .int (zI 0), .int (zI 0), .int (zI 0), .int (zI 0), .int (zI 0)]))] ++ (parkC ck u9_1 S0 ++ ([(q23, .inl (ck 0, 8, .inl (ar S0 11)))]))) := (va_D_eq (by simp only [List.append_assoc] <;> rfl) hD)
  refine va_putF (D := dg) (ci := 4) (v := .ref q23) (ty := (.array .int)) (C := RX1) (T := TX1) (N := 13) hx hb htg inG_X1 tyX1 tyX1_ok nmX1 hown hK hP hD hS 0 rfl rfl 2 (Nat.le_of_ble_eq_true rfl) (htg _ wq_110) (fun _ h9 => h9) rfl hin rfl (by decide +kernel) rfl rfl (Nat.le_of_ble_eq_true rfl) dX1_init_25 (fun H locs hP hD hS => ?_)
  have hP : va_P dg vwCl ([(o, .inr (4, [.ref (u9_1 0), .int (zI 0), .ref q23, .null, .null, .null, .null, .int (zI 0), .int (zI 0), .int (zI 0), .int (zI 0), .int (zI 0), .int (zI 0)]))] ++ (parkC ck u9_1 S0 ++ ([(q23, .inl (ck 0, 8, .inl (ar S0 11)))]))) H := hP
  have hD : va_D A ([(o, .inr (4, [.ref (u9_1 0), .int (zI 0), .ref q23, .null, .null, .null, .null, .int (zI 0), .int (zI 0), .int (zI 0), .int (zI 0), .int (zI 0), .int (zI 0)]))] ++ (parkC ck u9_1 S0 ++ ([(q23, .inl (ck 0, 8, .inl (ar S0 11)))]))) := hD
  refine lv_aload_n hx hb dX1_init_28 rfl (lv_at hl 0 rfl) ?_
  refine x_bipush hx hb dX1_init_29 (by decide) ?_
  refine x_newi (atype := .int) (ty := .int) (f := (ar S0 12)) (N := 8) hx hb (htg _ wq_101) rfl (fun _ h => h) hK hP hD hS hA 0 rfl (fun _ => rfl) (by decide) (by decide) (by decide) (Nat.le_of_ble_eq_true rfl) (Nat.le_of_ble_eq_true rfl) dX1_init_31 (fun q31 H hP hD hS => ?_)
  have hP : va_P dg vwCl ([(o, .inr (4, [.ref (u9_1 0), .int (zI 0), .ref q23, .null, .null, .null, .null, .int (zI 0), .int (zI 0), .int (zI 0), .int (zI 0), .int (zI 0), .int (zI 0)]))] ++ (parkC ck u9_1 S0 ++ ([(q23, .inl (ck 0, 8, .inl (ar S0 11)))] ++ ([(q31, .inl (ck 0, 8, .inl (ar S0 12)))])))) H := (va_P_eq (by simp only [List.append_assoc] <;> rfl) hP)
  have hD : va_D A ([(o, .inr (4, [.ref (u9_1 0), .int (zI 0), .ref q23, .null, .null, .null, .null, .int (zI 0), .int (zI 0), .int (zI 0), .int (zI 0), .int (zI 0), .int (zI 0)]))] ++ (parkC ck u9_1 S0 ++ ([(q23, .inl (ck 0, 8, .inl (ar S0 11)))] ++ ([(q31, .inl (ck 0, 8, .inl (ar S0 12)))])))) := (va_D_eq (by simp only [List.append_assoc] <;> rfl) hD)
  refine va_putF (D := dg) (ci := 4) (v := .ref q31) (ty := (.array .int)) (C := RX1) (T := TX1) (N := 13) hx hb htg inG_X1 tyX1 tyX1_ok nmX1 hown hK hP hD hS 0 rfl rfl 3 (Nat.le_of_ble_eq_true rfl) (htg _ wq_112) (fun _ h9 => h9) rfl hin rfl (by decide +kernel) rfl rfl (Nat.le_of_ble_eq_true rfl) dX1_init_33 (fun H locs hP hD hS => ?_)
  have hP : va_P dg vwCl ([(o, .inr (4, [.ref (u9_1 0), .int (zI 0), .ref q23, .ref q31, .null, .null, .null, .int (zI 0), .int (zI 0), .int (zI 0), .int (zI 0), .int (zI 0), .int (zI 0)]))] ++ (parkC ck u9_1 S0 ++ ([(q23, .inl (ck 0, 8, .inl (ar S0 11)))] ++ ([(q31, .inl (ck 0, 8, .inl (ar S0 12)))])))) H := hP
  have hD : va_D A ([(o, .inr (4, [.ref (u9_1 0), .int (zI 0), .ref q23, .ref q31, .null, .null, .null, .int (zI 0), .int (zI 0), .int (zI 0), .int (zI 0), .int (zI 0), .int (zI 0)]))] ++ (parkC ck u9_1 S0 ++ ([(q23, .inl (ck 0, 8, .inl (ar S0 11)))] ++ ([(q31, .inl (ck 0, 8, .inl (ar S0 12)))])))) := hD
  refine lv_aload_n hx hb dX1_init_36 rfl (lv_at hl 0 rfl) ?_
  refine x_bipush hx hb dX1_init_37 (by decide) ?_
  refine x_newi (atype := .int) (ty := .int) (f := (zz (fun _ => 0))) (N := 10) hx hb (htg _ wq_101) rfl (fun _ h => h) hK hP hD hS hA 0 rfl (fun _ => rfl) (by decide) (by decide) (by decide) (Nat.le_of_ble_eq_true rfl) (Nat.le_of_ble_eq_true rfl) dX1_init_39 (fun q39 H hP hD hS => ?_)
  have hP : va_P dg vwCl ([(o, .inr (4, [.ref (u9_1 0), .int (zI 0), .ref q23, .ref q31, .null, .null, .null, .int (zI 0), .int (zI 0), .int (zI 0), .int (zI 0), .int (zI 0), .int (zI 0)]))] ++ (parkC ck u9_1 S0 ++ ([(q23, .inl (ck 0, 8, .inl (ar S0 11)))] ++ ([(q31, .inl (ck 0, 8, .inl (ar S0 12)))] ++ (rowC ck 10 q39 (fun _ => 0)))))) H := (va_P_eq (by simp only [List.append_assoc] <;> rfl) hP)
  have hD : va_D A ([(o, .inr (4, [.ref (u9_1 0), .int (zI 0), .ref q23, .ref q31, .null, .null, .null, .int (zI 0), .int (zI 0), .int (zI 0), .int (zI 0), .int (zI 0), .int (zI 0)]))] ++ (parkC ck u9_1 S0 ++ ([(q23, .inl (ck 0, 8, .inl (ar S0 11)))] ++ ([(q31, .inl (ck 0, 8, .inl (ar S0 12)))] ++ (rowC ck 10 q39 (fun _ => 0)))))) := (va_D_eq (by simp only [List.append_assoc] <;> rfl) hD)
  refine va_putF (D := dg) (ci := 4) (v := .ref q39) (ty := (.array .int)) (C := RX1) (T := TX1) (N := 13) hx hb htg inG_X1 tyX1 tyX1_ok nmX1 hown hK hP hD hS 0 rfl rfl 4 (Nat.le_of_ble_eq_true rfl) (htg _ wq_114) (fun _ h9 => h9) rfl hin rfl (by decide +kernel) rfl rfl (Nat.le_of_ble_eq_true rfl) dX1_init_41 (fun H locs hP hD hS => ?_)
  have hP : va_P dg vwCl ([(o, .inr (4, [.ref (u9_1 0), .int (zI 0), .ref q23, .ref q31, .ref q39, .null, .null, .int (zI 0), .int (zI 0), .int (zI 0), .int (zI 0), .int (zI 0), .int (zI 0)]))] ++ (parkC ck u9_1 S0 ++ ([(q23, .inl (ck 0, 8, .inl (ar S0 11)))] ++ ([(q31, .inl (ck 0, 8, .inl (ar S0 12)))] ++ (rowC ck 10 q39 (fun _ => 0)))))) H := hP
  have hD : va_D A ([(o, .inr (4, [.ref (u9_1 0), .int (zI 0), .ref q23, .ref q31, .ref q39, .null, .null, .int (zI 0), .int (zI 0), .int (zI 0), .int (zI 0), .int (zI 0), .int (zI 0)]))] ++ (parkC ck u9_1 S0 ++ ([(q23, .inl (ck 0, 8, .inl (ar S0 11)))] ++ ([(q31, .inl (ck 0, 8, .inl (ar S0 12)))] ++ (rowC ck 10 q39 (fun _ => 0)))))) := hD
  refine lv_aload_n hx hb dX1_init_44 rfl (lv_at hl 0 rfl) ?_
  refine x_bipush hx hb dX1_init_45 (by decide) ?_
  refine x_newi (atype := .int) (ty := .int) (f := (ar S0 5)) (N := 10) hx hb (htg _ wq_101) rfl (fun _ h => h) hK hP hD hS hA 0 rfl (fun _ => rfl) (by decide) (by decide) (by decide) (Nat.le_of_ble_eq_true rfl) (Nat.le_of_ble_eq_true rfl) dX1_init_47 (fun q47 H hP hD hS => ?_)
  have hP : va_P dg vwCl ([(o, .inr (4, [.ref (u9_1 0), .int (zI 0), .ref q23, .ref q31, .ref q39, .null, .null, .int (zI 0), .int (zI 0), .int (zI 0), .int (zI 0), .int (zI 0), .int (zI 0)]))] ++ (parkC ck u9_1 S0 ++ ([(q23, .inl (ck 0, 8, .inl (ar S0 11)))] ++ ([(q31, .inl (ck 0, 8, .inl (ar S0 12)))] ++ (rowC ck 10 q39 (fun _ => 0) ++ ([(q47, .inl (ck 0, 10, .inl (ar S0 5)))])))))) H := (va_P_eq (by simp only [List.append_assoc] <;> rfl) hP)
  have hD : va_D A ([(o, .inr (4, [.ref (u9_1 0), .int (zI 0), .ref q23, .ref q31, .ref q39, .null, .null, .int (zI 0), .int (zI 0), .int (zI 0), .int (zI 0), .int (zI 0), .int (zI 0)]))] ++ (parkC ck u9_1 S0 ++ ([(q23, .inl (ck 0, 8, .inl (ar S0 11)))] ++ ([(q31, .inl (ck 0, 8, .inl (ar S0 12)))] ++ (rowC ck 10 q39 (fun _ => 0) ++ ([(q47, .inl (ck 0, 10, .inl (ar S0 5)))])))))) := (va_D_eq (by simp only [List.append_assoc] <;> rfl) hD)
  refine va_putF (D := dg) (ci := 4) (v := .ref q47) (ty := (.array .int)) (C := RX1) (T := TX1) (N := 13) hx hb htg inG_X1 tyX1 tyX1_ok nmX1 hown hK hP hD hS 0 rfl rfl 5 (Nat.le_of_ble_eq_true rfl) (htg _ wq_116) (fun _ h9 => h9) rfl hin rfl (by decide +kernel) rfl rfl (Nat.le_of_ble_eq_true rfl) dX1_init_49 (fun H locs hP hD hS => ?_)
  have hP : va_P dg vwCl ([(o, .inr (4, [.ref (u9_1 0), .int (zI 0), .ref q23, .ref q31, .ref q39, .ref q47, .null, .int (zI 0), .int (zI 0), .int (zI 0), .int (zI 0), .int (zI 0), .int (zI 0)]))] ++ (parkC ck u9_1 S0 ++ ([(q23, .inl (ck 0, 8, .inl (ar S0 11)))] ++ ([(q31, .inl (ck 0, 8, .inl (ar S0 12)))] ++ (rowC ck 10 q39 (fun _ => 0) ++ ([(q47, .inl (ck 0, 10, .inl (ar S0 5)))])))))) H := hP
  have hD : va_D A ([(o, .inr (4, [.ref (u9_1 0), .int (zI 0), .ref q23, .ref q31, .ref q39, .ref q47, .null, .int (zI 0), .int (zI 0), .int (zI 0), .int (zI 0), .int (zI 0), .int (zI 0)]))] ++ (parkC ck u9_1 S0 ++ ([(q23, .inl (ck 0, 8, .inl (ar S0 11)))] ++ ([(q31, .inl (ck 0, 8, .inl (ar S0 12)))] ++ (rowC ck 10 q39 (fun _ => 0) ++ ([(q47, .inl (ck 0, 10, .inl (ar S0 5)))])))))) := hD
  refine lv_aload_n hx hb dX1_init_52 rfl (lv_at hl 0 rfl) ?_
  refine x_bipush hx hb dX1_init_53 (by decide) ?_
  refine x_newi (atype := .int) (ty := .int) (f := (ar S0 6)) (N := 10) hx hb (htg _ wq_101) rfl (fun _ h => h) hK hP hD hS hA 0 rfl (fun _ => rfl) (by decide) (by decide) (by decide) (Nat.le_of_ble_eq_true rfl) (Nat.le_of_ble_eq_true rfl) dX1_init_55 (fun q55 H hP hD hS => ?_)
  have hP : va_P dg vwCl ([(o, .inr (4, [.ref (u9_1 0), .int (zI 0), .ref q23, .ref q31, .ref q39, .ref q47, .null, .int (zI 0), .int (zI 0), .int (zI 0), .int (zI 0), .int (zI 0), .int (zI 0)]))] ++ (parkC ck u9_1 S0 ++ ([(q23, .inl (ck 0, 8, .inl (ar S0 11)))] ++ ([(q31, .inl (ck 0, 8, .inl (ar S0 12)))] ++ (rowC ck 10 q39 (fun _ => 0) ++ ([(q47, .inl (ck 0, 10, .inl (ar S0 5)))] ++ ([(q55, .inl (ck 0, 10, .inl (ar S0 6)))]))))))) H := (va_P_eq (by simp only [List.append_assoc] <;> rfl) hP)
  have hD : va_D A ([(o, .inr (4, [.ref (u9_1 0), .int (zI 0), .ref q23, .ref q31, .ref q39, .ref q47, .null, .int (zI 0), .int (zI 0), .int (zI 0), .int (zI 0), .int (zI 0), .int (zI 0)]))] ++ (parkC ck u9_1 S0 ++ ([(q23, .inl (ck 0, 8, .inl (ar S0 11)))] ++ ([(q31, .inl (ck 0, 8, .inl (ar S0 12)))] ++ (rowC ck 10 q39 (fun _ => 0) ++ ([(q47, .inl (ck 0, 10, .inl (ar S0 5)))] ++ ([(q55, .inl (ck 0, 10, .inl (ar S0 6)))]))))))) := (va_D_eq (by simp only [List.append_assoc] <;> rfl) hD)
  refine va_putF (D := dg) (ci := 4) (v := .ref q55) (ty := (.array .int)) (C := RX1) (T := TX1) (N := 13) hx hb htg inG_X1 tyX1 tyX1_ok nmX1 hown hK hP hD hS 0 rfl rfl 6 (Nat.le_of_ble_eq_true rfl) (htg _ wq_118) (fun _ h9 => h9) rfl hin rfl (by decide +kernel) rfl rfl (Nat.le_of_ble_eq_true rfl) dX1_init_57 (fun H locs hP hD hS => ?_)
  have hP : va_P dg vwCl ([(o, .inr (4, [.ref (u9_1 0), .int (zI 0), .ref q23, .ref q31, .ref q39, .ref q47, .ref q55, .int (zI 0), .int (zI 0), .int (zI 0), .int (zI 0), .int (zI 0), .int (zI 0)]))] ++ (parkC ck u9_1 S0 ++ ([(q23, .inl (ck 0, 8, .inl (ar S0 11)))] ++ ([(q31, .inl (ck 0, 8, .inl (ar S0 12)))] ++ (rowC ck 10 q39 (fun _ => 0) ++ ([(q47, .inl (ck 0, 10, .inl (ar S0 5)))] ++ ([(q55, .inl (ck 0, 10, .inl (ar S0 6)))]))))))) H := hP
  have hD : va_D A ([(o, .inr (4, [.ref (u9_1 0), .int (zI 0), .ref q23, .ref q31, .ref q39, .ref q47, .ref q55, .int (zI 0), .int (zI 0), .int (zI 0), .int (zI 0), .int (zI 0), .int (zI 0)]))] ++ (parkC ck u9_1 S0 ++ ([(q23, .inl (ck 0, 8, .inl (ar S0 11)))] ++ ([(q31, .inl (ck 0, 8, .inl (ar S0 12)))] ++ (rowC ck 10 q39 (fun _ => 0) ++ ([(q47, .inl (ck 0, 10, .inl (ar S0 5)))] ++ ([(q55, .inl (ck 0, 10, .inl (ar S0 6)))]))))))) := hD
  refine lv_aload_n hx hb dX1_init_60 rfl (lv_at hl 0 rfl) ?_
  refine x_iconst hx hb dX1_init_61 ?_
  refine va_put (D := dg) (ci := 4) (v := .int (zI 0)) (ty := .int) (C := RX1) (T := TX1) (N := 13) hx hb htg inG_X1 tyX1 tyX1_ok nmX1 hown hK hP hD hS 0 rfl rfl 7 (Nat.le_of_ble_eq_true rfl) (htg _ wq_120) (fun _ h9 => h9) rfl (by decide +kernel) rfl rfl (Nat.le_of_ble_eq_true rfl) dX1_init_62 (fun H locs hP hD hS => ?_)
  have hP : va_P dg vwCl ([(o, .inr (4, [.ref (u9_1 0), .int (zI 0), .ref q23, .ref q31, .ref q39, .ref q47, .ref q55, .int (zI 0), .int (zI 0), .int (zI 0), .int (zI 0), .int (zI 0), .int (zI 0)]))] ++ (parkC ck u9_1 S0 ++ ([(q23, .inl (ck 0, 8, .inl (ar S0 11)))] ++ ([(q31, .inl (ck 0, 8, .inl (ar S0 12)))] ++ (rowC ck 10 q39 (fun _ => 0) ++ ([(q47, .inl (ck 0, 10, .inl (ar S0 5)))] ++ ([(q55, .inl (ck 0, 10, .inl (ar S0 6)))]))))))) H := hP
  have hD : va_D A ([(o, .inr (4, [.ref (u9_1 0), .int (zI 0), .ref q23, .ref q31, .ref q39, .ref q47, .ref q55, .int (zI 0), .int (zI 0), .int (zI 0), .int (zI 0), .int (zI 0), .int (zI 0)]))] ++ (parkC ck u9_1 S0 ++ ([(q23, .inl (ck 0, 8, .inl (ar S0 11)))] ++ ([(q31, .inl (ck 0, 8, .inl (ar S0 12)))] ++ (rowC ck 10 q39 (fun _ => 0) ++ ([(q47, .inl (ck 0, 10, .inl (ar S0 5)))] ++ ([(q55, .inl (ck 0, 10, .inl (ar S0 6)))]))))))) := hD
  refine lv_aload_n hx hb dX1_init_65 rfl (lv_at hl 0 rfl) ?_
  refine x_iconst hx hb dX1_init_66 ?_
  refine va_put (D := dg) (ci := 4) (v := .int (zI 0)) (ty := .int) (C := RX1) (T := TX1) (N := 13) hx hb htg inG_X1 tyX1 tyX1_ok nmX1 hown hK hP hD hS 0 rfl rfl 8 (Nat.le_of_ble_eq_true rfl) (htg _ wq_122) (fun _ h9 => h9) rfl (by decide +kernel) rfl rfl (Nat.le_of_ble_eq_true rfl) dX1_init_67 (fun H locs hP hD hS => ?_)
  have hP : va_P dg vwCl ([(o, .inr (4, [.ref (u9_1 0), .int (zI 0), .ref q23, .ref q31, .ref q39, .ref q47, .ref q55, .int (zI 0), .int (zI 0), .int (zI 0), .int (zI 0), .int (zI 0), .int (zI 0)]))] ++ (parkC ck u9_1 S0 ++ ([(q23, .inl (ck 0, 8, .inl (ar S0 11)))] ++ ([(q31, .inl (ck 0, 8, .inl (ar S0 12)))] ++ (rowC ck 10 q39 (fun _ => 0) ++ ([(q47, .inl (ck 0, 10, .inl (ar S0 5)))] ++ ([(q55, .inl (ck 0, 10, .inl (ar S0 6)))]))))))) H := hP
  have hD : va_D A ([(o, .inr (4, [.ref (u9_1 0), .int (zI 0), .ref q23, .ref q31, .ref q39, .ref q47, .ref q55, .int (zI 0), .int (zI 0), .int (zI 0), .int (zI 0), .int (zI 0), .int (zI 0)]))] ++ (parkC ck u9_1 S0 ++ ([(q23, .inl (ck 0, 8, .inl (ar S0 11)))] ++ ([(q31, .inl (ck 0, 8, .inl (ar S0 12)))] ++ (rowC ck 10 q39 (fun _ => 0) ++ ([(q47, .inl (ck 0, 10, .inl (ar S0 5)))] ++ ([(q55, .inl (ck 0, 10, .inl (ar S0 6)))]))))))) := hD
  refine lv_aload_n hx hb dX1_init_70 rfl (lv_at hl 0 rfl) ?_
  refine x_iconst hx hb dX1_init_71 ?_
  refine va_put (D := dg) (ci := 4) (v := .int (zI 0)) (ty := .int) (C := RX1) (T := TX1) (N := 13) hx hb htg inG_X1 tyX1 tyX1_ok nmX1 hown hK hP hD hS 0 rfl rfl 9 (Nat.le_of_ble_eq_true rfl) (htg _ wq_124) (fun _ h9 => h9) rfl (by decide +kernel) rfl rfl (Nat.le_of_ble_eq_true rfl) dX1_init_72 (fun H locs hP hD hS => ?_)
  have hP : va_P dg vwCl ([(o, .inr (4, [.ref (u9_1 0), .int (zI 0), .ref q23, .ref q31, .ref q39, .ref q47, .ref q55, .int (zI 0), .int (zI 0), .int (zI 0), .int (zI 0), .int (zI 0), .int (zI 0)]))] ++ (parkC ck u9_1 S0 ++ ([(q23, .inl (ck 0, 8, .inl (ar S0 11)))] ++ ([(q31, .inl (ck 0, 8, .inl (ar S0 12)))] ++ (rowC ck 10 q39 (fun _ => 0) ++ ([(q47, .inl (ck 0, 10, .inl (ar S0 5)))] ++ ([(q55, .inl (ck 0, 10, .inl (ar S0 6)))]))))))) H := hP
  have hD : va_D A ([(o, .inr (4, [.ref (u9_1 0), .int (zI 0), .ref q23, .ref q31, .ref q39, .ref q47, .ref q55, .int (zI 0), .int (zI 0), .int (zI 0), .int (zI 0), .int (zI 0), .int (zI 0)]))] ++ (parkC ck u9_1 S0 ++ ([(q23, .inl (ck 0, 8, .inl (ar S0 11)))] ++ ([(q31, .inl (ck 0, 8, .inl (ar S0 12)))] ++ (rowC ck 10 q39 (fun _ => 0) ++ ([(q47, .inl (ck 0, 10, .inl (ar S0 5)))] ++ ([(q55, .inl (ck 0, 10, .inl (ar S0 6)))]))))))) := hD
  refine lv_aload_n hx hb dX1_init_75 rfl (lv_at hl 0 rfl) ?_
  refine x_iconst hx hb dX1_init_76 ?_
  refine va_put (D := dg) (ci := 4) (v := .int (zI 0)) (ty := .int) (C := RX1) (T := TX1) (N := 13) hx hb htg inG_X1 tyX1 tyX1_ok nmX1 hown hK hP hD hS 0 rfl rfl 10 (Nat.le_of_ble_eq_true rfl) (htg _ wq_126) (fun _ h9 => h9) rfl (by decide +kernel) rfl rfl (Nat.le_of_ble_eq_true rfl) dX1_init_77 (fun H locs hP hD hS => ?_)
  have hP : va_P dg vwCl ([(o, .inr (4, [.ref (u9_1 0), .int (zI 0), .ref q23, .ref q31, .ref q39, .ref q47, .ref q55, .int (zI 0), .int (zI 0), .int (zI 0), .int (zI 0), .int (zI 0), .int (zI 0)]))] ++ (parkC ck u9_1 S0 ++ ([(q23, .inl (ck 0, 8, .inl (ar S0 11)))] ++ ([(q31, .inl (ck 0, 8, .inl (ar S0 12)))] ++ (rowC ck 10 q39 (fun _ => 0) ++ ([(q47, .inl (ck 0, 10, .inl (ar S0 5)))] ++ ([(q55, .inl (ck 0, 10, .inl (ar S0 6)))]))))))) H := hP
  have hD : va_D A ([(o, .inr (4, [.ref (u9_1 0), .int (zI 0), .ref q23, .ref q31, .ref q39, .ref q47, .ref q55, .int (zI 0), .int (zI 0), .int (zI 0), .int (zI 0), .int (zI 0), .int (zI 0)]))] ++ (parkC ck u9_1 S0 ++ ([(q23, .inl (ck 0, 8, .inl (ar S0 11)))] ++ ([(q31, .inl (ck 0, 8, .inl (ar S0 12)))] ++ (rowC ck 10 q39 (fun _ => 0) ++ ([(q47, .inl (ck 0, 10, .inl (ar S0 5)))] ++ ([(q55, .inl (ck 0, 10, .inl (ar S0 6)))]))))))) := hD
  refine lv_aload_n hx hb dX1_init_80 rfl (lv_at hl 0 rfl) ?_
  refine x_iconst hx hb dX1_init_81 ?_
  refine va_put (D := dg) (ci := 4) (v := .int (zI 0)) (ty := .int) (C := RX1) (T := TX1) (N := 13) hx hb htg inG_X1 tyX1 tyX1_ok nmX1 hown hK hP hD hS 0 rfl rfl 11 (Nat.le_of_ble_eq_true rfl) (htg _ wq_128) (fun _ h9 => h9) rfl (by decide +kernel) rfl rfl (Nat.le_of_ble_eq_true rfl) dX1_init_82 (fun H locs hP hD hS => ?_)
  have hP : va_P dg vwCl ([(o, .inr (4, [.ref (u9_1 0), .int (zI 0), .ref q23, .ref q31, .ref q39, .ref q47, .ref q55, .int (zI 0), .int (zI 0), .int (zI 0), .int (zI 0), .int (zI 0), .int (zI 0)]))] ++ (parkC ck u9_1 S0 ++ ([(q23, .inl (ck 0, 8, .inl (ar S0 11)))] ++ ([(q31, .inl (ck 0, 8, .inl (ar S0 12)))] ++ (rowC ck 10 q39 (fun _ => 0) ++ ([(q47, .inl (ck 0, 10, .inl (ar S0 5)))] ++ ([(q55, .inl (ck 0, 10, .inl (ar S0 6)))]))))))) H := hP
  have hD : va_D A ([(o, .inr (4, [.ref (u9_1 0), .int (zI 0), .ref q23, .ref q31, .ref q39, .ref q47, .ref q55, .int (zI 0), .int (zI 0), .int (zI 0), .int (zI 0), .int (zI 0), .int (zI 0)]))] ++ (parkC ck u9_1 S0 ++ ([(q23, .inl (ck 0, 8, .inl (ar S0 11)))] ++ ([(q31, .inl (ck 0, 8, .inl (ar S0 12)))] ++ (rowC ck 10 q39 (fun _ => 0) ++ ([(q47, .inl (ck 0, 10, .inl (ar S0 5)))] ++ ([(q55, .inl (ck 0, 10, .inl (ar S0 6)))]))))))) := hD
  refine lv_aload_n hx hb dX1_init_85 rfl (lv_at hl 0 rfl) ?_
  refine x_iconst hx hb dX1_init_86 ?_
  refine va_put (D := dg) (ci := 4) (v := .int (zI 0)) (ty := .int) (C := RX1) (T := TX1) (N := 13) hx hb htg inG_X1 tyX1 tyX1_ok nmX1 hown hK hP hD hS 0 rfl rfl 12 (Nat.le_of_ble_eq_true rfl) (htg _ wq_130) (fun _ h9 => h9) rfl (by decide +kernel) rfl rfl (Nat.le_of_ble_eq_true rfl) dX1_init_87 (fun H locs hP hD hS => ?_)
  have hP : va_P dg vwCl ([(o, .inr (4, [.ref (u9_1 0), .int (zI 0), .ref q23, .ref q31, .ref q39, .ref q47, .ref q55, .int (zI 0), .int (zI 0), .int (zI 0), .int (zI 0), .int (zI 0), .int (zI 0)]))] ++ (parkC ck u9_1 S0 ++ ([(q23, .inl (ck 0, 8, .inl (ar S0 11)))] ++ ([(q31, .inl (ck 0, 8, .inl (ar S0 12)))] ++ (rowC ck 10 q39 (fun _ => 0) ++ ([(q47, .inl (ck 0, 10, .inl (ar S0 5)))] ++ ([(q55, .inl (ck 0, 10, .inl (ar S0 6)))]))))))) H := hP
  have hD : va_D A ([(o, .inr (4, [.ref (u9_1 0), .int (zI 0), .ref q23, .ref q31, .ref q39, .ref q47, .ref q55, .int (zI 0), .int (zI 0), .int (zI 0), .int (zI 0), .int (zI 0), .int (zI 0)]))] ++ (parkC ck u9_1 S0 ++ ([(q23, .inl (ck 0, 8, .inl (ar S0 11)))] ++ ([(q31, .inl (ck 0, 8, .inl (ar S0 12)))] ++ (rowC ck 10 q39 (fun _ => 0) ++ ([(q47, .inl (ck 0, 10, .inl (ar S0 5)))] ++ ([(q55, .inl (ck 0, 10, .inl (ar S0 6)))]))))))) := hD
  refine lv_aload_n hx hb dX1_init_90 rfl (lv_at hl 0 rfl) ?_
  refine va_get (D := dg) (ci := 4) (v := .ref q39) (C := RX1) (T := TX1) (N := 13) hx hb htg inG_X1 hown hK hP 0 rfl rfl 4 (Nat.le_of_ble_eq_true rfl) (htg _ wq_114) (fun _ h9 => h9) rfl dX1_init_91 ?_
  refine x_iconst hx hb dX1_init_94 ?_
  refine x_callvB (ws' := [(o, .inr (4, [.ref (u9_1 0), .int (zI 0), .ref q23, .ref q31, .ref q39, .ref q47, .ref q55, .int (zI 0), .int (zI 0), .int (zI 0), .int (zI 0), .int (zI 0), .int (zI 0)]))] ++ (parkC ck u9_1 S0 ++ ([(q23, .inl (ck 0, 8, .inl (ar S0 11)))] ++ ([(q31, .inl (ck 0, 8, .inl (ar S0 12)))] ++ (rowC ck 10 q39 (kZ (-1)) ++ ([(q47, .inl (ck 0, 10, .inl (ar S0 5)))] ++ ([(q55, .inl (ck 0, 10, .inl (ar S0 6)))]))))))) (M := rowC ck 10 q39 (fun _ => 0)) (M' := rowC ck 10 q39 (kZ (-1))) (N := [(o, .inr (4, [.ref (u9_1 0), .int (zI 0), .ref q23, .ref q31, .ref q39, .ref q47, .ref q55, .int (zI 0), .int (zI 0), .int (zI 0), .int (zI 0), .int (zI 0), .int (zI 0)]))] ++ (parkC ck u9_1 S0 ++ ([(q23, .inl (ck 0, 8, .inl (ar S0 11)))] ++ ([(q31, .inl (ck 0, 8, .inl (ar S0 12)))] ++ ([(q47, .inl (ck 0, 10, .inl (ar S0 5)))] ++ ([(q55, .inl (ck 0, 10, .inl (ar S0 6)))])))))) (cat_perm [[(o, .inr (4, [.ref (u9_1 0), .int (zI 0), .ref q23, .ref q31, .ref q39, .ref q47, .ref q55, .int (zI 0), .int (zI 0), .int (zI 0), .int (zI 0), .int (zI 0), .int (zI 0)]))], parkC ck u9_1 S0, [(q23, .inl (ck 0, 8, .inl (ar S0 11)))], [(q31, .inl (ck 0, 8, .inl (ar S0 12)))], rowC ck 10 q39 (fun _ => 0), [(q47, .inl (ck 0, 10, .inl (ar S0 5)))], [(q55, .inl (ck 0, 10, .inl (ar S0 6)))]] [4] [0, 1, 2, 3, 5, 6] 7 rfl (by decide)) (cat_perm [[(o, .inr (4, [.ref (u9_1 0), .int (zI 0), .ref q23, .ref q31, .ref q39, .ref q47, .ref q55, .int (zI 0), .int (zI 0), .int (zI 0), .int (zI 0), .int (zI 0), .int (zI 0)]))], parkC ck u9_1 S0, [(q23, .inl (ck 0, 8, .inl (ar S0 11)))], [(q31, .inl (ck 0, 8, .inl (ar S0 12)))], rowC ck 10 q39 (kZ (-1)), [(q47, .inl (ck 0, 10, .inl (ar S0 5)))], [(q55, .inl (ck 0, 10, .inl (ar S0 6)))]] [4] [0, 1, 2, 3, 5, 6] 7 rfl (by decide)) hP hD hS hA (fun hPm hDm => va_runS (As := [.ref q39, .int (zI (-1))]) (rest := []) ⟨hx, hb, hml, hown, htg⟩ (j_fill10 l dg ck q39 (fun _ => 0) (-1) _) (cwSC 2 htg wq_103 wq_104 wq_4 wq_105 rfl rfl (by decide +kernel) ⟨Nat.le_of_ble_eq_true rfl, Nat.le_of_ble_eq_true rfl⟩) (wr_preS hK hPm hDm) rfl rfl hl.1 rfl (lv_room (Nat.le_of_ble_eq_true rfl)) dX1_init_95 ⟨Nat.le_of_ble_eq_true rfl, Nat.le_of_ble_eq_true rfl⟩) (fun H locs hP hD hS => ?_)
  refine W.widen (k := 13) (n := 102) (Nat.le_of_ble_eq_true rfl) (Nat.le_of_ble_eq_true rfl) ?_
  have hP : va_P dg vwCl ([(o, .inr (4, [.ref (u9_1 0), .int (zI 0), .ref q23, .ref q31, .ref q39, .ref q47, .ref q55, .int (zI 0), .int (zI 0), .int (zI 0), .int (zI 0), .int (zI 0), .int (zI 0)]))] ++ ([(q23, .inl (ck 0, 8, .inl (ar S0 11)))] ++ ([(q31, .inl (ck 0, 8, .inl (ar S0 12)))] ++ (rowC ck 10 q39 (kZ (-1)) ++ ([(q47, .inl (ck 0, 10, .inl (ar S0 5)))] ++ ([(q55, .inl (ck 0, 10, .inl (ar S0 6)))] ++ (parkC ck u9_1 S0))))))) H := va_P_perm (cat_permA [[(o, .inr (4, [.ref (u9_1 0), .int (zI 0), .ref q23, .ref q31, .ref q39, .ref q47, .ref q55, .int (zI 0), .int (zI 0), .int (zI 0), .int (zI 0), .int (zI 0), .int (zI 0)]))], parkC ck u9_1 S0, [(q23, .inl (ck 0, 8, .inl (ar S0 11)))], [(q31, .inl (ck 0, 8, .inl (ar S0 12)))], rowC ck 10 q39 (kZ (-1)), [(q47, .inl (ck 0, 10, .inl (ar S0 5)))], [(q55, .inl (ck 0, 10, .inl (ar S0 6)))]] [0, 2, 3, 4, 5, 6, 1] 7 rfl (by decide)) hP
  have hD : va_D A ([(o, .inr (4, [.ref (u9_1 0), .int (zI 0), .ref q23, .ref q31, .ref q39, .ref q47, .ref q55, .int (zI 0), .int (zI 0), .int (zI 0), .int (zI 0), .int (zI 0), .int (zI 0)]))] ++ ([(q23, .inl (ck 0, 8, .inl (ar S0 11)))] ++ ([(q31, .inl (ck 0, 8, .inl (ar S0 12)))] ++ (rowC ck 10 q39 (kZ (-1)) ++ ([(q47, .inl (ck 0, 10, .inl (ar S0 5)))] ++ ([(q55, .inl (ck 0, 10, .inl (ar S0 6)))] ++ (parkC ck u9_1 S0))))))) := va_D_perm (cat_permA [[(o, .inr (4, [.ref (u9_1 0), .int (zI 0), .ref q23, .ref q31, .ref q39, .ref q47, .ref q55, .int (zI 0), .int (zI 0), .int (zI 0), .int (zI 0), .int (zI 0), .int (zI 0)]))], parkC ck u9_1 S0, [(q23, .inl (ck 0, 8, .inl (ar S0 11)))], [(q31, .inl (ck 0, 8, .inl (ar S0 12)))], rowC ck 10 q39 (kZ (-1)), [(q47, .inl (ck 0, 10, .inl (ar S0 5)))], [(q55, .inl (ck 0, 10, .inl (ar S0 6)))]] [0, 2, 3, 4, 5, 6, 1] 7 rfl (by decide)) hD
  exact W.vret hx hb hr (fun t9 ht9 hW9 => ⟨⟨(fun k => if k < 6 then ([o, q23, q31, q39, q47, q55] : List Nat).getD k 0 else u9_1 (k - 6)), rfl, rfl, by rw [ht9]; exact hP, by rw [hAe]; exact hD⟩, hS.F ht9⟩) hS.2.2 dX1_init_98
