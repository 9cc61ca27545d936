/-! rows for the constants, for bytes, for members that the tables find by a class below -/
theorem zI_and255 {z : Int} (h : 0 ≤ z ∧ z < 256) : zI z &&& zI 255 = zI z := by
  have key : ∀ n : Fin 256, zI (n.val : Int) &&& zI 255 = zI (n.val : Int) := by decide +kernel
  have := key ⟨z.toNat, by omega⟩
  rw [show ((⟨z.toNat, by omega⟩ : Fin 256).val : Int) = z by show ((z.toNat : Nat) : Int) = z; omega] at this
  exact this
theorem zI_byte {z : Int} (h : 0 ≤ z ∧ z < 128) : (zI z).toInt8.toInt32 = zI z := by
  have key : ∀ n : Fin 128, (zI (n.val : Int)).toInt8.toInt32 = zI (n.val : Int) := by decide +kernel
  have := key ⟨z.toNat, by omega⟩
  rw [show ((⟨z.toNat, by omega⟩ : Fin 128).val : Int) = z by show ((z.toNat : Nat) : Int) = z; omega] at this
  exact this
theorem chZ_r (i : Nat) (z : Int) : 0 ≤ chZ i z ∧ chZ i z < 128 := by
  have key : ∀ i : Fin 27, ∀ j : Fin 10, 0 ≤ ((sbt.getD i.val []).getD j.val 0).toInt ∧ ((sbt.getD i.val []).getD j.val 0).toInt < 128 := by decide +kernel
  have kl : ∀ i : Fin 27, (sbt.getD i.val []).length ≤ 10 := by decide +kernel
  unfold chZ
  by_cases hi : i < 27
  · by_cases hj : z.toNat < 10
    · exact key ⟨i, hi⟩ ⟨z.toNat, hj⟩
    · have h := kl ⟨i, hi⟩
      have e : (sbt.getD i []).getD z.toNat 0 = 0 := by
        rw [List.getD_eq_getElem?_getD, List.getElem?_eq_none (by have h2 : (sbt.getD i []).length ≤ 10 := h; omega)]
        rfl
      rw [e]
      decide
  · have e : sbt.getD i [] = [] := by
      rw [List.getD_eq_getElem?_getD, List.getElem?_eq_none (by show 27 ≤ i; omega)]
      rfl
    rw [e, show ([] : List Int32).getD z.toNat 0 = 0 from rfl]
    decide
theorem lnZ_r (i : Nat) : 0 ≤ lnZ i ∧ lnZ i ≤ 9 := by
  have key : ∀ i : Fin 27, sln.getD i.val 0 ≤ 9 := by decide +kernel
  unfold lnZ
  by_cases hi : i < 27
  · have h := key ⟨i, hi⟩
    have h2 : sln.getD i 0 ≤ 9 := h
    omega
  · have e : sln.getD i 0 = 0 := by
      rw [List.getD_eq_getElem?_getD, List.getElem?_eq_none (by show 27 ≤ i; omega)]
      rfl
    rw [e]
    decide
def vbNZ (j : Nat) : Int := (vbN j).toInt
def vbEZ (j : Nat) : Int := (vbE j).toInt
section KCX
variable {ka : Nat → Nat} {A : Nat → Prop} {U : State} {H : Heap}
theorem KC.cmp (h : KC ka A U H) : va_Z "java/lang/String" "COMPACT_STRINGS" "Z" (.int (zI 1)) A U H := h.2.2.2.2.2.1
theorem KC.ones (h : KC ka A U H) : va_Z "java/lang/Integer" "DigitOnes" "[B" (.ref (ka 0)) A U H ∧ va_T .byte (ka 0) 100 (fun j => .int (zI (48 + (j : Int) % 10))) A U H := h.2.2.2.2.2.2.1
theorem KC.tens (h : KC ka A U H) : va_Z "java/lang/Integer" "DigitTens" "[B" (.ref (ka 1)) A U H ∧ va_T .byte (ka 1) 100 (fun j => .int (zI (48 + (j : Int) / 10))) A U H := h.2.2.2.2.2.2.2.1
theorem KC.all (h : KC ka A U H) : va_Z "BenchBroker$Verb" "ALL" "[LBenchBroker$Verb;" (.ref (ka 2)) A U H ∧ va_T (.object "BenchBroker$Verb") (ka 2) 10 (fun j => .ref (ka (10 + j))) A U H := h.2.2.2.2.2.2.2.2.1
theorem KC.sw (h : KC ka A U H) : va_Z "BenchBroker$1" "$SwitchMap$BenchBroker$Verb" "[I" (.ref (ka 3)) A U H ∧ va_T .int (ka 3) 10 (fun j => .int (zI ((j : Int) + 1))) A U H := h.2.2.2.2.2.2.2.2.2.1
theorem KC.verb (h : KC ka A U H) {j : Nat} (hj : j < 10) : va_O "BenchBroker$Verb" (ka (10 + j)) A U H := (h.2.2.2.2.2.2.2.2.2.2.1 j hj).1
theorem KC.word (h : KC ka A U H) {j : Nat} (hj : j < 10) : va_OF "BenchBroker$Verb" "word" "Ljava/lang/String;" (.ref (ka (20 + j))) (ka (10 + j)) A U H := (h.2.2.2.2.2.2.2.2.2.2.1 j hj).2.1
theorem KC.argn (h : KC ka A U H) {j : Nat} (hj : j < 10) : va_OF "BenchBroker$Verb" "argumentCount" "I" (.int (zI (vbNZ j))) (ka (10 + j)) A U H := by
  have h2 := (h.2.2.2.2.2.2.2.2.2.2.1 j hj).2.2.1
  rw [zI_of (vbN j)] at h2
  exact h2
theorem KC.eidn (h : KC ka A U H) {j : Nat} (hj : j < 10) : va_OF "BenchBroker$Verb" "endsInNumber" "Z" (.int (zI (vbEZ j))) (ka (10 + j)) A U H := by
  have h2 := (h.2.2.2.2.2.2.2.2.2.2.1 j hj).2.2.2.1
  rw [zI_of (vbE j)] at h2
  exact h2
theorem KC.ord (h : KC ka A U H) {j : Nat} (hj : j < 10) : va_OF "java/lang/Enum" "ordinal" "I" (.int (zI j)) (ka (10 + j)) A U H := (h.2.2.2.2.2.2.2.2.2.2.1 j hj).2.2.2.2
theorem KC.strs (h : KC ka A U H) : skS ka A U H := h.2.2.2.2.2.2.2.2.2.2.2.1
theorem KC.bench (h : KC ka A U H) : va_Z "BenchBroker$Verb" "BENCH" "LBenchBroker$Verb;" (.ref (ka 10)) A U H := h.2.2.2.2.2.2.2.2.2.2.2.2.1
theorem KC.fmt (h : KC ka A U H) : va_Zq "jdk/internal/util/Preconditions" "SIOOBE_FORMATTER" "Ljava/util/function/BiFunction;" A U H := h.2.2.2.2.2.2.2.2.2.2.2.2.2.1
theorem KC.scr (h : KC ka A U H) : scZ ka A U H := h.2.2.2.2.2.2.2.2.2.2.2.2.2.2
theorem KC.sval (h : KC ka A U H) {i : Nat} (hi : okS i) : va_OF "java/lang/String" "value" "[B" (.ref (ka (50 + i))) (ka (20 + i)) A U H := (h.strs i hi).2.2.1
theorem KC.scod (h : KC ka A U H) {i : Nat} (hi : okS i) : va_OF "java/lang/String" "coder" "B" (.int (zI 0)) (ka (20 + i)) A U H := (h.strs i hi).2.1
theorem KC.sbyt (h : KC ka A U H) {i : Nat} (hi : okS i) : va_T .byte (ka (50 + i)) (sln.getD i 0) (fun j => .int ((sbt.getD i []).getD j 0)) A U H := (h.strs i hi).2.2.2
theorem KC.mr21 (h : KC ka A U H) : vk_R "BenchBrokerLaw" 298 "limit " (ka (20 + 21)) U := h.2.2.1.1
theorem KC.mr22 (h : KC ka A U H) : vk_R "BenchBrokerLaw" 307 ";lease " (ka (20 + 22)) U := h.2.2.1.2.1
theorem KC.mr10 (h : KC ka A U H) : vk_R "BenchBrokerLaw" 309 " " (ka (20 + 10)) U := h.2.2.1.2.2.1
theorem KC.mr23 (h : KC ka A U H) : vk_R "BenchBrokerLaw" 311 " 3" (ka (20 + 23)) U := h.2.2.1.2.2.2.1
theorem KC.mr24 (h : KC ka A U H) : vk_R "BenchBrokerLaw" 317 ";pass 1" (ka (20 + 24)) U := h.2.2.1.2.2.2.2.1
theorem KC.mr25 (h : KC ka A U H) : vk_R "BenchBrokerLaw" 319 ";end " (ka (20 + 25)) U := h.2.2.1.2.2.2.2.2.1
theorem KC.mr26 (h : KC ka A U H) : vk_R "BenchBrokerLaw" 321 ";" (ka (20 + 26)) U := h.2.2.1.2.2.2.2.2.2
theorem KC.nw (h : KC ka A U H) {w : Cond} (hw : w ∈ NW) : va_Nw w U := h.1 w hw
theorem KC.nc (h : KC ka A U H) {a b : String} (hw : (a, b) ∈ NC) : va_Nc a b U := h.2.1 (a, b) hw
end KCX
section KCR
variable {p : Program} {l : Launch} {e : Env} {R : Room} {s : State} {m : MethodId} {args : Array Value} {below : List Frame} {meth : Method} {c : Code} {H : Heap} {locs : List Loc} {cells slots : Nat} {Q : State → Prop}
variable {cc : ByteArray} {pc : Nat} {ls : Array Slot} {rest : List Value} {D : va_G} {cl : List vw_C} {A : Nat → Prop} {a : Nat} {tys : List (ClassId × FieldType)} {ws ws' : va_W} {H0 : Heap} {ka : Nat → Nat}
theorem KC.srecv {i : Nat} (h : KC ka A s s.heap) (hi : okS i) (hS : va_S A s.heap H locs) : ∃ cell : Cell, H[ka (20 + i)]? = some cell ∧ cell.vm.isStatics = false ∧ s.vm.findClass "java/lang/String" = some cell.cls := va_Orecv (h.strs i hi).1 hS
theorem KC.vrecv {j : Nat} (h : KC ka A s s.heap) (hj : j < 10) (hS : va_S A s.heap H locs) : ∃ cell : Cell, H[ka (10 + j)]? = some cell ∧ cell.vm.isStatics = false ∧ s.vm.findClass "BenchBroker$Verb" = some cell.cls := va_Orecv (h.verb hj) hS
theorem x_ishr0 (hexec : p.tables.exec = Jvm.exec) (hb : c.code = cc) {x : Int} (hdg : decode cc pc = .ok (.ishr, 1)) (k : W p l e R s m args below meth c H locs cells slots Q (F0 m (pc + 1) ls (.int (zI x) :: rest))) : W p l e R s m args below meth c H locs cells slots Q (F0 m pc ls (.int (zI 0) :: .int (zI x) :: rest)) :=
  lv_ishr hexec hb hdg (by rw [show zI x >>> (zI 0 &&& 31) = zI x from Int32.shiftRight_zero]; exact k)
theorem x_and255 (hexec : p.tables.exec = Jvm.exec) (hb : c.code = cc) {x : Int} (hdg : decode cc pc = .ok (.iand, 1)) (hx : 0 ≤ x ∧ x < 256) (k : W p l e R s m args below meth c H locs cells slots Q (F0 m (pc + 1) ls (.int (zI x) :: rest))) : W p l e R s m args below meth c H locs cells slots Q (F0 m pc ls (.int (zI 255) :: .int (zI x) :: rest)) :=
  lv_iand hexec hb hdg (by rw [zI_and255 hx]; exact k)
theorem x_i2b (hexec : p.tables.exec = Jvm.exec) (hb : c.code = cc) {x : Int} (hdg : decode cc pc = .ok (.i2b, 1)) (hx : 0 ≤ x ∧ x < 128) (k : W p l e R s m args below meth c H locs cells slots Q (F0 m (pc + 1) ls (.int (zI x) :: rest))) : W p l e R s m args below meth c H locs cells slots Q (F0 m pc ls (.int (zI x) :: rest)) :=
  lv_i2b hexec hb hdg (zI_byte hx) k
theorem x_bast (hexec : p.tables.exec = Jvm.exec) (hb : c.code = cc) (hK : va_K D cl tys s) (hP : va_P D cl ws H) (hD : va_D A ws) (hS : va_S A H0 H locs) (q0 t0 : Nat) {cA : ClassId} {n : Nat} {f : Nat → Int32} (ha : ws[q0]? = some (a, .inl (cA, n, .inl f))) (ht : tys[t0]? = some (cA, .byte)) {z v : Int} (hn : n < 2147483648) (hz : 0 ≤ z ∧ z < n) (hv : 0 ≤ v ∧ v < 128) (hw : ws.set q0 (a, .inl (cA, n, .inl (upd f z.toNat (zI v)))) = ws') (hdg : decode cc pc = .ok (.bastore, 1))
    (kk : ∀ (H1 : Heap) (locs1 : List Loc), va_P D cl ws' H1 → va_D A ws' → va_S A H0 H1 locs1 → W p l e R s m args below meth c H1 locs1 cells slots Q (F0 m (pc + 1) ls (rest))) : W p l e R s m args below meth c H locs cells slots Q (F0 m pc ls (.int (zI v) :: .int (zI z) :: .ref a :: rest)) := by
  refine va_bast hexec hb hK hP hD hS q0 t0 ha ht (zI_in hz hn) hdg ?_
  rw [zI_clamp (by omega), vp_nar_byte, zI_byte hv, hw]
  exact kk
theorem x_alen (hexec : p.tables.exec = Jvm.exec) (hb : c.code = cc) (hK : va_K D cl tys s) (hP : va_P D cl ws H) (q0 t0 : Nat) {cA : ClassId} {n : Nat} {f : Nat → Int32} (ha : ws[q0]? = some (a, .inl (cA, n, .inl f))) {ty : FieldType} (ht : tys[t0]? = some (cA, ty)) (hdg : decode cc pc = .ok (.arraylength, 1))
    (kk : W p l e R s m args below meth c H locs cells slots Q (F0 m (pc + 1) ls (.int (zI (n : Int)) :: rest))) : W p l e R s m args below meth c H locs cells slots Q (F0 m pc ls (.ref a :: rest)) := va_alen hexec hb hK hP q0 t0 ha ht (v := zI (n : Int)) (zI_n n).symm hdg kk
theorem x_tlen (hexec : p.tables.exec = Jvm.exec) (hb : c.code = cc) {t N : Nat} {f : Nat → Value} {ty : FieldType} (hT : va_T ty t N f A s s.heap) (hS : va_S A s.heap H locs) (hdg : decode cc pc = .ok (.arraylength, 1))
    (kk : W p l e R s m args below meth c H locs cells slots Q (F0 m (pc + 1) ls (.int (zI (N : Int)) :: rest))) : W p l e R s m args below meth c H locs cells slots Q (F0 m pc ls (.ref t :: rest)) := va_tlen hexec hb hT hS (v := zI (N : Int)) (zI_n N).symm hdg kk
theorem x_tsb (hexec : p.tables.exec = Jvm.exec) (hb : c.code = cc) {i : Nat} {t N : Nat} (hT : va_T .byte t N (fun j => .int ((sbt.getD i []).getD j 0)) A s s.heap) (hS : va_S A s.heap H locs) {z : Int} (hz : 0 ≤ z ∧ z < N) (hN : N < 2147483648) (hdg : decode cc pc = .ok (.baload, 1))
    (kk : W p l e R s m args below meth c H locs cells slots Q (F0 m (pc + 1) ls (.int (zI (chZ i z)) :: rest))) : W p l e R s m args below meth c H locs cells slots Q (F0 m pc ls (.int (zI z) :: .ref t :: rest)) :=
  va_tb hexec hb hT hS (zI_in hz hN) (v := .int (zI (chZ i z))) (by rw [zI_clamp (by omega)]; exact congrArg Value.int (zI_of _)) hdg kk
theorem x_tb (hexec : p.tables.exec = Jvm.exec) (hb : c.code = cc) {g : Int → Int} {t N : Nat} (hT : va_T .byte t N (fun j => .int (zI (g (j : Int)))) A s s.heap) (hS : va_S A s.heap H locs) {z : Int} (hz : 0 ≤ z ∧ z < N) (hN : N < 2147483648) (hdg : decode cc pc = .ok (.baload, 1))
    (kk : W p l e R s m args below meth c H locs cells slots Q (F0 m (pc + 1) ls (.int (zI (g z)) :: rest))) : W p l e R s m args below meth c H locs cells slots Q (F0 m pc ls (.int (zI z) :: .ref t :: rest)) :=
  va_tb hexec hb hT hS (zI_in hz hN) (v := .int (zI (g z))) (by rw [zI_clamp (by omega), Int.toNat_of_nonneg hz.1]) hdg kk
theorem x_ti (hexec : p.tables.exec = Jvm.exec) (hb : c.code = cc) {g : Int → Int} {t N : Nat} (hT : va_T .int t N (fun j => .int (zI (g (j : Int)))) A s s.heap) (hS : va_S A s.heap H locs) {z : Int} (hz : 0 ≤ z ∧ z < N) (hN : N < 2147483648) (hdg : decode cc pc = .ok (.iaload, 1))
    (kk : W p l e R s m args below meth c H locs cells slots Q (F0 m (pc + 1) ls (.int (zI (g z)) :: rest))) : W p l e R s m args below meth c H locs cells slots Q (F0 m pc ls (.int (zI z) :: .ref t :: rest)) :=
  va_ti hexec hb hT hS (zI_in hz hN) (v := .int (zI (g z))) (by rw [zI_clamp (by omega), Int.toNat_of_nonneg hz.1]) hdg kk
theorem x_ldcSW (hexec : p.tables.exec = Jvm.exec) (hb : c.code = cc) {own tx : String} {index q : Nat} (hown : s.vm.findClass own = some m.cls) (hZ : vk_R own index tx q s) (hdg : decode cc pc = .ok (.ldc_w index, 3))
    (k : W p l e R s m args below meth c H locs cells slots Q (F0 m (pc + 3) ls (.ref q :: rest))) : W p l e R s m args below meth c H locs cells slots Q (F0 m pc ls rest) := by
  intro T hT X
  obtain ⟨t, a1, b1⟩ := k T hT X
  exact ⟨t, X.ldcStringW hexec hown (text := tx) (a := q) hZ.1 hZ.2 (g := F0 m pc ls rest) rfl (by rw [hb]; exact hdg) t a1, b1⟩
/-- a method that returns nothing and leaves the heap -/
def x_Sv : Array Value → State → Outcome → State → Prop := fun _ st o t => o = .returned none ∧ t.heap = st.heap
theorem x_callSv {a : Array Value} {st0 : List Value} (hr : CallRun p l e R s m args below meth c H locs cells slots 0 0 (F0 m pc ls st0) rest (x_Sv a) (fun _ => False))
    (kk : W p l e R s m args below meth c H locs cells slots Q (F0 m (pc + 3) ls rest)) : W p l e R s m args below meth c H locs cells slots Q (F0 m pc ls st0) := by
  intro T hT X
  obtain ⟨v, st₀, t, T', L, h0, X', hL, e1, ⟨hv, hh⟩, st⟩ := hr T hT X
  cases hv
  obtain ⟨t2, a1, b1⟩ := kk T' (by rw [e1, hh, h0]) (Stand.forget X' (fun q h => (hL q h).elim))
  exact ⟨t2, st t2 a1, b1⟩
end KCR
/-- a method found by a class below its own -/
theorem cwVC {R : Room} {s : State} {args : Array Value} {own C : String} {ix maxL mc ms : Nat} {y : MethodName} {cc : ByteArray} {r : Option FieldType} {rm : Room} (n : Nat) (htg : ∀ w ∈ GW, w.before args s = true) (h1 : Cond.methodLink own ix y ∈ GW) (h2 : Cond.instanceMethod y ∈ GW) (hsel : (Cond.selects C y y).before args s = true) (h4 : Cond.initialized y.cls ∈ GW) (h5 : Cond.code y cc maxL r ∈ GW) (hrc : rm.cells = mc) (hrs : rm.slots = ms)
    (hd : y.cls ≠ "java/lang/invoke/MethodHandle" ∧ y.cls ≠ "java/lang/invoke/VarHandle" ∧ (parseMethodDescriptor y.desc).map (fun d => d.parameters.length) = some n) (hR : rm.frames + 1 ≤ R.frames ∧ 8 + (maxL + 11) + rm.locals ≤ R.locals) : CallW R s args own C ix y cc maxL r (.code y cc maxL r :: GW) rm mc ms n :=
  ⟨callB_of n htg (gwG h5) rfl hrc hrs (htg _ h4) (htg _ h1) hd hR, htg _ h2, hsel⟩
/-- a static method of another class -/
theorem cwSC {R : Room} {s : State} {args : Array Value} {own : String} {ix maxL mc ms : Nat} {y : MethodName} {cc : ByteArray} {r : Option FieldType} {rm : Room} (n : Nat) (htg : ∀ w ∈ GW, w.before args s = true) (h1 : Cond.methodLink own ix y ∈ GW) (h2 : Cond.static y ∈ GW) (h4 : Cond.initialized y.cls ∈ GW) (h5 : Cond.code y cc maxL r ∈ GW) (hrc : rm.cells = mc) (hrs : rm.slots = ms)
    (hd : y.cls ≠ "java/lang/invoke/MethodHandle" ∧ y.cls ≠ "java/lang/invoke/VarHandle" ∧ (parseMethodDescriptor y.desc).map (fun d => d.parameters.length) = some n) (hR : rm.frames + 1 ≤ R.frames ∧ 8 + (maxL + 11) + rm.locals ≤ R.locals) : CallB R s args own ix y cc maxL r (.code y cc maxL r :: GW) rm mc ms n ∧ (Cond.static y).before args s = true :=
  ⟨callB_of n htg (gwG h5) rfl hrc hrs (htg _ h4) (htg _ h1) hd hR, htg _ h2⟩
theorem gwSU {own : String} {ix : Nat} {y : MethodName} {cc : ByteArray} {n : Nat} {r : Option FieldType} (h1 : Cond.methodLink own ix y ∈ GW) (h2 : Cond.sameMethod y.cls y.cls y.name y.desc ∈ GW) (h3 : Cond.superclass own y.cls ∈ GW) (h4 : Cond.instanceMethod y ∈ GW) (h6 : Cond.initialized y.cls ∈ GW) (h5 : Cond.code y cc n r ∈ GW) : GoodIn GW (va_wsSU own ix y (.code y cc n r :: GW)) := by
  intro w hw
  rcases List.mem_append.mp hw with h | h
  · simp only [List.mem_cons, List.not_mem_nil, or_false] at h
    rcases h with e | e | e | e | e <;> rw [e]
    · exact ⟨h1, good_of_word (gw_good h1)⟩
    · exact ⟨h2, good_of_word (gw_good h2)⟩
    · exact ⟨h3, good_of_word (gw_good h3)⟩
    · exact ⟨h4, good_of_word (gw_good h4)⟩
    · exact ⟨h6, good_of_word (gw_good h6)⟩
  · exact gwG h5 w h
/-- a private method of a class above, found by a class below -/
theorem sel_priv {y : MethodName} {C : String} {s : State} {args : Array Value} {n : Nat} (hy : y.cls ≠ "java/lang/invoke/MethodHandle" ∧ y.cls ≠ "java/lang/invoke/VarHandle")
    (hins : (Cond.instantiable C n).before args s = true) {x0 y0 : MethodName} (hs0 : (Cond.selects C x0 y0).before args s = true) (h0 : y0.cls = y.cls) (hpriv : (Cond.privateMethod y).before args s = true) (hinst : (Cond.instanceMethod y).before args s = true) :
    (Cond.selects C y y).before args s = true := by
  obtain ⟨c, k, hc, hk, -, hniab, -, -⟩ := Cond.instantiable_spec hins
  have hni : k.isInterface = false := (Bool.or_eq_false_iff.mp hniab).1
  obtain ⟨mk, methM, hnamed, hmethM, -, -⟩ := Cond.instanceMethod_spec hinst
  have hfound : s.methodFound? y.cls y.name y.desc = some mk := State.methodFound?_of_named hnamed hy
  have hsel : selectMethod {} s.vm c mk = .method mk := selectMethod_private hmethM (Cond.privateMethod_at hpriv mk methM hnamed hmethM)
  obtain ⟨c2, r2, m2, q1, q2, q3, q4, kP, hkP, hkPi⟩ := Cond.selects_spec hs0
  have e1 := findClass_of_methodNamed q3
  have e2 := findClass_of_methodNamed hnamed
  rw [h0] at e1
  have e3 : m2.cls = mk.cls := Option.some.inj (e1.symm.trans e2)
  rw [e3] at hkP
  simp only [Cond.before, Cond.holds, Cond.value, hc, hfound, hnamed, hsel, hkP]
  simp [hkPi]
