/-! what stands from the start and never changes: constants, their fields, the tables' other words -/
def NW : List Cond := [.selects "java/lang/StringBuilder" ⟨"java/lang/AbstractStringBuilder", "ensureCapacityInternal", "(I)V"⟩ ⟨"java/lang/AbstractStringBuilder", "ensureCapacityInternal", "(I)V"⟩, .selects "java/lang/StringBuilder" ⟨"java/lang/AbstractStringBuilder", "putStringAt", "(ILjava/lang/String;)V"⟩ ⟨"java/lang/AbstractStringBuilder", "putStringAt", "(ILjava/lang/String;)V"⟩, .selects "java/lang/StringBuilder" ⟨"java/lang/AbstractStringBuilder", "inflateIfNeededFor", "(Ljava/lang/String;)V"⟩ ⟨"java/lang/AbstractStringBuilder", "inflateIfNeededFor", "(Ljava/lang/String;)V"⟩, .selects "java/lang/StringBuilder" ⟨"java/lang/AbstractStringBuilder", "newCapacity", "(I)I"⟩ ⟨"java/lang/AbstractStringBuilder", "newCapacity", "(I)I"⟩, .castable "java/lang/IndexOutOfBoundsException" "java/lang/IndexOutOfBoundsException", .castable "java/lang/IllegalArgumentException" "java/lang/IllegalArgumentException", .castable "java/lang/UnsupportedOperationException" "java/lang/UnsupportedOperationException", .castable "java/util/NoSuchElementException" "java/util/NoSuchElementException", .castable "java/lang/IllegalStateException" "java/lang/IllegalStateException", .castable "java/lang/ArithmeticException" "java/lang/ArithmeticException", .declares ⟨"java/lang/RuntimeException", "<init>", "()V"⟩, .declares ⟨"java/lang/Exception", "<init>", "()V"⟩, .declares ⟨"java/lang/Throwable", "<init>", "()V"⟩, .declares ⟨"java/lang/Enum", "ordinal", "()I"⟩, .fieldLinkNest "BenchBroker$Input" 49 "BenchBroker$Verb" "ALL" "[LBenchBroker$Verb;" "BenchBroker", .methodLinkNest "BenchBroker$Books" 11 ⟨"BenchBroker$Park", "<init>", "()V"⟩ "BenchBroker", .methodLinkNest "BenchBroker" 35 ⟨"BenchBroker$Outcome", "<init>", "()V"⟩ "BenchBroker", .methodLinkNest "BenchBroker" 42 ⟨"BenchBroker$NoiseMap", "<init>", "()V"⟩ "BenchBroker", .methodLinkNest "BenchBroker" 49 ⟨"BenchBroker$Input", "<init>", "()V"⟩ "BenchBroker"]
def NWb (w : Cond) : Bool := match w with
  | .castable _ _ => true
  | .declares _ => true
  | .fieldLinkNest _ _ _ _ _ _ => true
  | .methodLinkNest _ _ _ _ => true
  | .selects _ _ _ => true
  | _ => false
theorem NW_b : ∀ w ∈ NW, NWb w = true := by decide +kernel
theorem NWb_t {w : Cond} (hb : NWb w = true) : w.onTables = true := by
  cases w <;> first | rfl | (simp [NWb] at hb)
theorem NW_warm {w : Cond} (hb : NWb w = true) {s U : State} (hW : s.WarmedH U.vm) (h : va_Nw w s) : va_Nw w U := by
  cases w <;> first | exact va_Nw.warmC hW h | exact va_Nw.warmD hW h | exact va_Nw.warmF hW h | exact va_Nw.warmM hW h | exact word_at hW (Or.inl rfl) h | (simp [NWb] at hb)
def NC : List (String × String) := [("java/lang/IllegalArgumentException", "java/lang/IndexOutOfBoundsException"), ("java/lang/UnsupportedOperationException", "java/lang/IndexOutOfBoundsException"), ("java/lang/UnsupportedOperationException", "java/lang/IllegalArgumentException"), ("java/util/NoSuchElementException", "java/lang/IndexOutOfBoundsException"), ("java/lang/IllegalStateException", "java/lang/IllegalArgumentException"), ("java/lang/UnsupportedOperationException", "java/lang/IllegalStateException")]
/-- the texts: the words of the commands with a blank, a blank, the words without -/
def sbt : List (List Int32) := [[98, 101, 110, 99, 104, 32], [102, 111, 117, 110, 116, 97, 105, 110, 32], [116, 101, 110, 97, 110, 116, 32], [103, 105, 118, 101, 32], [108, 101, 97, 115, 101, 32], [101, 110, 100, 32], [114, 101, 110, 101, 119, 32], [115, 119, 105, 116, 99, 104, 32], [108, 105, 109, 105, 116, 32], [112, 97, 115, 115, 32], [32], [98, 101, 110, 99, 104], [102, 111, 117, 110, 116, 97, 105, 110], [116, 101, 110, 97, 110, 116], [103, 105, 118, 101], [108, 105, 109, 105, 116], [108, 101, 97, 115, 101], [101, 110, 100], [114, 101, 110, 101, 119], [115, 119, 105, 116, 99, 104], [112, 97, 115, 115], [108, 105, 109, 105, 116, 32], [59, 108, 101, 97, 115, 101, 32], [32, 51], [59, 112, 97, 115, 115, 32, 49], [59, 101, 110, 100, 32], [59]]
def sln : List Nat := [6, 9, 7, 5, 6, 4, 6, 7, 6, 5, 1, 5, 8, 6, 4, 5, 5, 3, 5, 6, 4, 6, 7, 2, 7, 5, 1]
def chZ (i : Nat) (z : Int) : Int := ((sbt.getD i []).getD z.toNat 0).toInt
def lnZ (i : Nat) : Int := (sln.getD i 0 : Nat)
def vbN (j : Nat) : Int32 := [3, 3, 1, 2, 3, 1, 2, 1, 1, 1].getD j 0
def vbE (j : Nat) : Int32 := [1, 0, 1, 1, 1, 0, 1, 0, 1, 1].getD j 0
/-- the texts that stand at the start -/
abbrev okS (i : Nat) : Prop := i < 11 ∨ (21 ≤ i ∧ i < 27)
def skS (ka : Nat → Nat) (A : Nat → Prop) (U : State) (H : Heap) : Prop := ∀ i : Nat, okS i → va_O "java/lang/String" (ka (20 + i)) A U H ∧ va_OF "java/lang/String" "coder" "B" (.int 0) (ka (20 + i)) A U H ∧ va_OF "java/lang/String" "value" "[B" (.ref (ka (50 + i))) (ka (20 + i)) A U H ∧ va_T .byte (ka (50 + i)) (sln.getD i 0) (fun j => .int ((sbt.getD i []).getD j 0)) A U H
theorem skS.moved {ka : Nat → Nat} {A : Nat → Prop} {u U : State} {H : Heap} (hvm : u.vm.Alike U.vm) (h : skS ka A u H) : skS ka A U H := fun i hi => ⟨va_O.moved hvm (h i hi).1, va_OF.moved hvm (h i hi).2.1, va_OF.moved hvm (h i hi).2.2.1, va_T.moved hvm (h i hi).2.2.2⟩
theorem skS.kept {ka : Nat → Nat} {A : Nat → Prop} {U : State} {H H1 : Heap} (h : skS ka A U H) (hq : ∀ a : Nat, a < H.size → ¬ A a → H1[a]? = H[a]?) : skS ka A U H1 := fun i hi => ⟨(h i hi).1.kept hq, (h i hi).2.1.kept hq, (h i hi).2.2.1.kept hq, (h i hi).2.2.2.kept hq⟩
theorem skS.narrow {ka : Nat → Nat} {A B : Nat → Prop} {U : State} {H : Heap} (h : skS ka A U H) (hAB : ∀ q, B q → A q) : skS ka B U H := fun i hi => ⟨(h i hi).1.narrow hAB, (h i hi).2.1.narrow hAB, (h i hi).2.2.1.narrow hAB, (h i hi).2.2.2.narrow hAB⟩
/-- the law's script -/
def scZ (ka : Nat → Nat) (A : Nat → Prop) (U : State) (H : Heap) : Prop := ∃ (L : Nat) (xs : Nat → Int32), L ≤ 260 ∧ va_T .int (ka 4) L (fun j => .int (xs j)) A U H
theorem scZ.moved {ka : Nat → Nat} {A : Nat → Prop} {u U : State} {H : Heap} (hvm : u.vm.Alike U.vm) (h : scZ ka A u H) : scZ ka A U H := by
  obtain ⟨L, xs, hL, hT⟩ := h
  exact ⟨L, xs, hL, va_T.moved hvm hT⟩
theorem scZ.kept {ka : Nat → Nat} {A : Nat → Prop} {U : State} {H H1 : Heap} (h : scZ ka A U H) (hq : ∀ a : Nat, a < H.size → ¬ A a → H1[a]? = H[a]?) : scZ ka A U H1 := by
  obtain ⟨L, xs, hL, hT⟩ := h
  exact ⟨L, xs, hL, hT.kept hq⟩
theorem scZ.narrow {ka : Nat → Nat} {A B : Nat → Prop} {U : State} {H : Heap} (h : scZ ka A U H) (hAB : ∀ q, B q → A q) : scZ ka B U H := by
  obtain ⟨L, xs, hL, hT⟩ := h
  exact ⟨L, xs, hL, hT.narrow hAB⟩
/-- what the constants' cells hold. ka: 0 DigitOnes, 1 DigitTens, 2 ALL, 3 the switch's table, 10 .. the verbs, 20 .. the texts, 50 .. their bytes -/
def HC (ka : Nat → Nat) (A : Nat → Prop) (U : State) (H : Heap) : Prop :=
  vx_Zq Bundle.tN "UNASSIGNED_STACK" Bundle.steD A U H ∧ vx_Zq Bundle.tN "SUPPRESSED_SENTINEL" Bundle.listD A U H ∧ va_Z "java/lang/String" "COMPACT_STRINGS" "Z" (.int 1) A U H ∧
  (va_Z "java/lang/Integer" "DigitOnes" "[B" (.ref (ka 0)) A U H ∧ va_T .byte (ka 0) 100 (fun j => .int (zI (48 + (j : Int) % 10))) A U H) ∧
  (va_Z "java/lang/Integer" "DigitTens" "[B" (.ref (ka 1)) A U H ∧ va_T .byte (ka 1) 100 (fun j => .int (zI (48 + (j : Int) / 10))) A U H) ∧
  (va_Z "BenchBroker$Verb" "ALL" "[LBenchBroker$Verb;" (.ref (ka 2)) A U H ∧ va_T (.object "BenchBroker$Verb") (ka 2) 10 (fun j => .ref (ka (10 + j))) A U H) ∧
  (va_Z "BenchBroker$1" "$SwitchMap$BenchBroker$Verb" "[I" (.ref (ka 3)) A U H ∧ va_T .int (ka 3) 10 (fun j => .int (zI ((j : Int) + 1))) A U H) ∧
  (∀ j : Nat, j < 10 → va_O "BenchBroker$Verb" (ka (10 + j)) A U H ∧ va_OF "BenchBroker$Verb" "word" "Ljava/lang/String;" (.ref (ka (20 + j))) (ka (10 + j)) A U H ∧ va_OF "BenchBroker$Verb" "argumentCount" "I" (.int (vbN j)) (ka (10 + j)) A U H ∧ va_OF "BenchBroker$Verb" "endsInNumber" "Z" (.int (vbE j)) (ka (10 + j)) A U H ∧ va_OF "java/lang/Enum" "ordinal" "I" (.int (zI j)) (ka (10 + j)) A U H) ∧
  skS ka A U H ∧ va_Z "BenchBroker$Verb" "BENCH" "LBenchBroker$Verb;" (.ref (ka 10)) A U H ∧ va_Zq "jdk/internal/util/Preconditions" "SIOOBE_FORMATTER" "Ljava/util/function/BiFunction;" A U H ∧ scZ ka A U H
theorem HC.moved {ka : Nat → Nat} {A : Nat → Prop} {u U : State} {H : Heap} (hvm : u.vm.Alike U.vm) (h : HC ka A u H) : HC ka A U H := by
  obtain ⟨h1, h2, h3, ⟨h4, h5⟩, ⟨h6, h7⟩, ⟨h8, h9⟩, ⟨h10, h11⟩, h12, h13, h14, h15, h16⟩ := h
  exact ⟨vx_Zq.moved hvm h1, vx_Zq.moved hvm h2, va_Z.moved hvm h3, ⟨va_Z.moved hvm h4, va_T.moved hvm h5⟩, ⟨va_Z.moved hvm h6, va_T.moved hvm h7⟩, ⟨va_Z.moved hvm h8, va_T.moved hvm h9⟩, ⟨va_Z.moved hvm h10, va_T.moved hvm h11⟩,
    fun j hj => ⟨va_O.moved hvm (h12 j hj).1, va_OF.moved hvm (h12 j hj).2.1, va_OF.moved hvm (h12 j hj).2.2.1, va_OF.moved hvm (h12 j hj).2.2.2.1, va_OF.moved hvm (h12 j hj).2.2.2.2⟩, skS.moved hvm h13, va_Z.moved hvm h14, va_Zq.moved hvm h15, scZ.moved hvm h16⟩
theorem HC.kept {ka : Nat → Nat} {A : Nat → Prop} {U : State} {H H1 : Heap} (h : HC ka A U H) (hq : ∀ a : Nat, a < H.size → ¬ A a → H1[a]? = H[a]?) : HC ka A U H1 := by
  obtain ⟨h1, h2, h3, ⟨h4, h5⟩, ⟨h6, h7⟩, ⟨h8, h9⟩, ⟨h10, h11⟩, h12, h13, h14, h15, h16⟩ := h
  exact ⟨h1.kept hq, h2.kept hq, h3.kept hq, ⟨h4.kept hq, h5.kept hq⟩, ⟨h6.kept hq, h7.kept hq⟩, ⟨h8.kept hq, h9.kept hq⟩, ⟨h10.kept hq, h11.kept hq⟩,
    fun j hj => ⟨(h12 j hj).1.kept hq, (h12 j hj).2.1.kept hq, (h12 j hj).2.2.1.kept hq, (h12 j hj).2.2.2.1.kept hq, (h12 j hj).2.2.2.2.kept hq⟩, h13.kept hq, h14.kept hq, h15.kept hq, h16.kept hq⟩
theorem HC.narrow {ka : Nat → Nat} {A B : Nat → Prop} {U : State} {H : Heap} (h : HC ka A U H) (hAB : ∀ q, B q → A q) : HC ka B U H := by
  obtain ⟨h1, h2, h3, ⟨h4, h5⟩, ⟨h6, h7⟩, ⟨h8, h9⟩, ⟨h10, h11⟩, h12, h13, h14, h15, h16⟩ := h
  exact ⟨h1.narrow hAB, h2.narrow hAB, h3.narrow hAB, ⟨h4.narrow hAB, h5.narrow hAB⟩, ⟨h6.narrow hAB, h7.narrow hAB⟩, ⟨h8.narrow hAB, h9.narrow hAB⟩, ⟨h10.narrow hAB, h11.narrow hAB⟩,
    fun j hj => ⟨(h12 j hj).1.narrow hAB, (h12 j hj).2.1.narrow hAB, (h12 j hj).2.2.1.narrow hAB, (h12 j hj).2.2.2.1.narrow hAB, (h12 j hj).2.2.2.2.narrow hAB⟩, h13.narrow hAB, h14.narrow hAB, h15.narrow hAB, h16.narrow hAB⟩
/-- the law's texts, as its class resolves them -/
def MR (ka : Nat → Nat) (U : State) : Prop := vk_R "BenchBrokerLaw" 298 "limit " (ka (20 + 21)) U ∧ vk_R "BenchBrokerLaw" 307 ";lease " (ka (20 + 22)) U ∧ vk_R "BenchBrokerLaw" 309 " " (ka (20 + 10)) U ∧ vk_R "BenchBrokerLaw" 311 " 3" (ka (20 + 23)) U ∧ vk_R "BenchBrokerLaw" 317 ";pass 1" (ka (20 + 24)) U ∧ vk_R "BenchBrokerLaw" 319 ";end " (ka (20 + 25)) U ∧ vk_R "BenchBrokerLaw" 321 ";" (ka (20 + 26)) U
theorem MR.warm {ka : Nat → Nat} {s U : State} (hW : s.WarmedH U.vm) (h : MR ka s) : MR ka U := by
  obtain ⟨h0, h1, h2, h3, h4, h5, h6⟩ := h
  exact ⟨h0.warm hW, h1.warm hW, h2.warm hW, h3.warm hW, h4.warm hW, h5.warm hW, h6.warm hW⟩
def KC (ka : Nat → Nat) (A : Nat → Prop) (U : State) (H : Heap) : Prop := (∀ w ∈ NW, va_Nw w U) ∧ (∀ q ∈ NC, va_Nc q.1 q.2 U) ∧ MR ka U ∧ HC ka A U H
theorem KC.warm {ka : Nat → Nat} {A : Nat → Prop} {s U : State} {H : Heap} (hW : s.WarmedH U.vm) (h : KC ka A s H) : KC ka A U H :=
  ⟨fun w hw => NW_warm (NW_b w hw) hW (h.1 w hw), fun q hq => (h.2.1 q hq).moved hW.alike, h.2.2.1.warm hW, h.2.2.2.moved hW.alike⟩
theorem KC.same {ka : Nat → Nat} {A : Nat → Prop} {s U : State} {H : Heap} (hvm : s.vm = U.vm) (h : KC ka A s H) : KC ka A U H := KC.warm (show s.WarmedH U.vm by rw [← hvm]; exact State.WarmedH.refl s) h
theorem KC.kept {ka : Nat → Nat} {A : Nat → Prop} {U : State} {H H1 : Heap} (h : KC ka A U H) (hq : ∀ a : Nat, a < H.size → ¬ A a → H1[a]? = H[a]?) : KC ka A U H1 := ⟨h.1, h.2.1, h.2.2.1, h.2.2.2.kept hq⟩
theorem KC.narrow {ka : Nat → Nat} {A B : Nat → Prop} {U : State} {H : Heap} (h : KC ka A U H) (hAB : ∀ q, B q → A q) : KC ka B U H := ⟨h.1, h.2.1, h.2.2.1, h.2.2.2.narrow hAB⟩
/-- what a method asks that needs the constants -/
def rdK (dg : va_G) (ck : Nat → ClassId) (ka : Nat → Nat) (ws : va_W) : State → Prop := fun U => (va_P dg vwCl ws U.heap ∧ va_K dg vwCl (TY ck) U) ∧ KC ka (fun _ => False) U U.heap
def wrK (dg : va_G) (ck : Nat → ClassId) (ka : Nat → Nat) (sz : Nat) (ws : va_W) : State → Prop := fun U => wrP dg ck sz ws U ∧ KC ka (va_A ws sz) U U.heap
theorem rdK_blind {dg : va_G} {ck : Nat → ClassId} {ka : Nat → Nat} {ws : va_W} {As : List Value} : FrameBlind (va_Pc As (rdK dg ck ka ws)) := fun a U g mk q => by
  obtain ⟨q0, ⟨qP, qK⟩, qC⟩ := q
  exact ⟨q0, ⟨qP, va_K.moved (u := U) (U := U.calling g mk a) (Vm.Alike.refl U.vm) qK⟩, KC.same (s := U) (U := U.calling g mk a) rfl qC⟩
theorem wrK_blind {dg : va_G} {ck : Nat → ClassId} {ka : Nat → Nat} {sz : Nat} {ws : va_W} {As : List Value} : FrameBlind (va_Pc As (wrK dg ck ka sz ws)) := fun a U g mk q => by
  obtain ⟨q0, ⟨q1, qP, qK, qD⟩, qC⟩ := q
  exact ⟨q0, ⟨q1, qP, va_K.moved (u := U) (U := U.calling g mk a) (Vm.Alike.refl U.vm) qK, qD⟩, KC.same (s := U) (U := U.calling g mk a) rfl qC⟩
theorem KC.at {ka : Nat → Nat} {A B : Nat → Prop} {s U : State} {H : Heap} {locs : List Loc} (hC : KC ka A s s.heap) (hS : va_S A s.heap H locs) (hAB : ∀ q, B q → A q) (hU : U.heap = H) (hW : s.WarmedH U.vm) : KC ka B U U.heap := by
  rw [hU]
  exact KC.narrow (KC.warm hW (hC.kept hS.2.1)) hAB
theorem rdK_preR {dg : va_G} {ck : Nat → ClassId} {ka : Nat → Nat} {A : Nat → Prop} {ws : va_W} {b : Nat} {As : List Value} {s : State} {H : Heap} {locs : List Loc} {C : String} (hK : va_K dg vwCl (TY ck) s) (hP : va_P dg vwCl ws H) (hC : KC ka A s s.heap) (hS : va_S A s.heap H locs) (hr : ∃ cell : Cell, H[b]? = some cell ∧ cell.vm.isStatics = false ∧ s.vm.findClass C = some cell.cls) : PreV s H C b (va_Pc (.ref b :: As) (rdK dg ck ka ws)) As :=
  ⟨rdK_blind, hr, fun U hU hW => ⟨rfl, ⟨by rw [hU]; exact hP, va_K.moved hW.alike hK⟩, hC.at hS (fun _ h => h.elim) hU hW⟩⟩
theorem rdK_preV {dg : va_G} {ck : Nat → ClassId} {ka : Nat → Nat} {A : Nat → Prop} {ws : va_W} {b : Nat} {As : List Value} {s : State} {H : Heap} {locs : List Loc} {q : vw_C} (hK : va_K dg vwCl (TY ck) s) (hP : va_P dg vwCl ws H) (hC : KC ka A s s.heap) (hS : va_S A s.heap H locs) (q0 ci : Nat) {fs : List Value} (hc : vwCl[ci]? = some q) (he : ws[q0]? = some (b, .inr (ci, fs))) : PreV s H q.1 b (va_Pc (.ref b :: As) (rdK dg ck ka ws)) As :=
  rdK_preR hK hP hC hS (va_recv hK hP hc he)
theorem rdK_preS {dg : va_G} {ck : Nat → ClassId} {ka : Nat → Nat} {A : Nat → Prop} {ws : va_W} {As : List Value} {s : State} {H : Heap} {locs : List Loc} (hK : va_K dg vwCl (TY ck) s) (hP : va_P dg vwCl ws H) (hC : KC ka A s s.heap) (hS : va_S A s.heap H locs) : PreS s H (va_Pc As (rdK dg ck ka ws)) As :=
  ⟨rdK_blind, fun U hU hW => ⟨rfl, ⟨by rw [hU]; exact hP, va_K.moved hW.alike hK⟩, hC.at hS (fun _ h => h.elim) hU hW⟩⟩
theorem wrK_preV {dg : va_G} {ck : Nat → ClassId} {ka : Nat → Nat} {A : Nat → Prop} {ws : va_W} {b : Nat} {As : List Value} {s : State} {H : Heap} {locs : List Loc} {q : vw_C} (hK : va_K dg vwCl (TY ck) s) (hP : va_P dg vwCl ws H) (hD : va_D A ws) (hC : KC ka A s s.heap) (hS : va_S A s.heap H locs) (hA : ∀ q, s.heap.size ≤ q → A q) (q0 ci : Nat) {fs : List Value} (hc : vwCl[ci]? = some q) (he : ws[q0]? = some (b, .inr (ci, fs))) : PreV s H q.1 b (va_Pc (.ref b :: As) (wrK dg ck ka H.size ws)) As :=
  ⟨wrK_blind, va_recv hK hP hc he, fun U hU hW => ⟨rfl, ⟨by rw [hU], by rw [hU]; exact hP, va_K.moved hW.alike hK, hD.weaken (fun _ _ _ _ => trivial)⟩, hC.at hS (fr_F1 hD hS hA) hU hW⟩⟩
theorem wrK_preS {dg : va_G} {ck : Nat → ClassId} {ka : Nat → Nat} {A : Nat → Prop} {ws : va_W} {As : List Value} {s : State} {H : Heap} {locs : List Loc} (hK : va_K dg vwCl (TY ck) s) (hP : va_P dg vwCl ws H) (hD : va_D A ws) (hC : KC ka A s s.heap) (hS : va_S A s.heap H locs) (hA : ∀ q, s.heap.size ≤ q → A q) : PreS s H (va_Pc As (wrK dg ck ka H.size ws)) As :=
  ⟨wrK_blind, fun U hU hW => ⟨rfl, ⟨by rw [hU], by rw [hU]; exact hP, va_K.moved hW.alike hK, hD.weaken (fun _ _ _ _ => trivial)⟩, hC.at hS (fr_F1 hD hS hA) hU hW⟩⟩
