/-! the constants at the start -/
def FL : List Cond := flatC (Cond.and given_1 narrow_1)
theorem tl_1 {w : Cond} (i : Nat) (h : tables_1_1[i]? = some w) : w ∈ lw_tbl := List.mem_append_right _ (by have h := List.mem_of_getElem? h; exact List.mem_append_left _ h)
theorem tl_2 {w : Cond} (i : Nat) (h : tables_1_2[i]? = some w) : w ∈ lw_tbl := List.mem_append_right _ (by have h := List.mem_of_getElem? h; exact List.mem_append_right _ (List.mem_append_left _ h))
theorem tl_3 {w : Cond} (i : Nat) (h : tables_1_3[i]? = some w) : w ∈ lw_tbl := List.mem_append_right _ (by have h := List.mem_of_getElem? h; exact List.mem_append_right _ (List.mem_append_right _ (List.mem_append_left _ h)))
theorem tl_4 {w : Cond} (i : Nat) (h : tables_1_4[i]? = some w) : w ∈ lw_tbl := List.mem_append_right _ (by have h := List.mem_of_getElem? h; exact List.mem_append_right _ (List.mem_append_right _ (List.mem_append_right _ (List.mem_append_left _ h))))
theorem tl_5 {w : Cond} (i : Nat) (h : tables_1_5[i]? = some w) : w ∈ lw_tbl := List.mem_append_right _ (by have h := List.mem_of_getElem? h; exact List.mem_append_right _ (List.mem_append_right _ (List.mem_append_right _ (List.mem_append_right _ (List.mem_append_left _ h)))))
theorem tl_6 {w : Cond} (i : Nat) (h : tables_1_6[i]? = some w) : w ∈ lw_tbl := List.mem_append_right _ (by have h := List.mem_of_getElem? h; exact List.mem_append_right _ (List.mem_append_right _ (List.mem_append_right _ (List.mem_append_right _ (List.mem_append_right _ (List.mem_append_left _ h))))))
theorem tl_7 {w : Cond} (i : Nat) (h : tables_1_7[i]? = some w) : w ∈ lw_tbl := List.mem_append_right _ (by have h := List.mem_of_getElem? h; exact List.mem_append_right _ (List.mem_append_right _ (List.mem_append_right _ (List.mem_append_right _ (List.mem_append_right _ (List.mem_append_right _ (h)))))))
def vnm : List String := ["BENCH", "FOUNTAIN", "TENANT", "GIVE", "LEASE", "END", "RENEW", "SWITCH", "LIMIT", "PASS"]
abbrev tmV (j : Nat) : Term := Term.static "BenchBroker$Verb" (vnm.getD j "") "LBenchBroker$Verb;"
def tms : List (String × Nat) := [("BenchBroker$Verb", 66), ("BenchBroker$Verb", 72), ("BenchBroker$Verb", 75), ("BenchBroker$Verb", 78), ("BenchBroker$Verb", 81), ("BenchBroker$Verb", 84), ("BenchBroker$Verb", 87), ("BenchBroker$Verb", 90), ("BenchBroker$Verb", 93), ("BenchBroker$Verb", 96), ("BenchBrokerLaw", 309), ("", 0), ("", 0), ("", 0), ("", 0), ("", 0), ("", 0), ("", 0), ("", 0), ("", 0), ("", 0), ("BenchBrokerLaw", 298), ("BenchBrokerLaw", 307), ("BenchBrokerLaw", 311), ("BenchBrokerLaw", 317), ("BenchBrokerLaw", 319), ("BenchBrokerLaw", 321)]
abbrev tmS (i : Nat) : Term := Term.string (tms.getD i ("", 0)).1 (tms.getD i ("", 0)).2
abbrev tmB (i : Nat) : Term := Term.field (tmS i) "java/lang/String" "value" "[B"
abbrev tmO : Term := Term.static "java/lang/Integer" "DigitOnes" "[B"
abbrev tmT : Term := Term.static "java/lang/Integer" "DigitTens" "[B"
abbrev tmA : Term := Term.static "BenchBroker$Verb" "ALL" "[LBenchBroker$Verb;"
abbrev tmW : Term := Term.static "BenchBroker$1" "$SwitchMap$BenchBroker$Verb" "[I"
def kcE (t : Term) (N : Nat) (f : Nat → Term) : List Cond := (List.range N).map (fun j => Cond.eq (.elem t (.int (Int32.ofNat j))) (f j))
def kcS (i : Nat) : List Cond := [Cond.exactly (tmS i) "java/lang/String", Cond.eq (.field (tmS i) "java/lang/String" "coder" "B") (.int 0), Cond.arrayOf (tmB i) .byte, Cond.eq (.length (tmB i)) (.int (Int32.ofNat (sln.getD i 0)))] ++ kcE (tmB i) (sln.getD i 0) (fun j => .int ((sbt.getD i []).getD j 0))
def kcV (j : Nat) : List Cond := [Cond.exactly (tmV j) "BenchBroker$Verb", Cond.eq (.field (tmV j) "java/lang/Enum" "ordinal" "I") (.int (zI (j : Int))), Cond.eq (.field (tmV j) "BenchBroker$Verb" "word" "Ljava/lang/String;") (tmS j), Cond.eq (.field (tmV j) "BenchBroker$Verb" "argumentCount" "I") (.int (vbN j)), Cond.eq (.field (tmV j) "BenchBroker$Verb" "endsInNumber" "Z") (.int (vbE j))]
def kcA (t : Term) (ty : FieldType) (N : Nat) (f : Nat → Term) : List Cond := [Cond.arrayOf t ty, Cond.eq (.length t) (.int (Int32.ofNat N))] ++ kcE t N f
theorem kcS_m : ∀ i, i < 27 → okS i → (kcS i).Sublist FL := by decide +kernel
theorem kcV_m : ∀ j, j < 10 → (kcV j).Sublist FL := by decide +kernel
theorem kcO_m : (kcA tmO .byte 100 (fun j => .int (zI (48 + (j : Int) % 10)))).Sublist FL := by decide +kernel
theorem kcT_m : (kcA tmT .byte 100 (fun j => .int (zI (48 + (j : Int) / 10)))).Sublist FL := by decide +kernel
theorem kcA_m : (kcA tmA (.object "BenchBroker$Verb") 10 (fun j => tmV j)).Sublist FL := by decide +kernel
theorem kcW_m : (kcA tmW .int 10 (fun j => .int (zI ((j : Int) + 1)))).Sublist FL := by decide +kernel
theorem kc1_m : [Cond.eq (.static "java/lang/String" "COMPACT_STRINGS" "Z") (.int 1), Cond.isRef (.static "java/lang/Throwable" "UNASSIGNED_STACK" "[Ljava/lang/StackTraceElement;"), Cond.isRef (.static "java/lang/Throwable" "SUPPRESSED_SENTINEL" "Ljava/util/List;"), Cond.isRef (.static "jdk/internal/util/Preconditions" "SIOOBE_FORMATTER" "Ljava/util/function/BiFunction;")].Sublist FL := by decide +kernel
theorem kcN_m : ∀ q ∈ NC, Cond.not (.castable q.1 q.2) ∈ FL := by decide +kernel
theorem kcW_t : ∀ w ∈ NW.drop 4, w ∈ tables_1 := by decide +kernel
