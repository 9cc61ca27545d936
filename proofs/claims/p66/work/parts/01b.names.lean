/-! names (printed by program out of the claim's own listing), and the words of the tables as members of one list GW -/
def RX0 : String := "BenchBroker$1"
def TX0 : u_T := fun k => match k with
  | _ => ("", "", "", false)
def tyX0 : Nat → FieldType := fun k => match k with
  | _ => .int
theorem nmX0 : ∀ a, a < 0 → ∀ b, b < 0 → a ≠ b → (TX0 a).2.1 ≠ (TX0 b).2.1 := by decide +kernel
theorem tyX0_ok : ∀ k, k < 0 → parseFieldDescriptor (TX0 k).2.2.1 = some (tyX0 k) := by decide +kernel
def RX1 : String := "BenchBroker$Books"
def TX1 : u_T := fun k => match k with
  | 0 => ("BenchBroker$Books", "park", "LBenchBroker$Park;", true)
  | 1 => ("BenchBroker$Books", "tenantTotal", "I", false)
  | 2 => ("BenchBroker$Books", "coins", "[I", true)
  | 3 => ("BenchBroker$Books", "defaults", "[I", true)
  | 4 => ("BenchBroker$Books", "leaseTenant", "[I", true)
  | 5 => ("BenchBroker$Books", "leaseDeposit", "[I", true)
  | 6 => ("BenchBroker$Books", "leaseMonths", "[I", true)
  | 7 => ("BenchBroker$Books", "monthsPassed", "I", false)
  | 8 => ("BenchBroker$Books", "brokerPurse", "I", false)
  | 9 => ("BenchBroker$Books", "coinsGiven", "I", false)
  | 10 => ("BenchBroker$Books", "defaulted", "I", false)
  | 11 => ("BenchBroker$Books", "terminated", "I", false)
  | _ => ("BenchBroker$Books", "completed", "I", false)
def tyX1 : Nat → FieldType := fun k => match k with
  | 0 => .object "BenchBroker$Park"
  | 1 => .int
  | 2 => .array .int
  | 3 => .array .int
  | 4 => .array .int
  | 5 => .array .int
  | 6 => .array .int
  | 7 => .int
  | 8 => .int
  | 9 => .int
  | 10 => .int
  | 11 => .int
  | _ => .int
theorem nmX1 : ∀ a, a < 13 → ∀ b, b < 13 → a ≠ b → (TX1 a).2.1 ≠ (TX1 b).2.1 := by decide +kernel
theorem tyX1_ok : ∀ k, k < 13 → parseFieldDescriptor (TX1 k).2.2.1 = some (tyX1 k) := by decide +kernel
abbrev cX1_init : ByteArray := prog_3_method_1_code
def yX1_init : MethodName := ⟨RX1, "<init>", "()V"⟩
abbrev cX1_isTerm : ByteArray := prog_3_method_2_code
def yX1_isTerm : MethodName := ⟨RX1, "isTerm", "(I)Z"⟩
abbrev cX1_hasTenant : ByteArray := prog_3_method_3_code
def yX1_hasTenant : MethodName := ⟨RX1, "hasTenant", "(I)Z"⟩
abbrev cX1_leased : ByteArray := prog_3_method_4_code
def yX1_leased : MethodName := ⟨RX1, "leased", "(I)Z"⟩
abbrev cX1_leasedBench : ByteArray := prog_3_method_5_code
def yX1_leasedBench : MethodName := ⟨RX1, "leasedBench", "(I)I"⟩
abbrev cX1_enrol : ByteArray := prog_3_method_6_code
def yX1_enrol : MethodName := ⟨RX1, "enrol", "(ILBenchBroker$Outcome;)V"⟩
abbrev cX1_endow : ByteArray := prog_3_method_7_code
def yX1_endow : MethodName := ⟨RX1, "endow", "(IILBenchBroker$Outcome;)V"⟩
abbrev cX1_leaseObstacle : ByteArray := prog_3_method_8_code
def yX1_leaseObstacle : MethodName := ⟨RX1, "leaseObstacle", "(II)I"⟩
abbrev cX1_obstacleDetail : ByteArray := prog_3_method_9_code
def yX1_obstacleDetail : MethodName := ⟨RX1, "obstacleDetail", "(III)I"⟩
abbrev cX1_cheapestBench : ByteArray := prog_3_method_10_code
def yX1_cheapestBench : MethodName := ⟨RX1, "cheapestBench", "(I)I"⟩
abbrev cX1_sign : ByteArray := prog_3_method_11_code
def yX1_sign : MethodName := ⟨RX1, "sign", "(IIILBenchBroker$Outcome;)V"⟩
abbrev cX1_breakOff : ByteArray := prog_3_method_12_code
def yX1_breakOff : MethodName := ⟨RX1, "breakOff", "(ILBenchBroker$Outcome;)V"⟩
abbrev cX1_extend : ByteArray := prog_3_method_13_code
def yX1_extend : MethodName := ⟨RX1, "extend", "(IILBenchBroker$Outcome;)V"⟩
abbrev cX1_closeLease : ByteArray := prog_3_method_14_code
def yX1_closeLease : MethodName := ⟨RX1, "closeLease", "(II)V"⟩
abbrev cX1_elapse : ByteArray := prog_3_method_15_code
def yX1_elapse : MethodName := ⟨RX1, "elapse", "(ILBenchBroker$Outcome;)V"⟩
abbrev cX1_endsThisMonth : ByteArray := prog_3_method_16_code
def yX1_endsThisMonth : MethodName := ⟨RX1, "endsThisMonth", "(I)Z"⟩
abbrev cX1_payableMonths : ByteArray := prog_3_method_17_code
def yX1_payableMonths : MethodName := ⟨RX1, "payableMonths", "(I)I"⟩
abbrev cX1_leaseIncome : ByteArray := prog_3_method_18_code
def yX1_leaseIncome : MethodName := ⟨RX1, "leaseIncome", "(I)I"⟩
abbrev cX1_incomeFrom : ByteArray := prog_3_method_19_code
def yX1_incomeFrom : MethodName := ⟨RX1, "incomeFrom", "(II)I"⟩
abbrev cX1_deposits : ByteArray := prog_3_method_20_code
def yX1_deposits : MethodName := ⟨RX1, "deposits", "()I"⟩
abbrev cX1_coinsAround : ByteArray := prog_3_method_21_code
def yX1_coinsAround : MethodName := ⟨RX1, "coinsAround", "()I"⟩
abbrev cX1_someTenantHasTwoBenches : ByteArray := prog_3_method_22_code
def yX1_someTenantHasTwoBenches : MethodName := ⟨RX1, "someTenantHasTwoBenches", "()Z"⟩
abbrev cX1_benchesAhead : ByteArray := prog_3_method_23_code
def yX1_benchesAhead : MethodName := ⟨RX1, "benchesAhead", "(I)I"⟩
abbrev cX1_benchComesFirst : ByteArray := prog_3_method_24_code
def yX1_benchComesFirst : MethodName := ⟨RX1, "benchComesFirst", "(II)Z"⟩
abbrev cX1_tenantsAhead : ByteArray := prog_3_method_25_code
def yX1_tenantsAhead : MethodName := ⟨RX1, "tenantsAhead", "(I)I"⟩
abbrev cX1_tenantComesFirst : ByteArray := prog_3_method_26_code
def yX1_tenantComesFirst : MethodName := ⟨RX1, "tenantComesFirst", "(II)Z"⟩
abbrev cX1_copyFrom : ByteArray := prog_3_method_27_code
def yX1_copyFrom : MethodName := ⟨RX1, "copyFrom", "(LBenchBroker$Books;)V"⟩
def RX2 : String := "BenchBroker$History"
def TX2 : u_T := fun k => match k with
  | 0 => ("BenchBroker$History", "ring", "[LBenchBroker$Books;", true)
  | 1 => ("BenchBroker$History", "next", "I", false)
  | _ => ("BenchBroker$History", "size", "I", false)
def tyX2 : Nat → FieldType := fun k => match k with
  | 0 => .array (.object "BenchBroker$Books")
  | 1 => .int
  | _ => .int
theorem nmX2 : ∀ a, a < 3 → ∀ b, b < 3 → a ≠ b → (TX2 a).2.1 ≠ (TX2 b).2.1 := by decide +kernel
theorem tyX2_ok : ∀ k, k < 3 → parseFieldDescriptor (TX2 k).2.2.1 = some (tyX2 k) := by decide +kernel
abbrev cX2_init : ByteArray := prog_4_method_1_code
def yX2_init : MethodName := ⟨RX2, "<init>", "()V"⟩
abbrev cX2_remember : ByteArray := prog_4_method_2_code
def yX2_remember : MethodName := ⟨RX2, "remember", "(LBenchBroker$Books;)V"⟩
abbrev cX2_takeBack : ByteArray := prog_4_method_3_code
def yX2_takeBack : MethodName := ⟨RX2, "takeBack", "(LBenchBroker$Books;)V"⟩
def RX3 : String := "BenchBroker$Input"
def TX3 : u_T := fun k => match k with
  | 0 => ("BenchBroker$Input", "text", "[C", true)
  | 1 => ("BenchBroker$Input", "length", "I", false)
  | 2 => ("BenchBroker$Input", "position", "I", false)
  | 3 => ("BenchBroker$Input", "verb", "LBenchBroker$Verb;", false)
  | _ => ("BenchBroker$Input", "arguments", "[I", true)
def tyX3 : Nat → FieldType := fun k => match k with
  | 0 => .array .char
  | 1 => .int
  | 2 => .int
  | 3 => .object "BenchBroker$Verb"
  | _ => .array .int
theorem nmX3 : ∀ a, a < 5 → ∀ b, b < 5 → a ≠ b → (TX3 a).2.1 ≠ (TX3 b).2.1 := by decide +kernel
theorem tyX3_ok : ∀ k, k < 5 → parseFieldDescriptor (TX3 k).2.2.1 = some (tyX3 k) := by decide +kernel
abbrev cX3_init : ByteArray := prog_5_method_1_code
def yX3_init : MethodName := ⟨RX3, "<init>", "()V"⟩
abbrev cX3_countCommands : ByteArray := prog_5_method_2_code
def yX3_countCommands : MethodName := ⟨RX3, "countCommands", "()I"⟩
abbrev cX3_readCommand : ByteArray := prog_5_method_3_code
def yX3_readCommand : MethodName := ⟨RX3, "readCommand", "()Z"⟩
abbrev cX3_readSign : ByteArray := prog_5_method_4_code
def yX3_readSign : MethodName := ⟨RX3, "readSign", "(C)Z"⟩
abbrev cX3_readWord : ByteArray := prog_5_method_5_code
def yX3_readWord : MethodName := ⟨RX3, "readWord", "()Z"⟩
abbrev cX3_matchingLetters : ByteArray := prog_5_method_6_code
def yX3_matchingLetters : MethodName := ⟨RX3, "matchingLetters", "(Ljava/lang/String;)I"⟩
abbrev cX3_readArguments : ByteArray := prog_5_method_7_code
def yX3_readArguments : MethodName := ⟨RX3, "readArguments", "()Z"⟩
abbrev cX3_atDigit : ByteArray := prog_5_method_8_code
def yX3_atDigit : MethodName := ⟨RX3, "atDigit", "()Z"⟩
abbrev cX3_readDigit : ByteArray := prog_5_method_9_code
def yX3_readDigit : MethodName := ⟨RX3, "readDigit", "()I"⟩
def RX4 : String := "BenchBroker$NoiseMap"
def TX4 : u_T := fun k => match k with
  | 0 => ("BenchBroker$NoiseMap", "total", "[I", true)
  | _ => ("BenchBroker$NoiseMap", "sound", "[I", true)
def tyX4 : Nat → FieldType := fun k => match k with
  | 0 => .array .int
  | _ => .array .int
theorem nmX4 : ∀ a, a < 2 → ∀ b, b < 2 → a ≠ b → (TX4 a).2.1 ≠ (TX4 b).2.1 := by decide +kernel
theorem tyX4_ok : ∀ k, k < 2 → parseFieldDescriptor (TX4 k).2.2.1 = some (tyX4 k) := by decide +kernel
abbrev cX4_init : ByteArray := prog_6_method_1_code
def yX4_init : MethodName := ⟨RX4, "<init>", "()V"⟩
abbrev cX4_spreadAll : ByteArray := prog_6_method_2_code
def yX4_spreadAll : MethodName := ⟨RX4, "spreadAll", "(LBenchBroker$Park;)V"⟩
abbrev cX4_spreadFrom : ByteArray := prog_6_method_3_code
def yX4_spreadFrom : MethodName := ⟨RX4, "spreadFrom", "(II)V"⟩
abbrev cX4_passOn : ByteArray := prog_6_method_4_code
def yX4_passOn : MethodName := ⟨RX4, "passOn", "(III)V"⟩
abbrev cX4_hear : ByteArray := prog_6_method_5_code
def yX4_hear : MethodName := ⟨RX4, "hear", "(III)V"⟩
abbrev cX4_addSound : ByteArray := prog_6_method_6_code
def yX4_addSound : MethodName := ⟨RX4, "addSound", "()V"⟩
def RX5 : String := "BenchBroker$Outcome"
def TX5 : u_T := fun k => match k with
  | 0 => ("BenchBroker$Outcome", "result", "I", false)
  | 1 => ("BenchBroker$Outcome", "value", "I", false)
  | 2 => ("BenchBroker$Outcome", "reason", "I", false)
  | _ => ("BenchBroker$Outcome", "detail", "I", false)
def tyX5 : Nat → FieldType := fun k => match k with
  | 0 => .int
  | 1 => .int
  | 2 => .int
  | _ => .int
theorem nmX5 : ∀ a, a < 4 → ∀ b, b < 4 → a ≠ b → (TX5 a).2.1 ≠ (TX5 b).2.1 := by decide +kernel
theorem tyX5_ok : ∀ k, k < 4 → parseFieldDescriptor (TX5 k).2.2.1 = some (tyX5 k) := by decide +kernel
abbrev cX5_init : ByteArray := prog_7_method_1_code
def yX5_init : MethodName := ⟨RX5, "<init>", "()V"⟩
abbrev cX5_succeed : ByteArray := prog_7_method_2_code
def yX5_succeed : MethodName := ⟨RX5, "succeed", "(I)V"⟩
abbrev cX5_missIndex : ByteArray := prog_7_method_3_code
def yX5_missIndex : MethodName := ⟨RX5, "missIndex", "()V"⟩
abbrev cX5_missNumber : ByteArray := prog_7_method_4_code
def yX5_missNumber : MethodName := ⟨RX5, "missNumber", "()V"⟩
abbrev cX5_reject : ByteArray := prog_7_method_5_code
def yX5_reject : MethodName := ⟨RX5, "reject", "(II)V"⟩
def RX6 : String := "BenchBroker$Park"
def TX6 : u_T := fun k => match k with
  | 0 => ("BenchBroker$Park", "benchTotal", "I", false)
  | 1 => ("BenchBroker$Park", "benchRow", "[I", true)
  | 2 => ("BenchBroker$Park", "benchColumn", "[I", true)
  | 3 => ("BenchBroker$Park", "benchBaseRent", "[I", true)
  | 4 => ("BenchBroker$Park", "fountainTotal", "I", false)
  | 5 => ("BenchBroker$Park", "fountainRow", "[I", true)
  | 6 => ("BenchBroker$Park", "fountainColumn", "[I", true)
  | 7 => ("BenchBroker$Park", "fountainLoudness", "[I", true)
  | 8 => ("BenchBroker$Park", "fountainRuns", "[Z", true)
  | _ => ("BenchBroker$Park", "limit", "I", false)
def tyX6 : Nat → FieldType := fun k => match k with
  | 0 => .int
  | 1 => .array .int
  | 2 => .array .int
  | 3 => .array .int
  | 4 => .int
  | 5 => .array .int
  | 6 => .array .int
  | 7 => .array .int
  | 8 => .array .boolean
  | _ => .int
theorem nmX6 : ∀ a, a < 10 → ∀ b, b < 10 → a ≠ b → (TX6 a).2.1 ≠ (TX6 b).2.1 := by decide +kernel
theorem tyX6_ok : ∀ k, k < 10 → parseFieldDescriptor (TX6 k).2.2.1 = some (tyX6 k) := by decide +kernel
abbrev cX6_init : ByteArray := prog_8_method_1_code
def yX6_init : MethodName := ⟨RX6, "<init>", "()V"⟩
abbrev cX6_hasCell : ByteArray := prog_8_method_2_code
def yX6_hasCell : MethodName := ⟨RX6, "hasCell", "(II)Z"⟩
abbrev cX6_hasBench : ByteArray := prog_8_method_3_code
def yX6_hasBench : MethodName := ⟨RX6, "hasBench", "(I)Z"⟩
abbrev cX6_hasFountain : ByteArray := prog_8_method_4_code
def yX6_hasFountain : MethodName := ⟨RX6, "hasFountain", "(I)Z"⟩
abbrev cX6_placeBench : ByteArray := prog_8_method_5_code
def yX6_placeBench : MethodName := ⟨RX6, "placeBench", "(IIILBenchBroker$Outcome;)V"⟩
abbrev cX6_changeRent : ByteArray := prog_8_method_6_code
def yX6_changeRent : MethodName := ⟨RX6, "changeRent", "(IILBenchBroker$Outcome;)V"⟩
abbrev cX6_placeFountain : ByteArray := prog_8_method_7_code
def yX6_placeFountain : MethodName := ⟨RX6, "placeFountain", "(IIILBenchBroker$Outcome;)V"⟩
abbrev cX6_changeLoudness : ByteArray := prog_8_method_8_code
def yX6_changeLoudness : MethodName := ⟨RX6, "changeLoudness", "(IILBenchBroker$Outcome;)V"⟩
abbrev cX6_toggle : ByteArray := prog_8_method_9_code
def yX6_toggle : MethodName := ⟨RX6, "toggle", "(ILBenchBroker$Outcome;)V"⟩
abbrev cX6_changeLimit : ByteArray := prog_8_method_10_code
def yX6_changeLimit : MethodName := ⟨RX6, "changeLimit", "(ILBenchBroker$Outcome;)V"⟩
abbrev cX6_holder : ByteArray := prog_8_method_11_code
def yX6_holder : MethodName := ⟨RX6, "holder", "(II)I"⟩
abbrev cX6_signAt : ByteArray := prog_8_method_12_code
def yX6_signAt : MethodName := ⟨RX6, "signAt", "(II)C"⟩
abbrev cX6_noise : ByteArray := prog_8_method_13_code
def yX6_noise : MethodName := ⟨RX6, "noise", "(II)I"⟩
abbrev cX6_rent : ByteArray := prog_8_method_14_code
def yX6_rent : MethodName := ⟨RX6, "rent", "(I)I"⟩
abbrev cX6_quiet : ByteArray := prog_8_method_15_code
def yX6_quiet : MethodName := ⟨RX6, "quiet", "(I)Z"⟩
abbrev cX6_copyFrom : ByteArray := prog_8_method_16_code
def yX6_copyFrom : MethodName := ⟨RX6, "copyFrom", "(LBenchBroker$Park;)V"⟩
def RX7 : String := "BenchBroker$Verb"
def TX7 : u_T := fun k => match k with
  | _ => ("", "", "", false)
def tyX7 : Nat → FieldType := fun k => match k with
  | _ => .int
theorem nmX7 : ∀ a, a < 0 → ∀ b, b < 0 → a ≠ b → (TX7 a).2.1 ≠ (TX7 b).2.1 := by decide +kernel
theorem tyX7_ok : ∀ k, k < 0 → parseFieldDescriptor (TX7 k).2.2.1 = some (tyX7 k) := by decide +kernel
def RX8 : String := "BenchBroker"
def TX8 : u_T := fun k => match k with
  | 0 => ("BenchBroker", "books", "LBenchBroker$Books;", true)
  | 1 => ("BenchBroker", "trial", "LBenchBroker$Books;", true)
  | 2 => ("BenchBroker", "history", "LBenchBroker$History;", true)
  | 3 => ("BenchBroker", "snapshot", "LBenchBroker$Books;", true)
  | 4 => ("BenchBroker", "hasSnapshot", "Z", false)
  | 5 => ("BenchBroker", "outcome", "LBenchBroker$Outcome;", true)
  | 6 => ("BenchBroker", "noiseMap", "LBenchBroker$NoiseMap;", true)
  | 7 => ("BenchBroker", "input", "LBenchBroker$Input;", true)
  | 8 => ("BenchBroker", "output", "Ljava/lang/StringBuilder;", true)
  | 9 => ("BenchBroker", "latestReason", "I", false)
  | 10 => ("BenchBroker", "latestDetail", "I", false)
  | 11 => ("BenchBroker", "latestCause", "I", false)
  | _ => ("BenchBroker", "latestSyntaxError", "I", false)
def tyX8 : Nat → FieldType := fun k => match k with
  | 0 => .object "BenchBroker$Books"
  | 1 => .object "BenchBroker$Books"
  | 2 => .object "BenchBroker$History"
  | 3 => .object "BenchBroker$Books"
  | 4 => .boolean
  | 5 => .object "BenchBroker$Outcome"
  | 6 => .object "BenchBroker$NoiseMap"
  | 7 => .object "BenchBroker$Input"
  | 8 => .object "java/lang/StringBuilder"
  | 9 => .int
  | 10 => .int
  | 11 => .int
  | _ => .int
theorem nmX8 : ∀ a, a < 13 → ∀ b, b < 13 → a ≠ b → (TX8 a).2.1 ≠ (TX8 b).2.1 := by decide +kernel
theorem tyX8_ok : ∀ k, k < 13 → parseFieldDescriptor (TX8 k).2.2.1 = some (tyX8 k) := by decide +kernel
abbrev cX8_init : ByteArray := prog_1_method_1_code
def yX8_init : MethodName := ⟨RX8, "<init>", "()V"⟩
abbrev cX8_addBench : ByteArray := prog_1_method_2_code
def yX8_addBench : MethodName := ⟨RX8, "addBench", "(III)I"⟩
abbrev cX8_setRent : ByteArray := prog_1_method_3_code
def yX8_setRent : MethodName := ⟨RX8, "setRent", "(II)I"⟩
abbrev cX8_addFountain : ByteArray := prog_1_method_4_code
def yX8_addFountain : MethodName := ⟨RX8, "addFountain", "(III)I"⟩
abbrev cX8_setLoudness : ByteArray := prog_1_method_5_code
def yX8_setLoudness : MethodName := ⟨RX8, "setLoudness", "(II)I"⟩
abbrev cX8_switchFountain : ByteArray := prog_1_method_6_code
def yX8_switchFountain : MethodName := ⟨RX8, "switchFountain", "(I)Z"⟩
abbrev cX8_setNoiseLimit : ByteArray := prog_1_method_7_code
def yX8_setNoiseLimit : MethodName := ⟨RX8, "setNoiseLimit", "(I)I"⟩
abbrev cX8_benchCount : ByteArray := prog_1_method_8_code
def yX8_benchCount : MethodName := ⟨RX8, "benchCount", "()I"⟩
abbrev cX8_rowOf : ByteArray := prog_1_method_9_code
def yX8_rowOf : MethodName := ⟨RX8, "rowOf", "(I)I"⟩
abbrev cX8_columnOf : ByteArray := prog_1_method_10_code
def yX8_columnOf : MethodName := ⟨RX8, "columnOf", "(I)I"⟩
abbrev cX8_baseRent : ByteArray := prog_1_method_11_code
def yX8_baseRent : MethodName := ⟨RX8, "baseRent", "(I)I"⟩
abbrev cX8_rentOf : ByteArray := prog_1_method_12_code
def yX8_rentOf : MethodName := ⟨RX8, "rentOf", "(I)I"⟩
abbrev cX8_fountainCount : ByteArray := prog_1_method_13_code
def yX8_fountainCount : MethodName := ⟨RX8, "fountainCount", "()I"⟩
abbrev cX8_loudnessOf : ByteArray := prog_1_method_14_code
def yX8_loudnessOf : MethodName := ⟨RX8, "loudnessOf", "(I)I"⟩
abbrev cX8_isRunning : ByteArray := prog_1_method_15_code
def yX8_isRunning : MethodName := ⟨RX8, "isRunning", "(I)Z"⟩
abbrev cX8_noiseLimit : ByteArray := prog_1_method_16_code
def yX8_noiseLimit : MethodName := ⟨RX8, "noiseLimit", "()I"⟩
abbrev cX8_noiseAt : ByteArray := prog_1_method_17_code
def yX8_noiseAt : MethodName := ⟨RX8, "noiseAt", "(II)I"⟩
abbrev cX8_noiseBySpreading : ByteArray := prog_1_method_18_code
def yX8_noiseBySpreading : MethodName := ⟨RX8, "noiseBySpreading", "(II)I"⟩
abbrev cX8_isQuiet : ByteArray := prog_1_method_19_code
def yX8_isQuiet : MethodName := ⟨RX8, "isQuiet", "(I)Z"⟩
abbrev cX8_quietCount : ByteArray := prog_1_method_20_code
def yX8_quietCount : MethodName := ⟨RX8, "quietCount", "()I"⟩
abbrev cX8_addTenant : ByteArray := prog_1_method_21_code
def yX8_addTenant : MethodName := ⟨RX8, "addTenant", "(I)I"⟩
abbrev cX8_giveCoins : ByteArray := prog_1_method_22_code
def yX8_giveCoins : MethodName := ⟨RX8, "giveCoins", "(II)I"⟩
abbrev cX8_tenantCount : ByteArray := prog_1_method_23_code
def yX8_tenantCount : MethodName := ⟨RX8, "tenantCount", "()I"⟩
abbrev cX8_coinsOf : ByteArray := prog_1_method_24_code
def yX8_coinsOf : MethodName := ⟨RX8, "coinsOf", "(I)I"⟩
abbrev cX8_defaultsOf : ByteArray := prog_1_method_25_code
def yX8_defaultsOf : MethodName := ⟨RX8, "defaultsOf", "(I)I"⟩
abbrev cX8_benchOf : ByteArray := prog_1_method_26_code
def yX8_benchOf : MethodName := ⟨RX8, "benchOf", "(I)I"⟩
abbrev cX8_canLease : ByteArray := prog_1_method_27_code
def yX8_canLease : MethodName := ⟨RX8, "canLease", "(II)Z"⟩
abbrev cX8_cheapestFor : ByteArray := prog_1_method_28_code
def yX8_cheapestFor : MethodName := ⟨RX8, "cheapestFor", "(I)I"⟩
abbrev cX8_lease : ByteArray := prog_1_method_29_code
def yX8_lease : MethodName := ⟨RX8, "lease", "(III)I"⟩
abbrev cX8_endLease : ByteArray := prog_1_method_30_code
def yX8_endLease : MethodName := ⟨RX8, "endLease", "(I)I"⟩
abbrev cX8_renew : ByteArray := prog_1_method_31_code
def yX8_renew : MethodName := ⟨RX8, "renew", "(II)I"⟩
abbrev cX8_isLet : ByteArray := prog_1_method_32_code
def yX8_isLet : MethodName := ⟨RX8, "isLet", "(I)Z"⟩
abbrev cX8_tenantOf : ByteArray := prog_1_method_33_code
def yX8_tenantOf : MethodName := ⟨RX8, "tenantOf", "(I)I"⟩
abbrev cX8_depositOf : ByteArray := prog_1_method_34_code
def yX8_depositOf : MethodName := ⟨RX8, "depositOf", "(I)I"⟩
abbrev cX8_monthsLeft : ByteArray := prog_1_method_35_code
def yX8_monthsLeft : MethodName := ⟨RX8, "monthsLeft", "(I)I"⟩
abbrev cX8_defaultMonth : ByteArray := prog_1_method_36_code
def yX8_defaultMonth : MethodName := ⟨RX8, "defaultMonth", "(I)I"⟩
abbrev cX8_passMonths : ByteArray := prog_1_method_37_code
def yX8_passMonths : MethodName := ⟨RX8, "passMonths", "(I)I"⟩
abbrev cX8_month : ByteArray := prog_1_method_38_code
def yX8_month : MethodName := ⟨RX8, "month", "()I"⟩
abbrev cX8_incomeWithin : ByteArray := prog_1_method_39_code
def yX8_incomeWithin : MethodName := ⟨RX8, "incomeWithin", "(I)I"⟩
abbrev cX8_incomeByLeases : ByteArray := prog_1_method_40_code
def yX8_incomeByLeases : MethodName := ⟨RX8, "incomeByLeases", "(I)I"⟩
abbrev cX8_brokerCoins : ByteArray := prog_1_method_41_code
def yX8_brokerCoins : MethodName := ⟨RX8, "brokerCoins", "()I"⟩
abbrev cX8_depositTotal : ByteArray := prog_1_method_42_code
def yX8_depositTotal : MethodName := ⟨RX8, "depositTotal", "()I"⟩
abbrev cX8_allCoins : ByteArray := prog_1_method_43_code
def yX8_allCoins : MethodName := ⟨RX8, "allCoins", "()I"⟩
abbrev cX8_allCoinsGiven : ByteArray := prog_1_method_44_code
def yX8_allCoinsGiven : MethodName := ⟨RX8, "allCoinsGiven", "()I"⟩
abbrev cX8_defaultedLeases : ByteArray := prog_1_method_45_code
def yX8_defaultedLeases : MethodName := ⟨RX8, "defaultedLeases", "()I"⟩
abbrev cX8_terminatedLeases : ByteArray := prog_1_method_46_code
def yX8_terminatedLeases : MethodName := ⟨RX8, "terminatedLeases", "()I"⟩
abbrev cX8_completedLeases : ByteArray := prog_1_method_47_code
def yX8_completedLeases : MethodName := ⟨RX8, "completedLeases", "()I"⟩
abbrev cX8_benchByRent : ByteArray := prog_1_method_48_code
def yX8_benchByRent : MethodName := ⟨RX8, "benchByRent", "(I)I"⟩
abbrev cX8_tenantByCoins : ByteArray := prog_1_method_49_code
def yX8_tenantByCoins : MethodName := ⟨RX8, "tenantByCoins", "(I)I"⟩
abbrev cX8_meanRent : ByteArray := prog_1_method_50_code
def yX8_meanRent : MethodName := ⟨RX8, "meanRent", "()D"⟩
abbrev cX8_letShare : ByteArray := prog_1_method_51_code
def yX8_letShare : MethodName := ⟨RX8, "letShare", "()F"⟩
abbrev cX8_isConsistent : ByteArray := prog_1_method_52_code
def yX8_isConsistent : MethodName := ⟨RX8, "isConsistent", "()Z"⟩
abbrev cX8_writeRow : ByteArray := prog_1_method_54_code
def yX8_writeRow : MethodName := ⟨RX8, "writeRow", "(I)I"⟩
abbrev cX8_outputAt : ByteArray := prog_1_method_55_code
def yX8_outputAt : MethodName := ⟨RX8, "outputAt", "(I)C"⟩
abbrev cX8_appendInput : ByteArray := prog_1_method_56_code
def yX8_appendInput : MethodName := ⟨RX8, "appendInput", "(C)I"⟩
abbrev cX8_execute : ByteArray := prog_1_method_57_code
def yX8_execute : MethodName := ⟨RX8, "execute", "()I"⟩
abbrev cX8_undo : ByteArray := prog_1_method_62_code
def yX8_undo : MethodName := ⟨RX8, "undo", "()I"⟩
abbrev cX8_saveSnapshot : ByteArray := prog_1_method_63_code
def yX8_saveSnapshot : MethodName := ⟨RX8, "saveSnapshot", "()I"⟩
abbrev cX8_restoreSnapshot : ByteArray := prog_1_method_64_code
def yX8_restoreSnapshot : MethodName := ⟨RX8, "restoreSnapshot", "()I"⟩
abbrev cX8_needCell : ByteArray := prog_1_method_65_code
def yX8_needCell : MethodName := ⟨RX8, "needCell", "(II)V"⟩
abbrev cX8_needBench : ByteArray := prog_1_method_66_code
def yX8_needBench : MethodName := ⟨RX8, "needBench", "(I)V"⟩
abbrev cX8_needFountain : ByteArray := prog_1_method_67_code
def yX8_needFountain : MethodName := ⟨RX8, "needFountain", "(I)V"⟩
abbrev cX8_needTenant : ByteArray := prog_1_method_68_code
def yX8_needTenant : MethodName := ⟨RX8, "needTenant", "(I)V"⟩
abbrev cX8_needLease : ByteArray := prog_1_method_69_code
def yX8_needLease : MethodName := ⟨RX8, "needLease", "(I)V"⟩
abbrev cX8_needTerm : ByteArray := prog_1_method_70_code
def yX8_needTerm : MethodName := ⟨RX8, "needTerm", "(I)V"⟩
abbrev cX8_startChange : ByteArray := prog_1_method_71_code
def yX8_startChange : MethodName := ⟨RX8, "startChange", "()V"⟩
abbrev cX8_finishChange : ByteArray := prog_1_method_72_code
def yX8_finishChange : MethodName := ⟨RX8, "finishChange", "()I"⟩
abbrev cX8_keepTrial : ByteArray := prog_1_method_73_code
def yX8_keepTrial : MethodName := ⟨RX8, "keepTrial", "()V"⟩
abbrev cX8_keepRejection : ByteArray := prog_1_method_74_code
def yX8_keepRejection : MethodName := ⟨RX8, "keepRejection", "(III)V"⟩
abbrev cX8_tryCommands : ByteArray := prog_1_method_75_code
def yX8_tryCommands : MethodName := ⟨RX8, "tryCommands", "(I)I"⟩
abbrev cX8_tryCommand : ByteArray := prog_1_method_76_code
def yX8_tryCommand : MethodName := ⟨RX8, "tryCommand", "(LBenchBroker$Verb;III)V"⟩
abbrev cX8_incomeOnCopy : ByteArray := prog_1_method_77_code
def yX8_incomeOnCopy : MethodName := ⟨RX8, "incomeOnCopy", "(I)I"⟩
abbrev cX8_incomesAgree : ByteArray := prog_1_method_78_code
def yX8_incomesAgree : MethodName := ⟨RX8, "incomesAgree", "(I)Z"⟩
abbrev cX8_noisesAgree : ByteArray := prog_1_method_79_code
def yX8_noisesAgree : MethodName := ⟨RX8, "noisesAgree", "()Z"⟩
def RX9 : String := "BenchBrokerModel"
def TX9 : u_T := fun k => match k with
  | _ => ("", "", "", false)
def tyX9 : Nat → FieldType := fun k => match k with
  | _ => .int
theorem nmX9 : ∀ a, a < 0 → ∀ b, b < 0 → a ≠ b → (TX9 a).2.1 ≠ (TX9 b).2.1 := by decide +kernel
theorem tyX9_ok : ∀ k, k < 0 → parseFieldDescriptor (TX9 k).2.2.1 = some (tyX9 k) := by decide +kernel
def RJx145de : String := "java/io/Serializable"
def TJx145de : u_T := fun k => match k with
  | _ => ("", "", "", false)
def tyJx145de : Nat → FieldType := fun k => match k with
  | _ => .int
theorem nmJx145de : ∀ a, a < 0 → ∀ b, b < 0 → a ≠ b → (TJx145de a).2.1 ≠ (TJx145de b).2.1 := by decide +kernel
theorem tyJx145de_ok : ∀ k, k < 0 → parseFieldDescriptor (TJx145de k).2.2.1 = some (tyJx145de k) := by decide +kernel
def RJ5 : String := "java/lang/AbstractStringBuilder"
def TJ5 : u_T := fun k => match k with
  | _ => ("", "", "", false)
def tyJ5 : Nat → FieldType := fun k => match k with
  | _ => .int
theorem nmJ5 : ∀ a, a < 0 → ∀ b, b < 0 → a ≠ b → (TJ5 a).2.1 ≠ (TJ5 b).2.1 := by decide +kernel
theorem tyJ5_ok : ∀ k, k < 0 → parseFieldDescriptor (TJ5 k).2.2.1 = some (tyJ5 k) := by decide +kernel
abbrev cJ5_init_d00df : ByteArray := prog_13_method_2_code
def yJ5_init_d00df : MethodName := ⟨RJ5, "<init>", "(I)V"⟩
abbrev cJ5_length_8abf5 : ByteArray := prog_13_method_6_code
def yJ5_length_8abf5 : MethodName := ⟨RJ5, "length", "()I"⟩
abbrev cJ5_ensureCapacityInternal_d00df : ByteArray := prog_13_method_9_code
def yJ5_ensureCapacityInternal_d00df : MethodName := ⟨RJ5, "ensureCapacityInternal", "(I)V"⟩
abbrev cJ5_newCapacity_0f7a4 : ByteArray := prog_13_method_10_code
def yJ5_newCapacity_0f7a4 : MethodName := ⟨RJ5, "newCapacity", "(I)I"⟩
abbrev cJ5_inflate_da8c8 : ByteArray := prog_13_method_11_code
def yJ5_inflate_da8c8 : MethodName := ⟨RJ5, "inflate", "()V"⟩
abbrev cJ5_setLength_d00df : ByteArray := prog_13_method_13_code
def yJ5_setLength_d00df : MethodName := ⟨RJ5, "setLength", "(I)V"⟩
abbrev cJ5_charAt_5068e : ByteArray := prog_13_method_14_code
def yJ5_charAt_5068e : MethodName := ⟨RJ5, "charAt", "(I)C"⟩
abbrev cJ5_append_cf1ce : ByteArray := prog_13_method_22_code
def yJ5_append_cf1ce : MethodName := ⟨RJ5, "append", "(Ljava/lang/String;)Ljava/lang/AbstractStringBuilder;"⟩
abbrev cJ5_appendNull_278bc : ByteArray := prog_13_method_26_code
def yJ5_appendNull_278bc : MethodName := ⟨RJ5, "appendNull", "()Ljava/lang/AbstractStringBuilder;"⟩
abbrev cJ5_append_3fe6f : ByteArray := prog_13_method_31_code
def yJ5_append_3fe6f : MethodName := ⟨RJ5, "append", "(C)Ljava/lang/AbstractStringBuilder;"⟩
abbrev cJ5_append_c97b9 : ByteArray := prog_13_method_32_code
def yJ5_append_c97b9 : MethodName := ⟨RJ5, "append", "(I)Ljava/lang/AbstractStringBuilder;"⟩
abbrev cJ5_getValue_6d5f1 : ByteArray := prog_13_method_64_code
def yJ5_getValue_6d5f1 : MethodName := ⟨RJ5, "getValue", "()[B"⟩
abbrev cJ5_isLatin1_aae02 : ByteArray := prog_13_method_68_code
def yJ5_isLatin1_aae02 : MethodName := ⟨RJ5, "isLatin1", "()Z"⟩
abbrev cJ5_inflateIfNeededFor_a7421 : ByteArray := prog_13_method_71_code
def yJ5_inflateIfNeededFor_a7421 : MethodName := ⟨RJ5, "inflateIfNeededFor", "(Ljava/lang/String;)V"⟩
abbrev cJ5_putStringAt_47b60 : ByteArray := prog_13_method_73_code
def yJ5_putStringAt_47b60 : MethodName := ⟨RJ5, "putStringAt", "(ILjava/lang/String;)V"⟩
def RJx2cfe8 : String := "java/lang/Appendable"
def TJx2cfe8 : u_T := fun k => match k with
  | _ => ("", "", "", false)
def tyJx2cfe8 : Nat → FieldType := fun k => match k with
  | _ => .int
theorem nmJx2cfe8 : ∀ a, a < 0 → ∀ b, b < 0 → a ≠ b → (TJx2cfe8 a).2.1 ≠ (TJx2cfe8 b).2.1 := by decide +kernel
theorem tyJx2cfe8_ok : ∀ k, k < 0 → parseFieldDescriptor (TJx2cfe8 k).2.2.1 = some (tyJx2cfe8 k) := by decide +kernel
def RJx00060 : String := "java/lang/ArrayIndexOutOfBoundsException"
def TJx00060 : u_T := fun k => match k with
  | 0 => ("java/lang/Throwable", "backtrace", "Ljava/lang/Object;", false)
  | 1 => ("java/lang/Throwable", "detailMessage", "Ljava/lang/String;", false)
  | 2 => ("java/lang/Throwable", "cause", "Ljava/lang/Throwable;", false)
  | 3 => ("java/lang/Throwable", "stackTrace", "[Ljava/lang/StackTraceElement;", false)
  | 4 => ("java/lang/Throwable", "depth", "I", false)
  | _ => ("java/lang/Throwable", "suppressedExceptions", "Ljava/util/List;", false)
def tyJx00060 : Nat → FieldType := fun k => match k with
  | 0 => .object "java/lang/Object"
  | 1 => .object "java/lang/String"
  | 2 => .object "java/lang/Throwable"
  | 3 => .array (.object "java/lang/StackTraceElement")
  | 4 => .int
  | _ => .object "java/util/List"
theorem nmJx00060 : ∀ a, a < 6 → ∀ b, b < 6 → a ≠ b → (TJx00060 a).2.1 ≠ (TJx00060 b).2.1 := by decide +kernel
theorem tyJx00060_ok : ∀ k, k < 6 → parseFieldDescriptor (TJx00060 k).2.2.1 = some (tyJx00060 k) := by decide +kernel
abbrev cJx00060_init_a7421 : ByteArray := prog_16_method_2_code
def yJx00060_init_a7421 : MethodName := ⟨RJx00060, "<init>", "(Ljava/lang/String;)V"⟩
abbrev cJx00060_init_d00df : ByteArray := prog_16_method_3_code
def yJx00060_init_d00df : MethodName := ⟨RJx00060, "<init>", "(I)V"⟩
def RJx9f9b0 : String := "java/lang/CharSequence"
def TJx9f9b0 : u_T := fun k => match k with
  | _ => ("", "", "", false)
def tyJx9f9b0 : Nat → FieldType := fun k => match k with
  | _ => .int
theorem nmJx9f9b0 : ∀ a, a < 0 → ∀ b, b < 0 → a ≠ b → (TJx9f9b0 a).2.1 ≠ (TJx9f9b0 b).2.1 := by decide +kernel
theorem tyJx9f9b0_ok : ∀ k, k < 0 → parseFieldDescriptor (TJx9f9b0 k).2.2.1 = some (tyJx9f9b0 k) := by decide +kernel
def RJx8e188 : String := "java/lang/Cloneable"
def TJx8e188 : u_T := fun k => match k with
  | _ => ("", "", "", false)
def tyJx8e188 : Nat → FieldType := fun k => match k with
  | _ => .int
theorem nmJx8e188 : ∀ a, a < 0 → ∀ b, b < 0 → a ≠ b → (TJx8e188 a).2.1 ≠ (TJx8e188 b).2.1 := by decide +kernel
theorem tyJx8e188_ok : ∀ k, k < 0 → parseFieldDescriptor (TJx8e188 k).2.2.1 = some (tyJx8e188 k) := by decide +kernel
def RJxb160c : String := "java/lang/Comparable"
def TJxb160c : u_T := fun k => match k with
  | _ => ("", "", "", false)
def tyJxb160c : Nat → FieldType := fun k => match k with
  | _ => .int
theorem nmJxb160c : ∀ a, a < 0 → ∀ b, b < 0 → a ≠ b → (TJxb160c a).2.1 ≠ (TJxb160c b).2.1 := by decide +kernel
theorem tyJxb160c_ok : ∀ k, k < 0 → parseFieldDescriptor (TJxb160c k).2.2.1 = some (tyJxb160c k) := by decide +kernel
def RJx29ce0 : String := "java/lang/Enum"
def TJx29ce0 : u_T := fun k => match k with
  | _ => ("", "", "", false)
def tyJx29ce0 : Nat → FieldType := fun k => match k with
  | _ => .int
theorem nmJx29ce0 : ∀ a, a < 0 → ∀ b, b < 0 → a ≠ b → (TJx29ce0 a).2.1 ≠ (TJx29ce0 b).2.1 := by decide +kernel
theorem tyJx29ce0_ok : ∀ k, k < 0 → parseFieldDescriptor (TJx29ce0 k).2.2.1 = some (tyJx29ce0 k) := by decide +kernel
abbrev cJx29ce0_ordinal_8abf5 : ByteArray := prog_20_method_2_code
def yJx29ce0_ordinal_8abf5 : MethodName := ⟨RJx29ce0, "ordinal", "()I"⟩
def RJ6 : String := "java/lang/Integer"
def TJ6 : u_T := fun k => match k with
  | _ => ("", "", "", false)
def tyJ6 : Nat → FieldType := fun k => match k with
  | _ => .int
theorem nmJ6 : ∀ a, a < 0 → ∀ b, b < 0 → a ≠ b → (TJ6 a).2.1 ≠ (TJ6 b).2.1 := by decide +kernel
theorem tyJ6_ok : ∀ k, k < 0 → parseFieldDescriptor (TJ6 k).2.2.1 = some (tyJ6 k) := by decide +kernel
abbrev cJ6_getChars_ba4f3 : ByteArray := prog_25_method_12_code
def yJ6_getChars_ba4f3 : MethodName := ⟨RJ6, "getChars", "(II[B)I"⟩
abbrev cJ6_stringSize_0f7a4 : ByteArray := prog_25_method_13_code
def yJ6_stringSize_0f7a4 : MethodName := ⟨RJ6, "stringSize", "(I)I"⟩
def RJ9 : String := "java/lang/Math"
def TJ9 : u_T := fun k => match k with
  | _ => ("", "", "", false)
def tyJ9 : Nat → FieldType := fun k => match k with
  | _ => .int
theorem nmJ9 : ∀ a, a < 0 → ∀ b, b < 0 → a ≠ b → (TJ9 a).2.1 ≠ (TJ9 b).2.1 := by decide +kernel
theorem tyJ9_ok : ∀ k, k < 0 → parseFieldDescriptor (TJ9 k).2.2.1 = some (tyJ9 k) := by decide +kernel
abbrev cJ9_abs_0f7a4 : ByteArray := prog_26_method_59_code
def yJ9_abs_0f7a4 : MethodName := ⟨RJ9, "abs", "(I)I"⟩
abbrev cJ9_max_7cf53 : ByteArray := prog_26_method_65_code
def yJ9_max_7cf53 : MethodName := ⟨RJ9, "max", "(II)I"⟩
abbrev cJ9_min_7cf53 : ByteArray := prog_26_method_69_code
def yJ9_min_7cf53 : MethodName := ⟨RJ9, "min", "(II)I"⟩
def RJxd2413 : String := "java/lang/Number"
def TJxd2413 : u_T := fun k => match k with
  | _ => ("", "", "", false)
def tyJxd2413 : Nat → FieldType := fun k => match k with
  | _ => .int
theorem nmJxd2413 : ∀ a, a < 0 → ∀ b, b < 0 → a ≠ b → (TJxd2413 a).2.1 ≠ (TJxd2413 b).2.1 := by decide +kernel
theorem tyJxd2413_ok : ∀ k, k < 0 → parseFieldDescriptor (TJxd2413 k).2.2.1 = some (tyJxd2413 k) := by decide +kernel
def RJ0 : String := "java/lang/String"
def TJ0 : u_T := fun k => match k with
  | 0 => ("java/lang/String", "value", "[B", true)
  | 1 => ("java/lang/String", "coder", "B", true)
  | 2 => ("java/lang/String", "hash", "I", false)
  | _ => ("java/lang/String", "hashIsZero", "Z", false)
def tyJ0 : Nat → FieldType := fun k => match k with
  | 0 => .array .byte
  | 1 => .byte
  | 2 => .int
  | _ => .boolean
theorem nmJ0 : ∀ a, a < 4 → ∀ b, b < 4 → a ≠ b → (TJ0 a).2.1 ≠ (TJ0 b).2.1 := by decide +kernel
theorem tyJ0_ok : ∀ k, k < 4 → parseFieldDescriptor (TJ0 k).2.2.1 = some (tyJ0 k) := by decide +kernel
abbrev cJ0_init_81219 : ByteArray := prog_29_method_53_code
def yJ0_init_81219 : MethodName := ⟨RJ0, "<init>", "(Ljava/lang/StringBuilder;)V"⟩
abbrev cJ0_length_8abf5 : ByteArray := prog_29_method_54_code
def yJ0_length_8abf5 : MethodName := ⟨RJ0, "length", "()I"⟩
abbrev cJ0_charAt_5068e : ByteArray := prog_29_method_56_code
def yJ0_charAt_5068e : MethodName := ⟨RJ0, "charAt", "(I)C"⟩
abbrev cJ0_getBytes_840e7 : ByteArray := prog_29_method_147_code
def yJ0_getBytes_840e7 : MethodName := ⟨RJ0, "getBytes", "([BIB)V"⟩
abbrev cJ0_init_db425 : ByteArray := prog_29_method_150_code
def yJ0_init_db425 : MethodName := ⟨RJ0, "<init>", "(Ljava/lang/AbstractStringBuilder;Ljava/lang/Void;)V"⟩
abbrev cJ0_coder_7d493 : ByteArray := prog_29_method_152_code
def yJ0_coder_7d493 : MethodName := ⟨RJ0, "coder", "()B"⟩
abbrev cJ0_isLatin1_aae02 : ByteArray := prog_29_method_154_code
def yJ0_isLatin1_aae02 : MethodName := ⟨RJ0, "isLatin1", "()Z"⟩
abbrev cJ0_checkIndex_df160 : ByteArray := prog_29_method_155_code
def yJ0_checkIndex_df160 : MethodName := ⟨RJ0, "checkIndex", "(II)V"⟩
abbrev cJ0_checkBoundsOffCount_cabcc : ByteArray := prog_29_method_157_code
def yJ0_checkBoundsOffCount_cabcc : MethodName := ⟨RJ0, "checkBoundsOffCount", "(III)I"⟩
abbrev cJ0_checkBoundsBeginEnd_23922 : ByteArray := prog_29_method_158_code
def yJ0_checkBoundsBeginEnd_23922 : MethodName := ⟨RJ0, "checkBoundsBeginEnd", "(III)V"⟩
def RJ4 : String := "java/lang/StringBuilder"
def TJ4 : u_T := fun k => match k with
  | 0 => ("java/lang/AbstractStringBuilder", "value", "[B", false)
  | 1 => ("java/lang/AbstractStringBuilder", "coder", "B", false)
  | 2 => ("java/lang/AbstractStringBuilder", "maybeLatin1", "Z", false)
  | _ => ("java/lang/AbstractStringBuilder", "count", "I", false)
def tyJ4 : Nat → FieldType := fun k => match k with
  | 0 => .array .byte
  | 1 => .byte
  | 2 => .boolean
  | _ => .int
theorem nmJ4 : ∀ a, a < 4 → ∀ b, b < 4 → a ≠ b → (TJ4 a).2.1 ≠ (TJ4 b).2.1 := by decide +kernel
theorem tyJ4_ok : ∀ k, k < 4 → parseFieldDescriptor (TJ4 k).2.2.1 = some (tyJ4 k) := by decide +kernel
abbrev cJ4_init_da8c8 : ByteArray := prog_30_method_1_code
def yJ4_init_da8c8 : MethodName := ⟨RJ4, "<init>", "()V"⟩
abbrev cJ4_append_15ec4 : ByteArray := prog_30_method_7_code
def yJ4_append_15ec4 : MethodName := ⟨RJ4, "append", "(Ljava/lang/String;)Ljava/lang/StringBuilder;"⟩
abbrev cJ4_append_cf468 : ByteArray := prog_30_method_14_code
def yJ4_append_cf468 : MethodName := ⟨RJ4, "append", "(C)Ljava/lang/StringBuilder;"⟩
abbrev cJ4_append_bf812 : ByteArray := prog_30_method_15_code
def yJ4_append_bf812 : MethodName := ⟨RJ4, "append", "(I)Ljava/lang/StringBuilder;"⟩
abbrev cJ4_toString_0e30d : ByteArray := prog_30_method_42_code
def yJ4_toString_0e30d : MethodName := ⟨RJ4, "toString", "()Ljava/lang/String;"⟩
abbrev cJ4_charAt_5068e : ByteArray := prog_30_method_88_code
def yJ4_charAt_5068e : MethodName := ⟨RJ4, "charAt", "(I)C"⟩
abbrev cJ4_setLength_d00df : ByteArray := prog_30_method_89_code
def yJ4_setLength_d00df : MethodName := ⟨RJ4, "setLength", "(I)V"⟩
abbrev cJ4_length_8abf5 : ByteArray := prog_30_method_93_code
def yJ4_length_8abf5 : MethodName := ⟨RJ4, "length", "()I"⟩
def RJx7c733 : String := "java/lang/StringIndexOutOfBoundsException"
def TJx7c733 : u_T := fun k => match k with
  | 0 => ("java/lang/Throwable", "backtrace", "Ljava/lang/Object;", false)
  | 1 => ("java/lang/Throwable", "detailMessage", "Ljava/lang/String;", false)
  | 2 => ("java/lang/Throwable", "cause", "Ljava/lang/Throwable;", false)
  | 3 => ("java/lang/Throwable", "stackTrace", "[Ljava/lang/StackTraceElement;", false)
  | 4 => ("java/lang/Throwable", "depth", "I", false)
  | _ => ("java/lang/Throwable", "suppressedExceptions", "Ljava/util/List;", false)
def tyJx7c733 : Nat → FieldType := fun k => match k with
  | 0 => .object "java/lang/Object"
  | 1 => .object "java/lang/String"
  | 2 => .object "java/lang/Throwable"
  | 3 => .array (.object "java/lang/StackTraceElement")
  | 4 => .int
  | _ => .object "java/util/List"
theorem nmJx7c733 : ∀ a, a < 6 → ∀ b, b < 6 → a ≠ b → (TJx7c733 a).2.1 ≠ (TJx7c733 b).2.1 := by decide +kernel
theorem tyJx7c733_ok : ∀ k, k < 6 → parseFieldDescriptor (TJx7c733 k).2.2.1 = some (tyJx7c733 k) := by decide +kernel
abbrev cJx7c733_init_d00df : ByteArray := prog_31_method_3_code
def yJx7c733_init_d00df : MethodName := ⟨RJx7c733, "<init>", "(I)V"⟩
def RJ1 : String := "java/lang/StringLatin1"
def TJ1 : u_T := fun k => match k with
  | _ => ("", "", "", false)
def tyJ1 : Nat → FieldType := fun k => match k with
  | _ => .int
theorem nmJ1 : ∀ a, a < 0 → ∀ b, b < 0 → a ≠ b → (TJ1 a).2.1 ≠ (TJ1 b).2.1 := by decide +kernel
theorem tyJ1_ok : ∀ k, k < 0 → parseFieldDescriptor (TJ1 k).2.2.1 = some (tyJ1 k) := by decide +kernel
abbrev cJ1_charAt_3b067 : ByteArray := prog_32_method_2_code
def yJ1_charAt_3b067 : MethodName := ⟨RJ1, "charAt", "([BI)C"⟩
abbrev cJ1_canEncode_fc78d : ByteArray := prog_32_method_3_code
def yJ1_canEncode_fc78d : MethodName := ⟨RJ1, "canEncode", "(C)Z"⟩
abbrev cJ1_fillNull_b72d1 : ByteArray := prog_32_method_48_code
def yJ1_fillNull_b72d1 : MethodName := ⟨RJ1, "fillNull", "([BII)V"⟩
abbrev cJ1_inflate_0e8fd : ByteArray := prog_32_method_50_code
def yJ1_inflate_0e8fd : MethodName := ⟨RJ1, "inflate", "([BI[BII)V"⟩
def RJ2 : String := "java/lang/StringUTF16"
def TJ2 : u_T := fun k => match k with
  | _ => ("", "", "", false)
def tyJ2 : Nat → FieldType := fun k => match k with
  | _ => .int
theorem nmJ2 : ∀ a, a < 0 → ∀ b, b < 0 → a ≠ b → (TJ2 a).2.1 ≠ (TJ2 b).2.1 := by decide +kernel
theorem tyJ2_ok : ∀ k, k < 0 → parseFieldDescriptor (TJ2 k).2.2.1 = some (tyJ2 k) := by decide +kernel
abbrev cJ2_newBytesFor_77867 : ByteArray := prog_33_method_2_code
def yJ2_newBytesFor_77867 : MethodName := ⟨RJ2, "newBytesFor", "(I)[B"⟩
abbrev cJ2_newBytesLength_0f7a4 : ByteArray := prog_33_method_3_code
def yJ2_newBytesLength_0f7a4 : MethodName := ⟨RJ2, "newBytesLength", "(I)I"⟩
abbrev cJ2_putChar_b72d1 : ByteArray := prog_33_method_4_code
def yJ2_putChar_b72d1 : MethodName := ⟨RJ2, "putChar", "([BII)V"⟩
abbrev cJ2_getChar_3b067 : ByteArray := prog_33_method_5_code
def yJ2_getChar_3b067 : MethodName := ⟨RJ2, "getChar", "([BI)C"⟩
abbrev cJ2_length_9d52b : ByteArray := prog_33_method_6_code
def yJ2_length_9d52b : MethodName := ⟨RJ2, "length", "([B)I"⟩
abbrev cJ2_coderFromArrayLen_85cad : ByteArray := prog_33_method_15_code
def yJ2_coderFromArrayLen_85cad : MethodName := ⟨RJ2, "coderFromArrayLen", "([BI)B"⟩
abbrev cJ2_compress_39247 : ByteArray := prog_33_method_17_code
def yJ2_compress_39247 : MethodName := ⟨RJ2, "compress", "([BII)[B"⟩
abbrev cJ2_compress_5af95 : ByteArray := prog_33_method_22_code
def yJ2_compress_5af95 : MethodName := ⟨RJ2, "compress", "([BI[BII)I"⟩
abbrev cJ2_fillNull_b72d1 : ByteArray := prog_33_method_70_code
def yJ2_fillNull_b72d1 : MethodName := ⟨RJ2, "fillNull", "([BII)V"⟩
abbrev cJ2_putCharSB_b72d1 : ByteArray := prog_33_method_71_code
def yJ2_putCharSB_b72d1 : MethodName := ⟨RJ2, "putCharSB", "([BII)V"⟩
abbrev cJ2_getChars_46870 : ByteArray := prog_33_method_77_code
def yJ2_getChars_46870 : MethodName := ⟨RJ2, "getChars", "(III[B)I"⟩
abbrev cJ2_putCharsAt_cd4e5 : ByteArray := prog_33_method_81_code
def yJ2_putCharsAt_cd4e5 : MethodName := ⟨RJ2, "putCharsAt", "([BICCCC)I"⟩
abbrev cJ2_charAt_3b067 : ByteArray := prog_33_method_83_code
def yJ2_charAt_3b067 : MethodName := ⟨RJ2, "charAt", "([BI)C"⟩
abbrev cJ2_inflate_0e8fd : ByteArray := prog_33_method_86_code
def yJ2_inflate_0e8fd : MethodName := ⟨RJ2, "inflate", "([BI[BII)V"⟩
abbrev cJ2_getChars_ba4f3 : ByteArray := prog_33_method_89_code
def yJ2_getChars_ba4f3 : MethodName := ⟨RJ2, "getChars", "(II[B)I"⟩
abbrev cJ2_checkIndex_2214a : ByteArray := prog_33_method_91_code
def yJ2_checkIndex_2214a : MethodName := ⟨RJ2, "checkIndex", "(I[B)V"⟩
abbrev cJ2_checkBoundsBeginEnd_d044e : ByteArray := prog_33_method_93_code
def yJ2_checkBoundsBeginEnd_d044e : MethodName := ⟨RJ2, "checkBoundsBeginEnd", "(II[B)V"⟩
abbrev cJ2_checkBoundsOffCount_d044e : ByteArray := prog_33_method_94_code
def yJ2_checkBoundsOffCount_d044e : MethodName := ⟨RJ2, "checkBoundsOffCount", "(II[B)V"⟩
def RJ10 : String := "java/lang/System"
def TJ10 : u_T := fun k => match k with
  | _ => ("", "", "", false)
def tyJ10 : Nat → FieldType := fun k => match k with
  | _ => .int
theorem nmJ10 : ∀ a, a < 0 → ∀ b, b < 0 → a ≠ b → (TJ10 a).2.1 ≠ (TJ10 b).2.1 := by decide +kernel
theorem tyJ10_ok : ∀ k, k < 0 → parseFieldDescriptor (TJ10 k).2.2.1 = some (tyJ10 k) := by decide +kernel
def RJxfd54e : String := "java/lang/constant/Constable"
def TJxfd54e : u_T := fun k => match k with
  | _ => ("", "", "", false)
def tyJxfd54e : Nat → FieldType := fun k => match k with
  | _ => .int
theorem nmJxfd54e : ∀ a, a < 0 → ∀ b, b < 0 → a ≠ b → (TJxfd54e a).2.1 ≠ (TJxfd54e b).2.1 := by decide +kernel
theorem tyJxfd54e_ok : ∀ k, k < 0 → parseFieldDescriptor (TJxfd54e k).2.2.1 = some (tyJxfd54e k) := by decide +kernel
def RJx3cf43 : String := "java/lang/constant/ConstantDesc"
def TJx3cf43 : u_T := fun k => match k with
  | _ => ("", "", "", false)
def tyJx3cf43 : Nat → FieldType := fun k => match k with
  | _ => .int
theorem nmJx3cf43 : ∀ a, a < 0 → ∀ b, b < 0 → a ≠ b → (TJx3cf43 a).2.1 ≠ (TJx3cf43 b).2.1 := by decide +kernel
theorem tyJx3cf43_ok : ∀ k, k < 0 → parseFieldDescriptor (TJx3cf43 k).2.2.1 = some (tyJx3cf43 k) := by decide +kernel
def RJ7 : String := "java/util/Arrays"
def TJ7 : u_T := fun k => match k with
  | _ => ("", "", "", false)
def tyJ7 : Nat → FieldType := fun k => match k with
  | _ => .int
theorem nmJ7 : ∀ a, a < 0 → ∀ b, b < 0 → a ≠ b → (TJ7 a).2.1 ≠ (TJ7 b).2.1 := by decide +kernel
theorem tyJ7_ok : ∀ k, k < 0 → parseFieldDescriptor (TJ7 k).2.2.1 = some (tyJ7 k) := by decide +kernel
abbrev cJ7_rangeCheck_23922 : ByteArray := prog_39_method_30_code
def yJ7_rangeCheck_23922 : MethodName := ⟨RJ7, "rangeCheck", "(III)V"⟩
abbrev cJ7_fill_53178 : ByteArray := prog_39_method_103_code
def yJ7_fill_53178 : MethodName := ⟨RJ7, "fill", "([II)V"⟩
abbrev cJ7_fill_eb02e : ByteArray := prog_39_method_110_code
def yJ7_fill_eb02e : MethodName := ⟨RJ7, "fill", "([BIIB)V"⟩
abbrev cJ7_copyOf_9075b : ByteArray := prog_39_method_121_code
def yJ7_copyOf_9075b : MethodName := ⟨RJ7, "copyOf", "([BI)[B"⟩
abbrev cJ7_checkLength_df160 : ByteArray := prog_39_method_131_code
def yJ7_checkLength_df160 : MethodName := ⟨RJ7, "checkLength", "(II)V"⟩
abbrev cJ7_copyOfRange_39247 : ByteArray := prog_39_method_132_code
def yJ7_copyOfRange_39247 : MethodName := ⟨RJ7, "copyOfRange", "([BII)[B"⟩
abbrev cJ7_copyOfRangeByte_39247 : ByteArray := prog_39_method_133_code
def yJ7_copyOfRangeByte_39247 : MethodName := ⟨RJ7, "copyOfRangeByte", "([BII)[B"⟩
def RJ8 : String := "jdk/internal/util/ArraysSupport"
def TJ8 : u_T := fun k => match k with
  | _ => ("", "", "", false)
def tyJ8 : Nat → FieldType := fun k => match k with
  | _ => .int
theorem nmJ8 : ∀ a, a < 0 → ∀ b, b < 0 → a ≠ b → (TJ8 a).2.1 ≠ (TJ8 b).2.1 := by decide +kernel
theorem tyJ8_ok : ∀ k, k < 0 → parseFieldDescriptor (TJ8 k).2.2.1 = some (tyJ8 k) := by decide +kernel
abbrev cJ8_newLength_cabcc : ByteArray := prog_41_method_27_code
def yJ8_newLength_cabcc : MethodName := ⟨RJ8, "newLength", "(III)I"⟩
abbrev cJ8_hugeLength_7cf53 : ByteArray := prog_41_method_28_code
def yJ8_hugeLength_7cf53 : MethodName := ⟨RJ8, "hugeLength", "(II)I"⟩
def RJ3 : String := "jdk/internal/util/Preconditions"
def TJ3 : u_T := fun k => match k with
  | _ => ("", "", "", false)
def tyJ3 : Nat → FieldType := fun k => match k with
  | _ => .int
theorem nmJ3 : ∀ a, a < 0 → ∀ b, b < 0 → a ≠ b → (TJ3 a).2.1 ≠ (TJ3 b).2.1 := by decide +kernel
theorem tyJ3_ok : ∀ k, k < 0 → parseFieldDescriptor (TJ3 k).2.2.1 = some (tyJ3 k) := by decide +kernel
abbrev cJ3_checkIndex_8e157 : ByteArray := prog_42_method_11_code
def yJ3_checkIndex_8e157 : MethodName := ⟨RJ3, "checkIndex", "(IILjava/util/function/BiFunction;)I"⟩
abbrev cJ3_checkFromToIndex_8c36e : ByteArray := prog_42_method_12_code
def yJ3_checkFromToIndex_8c36e : MethodName := ⟨RJ3, "checkFromToIndex", "(IIILjava/util/function/BiFunction;)I"⟩
abbrev cJ3_checkFromIndexSize_8c36e : ByteArray := prog_42_method_13_code
def yJ3_checkFromIndexSize_8c36e : MethodName := ⟨RJ3, "checkFromIndexSize", "(IIILjava/util/function/BiFunction;)I"⟩
def RL : String := "BenchBrokerLaw"
abbrev cL_cell : ByteArray := method_2_code
def yL_cell : MethodName := ⟨RL, "cell", "([II)I"⟩
abbrev cL_pick : ByteArray := method_3_code
def yL_pick : MethodName := ⟨RL, "pick", "([III)I"⟩
abbrev cL_addBench : ByteArray := method_4_code
def yL_addBench : MethodName := ⟨RL, "addBench", "(LBenchBroker;III)I"⟩
abbrev cL_setRent : ByteArray := method_5_code
def yL_setRent : MethodName := ⟨RL, "setRent", "(LBenchBroker;II)I"⟩
abbrev cL_addFountain : ByteArray := method_6_code
def yL_addFountain : MethodName := ⟨RL, "addFountain", "(LBenchBroker;III)I"⟩
abbrev cL_setLoudness : ByteArray := method_7_code
def yL_setLoudness : MethodName := ⟨RL, "setLoudness", "(LBenchBroker;II)I"⟩
abbrev cL_switchFountain : ByteArray := method_8_code
def yL_switchFountain : MethodName := ⟨RL, "switchFountain", "(LBenchBroker;I)I"⟩
abbrev cL_setNoiseLimit : ByteArray := method_9_code
def yL_setNoiseLimit : MethodName := ⟨RL, "setNoiseLimit", "(LBenchBroker;I)I"⟩
abbrev cL_rowOf : ByteArray := method_10_code
def yL_rowOf : MethodName := ⟨RL, "rowOf", "(LBenchBroker;I)I"⟩
abbrev cL_columnOf : ByteArray := method_11_code
def yL_columnOf : MethodName := ⟨RL, "columnOf", "(LBenchBroker;I)I"⟩
abbrev cL_baseRent : ByteArray := method_12_code
def yL_baseRent : MethodName := ⟨RL, "baseRent", "(LBenchBroker;I)I"⟩
abbrev cL_rentOf : ByteArray := method_13_code
def yL_rentOf : MethodName := ⟨RL, "rentOf", "(LBenchBroker;I)I"⟩
abbrev cL_loudnessOf : ByteArray := method_14_code
def yL_loudnessOf : MethodName := ⟨RL, "loudnessOf", "(LBenchBroker;I)I"⟩
abbrev cL_isRunning : ByteArray := method_15_code
def yL_isRunning : MethodName := ⟨RL, "isRunning", "(LBenchBroker;I)I"⟩
abbrev cL_noiseAt : ByteArray := method_16_code
def yL_noiseAt : MethodName := ⟨RL, "noiseAt", "(LBenchBroker;II)I"⟩
abbrev cL_noiseBySpreading : ByteArray := method_17_code
def yL_noiseBySpreading : MethodName := ⟨RL, "noiseBySpreading", "(LBenchBroker;II)I"⟩
abbrev cL_isQuiet : ByteArray := method_18_code
def yL_isQuiet : MethodName := ⟨RL, "isQuiet", "(LBenchBroker;I)I"⟩
abbrev cL_addTenant : ByteArray := method_19_code
def yL_addTenant : MethodName := ⟨RL, "addTenant", "(LBenchBroker;I)I"⟩
abbrev cL_giveCoins : ByteArray := method_20_code
def yL_giveCoins : MethodName := ⟨RL, "giveCoins", "(LBenchBroker;II)I"⟩
abbrev cL_coinsOf : ByteArray := method_21_code
def yL_coinsOf : MethodName := ⟨RL, "coinsOf", "(LBenchBroker;I)I"⟩
abbrev cL_defaultsOf : ByteArray := method_22_code
def yL_defaultsOf : MethodName := ⟨RL, "defaultsOf", "(LBenchBroker;I)I"⟩
abbrev cL_benchOf : ByteArray := method_23_code
def yL_benchOf : MethodName := ⟨RL, "benchOf", "(LBenchBroker;I)I"⟩
abbrev cL_canLease : ByteArray := method_24_code
def yL_canLease : MethodName := ⟨RL, "canLease", "(LBenchBroker;II)I"⟩
abbrev cL_cheapestFor : ByteArray := method_25_code
def yL_cheapestFor : MethodName := ⟨RL, "cheapestFor", "(LBenchBroker;I)I"⟩
abbrev cL_lease : ByteArray := method_26_code
def yL_lease : MethodName := ⟨RL, "lease", "(LBenchBroker;III)I"⟩
abbrev cL_endLease : ByteArray := method_27_code
def yL_endLease : MethodName := ⟨RL, "endLease", "(LBenchBroker;I)I"⟩
abbrev cL_renew : ByteArray := method_28_code
def yL_renew : MethodName := ⟨RL, "renew", "(LBenchBroker;II)I"⟩
abbrev cL_isLet : ByteArray := method_29_code
def yL_isLet : MethodName := ⟨RL, "isLet", "(LBenchBroker;I)I"⟩
abbrev cL_tenantOf : ByteArray := method_30_code
def yL_tenantOf : MethodName := ⟨RL, "tenantOf", "(LBenchBroker;I)I"⟩
abbrev cL_depositOf : ByteArray := method_31_code
def yL_depositOf : MethodName := ⟨RL, "depositOf", "(LBenchBroker;I)I"⟩
abbrev cL_monthsLeft : ByteArray := method_32_code
def yL_monthsLeft : MethodName := ⟨RL, "monthsLeft", "(LBenchBroker;I)I"⟩
abbrev cL_defaultMonth : ByteArray := method_33_code
def yL_defaultMonth : MethodName := ⟨RL, "defaultMonth", "(LBenchBroker;I)I"⟩
abbrev cL_passMonths : ByteArray := method_34_code
def yL_passMonths : MethodName := ⟨RL, "passMonths", "(LBenchBroker;I)I"⟩
abbrev cL_incomeWithin : ByteArray := method_35_code
def yL_incomeWithin : MethodName := ⟨RL, "incomeWithin", "(LBenchBroker;I)I"⟩
abbrev cL_incomeByLeases : ByteArray := method_36_code
def yL_incomeByLeases : MethodName := ⟨RL, "incomeByLeases", "(LBenchBroker;I)I"⟩
abbrev cL_benchByRent : ByteArray := method_37_code
def yL_benchByRent : MethodName := ⟨RL, "benchByRent", "(LBenchBroker;I)I"⟩
abbrev cL_tenantByCoins : ByteArray := method_38_code
def yL_tenantByCoins : MethodName := ⟨RL, "tenantByCoins", "(LBenchBroker;I)I"⟩
abbrev cL_meanRent : ByteArray := method_39_code
def yL_meanRent : MethodName := ⟨RL, "meanRent", "(LBenchBroker;)D"⟩
abbrev cL_letShare : ByteArray := method_40_code
def yL_letShare : MethodName := ⟨RL, "letShare", "(LBenchBroker;)F"⟩
abbrev cL_writeRow : ByteArray := method_42_code
def yL_writeRow : MethodName := ⟨RL, "writeRow", "(LBenchBroker;I)I"⟩
abbrev cL_outputAt : ByteArray := method_43_code
def yL_outputAt : MethodName := ⟨RL, "outputAt", "(LBenchBroker;I)I"⟩
abbrev cL_appendInput : ByteArray := method_44_code
def yL_appendInput : MethodName := ⟨RL, "appendInput", "(LBenchBroker;C)I"⟩
abbrev cL_execute : ByteArray := method_45_code
def yL_execute : MethodName := ⟨RL, "execute", "(LBenchBroker;)I"⟩
abbrev cL_undo : ByteArray := method_50_code
def yL_undo : MethodName := ⟨RL, "undo", "(LBenchBroker;)I"⟩
abbrev cL_restoreSnapshot : ByteArray := method_51_code
def yL_restoreSnapshot : MethodName := ⟨RL, "restoreSnapshot", "(LBenchBroker;)I"⟩
abbrev cL_runs : ByteArray := method_52_code
def yL_runs : MethodName := ⟨RL, "runs", "(LBenchBroker;Ljava/lang/String;)I"⟩
abbrev cL_law : ByteArray := code
def yL_law : MethodName := ⟨RL, "law", "([I)Z"⟩
abbrev cL_endings : ByteArray := method_57_code
def yL_endings : MethodName := ⟨RL, "endings", "(LBenchBroker;)I"⟩
abbrev cL_does : ByteArray := method_58_code
def yL_does : MethodName := ⟨RL, "does", "([IIILBenchBroker;III)I"⟩
abbrev cL_sum : ByteArray := method_59_code
def yL_sum : MethodName := ⟨RL, "sum", "(LBenchBroker;)J"⟩
abbrev cL_isBench : ByteArray := method_60_code
def yL_isBench : MethodName := ⟨RL, "isBench", "(LBenchBroker;I)Z"⟩
abbrev cL_isTenant : ByteArray := method_61_code
def yL_isTenant : MethodName := ⟨RL, "isTenant", "(LBenchBroker;I)Z"⟩
abbrev cL_isWhole : ByteArray := method_62_code
def yL_isWhole : MethodName := ⟨RL, "isWhole", "(LBenchBroker;[IIZ)Z"⟩
abbrev cL_isKept : ByteArray := method_63_code
def yL_isKept : MethodName := ⟨RL, "isKept", "(LBenchBroker;[JI)Z"⟩
abbrev vwCl : List vw_C := [(RJ0, TJ0, 4), (RJ4, TJ4, 4), (RJx00060, TJx00060, 6), (RJx7c733, TJx7c733, 6), (RX1, TX1, 13), (RX2, TX2, 3), (RX3, TX3, 5), (RX4, TX4, 2), (RX5, TX5, 4), (RX6, TX6, 10), (RX8, TX8, 13)]
def GW : List Cond := lw_tbl.filter goodWord
theorem gw_t {w : Cond} (h : w ∈ tables_1) (hg : goodWord w = true) : w ∈ GW := List.mem_filter.mpr ⟨List.mem_append_right _ h, hg⟩
theorem gw_p {q : MethodName × Nat} (h : q ∈ lw_privs) (hg : goodWord (Cond.selects q.1.cls q.1 q.1) = true) : Cond.selects q.1.cls q.1 q.1 ∈ GW := List.mem_filter.mpr ⟨List.mem_append_left _ (List.mem_map.mpr ⟨q, h, rfl⟩), hg⟩
theorem gw_good {w : Cond} (h : w ∈ GW) : goodWord w = true := (List.mem_filter.mp h).2
theorem gw_tbl {w : Cond} (h : w ∈ GW) : w ∈ lw_tbl := (List.mem_filter.mp h).1
theorem tq_1 {w : Cond} (i : Nat) (h : tables_1_1[i]? = some w) (hg : goodWord w = true) : w ∈ GW := gw_t (by have h := List.mem_of_getElem? h; exact List.mem_append_left _ h) hg
theorem tq_2 {w : Cond} (i : Nat) (h : tables_1_2[i]? = some w) (hg : goodWord w = true) : w ∈ GW := gw_t (by have h := List.mem_of_getElem? h; exact List.mem_append_right _ (List.mem_append_left _ h)) hg
theorem tq_3 {w : Cond} (i : Nat) (h : tables_1_3[i]? = some w) (hg : goodWord w = true) : w ∈ GW := gw_t (by have h := List.mem_of_getElem? h; exact List.mem_append_right _ (List.mem_append_right _ (List.mem_append_left _ h))) hg
theorem tq_4 {w : Cond} (i : Nat) (h : tables_1_4[i]? = some w) (hg : goodWord w = true) : w ∈ GW := gw_t (by have h := List.mem_of_getElem? h; exact List.mem_append_right _ (List.mem_append_right _ (List.mem_append_right _ (List.mem_append_left _ h)))) hg
theorem tq_5 {w : Cond} (i : Nat) (h : tables_1_5[i]? = some w) (hg : goodWord w = true) : w ∈ GW := gw_t (by have h := List.mem_of_getElem? h; exact List.mem_append_right _ (List.mem_append_right _ (List.mem_append_right _ (List.mem_append_right _ (List.mem_append_left _ h))))) hg
theorem tq_6 {w : Cond} (i : Nat) (h : tables_1_6[i]? = some w) (hg : goodWord w = true) : w ∈ GW := gw_t (by have h := List.mem_of_getElem? h; exact List.mem_append_right _ (List.mem_append_right _ (List.mem_append_right _ (List.mem_append_right _ (List.mem_append_right _ (List.mem_append_left _ h)))))) hg
theorem tq_7 {w : Cond} (i : Nat) (h : tables_1_7[i]? = some w) (hg : goodWord w = true) : w ∈ GW := gw_t (by have h := List.mem_of_getElem? h; exact List.mem_append_right _ (List.mem_append_right _ (List.mem_append_right _ (List.mem_append_right _ (List.mem_append_right _ (List.mem_append_right _ (h))))))) hg
theorem wq_0 : (Jvm.Cond.initialized "BenchBrokerLaw") ∈ GW := tq_1 0 rfl rfl
theorem wq_1 : (Jvm.Cond.initialized "BenchBroker") ∈ GW := tq_1 1 rfl rfl
theorem wq_2 : (Jvm.Cond.initialized "BenchBroker$Books") ∈ GW := tq_1 2 rfl rfl
theorem wq_3 : (Jvm.Cond.initialized "BenchBroker$Park") ∈ GW := tq_1 3 rfl rfl
theorem wq_4 : (Jvm.Cond.initialized "java/util/Arrays") ∈ GW := tq_1 4 rfl rfl
theorem wq_5 : (Jvm.Cond.initialized "BenchBroker$History") ∈ GW := tq_1 5 rfl rfl
theorem wq_6 : (Jvm.Cond.initialized "BenchBroker$Outcome") ∈ GW := tq_1 6 rfl rfl
theorem wq_7 : (Jvm.Cond.initialized "BenchBroker$NoiseMap") ∈ GW := tq_1 7 rfl rfl
theorem wq_8 : (Jvm.Cond.initialized "BenchBroker$Input") ∈ GW := tq_1 8 rfl rfl
theorem wq_9 : (Jvm.Cond.initialized "java/lang/Enum") ∈ GW := tq_1 9 rfl rfl
theorem wq_10 : (Jvm.Cond.initialized "BenchBroker$Verb") ∈ GW := tq_1 10 rfl rfl
theorem wq_11 : (Jvm.Cond.initialized "java/lang/AbstractStringBuilder") ∈ GW := tq_1 11 rfl rfl
theorem wq_12 : (Jvm.Cond.initialized "java/lang/StringBuilder") ∈ GW := tq_1 12 rfl rfl
theorem wq_13 : (Jvm.Cond.initialized "java/lang/String") ∈ GW := tq_1 13 rfl rfl
theorem wq_14 : (Jvm.Cond.initialized "java/lang/StringUTF16") ∈ GW := tq_1 14 rfl rfl
theorem wq_15 : (Jvm.Cond.initialized "java/lang/Throwable") ∈ GW := tq_1 15 rfl rfl
theorem wq_16 : (Jvm.Cond.initialized "java/lang/Exception") ∈ GW := tq_1 16 rfl rfl
theorem wq_17 : (Jvm.Cond.initialized "java/lang/RuntimeException") ∈ GW := tq_1 17 rfl rfl
theorem wq_18 : (Jvm.Cond.initialized "java/lang/IndexOutOfBoundsException") ∈ GW := tq_1 18 rfl rfl
theorem wq_19 : (Jvm.Cond.initialized "java/lang/ArrayIndexOutOfBoundsException") ∈ GW := tq_1 19 rfl rfl
theorem wq_20 : (Jvm.Cond.initialized "java/util/NoSuchElementException") ∈ GW := tq_1 20 rfl rfl
theorem wq_21 : (Jvm.Cond.initialized "java/lang/StringIndexOutOfBoundsException") ∈ GW := tq_1 21 rfl rfl
theorem wq_22 : (Jvm.Cond.initialized "jdk/internal/util/ArraysSupport") ∈ GW := tq_1 22 rfl rfl
theorem wq_23 : (Jvm.Cond.initialized "java/lang/Math") ∈ GW := tq_1 23 rfl rfl
theorem wq_24 : (Jvm.Cond.initialized "java/lang/System") ∈ GW := tq_1 24 rfl rfl
theorem wq_25 : (Jvm.Cond.initialized "jdk/internal/util/Preconditions") ∈ GW := tq_1 25 rfl rfl
theorem wq_26 : (Jvm.Cond.initialized "java/lang/StringLatin1") ∈ GW := tq_1 26 rfl rfl
theorem wq_27 : (Jvm.Cond.initialized "java/lang/Number") ∈ GW := tq_1 27 rfl rfl
theorem wq_28 : (Jvm.Cond.initialized "java/lang/Integer") ∈ GW := tq_1 28 rfl rfl
theorem wq_29 : (Jvm.Cond.initialized "java/lang/IllegalArgumentException") ∈ GW := tq_1 29 rfl rfl
theorem wq_30 : (Jvm.Cond.initialized "java/lang/UnsupportedOperationException") ∈ GW := tq_1 30 rfl rfl
theorem wq_31 : (Jvm.Cond.initialized "java/lang/IllegalStateException") ∈ GW := tq_1 31 rfl rfl
theorem wq_32 : (Jvm.Cond.initialized "BenchBroker$1") ∈ GW := tq_1 32 rfl rfl
theorem wq_33 : (Jvm.Cond.initialized "java/lang/ArithmeticException") ∈ GW := tq_1 33 rfl rfl
theorem wq_34 : (Jvm.Cond.classLink "BenchBrokerLaw" (15 : Nat) "BenchBroker") ∈ GW := tq_1 34 rfl rfl
theorem wq_35 : (Jvm.Cond.instantiable "BenchBroker" (13 : Nat)) ∈ GW := tq_1 35 rfl rfl
theorem wq_36 : (Jvm.Cond.methodLink "BenchBrokerLaw" (208 : Nat) ({ cls := "BenchBroker", name := "<init>", desc := "()V" } : Jvm.MethodName)) ∈ GW := tq_1 36 rfl rfl
theorem wq_37 : (Jvm.Cond.instanceMethod ({ cls := "BenchBroker", name := "<init>", desc := "()V" } : Jvm.MethodName)) ∈ GW := tq_1 37 rfl rfl
theorem wq_38 : (Jvm.Cond.code ({ cls := "BenchBroker", name := "<init>", desc := "()V" } : Jvm.MethodName) prog_1_method_1_code (1 : Nat) (Option.none : Option Jvm.ClassFile.FieldType)) ∈ GW := tq_1 38 rfl rfl
theorem wq_39 : (Jvm.Cond.methodLink "BenchBroker" (1 : Nat) ({ cls := "java/lang/Object", name := "<init>", desc := "()V" } : Jvm.MethodName)) ∈ GW := tq_1 39 rfl rfl
theorem wq_40 : (Jvm.Cond.instanceMethod ({ cls := "java/lang/Object", name := "<init>", desc := "()V" } : Jvm.MethodName)) ∈ GW := tq_1 40 rfl rfl
theorem wq_41 : (Jvm.Cond.code ({ cls := "java/lang/Object", name := "<init>", desc := "()V" } : Jvm.MethodName) object_method_1_code (1 : Nat) (Option.none : Option Jvm.ClassFile.FieldType)) ∈ GW := tq_1 41 rfl rfl
theorem wq_42 : (Jvm.Cond.classLink "BenchBroker" (7 : Nat) "BenchBroker$Books") ∈ GW := tq_1 42 rfl rfl
theorem wq_43 : (Jvm.Cond.instantiable "BenchBroker$Books" (13 : Nat)) ∈ GW := tq_1 43 rfl rfl
theorem wq_44 : (Jvm.Cond.methodLink "BenchBroker" (9 : Nat) ({ cls := "BenchBroker$Books", name := "<init>", desc := "()V" } : Jvm.MethodName)) ∈ GW := tq_1 44 rfl rfl
theorem wq_45 : (Jvm.Cond.instanceMethod ({ cls := "BenchBroker$Books", name := "<init>", desc := "()V" } : Jvm.MethodName)) ∈ GW := tq_1 45 rfl rfl
theorem wq_46 : (Jvm.Cond.code ({ cls := "BenchBroker$Books", name := "<init>", desc := "()V" } : Jvm.MethodName) prog_3_method_1_code (1 : Nat) (Option.none : Option Jvm.ClassFile.FieldType)) ∈ GW := tq_1 46 rfl rfl
theorem wq_47 : (Jvm.Cond.methodLink "BenchBroker$Books" (3 : Nat) ({ cls := "java/lang/Object", name := "<init>", desc := "()V" } : Jvm.MethodName)) ∈ GW := tq_1 47 rfl rfl
theorem wq_48 : (Jvm.Cond.classLink "BenchBroker$Books" (9 : Nat) "BenchBroker$Park") ∈ GW := tq_1 48 rfl rfl
theorem wq_49 : (Jvm.Cond.instantiable "BenchBroker$Park" (10 : Nat)) ∈ GW := tq_1 49 rfl rfl
theorem wq_51 : (Jvm.Cond.instanceMethod ({ cls := "BenchBroker$Park", name := "<init>", desc := "()V" } : Jvm.MethodName)) ∈ GW := tq_1 51 rfl rfl
theorem wq_52 : (Jvm.Cond.code ({ cls := "BenchBroker$Park", name := "<init>", desc := "()V" } : Jvm.MethodName) prog_8_method_1_code (1 : Nat) (Option.none : Option Jvm.ClassFile.FieldType)) ∈ GW := tq_1 52 rfl rfl
theorem wq_53 : (Jvm.Cond.methodLink "BenchBroker$Park" (3 : Nat) ({ cls := "java/lang/Object", name := "<init>", desc := "()V" } : Jvm.MethodName)) ∈ GW := tq_1 53 rfl rfl
theorem wq_54 : (Jvm.Cond.fieldLink "BenchBroker$Park" (9 : Nat) "BenchBroker$Park" "benchTotal" "I") ∈ GW := tq_1 54 rfl rfl
theorem wq_55 : (Jvm.Cond.fieldLink "BenchBroker$Books" (66 : Nat) "BenchBroker$Park" "benchTotal" "I") ∈ GW := tq_1 55 rfl rfl
theorem wq_56 : (Jvm.Cond.fieldLink "BenchBroker" (108 : Nat) "BenchBroker$Park" "benchTotal" "I") ∈ GW := tq_1 56 rfl rfl
theorem wq_57 : (Jvm.Cond.fieldLink "BenchBroker$Park" (15 : Nat) "BenchBroker$Park" "benchRow" "[I") ∈ GW := tq_1 57 rfl rfl
theorem wq_58 : (Jvm.Cond.fieldLink "BenchBroker" (115 : Nat) "BenchBroker$Park" "benchRow" "[I") ∈ GW := tq_1 58 rfl rfl
theorem wq_59 : (Jvm.Cond.fieldLink "BenchBroker$Books" (98 : Nat) "BenchBroker$Park" "benchRow" "[I") ∈ GW := tq_1 59 rfl rfl
theorem wq_60 : (Jvm.Cond.fieldLink "BenchBroker$Park" (19 : Nat) "BenchBroker$Park" "benchColumn" "[I") ∈ GW := tq_1 60 rfl rfl
theorem wq_61 : (Jvm.Cond.fieldLink "BenchBroker$Books" (101 : Nat) "BenchBroker$Park" "benchColumn" "[I") ∈ GW := tq_1 61 rfl rfl
theorem wq_62 : (Jvm.Cond.fieldLink "BenchBroker" (119 : Nat) "BenchBroker$Park" "benchColumn" "[I") ∈ GW := tq_1 62 rfl rfl
theorem wq_63 : (Jvm.Cond.fieldLink "BenchBroker$Park" (22 : Nat) "BenchBroker$Park" "benchBaseRent" "[I") ∈ GW := tq_1 63 rfl rfl
theorem wq_64 : (Jvm.Cond.fieldLink "BenchBroker" (122 : Nat) "BenchBroker$Park" "benchBaseRent" "[I") ∈ GW := tq_1 64 rfl rfl
theorem wq_65 : (Jvm.Cond.fieldLink "BenchBroker$Park" (25 : Nat) "BenchBroker$Park" "fountainTotal" "I") ∈ GW := tq_1 65 rfl rfl
theorem wq_66 : (Jvm.Cond.fieldLink "BenchBroker$NoiseMap" (24 : Nat) "BenchBroker$Park" "fountainTotal" "I") ∈ GW := tq_1 66 rfl rfl
theorem wq_67 : (Jvm.Cond.fieldLink "BenchBroker" (129 : Nat) "BenchBroker$Park" "fountainTotal" "I") ∈ GW := tq_1 67 rfl rfl
theorem wq_68 : (Jvm.Cond.fieldLink "BenchBroker$Park" (28 : Nat) "BenchBroker$Park" "fountainRow" "[I") ∈ GW := tq_1 68 rfl rfl
theorem wq_69 : (Jvm.Cond.fieldLink "BenchBroker$NoiseMap" (34 : Nat) "BenchBroker$Park" "fountainRow" "[I") ∈ GW := tq_1 69 rfl rfl
theorem wq_70 : (Jvm.Cond.fieldLink "BenchBroker$Park" (31 : Nat) "BenchBroker$Park" "fountainColumn" "[I") ∈ GW := tq_1 70 rfl rfl
theorem wq_71 : (Jvm.Cond.fieldLink "BenchBroker$NoiseMap" (37 : Nat) "BenchBroker$Park" "fountainColumn" "[I") ∈ GW := tq_1 71 rfl rfl
theorem wq_72 : (Jvm.Cond.fieldLink "BenchBroker$Park" (34 : Nat) "BenchBroker$Park" "fountainLoudness" "[I") ∈ GW := tq_1 72 rfl rfl
theorem wq_73 : (Jvm.Cond.fieldLink "BenchBroker$NoiseMap" (40 : Nat) "BenchBroker$Park" "fountainLoudness" "[I") ∈ GW := tq_1 73 rfl rfl
theorem wq_74 : (Jvm.Cond.fieldLink "BenchBroker" (135 : Nat) "BenchBroker$Park" "fountainLoudness" "[I") ∈ GW := tq_1 74 rfl rfl
theorem wq_75 : (Jvm.Cond.fieldLink "BenchBroker$Park" (37 : Nat) "BenchBroker$Park" "fountainRuns" "[Z") ∈ GW := tq_1 75 rfl rfl
theorem wq_76 : (Jvm.Cond.fieldLink "BenchBroker$NoiseMap" (30 : Nat) "BenchBroker$Park" "fountainRuns" "[Z") ∈ GW := tq_1 76 rfl rfl
theorem wq_77 : (Jvm.Cond.fieldLink "BenchBroker" (138 : Nat) "BenchBroker$Park" "fountainRuns" "[Z") ∈ GW := tq_1 77 rfl rfl
theorem wq_78 : (Jvm.Cond.fieldLink "BenchBroker$Park" (41 : Nat) "BenchBroker$Park" "limit" "I") ∈ GW := tq_1 78 rfl rfl
theorem wq_79 : (Jvm.Cond.fieldLink "BenchBroker" (142 : Nat) "BenchBroker$Park" "limit" "I") ∈ GW := tq_1 79 rfl rfl
theorem wq_80 : (Jvm.Cond.lays "BenchBroker$Park" "BenchBroker$Park" "benchTotal" "I") ∈ GW := tq_1 80 rfl rfl
theorem wq_81 : (Jvm.Cond.soleField "BenchBroker$Park" "benchTotal") ∈ GW := tq_1 81 rfl rfl
theorem wq_82 : (Jvm.Cond.laysFinal "BenchBroker$Park" "BenchBroker$Park" "benchRow" "[I") ∈ GW := tq_1 82 rfl rfl
theorem wq_83 : (Jvm.Cond.soleField "BenchBroker$Park" "benchRow") ∈ GW := tq_1 83 rfl rfl
theorem wq_84 : (Jvm.Cond.laysFinal "BenchBroker$Park" "BenchBroker$Park" "benchColumn" "[I") ∈ GW := tq_1 84 rfl rfl
theorem wq_85 : (Jvm.Cond.soleField "BenchBroker$Park" "benchColumn") ∈ GW := tq_1 85 rfl rfl
theorem wq_86 : (Jvm.Cond.laysFinal "BenchBroker$Park" "BenchBroker$Park" "benchBaseRent" "[I") ∈ GW := tq_1 86 rfl rfl
theorem wq_87 : (Jvm.Cond.soleField "BenchBroker$Park" "benchBaseRent") ∈ GW := tq_1 87 rfl rfl
theorem wq_88 : (Jvm.Cond.lays "BenchBroker$Park" "BenchBroker$Park" "fountainTotal" "I") ∈ GW := tq_1 88 rfl rfl
theorem wq_89 : (Jvm.Cond.soleField "BenchBroker$Park" "fountainTotal") ∈ GW := tq_1 89 rfl rfl
theorem wq_90 : (Jvm.Cond.laysFinal "BenchBroker$Park" "BenchBroker$Park" "fountainRow" "[I") ∈ GW := tq_1 90 rfl rfl
theorem wq_91 : (Jvm.Cond.soleField "BenchBroker$Park" "fountainRow") ∈ GW := tq_1 91 rfl rfl
theorem wq_92 : (Jvm.Cond.laysFinal "BenchBroker$Park" "BenchBroker$Park" "fountainColumn" "[I") ∈ GW := tq_1 92 rfl rfl
theorem wq_93 : (Jvm.Cond.soleField "BenchBroker$Park" "fountainColumn") ∈ GW := tq_1 93 rfl rfl
theorem wq_94 : (Jvm.Cond.laysFinal "BenchBroker$Park" "BenchBroker$Park" "fountainLoudness" "[I") ∈ GW := tq_1 94 rfl rfl
theorem wq_95 : (Jvm.Cond.soleField "BenchBroker$Park" "fountainLoudness") ∈ GW := tq_1 95 rfl rfl
theorem wq_96 : (Jvm.Cond.laysFinal "BenchBroker$Park" "BenchBroker$Park" "fountainRuns" "[Z") ∈ GW := tq_1 96 rfl rfl
theorem wq_97 : (Jvm.Cond.soleField "BenchBroker$Park" "fountainRuns") ∈ GW := tq_1 97 rfl rfl
theorem wq_98 : (Jvm.Cond.lays "BenchBroker$Park" "BenchBroker$Park" "limit" "I") ∈ GW := tq_1 98 rfl rfl
theorem wq_99 : (Jvm.Cond.soleField "BenchBroker$Park" "limit") ∈ GW := tq_1 99 rfl rfl
theorem wq_100 : (Jvm.Cond.superclass "BenchBroker$Park" "java/lang/Object") ∈ GW := tq_1 100 rfl rfl
theorem wq_101 : (Jvm.Cond.arrayClass Jvm.ClassFile.FieldType.int) ∈ GW := tq_1 101 rfl rfl
theorem wq_102 : (Jvm.Cond.arrayClass Jvm.ClassFile.FieldType.boolean) ∈ GW := tq_1 102 rfl rfl
theorem wq_103 : (Jvm.Cond.methodLink "BenchBroker$Books" (56 : Nat) ({ cls := "java/util/Arrays", name := "fill", desc := "([II)V" } : Jvm.MethodName)) ∈ GW := tq_1 103 rfl rfl
theorem wq_104 : (Jvm.Cond.static ({ cls := "java/util/Arrays", name := "fill", desc := "([II)V" } : Jvm.MethodName)) ∈ GW := tq_1 104 rfl rfl
theorem wq_105 : (Jvm.Cond.code ({ cls := "java/util/Arrays", name := "fill", desc := "([II)V" } : Jvm.MethodName) prog_39_method_103_code (4 : Nat) (Option.none : Option Jvm.ClassFile.FieldType)) ∈ GW := tq_1 105 rfl rfl
theorem wq_106 : (Jvm.Cond.fieldLink "BenchBroker$Books" (12 : Nat) "BenchBroker$Books" "park" "LBenchBroker$Park;") ∈ GW := tq_1 106 rfl rfl
theorem wq_107 : (Jvm.Cond.fieldLink "BenchBroker" (77 : Nat) "BenchBroker$Books" "park" "LBenchBroker$Park;") ∈ GW := tq_1 107 rfl rfl
theorem wq_108 : (Jvm.Cond.fieldLink "BenchBroker$Books" (18 : Nat) "BenchBroker$Books" "tenantTotal" "I") ∈ GW := tq_1 108 rfl rfl
theorem wq_109 : (Jvm.Cond.fieldLink "BenchBroker" (170 : Nat) "BenchBroker$Books" "tenantTotal" "I") ∈ GW := tq_1 109 rfl rfl
theorem wq_110 : (Jvm.Cond.fieldLink "BenchBroker$Books" (22 : Nat) "BenchBroker$Books" "coins" "[I") ∈ GW := tq_1 110 rfl rfl
theorem wq_111 : (Jvm.Cond.fieldLink "BenchBroker" (176 : Nat) "BenchBroker$Books" "coins" "[I") ∈ GW := tq_1 111 rfl rfl
theorem wq_112 : (Jvm.Cond.fieldLink "BenchBroker$Books" (26 : Nat) "BenchBroker$Books" "defaults" "[I") ∈ GW := tq_1 112 rfl rfl
theorem wq_113 : (Jvm.Cond.fieldLink "BenchBroker" (179 : Nat) "BenchBroker$Books" "defaults" "[I") ∈ GW := tq_1 113 rfl rfl
theorem wq_114 : (Jvm.Cond.fieldLink "BenchBroker$Books" (29 : Nat) "BenchBroker$Books" "leaseTenant" "[I") ∈ GW := tq_1 114 rfl rfl
theorem wq_115 : (Jvm.Cond.fieldLink "BenchBroker" (209 : Nat) "BenchBroker$Books" "leaseTenant" "[I") ∈ GW := tq_1 115 rfl rfl
theorem wq_116 : (Jvm.Cond.fieldLink "BenchBroker$Books" (32 : Nat) "BenchBroker$Books" "leaseDeposit" "[I") ∈ GW := tq_1 116 rfl rfl
theorem wq_117 : (Jvm.Cond.fieldLink "BenchBroker" (212 : Nat) "BenchBroker$Books" "leaseDeposit" "[I") ∈ GW := tq_1 117 rfl rfl
theorem wq_118 : (Jvm.Cond.fieldLink "BenchBroker$Books" (35 : Nat) "BenchBroker$Books" "leaseMonths" "[I") ∈ GW := tq_1 118 rfl rfl
theorem wq_119 : (Jvm.Cond.fieldLink "BenchBroker" (215 : Nat) "BenchBroker$Books" "leaseMonths" "[I") ∈ GW := tq_1 119 rfl rfl
theorem wq_120 : (Jvm.Cond.fieldLink "BenchBroker$Books" (38 : Nat) "BenchBroker$Books" "monthsPassed" "I") ∈ GW := tq_1 120 rfl rfl
theorem wq_121 : (Jvm.Cond.fieldLink "BenchBroker" (224 : Nat) "BenchBroker$Books" "monthsPassed" "I") ∈ GW := tq_1 121 rfl rfl
theorem wq_122 : (Jvm.Cond.fieldLink "BenchBroker$Books" (41 : Nat) "BenchBroker$Books" "brokerPurse" "I") ∈ GW := tq_1 122 rfl rfl
theorem wq_123 : (Jvm.Cond.fieldLink "BenchBroker" (236 : Nat) "BenchBroker$Books" "brokerPurse" "I") ∈ GW := tq_1 123 rfl rfl
theorem wq_124 : (Jvm.Cond.fieldLink "BenchBroker$Books" (44 : Nat) "BenchBroker$Books" "coinsGiven" "I") ∈ GW := tq_1 124 rfl rfl
theorem wq_125 : (Jvm.Cond.fieldLink "BenchBroker" (245 : Nat) "BenchBroker$Books" "coinsGiven" "I") ∈ GW := tq_1 125 rfl rfl
theorem wq_126 : (Jvm.Cond.fieldLink "BenchBroker$Books" (47 : Nat) "BenchBroker$Books" "defaulted" "I") ∈ GW := tq_1 126 rfl rfl
theorem wq_127 : (Jvm.Cond.fieldLink "BenchBroker" (248 : Nat) "BenchBroker$Books" "defaulted" "I") ∈ GW := tq_1 127 rfl rfl
theorem wq_128 : (Jvm.Cond.fieldLink "BenchBroker$Books" (50 : Nat) "BenchBroker$Books" "terminated" "I") ∈ GW := tq_1 128 rfl rfl
theorem wq_129 : (Jvm.Cond.fieldLink "BenchBroker" (251 : Nat) "BenchBroker$Books" "terminated" "I") ∈ GW := tq_1 129 rfl rfl
theorem wq_130 : (Jvm.Cond.fieldLink "BenchBroker$Books" (53 : Nat) "BenchBroker$Books" "completed" "I") ∈ GW := tq_1 130 rfl rfl
theorem wq_131 : (Jvm.Cond.fieldLink "BenchBroker" (254 : Nat) "BenchBroker$Books" "completed" "I") ∈ GW := tq_1 131 rfl rfl
theorem wq_132 : (Jvm.Cond.laysFinal "BenchBroker$Books" "BenchBroker$Books" "park" "LBenchBroker$Park;") ∈ GW := tq_1 132 rfl rfl
theorem wq_133 : (Jvm.Cond.soleField "BenchBroker$Books" "park") ∈ GW := tq_1 133 rfl rfl
theorem wq_134 : (Jvm.Cond.lays "BenchBroker$Books" "BenchBroker$Books" "tenantTotal" "I") ∈ GW := tq_1 134 rfl rfl
theorem wq_135 : (Jvm.Cond.soleField "BenchBroker$Books" "tenantTotal") ∈ GW := tq_1 135 rfl rfl
theorem wq_136 : (Jvm.Cond.laysFinal "BenchBroker$Books" "BenchBroker$Books" "coins" "[I") ∈ GW := tq_1 136 rfl rfl
theorem wq_137 : (Jvm.Cond.soleField "BenchBroker$Books" "coins") ∈ GW := tq_1 137 rfl rfl
theorem wq_138 : (Jvm.Cond.laysFinal "BenchBroker$Books" "BenchBroker$Books" "defaults" "[I") ∈ GW := tq_1 138 rfl rfl
theorem wq_139 : (Jvm.Cond.soleField "BenchBroker$Books" "defaults") ∈ GW := tq_1 139 rfl rfl
theorem wq_140 : (Jvm.Cond.laysFinal "BenchBroker$Books" "BenchBroker$Books" "leaseTenant" "[I") ∈ GW := tq_1 140 rfl rfl
theorem wq_141 : (Jvm.Cond.soleField "BenchBroker$Books" "leaseTenant") ∈ GW := tq_1 141 rfl rfl
theorem wq_142 : (Jvm.Cond.laysFinal "BenchBroker$Books" "BenchBroker$Books" "leaseDeposit" "[I") ∈ GW := tq_1 142 rfl rfl
theorem wq_143 : (Jvm.Cond.soleField "BenchBroker$Books" "leaseDeposit") ∈ GW := tq_1 143 rfl rfl
theorem wq_144 : (Jvm.Cond.laysFinal "BenchBroker$Books" "BenchBroker$Books" "leaseMonths" "[I") ∈ GW := tq_1 144 rfl rfl
theorem wq_145 : (Jvm.Cond.soleField "BenchBroker$Books" "leaseMonths") ∈ GW := tq_1 145 rfl rfl
theorem wq_146 : (Jvm.Cond.lays "BenchBroker$Books" "BenchBroker$Books" "monthsPassed" "I") ∈ GW := tq_1 146 rfl rfl
theorem wq_147 : (Jvm.Cond.soleField "BenchBroker$Books" "monthsPassed") ∈ GW := tq_1 147 rfl rfl
theorem wq_148 : (Jvm.Cond.lays "BenchBroker$Books" "BenchBroker$Books" "brokerPurse" "I") ∈ GW := tq_1 148 rfl rfl
theorem wq_149 : (Jvm.Cond.soleField "BenchBroker$Books" "brokerPurse") ∈ GW := tq_1 149 rfl rfl
theorem wq_150 : (Jvm.Cond.lays "BenchBroker$Books" "BenchBroker$Books" "coinsGiven" "I") ∈ GW := tq_1 150 rfl rfl
theorem wq_151 : (Jvm.Cond.soleField "BenchBroker$Books" "coinsGiven") ∈ GW := tq_1 151 rfl rfl
theorem wq_152 : (Jvm.Cond.lays "BenchBroker$Books" "BenchBroker$Books" "defaulted" "I") ∈ GW := tq_1 152 rfl rfl
theorem wq_153 : (Jvm.Cond.soleField "BenchBroker$Books" "defaulted") ∈ GW := tq_1 153 rfl rfl
theorem wq_154 : (Jvm.Cond.lays "BenchBroker$Books" "BenchBroker$Books" "terminated" "I") ∈ GW := tq_1 154 rfl rfl
theorem wq_155 : (Jvm.Cond.soleField "BenchBroker$Books" "terminated") ∈ GW := tq_1 155 rfl rfl
theorem wq_156 : (Jvm.Cond.lays "BenchBroker$Books" "BenchBroker$Books" "completed" "I") ∈ GW := tq_1 156 rfl rfl
theorem wq_157 : (Jvm.Cond.soleField "BenchBroker$Books" "completed") ∈ GW := tq_1 157 rfl rfl
theorem wq_158 : (Jvm.Cond.superclass "BenchBroker$Books" "java/lang/Object") ∈ GW := tq_1 158 rfl rfl
theorem wq_159 : (Jvm.Cond.classLink "BenchBroker" (19 : Nat) "BenchBroker$History") ∈ GW := tq_1 159 rfl rfl
theorem wq_160 : (Jvm.Cond.instantiable "BenchBroker$History" (3 : Nat)) ∈ GW := tq_1 160 rfl rfl
theorem wq_161 : (Jvm.Cond.methodLink "BenchBroker" (21 : Nat) ({ cls := "BenchBroker$History", name := "<init>", desc := "()V" } : Jvm.MethodName)) ∈ GW := tq_1 161 rfl rfl
theorem wq_162 : (Jvm.Cond.instanceMethod ({ cls := "BenchBroker$History", name := "<init>", desc := "()V" } : Jvm.MethodName)) ∈ GW := tq_1 162 rfl rfl
theorem wq_163 : (Jvm.Cond.code ({ cls := "BenchBroker$History", name := "<init>", desc := "()V" } : Jvm.MethodName) prog_4_method_1_code (2 : Nat) (Option.none : Option Jvm.ClassFile.FieldType)) ∈ GW := tq_1 163 rfl rfl
theorem wq_164 : (Jvm.Cond.methodLink "BenchBroker$History" (3 : Nat) ({ cls := "java/lang/Object", name := "<init>", desc := "()V" } : Jvm.MethodName)) ∈ GW := tq_1 164 rfl rfl
theorem wq_165 : (Jvm.Cond.classLink "BenchBroker$History" (9 : Nat) "BenchBroker$Books") ∈ GW := tq_1 165 rfl rfl
theorem wq_167 : (Jvm.Cond.methodLink "BenchBroker$History" (24 : Nat) ({ cls := "BenchBroker$Books", name := "<init>", desc := "()V" } : Jvm.MethodName)) ∈ GW := tq_1 167 rfl rfl
theorem wq_168 : (Jvm.Cond.fieldLink "BenchBroker$History" (11 : Nat) "BenchBroker$History" "ring" "[LBenchBroker$Books;") ∈ GW := tq_1 168 rfl rfl
theorem wq_169 : (Jvm.Cond.fieldLink "BenchBroker$History" (17 : Nat) "BenchBroker$History" "next" "I") ∈ GW := tq_1 169 rfl rfl
theorem wq_170 : (Jvm.Cond.fieldLink "BenchBroker$History" (21 : Nat) "BenchBroker$History" "size" "I") ∈ GW := tq_1 170 rfl rfl
theorem wq_171 : (Jvm.Cond.fieldLink "BenchBroker" (337 : Nat) "BenchBroker$History" "size" "I") ∈ GW := tq_1 171 rfl rfl
theorem wq_172 : (Jvm.Cond.laysFinal "BenchBroker$History" "BenchBroker$History" "ring" "[LBenchBroker$Books;") ∈ GW := tq_1 172 rfl rfl
theorem wq_173 : (Jvm.Cond.soleField "BenchBroker$History" "ring") ∈ GW := tq_1 173 rfl rfl
theorem wq_174 : (Jvm.Cond.lays "BenchBroker$History" "BenchBroker$History" "next" "I") ∈ GW := tq_1 174 rfl rfl
theorem wq_175 : (Jvm.Cond.soleField "BenchBroker$History" "next") ∈ GW := tq_1 175 rfl rfl
theorem wq_176 : (Jvm.Cond.lays "BenchBroker$History" "BenchBroker$History" "size" "I") ∈ GW := tq_1 176 rfl rfl
theorem wq_177 : (Jvm.Cond.soleField "BenchBroker$History" "size") ∈ GW := tq_1 177 rfl rfl
theorem wq_178 : (Jvm.Cond.superclass "BenchBroker$History" "java/lang/Object") ∈ GW := tq_1 178 rfl rfl
theorem wq_179 : (Jvm.Cond.classLink "BenchBroker" (33 : Nat) "BenchBroker$Outcome") ∈ GW := tq_1 179 rfl rfl
theorem wq_180 : (Jvm.Cond.instantiable "BenchBroker$Outcome" (4 : Nat)) ∈ GW := tq_1 180 rfl rfl
theorem wq_182 : (Jvm.Cond.instanceMethod ({ cls := "BenchBroker$Outcome", name := "<init>", desc := "()V" } : Jvm.MethodName)) ∈ GW := tq_1 182 rfl rfl
theorem wq_183 : (Jvm.Cond.code ({ cls := "BenchBroker$Outcome", name := "<init>", desc := "()V" } : Jvm.MethodName) prog_7_method_1_code (1 : Nat) (Option.none : Option Jvm.ClassFile.FieldType)) ∈ GW := tq_1 183 rfl rfl
theorem wq_184 : (Jvm.Cond.methodLink "BenchBroker$Outcome" (3 : Nat) ({ cls := "java/lang/Object", name := "<init>", desc := "()V" } : Jvm.MethodName)) ∈ GW := tq_1 184 rfl rfl
theorem wq_185 : (Jvm.Cond.fieldLink "BenchBroker$Outcome" (11 : Nat) "BenchBroker$Outcome" "result" "I") ∈ GW := tq_1 185 rfl rfl
theorem wq_186 : (Jvm.Cond.fieldLink "BenchBroker" (324 : Nat) "BenchBroker$Outcome" "result" "I") ∈ GW := tq_1 186 rfl rfl
theorem wq_187 : (Jvm.Cond.fieldLink "BenchBroker$Outcome" (15 : Nat) "BenchBroker$Outcome" "value" "I") ∈ GW := tq_1 187 rfl rfl
theorem wq_188 : (Jvm.Cond.fieldLink "BenchBroker" (366 : Nat) "BenchBroker$Outcome" "value" "I") ∈ GW := tq_1 188 rfl rfl
theorem wq_189 : (Jvm.Cond.fieldLink "BenchBroker$Outcome" (18 : Nat) "BenchBroker$Outcome" "reason" "I") ∈ GW := tq_1 189 rfl rfl
theorem wq_190 : (Jvm.Cond.fieldLink "BenchBroker" (327 : Nat) "BenchBroker$Outcome" "reason" "I") ∈ GW := tq_1 190 rfl rfl
theorem wq_191 : (Jvm.Cond.fieldLink "BenchBroker$Outcome" (21 : Nat) "BenchBroker$Outcome" "detail" "I") ∈ GW := tq_1 191 rfl rfl
theorem wq_192 : (Jvm.Cond.fieldLink "BenchBroker" (363 : Nat) "BenchBroker$Outcome" "detail" "I") ∈ GW := tq_1 192 rfl rfl
theorem wq_193 : (Jvm.Cond.lays "BenchBroker$Outcome" "BenchBroker$Outcome" "result" "I") ∈ GW := tq_1 193 rfl rfl
theorem wq_194 : (Jvm.Cond.soleField "BenchBroker$Outcome" "result") ∈ GW := tq_1 194 rfl rfl
theorem wq_195 : (Jvm.Cond.lays "BenchBroker$Outcome" "BenchBroker$Outcome" "value" "I") ∈ GW := tq_1 195 rfl rfl
theorem wq_196 : (Jvm.Cond.soleField "BenchBroker$Outcome" "value") ∈ GW := tq_1 196 rfl rfl
theorem wq_197 : (Jvm.Cond.lays "BenchBroker$Outcome" "BenchBroker$Outcome" "reason" "I") ∈ GW := tq_1 197 rfl rfl
theorem wq_198 : (Jvm.Cond.soleField "BenchBroker$Outcome" "reason") ∈ GW := tq_1 198 rfl rfl
theorem wq_199 : (Jvm.Cond.lays "BenchBroker$Outcome" "BenchBroker$Outcome" "detail" "I") ∈ GW := tq_1 199 rfl rfl
theorem wq_200 : (Jvm.Cond.soleField "BenchBroker$Outcome" "detail") ∈ GW := tq_1 200 rfl rfl
theorem wq_201 : (Jvm.Cond.superclass "BenchBroker$Outcome" "java/lang/Object") ∈ GW := tq_1 201 rfl rfl
theorem wq_202 : (Jvm.Cond.classLink "BenchBroker" (40 : Nat) "BenchBroker$NoiseMap") ∈ GW := tq_1 202 rfl rfl
theorem wq_203 : (Jvm.Cond.instantiable "BenchBroker$NoiseMap" (2 : Nat)) ∈ GW := tq_1 203 rfl rfl
theorem wq_205 : (Jvm.Cond.instanceMethod ({ cls := "BenchBroker$NoiseMap", name := "<init>", desc := "()V" } : Jvm.MethodName)) ∈ GW := tq_1 205 rfl rfl
theorem wq_206 : (Jvm.Cond.code ({ cls := "BenchBroker$NoiseMap", name := "<init>", desc := "()V" } : Jvm.MethodName) prog_6_method_1_code (1 : Nat) (Option.none : Option Jvm.ClassFile.FieldType)) ∈ GW := tq_1 206 rfl rfl
theorem wq_207 : (Jvm.Cond.methodLink "BenchBroker$NoiseMap" (3 : Nat) ({ cls := "java/lang/Object", name := "<init>", desc := "()V" } : Jvm.MethodName)) ∈ GW := tq_1 207 rfl rfl
theorem wq_208 : (Jvm.Cond.fieldLink "BenchBroker$NoiseMap" (9 : Nat) "BenchBroker$NoiseMap" "total" "[I") ∈ GW := tq_1 208 rfl rfl
theorem wq_209 : (Jvm.Cond.fieldLink "BenchBroker" (157 : Nat) "BenchBroker$NoiseMap" "total" "[I") ∈ GW := tq_1 209 rfl rfl
theorem wq_210 : (Jvm.Cond.fieldLink "BenchBroker$NoiseMap" (15 : Nat) "BenchBroker$NoiseMap" "sound" "[I") ∈ GW := tq_1 210 rfl rfl
theorem wq_211 : (Jvm.Cond.laysFinal "BenchBroker$NoiseMap" "BenchBroker$NoiseMap" "total" "[I") ∈ GW := tq_1 211 rfl rfl
theorem wq_212 : (Jvm.Cond.soleField "BenchBroker$NoiseMap" "total") ∈ GW := tq_1 212 rfl rfl
theorem wq_213 : (Jvm.Cond.laysFinal "BenchBroker$NoiseMap" "BenchBroker$NoiseMap" "sound" "[I") ∈ GW := tq_1 213 rfl rfl
theorem wq_214 : (Jvm.Cond.soleField "BenchBroker$NoiseMap" "sound") ∈ GW := tq_1 214 rfl rfl
theorem wq_215 : (Jvm.Cond.superclass "BenchBroker$NoiseMap" "java/lang/Object") ∈ GW := tq_1 215 rfl rfl
theorem wq_216 : (Jvm.Cond.classLink "BenchBroker" (47 : Nat) "BenchBroker$Input") ∈ GW := tq_1 216 rfl rfl
theorem wq_217 : (Jvm.Cond.instantiable "BenchBroker$Input" (5 : Nat)) ∈ GW := tq_1 217 rfl rfl
theorem wq_219 : (Jvm.Cond.instanceMethod ({ cls := "BenchBroker$Input", name := "<init>", desc := "()V" } : Jvm.MethodName)) ∈ GW := tq_1 219 rfl rfl
theorem wq_220 : (Jvm.Cond.code ({ cls := "BenchBroker$Input", name := "<init>", desc := "()V" } : Jvm.MethodName) prog_5_method_1_code (1 : Nat) (Option.none : Option Jvm.ClassFile.FieldType)) ∈ GW := tq_1 220 rfl rfl
theorem wq_221 : (Jvm.Cond.methodLink "BenchBroker$Input" (3 : Nat) ({ cls := "java/lang/Object", name := "<init>", desc := "()V" } : Jvm.MethodName)) ∈ GW := tq_1 221 rfl rfl
theorem wq_222 : (Jvm.Cond.fieldLink "BenchBroker$Input" (22 : Nat) "BenchBroker$Verb" "BENCH" "LBenchBroker$Verb;") ∈ GW := tq_1 222 rfl rfl
theorem wq_224 : (Jvm.Cond.fieldLink "BenchBroker$Input" (9 : Nat) "BenchBroker$Input" "text" "[C") ∈ GW := tq_1 224 rfl rfl
theorem wq_225 : (Jvm.Cond.fieldLink "BenchBroker" (308 : Nat) "BenchBroker$Input" "text" "[C") ∈ GW := tq_1 225 rfl rfl
theorem wq_226 : (Jvm.Cond.fieldLink "BenchBroker$Input" (15 : Nat) "BenchBroker$Input" "length" "I") ∈ GW := tq_1 226 rfl rfl
theorem wq_227 : (Jvm.Cond.fieldLink "BenchBroker" (303 : Nat) "BenchBroker$Input" "length" "I") ∈ GW := tq_1 227 rfl rfl
theorem wq_228 : (Jvm.Cond.fieldLink "BenchBroker$Input" (19 : Nat) "BenchBroker$Input" "position" "I") ∈ GW := tq_1 228 rfl rfl
theorem wq_229 : (Jvm.Cond.fieldLink "BenchBroker" (315 : Nat) "BenchBroker$Input" "position" "I") ∈ GW := tq_1 229 rfl rfl
theorem wq_230 : (Jvm.Cond.fieldLink "BenchBroker$Input" (28 : Nat) "BenchBroker$Input" "verb" "LBenchBroker$Verb;") ∈ GW := tq_1 230 rfl rfl
theorem wq_231 : (Jvm.Cond.fieldLink "BenchBroker" (379 : Nat) "BenchBroker$Input" "verb" "LBenchBroker$Verb;") ∈ GW := tq_1 231 rfl rfl
theorem wq_232 : (Jvm.Cond.fieldLink "BenchBroker$Input" (31 : Nat) "BenchBroker$Input" "arguments" "[I") ∈ GW := tq_1 232 rfl rfl
theorem wq_233 : (Jvm.Cond.fieldLink "BenchBroker" (383 : Nat) "BenchBroker$Input" "arguments" "[I") ∈ GW := tq_1 233 rfl rfl
theorem wq_234 : (Jvm.Cond.laysFinal "BenchBroker$Input" "BenchBroker$Input" "text" "[C") ∈ GW := tq_1 234 rfl rfl
theorem wq_235 : (Jvm.Cond.soleField "BenchBroker$Input" "text") ∈ GW := tq_1 235 rfl rfl
theorem wq_236 : (Jvm.Cond.lays "BenchBroker$Input" "BenchBroker$Input" "length" "I") ∈ GW := tq_1 236 rfl rfl
theorem wq_237 : (Jvm.Cond.soleField "BenchBroker$Input" "length") ∈ GW := tq_1 237 rfl rfl
theorem wq_238 : (Jvm.Cond.lays "BenchBroker$Input" "BenchBroker$Input" "position" "I") ∈ GW := tq_1 238 rfl rfl
theorem wq_239 : (Jvm.Cond.soleField "BenchBroker$Input" "position") ∈ GW := tq_1 239 rfl rfl
theorem wq_240 : (Jvm.Cond.lays "BenchBroker$Input" "BenchBroker$Input" "verb" "LBenchBroker$Verb;") ∈ GW := tq_2 0 rfl rfl
theorem wq_241 : (Jvm.Cond.soleField "BenchBroker$Input" "verb") ∈ GW := tq_2 1 rfl rfl
theorem wq_242 : (Jvm.Cond.laysFinal "BenchBroker$Input" "BenchBroker$Input" "arguments" "[I") ∈ GW := tq_2 2 rfl rfl
theorem wq_243 : (Jvm.Cond.soleField "BenchBroker$Input" "arguments") ∈ GW := tq_2 3 rfl rfl
theorem wq_244 : (Jvm.Cond.superclass "BenchBroker$Input" "java/lang/Object") ∈ GW := tq_2 4 rfl rfl
theorem wq_245 : (Jvm.Cond.arrayClass Jvm.ClassFile.FieldType.char) ∈ GW := tq_2 5 rfl rfl
theorem wq_246 : (Jvm.Cond.classLink "BenchBroker" (54 : Nat) "java/lang/StringBuilder") ∈ GW := tq_2 6 rfl rfl
theorem wq_247 : (Jvm.Cond.instantiable "java/lang/StringBuilder" (4 : Nat)) ∈ GW := tq_2 7 rfl rfl
theorem wq_248 : (Jvm.Cond.methodLink "BenchBroker" (56 : Nat) ({ cls := "java/lang/StringBuilder", name := "<init>", desc := "()V" } : Jvm.MethodName)) ∈ GW := tq_2 8 rfl rfl
theorem wq_249 : (Jvm.Cond.instanceMethod ({ cls := "java/lang/StringBuilder", name := "<init>", desc := "()V" } : Jvm.MethodName)) ∈ GW := tq_2 9 rfl rfl
theorem wq_250 : (Jvm.Cond.code ({ cls := "java/lang/StringBuilder", name := "<init>", desc := "()V" } : Jvm.MethodName) prog_30_method_1_code (1 : Nat) (Option.none : Option Jvm.ClassFile.FieldType)) ∈ GW := tq_2 10 rfl rfl
theorem wq_251 : (Jvm.Cond.methodLink "java/lang/StringBuilder" (1 : Nat) ({ cls := "java/lang/AbstractStringBuilder", name := "<init>", desc := "(I)V" } : Jvm.MethodName)) ∈ GW := tq_2 11 rfl rfl
theorem wq_252 : (Jvm.Cond.instanceMethod ({ cls := "java/lang/AbstractStringBuilder", name := "<init>", desc := "(I)V" } : Jvm.MethodName)) ∈ GW := tq_2 12 rfl rfl
theorem wq_253 : (Jvm.Cond.code ({ cls := "java/lang/AbstractStringBuilder", name := "<init>", desc := "(I)V" } : Jvm.MethodName) prog_13_method_2_code (2 : Nat) (Option.none : Option Jvm.ClassFile.FieldType)) ∈ GW := tq_2 13 rfl rfl
theorem wq_254 : (Jvm.Cond.methodLink "java/lang/AbstractStringBuilder" (3 : Nat) ({ cls := "java/lang/Object", name := "<init>", desc := "()V" } : Jvm.MethodName)) ∈ GW := tq_2 14 rfl rfl
theorem wq_255 : (Jvm.Cond.fieldLink "java/lang/AbstractStringBuilder" (18 : Nat) "java/lang/String" "COMPACT_STRINGS" "Z") ∈ GW := tq_2 15 rfl rfl
theorem wq_257 : (Jvm.Cond.methodLink "java/lang/AbstractStringBuilder" (26 : Nat) ({ cls := "java/lang/StringUTF16", name := "newBytesFor", desc := "(I)[B" } : Jvm.MethodName)) ∈ GW := tq_2 17 rfl rfl
theorem wq_258 : (Jvm.Cond.static ({ cls := "java/lang/StringUTF16", name := "newBytesFor", desc := "(I)[B" } : Jvm.MethodName)) ∈ GW := tq_2 18 rfl rfl
theorem wq_259 : (Jvm.Cond.code ({ cls := "java/lang/StringUTF16", name := "newBytesFor", desc := "(I)[B" } : Jvm.MethodName) prog_33_method_2_code (1 : Nat) (Option.some (Jvm.ClassFile.FieldType.array Jvm.ClassFile.FieldType.byte))) ∈ GW := tq_2 19 rfl rfl
theorem wq_260 : (Jvm.Cond.methodLink "java/lang/StringUTF16" (11 : Nat) ({ cls := "java/lang/StringUTF16", name := "newBytesLength", desc := "(I)I" } : Jvm.MethodName)) ∈ GW := tq_2 20 rfl rfl
theorem wq_261 : (Jvm.Cond.static ({ cls := "java/lang/StringUTF16", name := "newBytesLength", desc := "(I)I" } : Jvm.MethodName)) ∈ GW := tq_2 21 rfl rfl
theorem wq_262 : (Jvm.Cond.code ({ cls := "java/lang/StringUTF16", name := "newBytesLength", desc := "(I)I" } : Jvm.MethodName) prog_33_method_3_code (1 : Nat) (Option.some Jvm.ClassFile.FieldType.int)) ∈ GW := tq_2 22 rfl rfl
theorem wq_263 : (Jvm.Cond.constant "java/lang/StringUTF16" (20 : Nat) (1073741823 : Int32)) ∈ GW := tq_2 23 rfl rfl
theorem wq_264 : (Jvm.Cond.fieldLink "java/lang/AbstractStringBuilder" (15 : Nat) "java/lang/AbstractStringBuilder" "value" "[B") ∈ GW := tq_2 24 rfl rfl
theorem wq_265 : (Jvm.Cond.fieldLink "java/lang/AbstractStringBuilder" (22 : Nat) "java/lang/AbstractStringBuilder" "coder" "B") ∈ GW := tq_2 25 rfl rfl
theorem wq_266 : (Jvm.Cond.fieldLink "java/lang/AbstractStringBuilder" (73 : Nat) "java/lang/AbstractStringBuilder" "maybeLatin1" "Z") ∈ GW := tq_2 26 rfl rfl
theorem wq_267 : (Jvm.Cond.fieldLink "java/lang/String" (1048 : Nat) "java/lang/AbstractStringBuilder" "maybeLatin1" "Z") ∈ GW := tq_2 27 rfl rfl
theorem wq_268 : (Jvm.Cond.fieldLink "java/lang/AbstractStringBuilder" (79 : Nat) "java/lang/AbstractStringBuilder" "count" "I") ∈ GW := tq_2 28 rfl rfl
theorem wq_269 : (Jvm.Cond.lays "java/lang/StringBuilder" "java/lang/AbstractStringBuilder" "value" "[B") ∈ GW := tq_2 29 rfl rfl
theorem wq_270 : (Jvm.Cond.soleField "java/lang/AbstractStringBuilder" "value") ∈ GW := tq_2 30 rfl rfl
theorem wq_271 : (Jvm.Cond.lays "java/lang/StringBuilder" "java/lang/AbstractStringBuilder" "coder" "B") ∈ GW := tq_2 31 rfl rfl
theorem wq_272 : (Jvm.Cond.soleField "java/lang/AbstractStringBuilder" "coder") ∈ GW := tq_2 32 rfl rfl
theorem wq_273 : (Jvm.Cond.lays "java/lang/StringBuilder" "java/lang/AbstractStringBuilder" "maybeLatin1" "Z") ∈ GW := tq_2 33 rfl rfl
theorem wq_274 : (Jvm.Cond.soleField "java/lang/AbstractStringBuilder" "maybeLatin1") ∈ GW := tq_2 34 rfl rfl
theorem wq_275 : (Jvm.Cond.lays "java/lang/StringBuilder" "java/lang/AbstractStringBuilder" "count" "I") ∈ GW := tq_2 35 rfl rfl
theorem wq_276 : (Jvm.Cond.soleField "java/lang/AbstractStringBuilder" "count") ∈ GW := tq_2 36 rfl rfl
theorem wq_277 : (Jvm.Cond.superclass "java/lang/StringBuilder" "java/lang/AbstractStringBuilder") ∈ GW := tq_2 37 rfl rfl
theorem wq_278 : (Jvm.Cond.arrayClass Jvm.ClassFile.FieldType.byte) ∈ GW := tq_2 38 rfl rfl
theorem wq_279 : (Jvm.Cond.fieldLink "BenchBroker" (10 : Nat) "BenchBroker" "books" "LBenchBroker$Books;") ∈ GW := tq_2 39 rfl rfl
theorem wq_280 : (Jvm.Cond.fieldLink "BenchBroker" (16 : Nat) "BenchBroker" "trial" "LBenchBroker$Books;") ∈ GW := tq_2 40 rfl rfl
theorem wq_281 : (Jvm.Cond.fieldLink "BenchBroker" (22 : Nat) "BenchBroker" "history" "LBenchBroker$History;") ∈ GW := tq_2 41 rfl rfl
theorem wq_282 : (Jvm.Cond.fieldLink "BenchBroker" (26 : Nat) "BenchBroker" "snapshot" "LBenchBroker$Books;") ∈ GW := tq_2 42 rfl rfl
theorem wq_283 : (Jvm.Cond.fieldLink "BenchBroker" (29 : Nat) "BenchBroker" "hasSnapshot" "Z") ∈ GW := tq_2 43 rfl rfl
theorem wq_284 : (Jvm.Cond.fieldLink "BenchBroker" (36 : Nat) "BenchBroker" "outcome" "LBenchBroker$Outcome;") ∈ GW := tq_2 44 rfl rfl
theorem wq_285 : (Jvm.Cond.fieldLink "BenchBroker" (43 : Nat) "BenchBroker" "noiseMap" "LBenchBroker$NoiseMap;") ∈ GW := tq_2 45 rfl rfl
theorem wq_286 : (Jvm.Cond.fieldLink "BenchBroker" (50 : Nat) "BenchBroker" "input" "LBenchBroker$Input;") ∈ GW := tq_2 46 rfl rfl
theorem wq_287 : (Jvm.Cond.fieldLink "BenchBroker" (57 : Nat) "BenchBroker" "output" "Ljava/lang/StringBuilder;") ∈ GW := tq_2 47 rfl rfl
theorem wq_288 : (Jvm.Cond.fieldLink "BenchBroker" (61 : Nat) "BenchBroker" "latestReason" "I") ∈ GW := tq_2 48 rfl rfl
theorem wq_289 : (Jvm.Cond.fieldLink "BenchBroker" (65 : Nat) "BenchBroker" "latestDetail" "I") ∈ GW := tq_2 49 rfl rfl
theorem wq_290 : (Jvm.Cond.fieldLink "BenchBroker" (68 : Nat) "BenchBroker" "latestCause" "I") ∈ GW := tq_2 50 rfl rfl
theorem wq_291 : (Jvm.Cond.fieldLink "BenchBroker" (71 : Nat) "BenchBroker" "latestSyntaxError" "I") ∈ GW := tq_2 51 rfl rfl
theorem wq_292 : (Jvm.Cond.laysFinal "BenchBroker" "BenchBroker" "books" "LBenchBroker$Books;") ∈ GW := tq_2 52 rfl rfl
theorem wq_293 : (Jvm.Cond.soleField "BenchBroker" "books") ∈ GW := tq_2 53 rfl rfl
theorem wq_294 : (Jvm.Cond.laysFinal "BenchBroker" "BenchBroker" "trial" "LBenchBroker$Books;") ∈ GW := tq_2 54 rfl rfl
theorem wq_295 : (Jvm.Cond.soleField "BenchBroker" "trial") ∈ GW := tq_2 55 rfl rfl
theorem wq_296 : (Jvm.Cond.laysFinal "BenchBroker" "BenchBroker" "history" "LBenchBroker$History;") ∈ GW := tq_2 56 rfl rfl
theorem wq_297 : (Jvm.Cond.soleField "BenchBroker" "history") ∈ GW := tq_2 57 rfl rfl
theorem wq_298 : (Jvm.Cond.laysFinal "BenchBroker" "BenchBroker" "snapshot" "LBenchBroker$Books;") ∈ GW := tq_2 58 rfl rfl
theorem wq_299 : (Jvm.Cond.soleField "BenchBroker" "snapshot") ∈ GW := tq_2 59 rfl rfl
theorem wq_300 : (Jvm.Cond.lays "BenchBroker" "BenchBroker" "hasSnapshot" "Z") ∈ GW := tq_2 60 rfl rfl
theorem wq_301 : (Jvm.Cond.soleField "BenchBroker" "hasSnapshot") ∈ GW := tq_2 61 rfl rfl
theorem wq_302 : (Jvm.Cond.laysFinal "BenchBroker" "BenchBroker" "outcome" "LBenchBroker$Outcome;") ∈ GW := tq_2 62 rfl rfl
theorem wq_303 : (Jvm.Cond.soleField "BenchBroker" "outcome") ∈ GW := tq_2 63 rfl rfl
theorem wq_304 : (Jvm.Cond.laysFinal "BenchBroker" "BenchBroker" "noiseMap" "LBenchBroker$NoiseMap;") ∈ GW := tq_2 64 rfl rfl
theorem wq_305 : (Jvm.Cond.soleField "BenchBroker" "noiseMap") ∈ GW := tq_2 65 rfl rfl
theorem wq_306 : (Jvm.Cond.laysFinal "BenchBroker" "BenchBroker" "input" "LBenchBroker$Input;") ∈ GW := tq_2 66 rfl rfl
theorem wq_307 : (Jvm.Cond.soleField "BenchBroker" "input") ∈ GW := tq_2 67 rfl rfl
theorem wq_308 : (Jvm.Cond.laysFinal "BenchBroker" "BenchBroker" "output" "Ljava/lang/StringBuilder;") ∈ GW := tq_2 68 rfl rfl
theorem wq_309 : (Jvm.Cond.soleField "BenchBroker" "output") ∈ GW := tq_2 69 rfl rfl
theorem wq_310 : (Jvm.Cond.lays "BenchBroker" "BenchBroker" "latestReason" "I") ∈ GW := tq_2 70 rfl rfl
theorem wq_311 : (Jvm.Cond.soleField "BenchBroker" "latestReason") ∈ GW := tq_2 71 rfl rfl
theorem wq_312 : (Jvm.Cond.lays "BenchBroker" "BenchBroker" "latestDetail" "I") ∈ GW := tq_2 72 rfl rfl
theorem wq_313 : (Jvm.Cond.soleField "BenchBroker" "latestDetail") ∈ GW := tq_2 73 rfl rfl
theorem wq_314 : (Jvm.Cond.lays "BenchBroker" "BenchBroker" "latestCause" "I") ∈ GW := tq_2 74 rfl rfl
theorem wq_315 : (Jvm.Cond.soleField "BenchBroker" "latestCause") ∈ GW := tq_2 75 rfl rfl
theorem wq_316 : (Jvm.Cond.lays "BenchBroker" "BenchBroker" "latestSyntaxError" "I") ∈ GW := tq_2 76 rfl rfl
theorem wq_317 : (Jvm.Cond.soleField "BenchBroker" "latestSyntaxError") ∈ GW := tq_2 77 rfl rfl
theorem wq_318 : (Jvm.Cond.superclass "BenchBroker" "java/lang/Object") ∈ GW := tq_2 78 rfl rfl
theorem wq_319 : (Jvm.Cond.methodLink "BenchBrokerLaw" (220 : Nat) ({ cls := "BenchBroker", name := "benchCount", desc := "()I" } : Jvm.MethodName)) ∈ GW := tq_2 79 rfl rfl
theorem wq_320 : (Jvm.Cond.instanceMethod ({ cls := "BenchBroker", name := "benchCount", desc := "()I" } : Jvm.MethodName)) ∈ GW := tq_2 80 rfl rfl
theorem wq_321 : (Jvm.Cond.selects "BenchBroker" ({ cls := "BenchBroker", name := "benchCount", desc := "()I" } : Jvm.MethodName) ({ cls := "BenchBroker", name := "benchCount", desc := "()I" } : Jvm.MethodName)) ∈ GW := tq_2 81 rfl rfl
theorem wq_322 : (Jvm.Cond.code ({ cls := "BenchBroker", name := "benchCount", desc := "()I" } : Jvm.MethodName) prog_1_method_8_code (1 : Nat) (Option.some Jvm.ClassFile.FieldType.int)) ∈ GW := tq_2 82 rfl rfl
theorem wq_323 : (Jvm.Cond.methodLink "BenchBrokerLaw" (217 : Nat) ({ cls := "BenchBroker", name := "tenantCount", desc := "()I" } : Jvm.MethodName)) ∈ GW := tq_2 83 rfl rfl
theorem wq_324 : (Jvm.Cond.instanceMethod ({ cls := "BenchBroker", name := "tenantCount", desc := "()I" } : Jvm.MethodName)) ∈ GW := tq_2 84 rfl rfl
theorem wq_325 : (Jvm.Cond.selects "BenchBroker" ({ cls := "BenchBroker", name := "tenantCount", desc := "()I" } : Jvm.MethodName) ({ cls := "BenchBroker", name := "tenantCount", desc := "()I" } : Jvm.MethodName)) ∈ GW := tq_2 85 rfl rfl
theorem wq_326 : (Jvm.Cond.code ({ cls := "BenchBroker", name := "tenantCount", desc := "()I" } : Jvm.MethodName) prog_1_method_23_code (1 : Nat) (Option.some Jvm.ClassFile.FieldType.int)) ∈ GW := tq_2 86 rfl rfl
theorem wq_327 : (Jvm.Cond.methodLink "BenchBrokerLaw" (228 : Nat) ({ cls := "BenchBroker", name := "brokerCoins", desc := "()I" } : Jvm.MethodName)) ∈ GW := tq_2 87 rfl rfl
theorem wq_328 : (Jvm.Cond.instanceMethod ({ cls := "BenchBroker", name := "brokerCoins", desc := "()I" } : Jvm.MethodName)) ∈ GW := tq_2 88 rfl rfl
theorem wq_329 : (Jvm.Cond.selects "BenchBroker" ({ cls := "BenchBroker", name := "brokerCoins", desc := "()I" } : Jvm.MethodName) ({ cls := "BenchBroker", name := "brokerCoins", desc := "()I" } : Jvm.MethodName)) ∈ GW := tq_2 89 rfl rfl
theorem wq_330 : (Jvm.Cond.code ({ cls := "BenchBroker", name := "brokerCoins", desc := "()I" } : Jvm.MethodName) prog_1_method_41_code (1 : Nat) (Option.some Jvm.ClassFile.FieldType.int)) ∈ GW := tq_2 90 rfl rfl
theorem wq_331 : (Jvm.Cond.methodLink "BenchBrokerLaw" (213 : Nat) ({ cls := "BenchBrokerLaw", name := "pick", desc := "([III)I" } : Jvm.MethodName)) ∈ GW := tq_2 91 rfl rfl
theorem wq_332 : (Jvm.Cond.static ({ cls := "BenchBrokerLaw", name := "pick", desc := "([III)I" } : Jvm.MethodName)) ∈ GW := tq_2 92 rfl rfl
theorem wq_333 : (Jvm.Cond.code ({ cls := "BenchBrokerLaw", name := "pick", desc := "([III)I" } : Jvm.MethodName) method_3_code (3 : Nat) (Option.some Jvm.ClassFile.FieldType.int)) ∈ GW := tq_2 93 rfl rfl
theorem wq_334 : (Jvm.Cond.methodLink "BenchBrokerLaw" (8 : Nat) ({ cls := "BenchBrokerLaw", name := "cell", desc := "([II)I" } : Jvm.MethodName)) ∈ GW := tq_2 94 rfl rfl
theorem wq_335 : (Jvm.Cond.static ({ cls := "BenchBrokerLaw", name := "cell", desc := "([II)I" } : Jvm.MethodName)) ∈ GW := tq_2 95 rfl rfl
theorem wq_336 : (Jvm.Cond.code ({ cls := "BenchBrokerLaw", name := "cell", desc := "([II)I" } : Jvm.MethodName) method_2_code (2 : Nat) (Option.some Jvm.ClassFile.FieldType.int)) ∈ GW := tq_2 96 rfl rfl
theorem wq_337 : (Jvm.Cond.constant "BenchBrokerLaw" (7 : Nat) (40503 : Int32)) ∈ GW := tq_2 97 rfl rfl
theorem wq_338 : (Jvm.Cond.methodLink "BenchBrokerLaw" (238 : Nat) ({ cls := "BenchBrokerLaw", name := "rentOf", desc := "(LBenchBroker;I)I" } : Jvm.MethodName)) ∈ GW := tq_2 98 rfl rfl
theorem wq_339 : (Jvm.Cond.static ({ cls := "BenchBrokerLaw", name := "rentOf", desc := "(LBenchBroker;I)I" } : Jvm.MethodName)) ∈ GW := tq_2 99 rfl rfl
theorem wq_341 : (Jvm.Cond.classLink "BenchBrokerLaw" (20 : Nat) "java/lang/IndexOutOfBoundsException") ∈ GW := tq_2 101 rfl rfl
theorem wq_342 : (Jvm.Cond.instantiable "java/lang/ArrayIndexOutOfBoundsException" (6 : Nat)) ∈ GW := tq_2 102 rfl rfl
theorem wq_343 : (Jvm.Cond.instanceMethod ({ cls := "java/lang/ArrayIndexOutOfBoundsException", name := "<init>", desc := "(Ljava/lang/String;)V" } : Jvm.MethodName)) ∈ GW := tq_2 103 rfl rfl
theorem wq_344 : (Jvm.Cond.code ({ cls := "java/lang/ArrayIndexOutOfBoundsException", name := "<init>", desc := "(Ljava/lang/String;)V" } : Jvm.MethodName) prog_16_method_2_code (2 : Nat) (Option.none : Option Jvm.ClassFile.FieldType)) ∈ GW := tq_2 104 rfl rfl
theorem wq_345 : (Jvm.Cond.methodLink "java/lang/ArrayIndexOutOfBoundsException" (7 : Nat) ({ cls := "java/lang/IndexOutOfBoundsException", name := "<init>", desc := "(Ljava/lang/String;)V" } : Jvm.MethodName)) ∈ GW := tq_2 105 rfl rfl
theorem wq_346 : (Jvm.Cond.instanceMethod ({ cls := "java/lang/IndexOutOfBoundsException", name := "<init>", desc := "(Ljava/lang/String;)V" } : Jvm.MethodName)) ∈ GW := tq_2 106 rfl rfl
theorem wq_347 : (Jvm.Cond.code ({ cls := "java/lang/IndexOutOfBoundsException", name := "<init>", desc := "(Ljava/lang/String;)V" } : Jvm.MethodName) prog_24_method_2_code (2 : Nat) (Option.none : Option Jvm.ClassFile.FieldType)) ∈ GW := tq_2 107 rfl rfl
theorem wq_348 : (Jvm.Cond.methodLink "java/lang/IndexOutOfBoundsException" (7 : Nat) ({ cls := "java/lang/RuntimeException", name := "<init>", desc := "(Ljava/lang/String;)V" } : Jvm.MethodName)) ∈ GW := tq_2 108 rfl rfl
theorem wq_349 : (Jvm.Cond.instanceMethod ({ cls := "java/lang/RuntimeException", name := "<init>", desc := "(Ljava/lang/String;)V" } : Jvm.MethodName)) ∈ GW := tq_2 109 rfl rfl
theorem wq_350 : (Jvm.Cond.code ({ cls := "java/lang/RuntimeException", name := "<init>", desc := "(Ljava/lang/String;)V" } : Jvm.MethodName) prog_28_method_2_code (2 : Nat) (Option.none : Option Jvm.ClassFile.FieldType)) ∈ GW := tq_2 110 rfl rfl
theorem wq_351 : (Jvm.Cond.methodLink "java/lang/RuntimeException" (7 : Nat) ({ cls := "java/lang/Exception", name := "<init>", desc := "(Ljava/lang/String;)V" } : Jvm.MethodName)) ∈ GW := tq_2 111 rfl rfl
theorem wq_352 : (Jvm.Cond.instanceMethod ({ cls := "java/lang/Exception", name := "<init>", desc := "(Ljava/lang/String;)V" } : Jvm.MethodName)) ∈ GW := tq_2 112 rfl rfl
theorem wq_353 : (Jvm.Cond.code ({ cls := "java/lang/Exception", name := "<init>", desc := "(Ljava/lang/String;)V" } : Jvm.MethodName) prog_21_method_2_code (2 : Nat) (Option.none : Option Jvm.ClassFile.FieldType)) ∈ GW := tq_2 113 rfl rfl
theorem wq_354 : (Jvm.Cond.methodLink "java/lang/Exception" (7 : Nat) ({ cls := "java/lang/Throwable", name := "<init>", desc := "(Ljava/lang/String;)V" } : Jvm.MethodName)) ∈ GW := tq_2 114 rfl rfl
theorem wq_355 : (Jvm.Cond.instanceMethod ({ cls := "java/lang/Throwable", name := "<init>", desc := "(Ljava/lang/String;)V" } : Jvm.MethodName)) ∈ GW := tq_2 115 rfl rfl
theorem wq_356 : (Jvm.Cond.code ({ cls := "java/lang/Throwable", name := "<init>", desc := "(Ljava/lang/String;)V" } : Jvm.MethodName) prog_35_method_2_code (2 : Nat) (Option.none : Option Jvm.ClassFile.FieldType)) ∈ GW := tq_2 116 rfl rfl
theorem wq_357 : (Jvm.Cond.methodLink "java/lang/Throwable" (1 : Nat) ({ cls := "java/lang/Object", name := "<init>", desc := "()V" } : Jvm.MethodName)) ∈ GW := tq_2 117 rfl rfl
theorem wq_358 : (Jvm.Cond.fieldLink "java/lang/Throwable" (13 : Nat) "java/lang/Throwable" "UNASSIGNED_STACK" "[Ljava/lang/StackTraceElement;") ∈ GW := tq_2 118 rfl rfl
theorem wq_360 : (Jvm.Cond.fieldLink "java/lang/Throwable" (20 : Nat) "java/lang/Throwable" "SUPPRESSED_SENTINEL" "Ljava/util/List;") ∈ GW := tq_2 120 rfl rfl
theorem wq_362 : (Jvm.Cond.methodLink "java/lang/Throwable" (27 : Nat) ({ cls := "java/lang/Throwable", name := "fillInStackTrace", desc := "()Ljava/lang/Throwable;" } : Jvm.MethodName)) ∈ GW := tq_2 122 rfl rfl
theorem wq_363 : (Jvm.Cond.instanceMethod ({ cls := "java/lang/Throwable", name := "fillInStackTrace", desc := "()Ljava/lang/Throwable;" } : Jvm.MethodName)) ∈ GW := tq_2 123 rfl rfl
theorem wq_364 : (Jvm.Cond.sameMethod "java/lang/Throwable" "java/lang/Throwable" "fillInStackTrace" "()Ljava/lang/Throwable;") ∈ GW := tq_2 124 rfl rfl
theorem wq_365 : (Jvm.Cond.selects "java/lang/ArithmeticException" ({ cls := "java/lang/Throwable", name := "fillInStackTrace", desc := "()Ljava/lang/Throwable;" } : Jvm.MethodName) ({ cls := "java/lang/Throwable", name := "fillInStackTrace", desc := "()Ljava/lang/Throwable;" } : Jvm.MethodName)) ∈ GW := tq_2 125 rfl rfl
theorem wq_366 : (Jvm.Cond.selects "java/lang/ArrayIndexOutOfBoundsException" ({ cls := "java/lang/Throwable", name := "fillInStackTrace", desc := "()Ljava/lang/Throwable;" } : Jvm.MethodName) ({ cls := "java/lang/Throwable", name := "fillInStackTrace", desc := "()Ljava/lang/Throwable;" } : Jvm.MethodName)) ∈ GW := tq_2 126 rfl rfl
theorem wq_367 : (Jvm.Cond.selects "java/lang/IllegalArgumentException" ({ cls := "java/lang/Throwable", name := "fillInStackTrace", desc := "()Ljava/lang/Throwable;" } : Jvm.MethodName) ({ cls := "java/lang/Throwable", name := "fillInStackTrace", desc := "()Ljava/lang/Throwable;" } : Jvm.MethodName)) ∈ GW := tq_2 127 rfl rfl
theorem wq_368 : (Jvm.Cond.selects "java/lang/IllegalStateException" ({ cls := "java/lang/Throwable", name := "fillInStackTrace", desc := "()Ljava/lang/Throwable;" } : Jvm.MethodName) ({ cls := "java/lang/Throwable", name := "fillInStackTrace", desc := "()Ljava/lang/Throwable;" } : Jvm.MethodName)) ∈ GW := tq_2 128 rfl rfl
theorem wq_369 : (Jvm.Cond.selects "java/lang/IndexOutOfBoundsException" ({ cls := "java/lang/Throwable", name := "fillInStackTrace", desc := "()Ljava/lang/Throwable;" } : Jvm.MethodName) ({ cls := "java/lang/Throwable", name := "fillInStackTrace", desc := "()Ljava/lang/Throwable;" } : Jvm.MethodName)) ∈ GW := tq_2 129 rfl rfl
theorem wq_370 : (Jvm.Cond.selects "java/lang/StringIndexOutOfBoundsException" ({ cls := "java/lang/Throwable", name := "fillInStackTrace", desc := "()Ljava/lang/Throwable;" } : Jvm.MethodName) ({ cls := "java/lang/Throwable", name := "fillInStackTrace", desc := "()Ljava/lang/Throwable;" } : Jvm.MethodName)) ∈ GW := tq_2 130 rfl rfl
theorem wq_371 : (Jvm.Cond.selects "java/lang/UnsupportedOperationException" ({ cls := "java/lang/Throwable", name := "fillInStackTrace", desc := "()Ljava/lang/Throwable;" } : Jvm.MethodName) ({ cls := "java/lang/Throwable", name := "fillInStackTrace", desc := "()Ljava/lang/Throwable;" } : Jvm.MethodName)) ∈ GW := tq_2 131 rfl rfl
theorem wq_372 : (Jvm.Cond.selects "java/util/NoSuchElementException" ({ cls := "java/lang/Throwable", name := "fillInStackTrace", desc := "()Ljava/lang/Throwable;" } : Jvm.MethodName) ({ cls := "java/lang/Throwable", name := "fillInStackTrace", desc := "()Ljava/lang/Throwable;" } : Jvm.MethodName)) ∈ GW := tq_2 132 rfl rfl
theorem wq_374 : (Jvm.Cond.methodLink "java/lang/Throwable" (202 : Nat) ({ cls := "java/lang/Throwable", name := "fillInStackTrace", desc := "(I)Ljava/lang/Throwable;" } : Jvm.MethodName)) ∈ GW := tq_2 134 rfl rfl
theorem wq_376 : (Jvm.Cond.instanceMethod ({ cls := "java/lang/Throwable", name := "fillInStackTrace", desc := "(I)Ljava/lang/Throwable;" } : Jvm.MethodName)) ∈ GW := tq_2 136 rfl rfl
theorem wq_377 : (Jvm.Cond.instantiable "java/lang/Throwable" (6 : Nat)) ∈ GW := tq_2 137 rfl rfl
theorem wq_378 : (Jvm.Cond.native ({ cls := "java/lang/Throwable", name := "fillInStackTrace", desc := "(I)Ljava/lang/Throwable;" } : Jvm.MethodName)) ∈ GW := tq_2 138 rfl rfl
theorem wq_379 : (Jvm.Cond.fieldLink "java/lang/Throwable" (198 : Nat) "java/lang/Throwable" "backtrace" "Ljava/lang/Object;") ∈ GW := tq_2 139 rfl rfl
theorem wq_380 : (Jvm.Cond.fieldLink "java/lang/Throwable" (31 : Nat) "java/lang/Throwable" "detailMessage" "Ljava/lang/String;") ∈ GW := tq_2 140 rfl rfl
theorem wq_381 : (Jvm.Cond.fieldLink "java/lang/Throwable" (7 : Nat) "java/lang/Throwable" "cause" "Ljava/lang/Throwable;") ∈ GW := tq_2 141 rfl rfl
theorem wq_382 : (Jvm.Cond.fieldLink "java/lang/Throwable" (17 : Nat) "java/lang/Throwable" "stackTrace" "[Ljava/lang/StackTraceElement;") ∈ GW := tq_2 142 rfl rfl
theorem wq_383 : (Jvm.Cond.fieldLink "java/lang/Throwable" (24 : Nat) "java/lang/Throwable" "suppressedExceptions" "Ljava/util/List;") ∈ GW := tq_2 143 rfl rfl
theorem wq_384 : (Jvm.Cond.lays "java/lang/ArrayIndexOutOfBoundsException" "java/lang/Throwable" "backtrace" "Ljava/lang/Object;") ∈ GW := tq_2 144 rfl rfl
theorem wq_385 : (Jvm.Cond.soleField "java/lang/Throwable" "backtrace") ∈ GW := tq_2 145 rfl rfl
theorem wq_386 : (Jvm.Cond.lays "java/lang/ArrayIndexOutOfBoundsException" "java/lang/Throwable" "detailMessage" "Ljava/lang/String;") ∈ GW := tq_2 146 rfl rfl
theorem wq_387 : (Jvm.Cond.soleField "java/lang/Throwable" "detailMessage") ∈ GW := tq_2 147 rfl rfl
theorem wq_388 : (Jvm.Cond.lays "java/lang/ArrayIndexOutOfBoundsException" "java/lang/Throwable" "cause" "Ljava/lang/Throwable;") ∈ GW := tq_2 148 rfl rfl
theorem wq_389 : (Jvm.Cond.soleField "java/lang/Throwable" "cause") ∈ GW := tq_2 149 rfl rfl
theorem wq_390 : (Jvm.Cond.lays "java/lang/ArrayIndexOutOfBoundsException" "java/lang/Throwable" "stackTrace" "[Ljava/lang/StackTraceElement;") ∈ GW := tq_2 150 rfl rfl
theorem wq_391 : (Jvm.Cond.soleField "java/lang/Throwable" "stackTrace") ∈ GW := tq_2 151 rfl rfl
theorem wq_392 : (Jvm.Cond.lays "java/lang/ArrayIndexOutOfBoundsException" "java/lang/Throwable" "depth" "I") ∈ GW := tq_2 152 rfl rfl
theorem wq_393 : (Jvm.Cond.soleField "java/lang/Throwable" "depth") ∈ GW := tq_2 153 rfl rfl
theorem wq_394 : (Jvm.Cond.lays "java/lang/ArrayIndexOutOfBoundsException" "java/lang/Throwable" "suppressedExceptions" "Ljava/util/List;") ∈ GW := tq_2 154 rfl rfl
theorem wq_395 : (Jvm.Cond.soleField "java/lang/Throwable" "suppressedExceptions") ∈ GW := tq_2 155 rfl rfl
theorem wq_396 : (Jvm.Cond.superclass "java/lang/ArrayIndexOutOfBoundsException" "java/lang/IndexOutOfBoundsException") ∈ GW := tq_2 156 rfl rfl
theorem wq_406 : (Jvm.Cond.selects "java/lang/ArrayIndexOutOfBoundsException" ({ cls := "java/lang/Throwable", name := "fillInStackTrace", desc := "(I)Ljava/lang/Throwable;" } : Jvm.MethodName) ({ cls := "java/lang/Throwable", name := "fillInStackTrace", desc := "(I)Ljava/lang/Throwable;" } : Jvm.MethodName)) ∈ GW := tq_2 166 rfl rfl
theorem wq_407 : (Jvm.Cond.lays "java/lang/Throwable" "java/lang/Throwable" "cause" "Ljava/lang/Throwable;") ∈ GW := tq_2 167 rfl rfl
theorem wq_408 : (Jvm.Cond.lays "java/lang/Throwable" "java/lang/Throwable" "stackTrace" "[Ljava/lang/StackTraceElement;") ∈ GW := tq_2 168 rfl rfl
theorem wq_409 : (Jvm.Cond.lays "java/lang/Throwable" "java/lang/Throwable" "suppressedExceptions" "Ljava/util/List;") ∈ GW := tq_2 169 rfl rfl
theorem wq_410 : (Jvm.Cond.lays "java/lang/Throwable" "java/lang/Throwable" "detailMessage" "Ljava/lang/String;") ∈ GW := tq_2 170 rfl rfl
theorem wq_411 : (Jvm.Cond.lays "java/lang/Throwable" "java/lang/Throwable" "backtrace" "Ljava/lang/Object;") ∈ GW := tq_2 171 rfl rfl
theorem wq_413 : (Jvm.Cond.superclass "java/lang/Throwable" "java/lang/Object") ∈ GW := tq_2 173 rfl rfl
theorem wq_414 : (Jvm.Cond.instanceMethod ({ cls := "java/lang/Throwable", name := "<init>", desc := "()V" } : Jvm.MethodName)) ∈ GW := tq_2 174 rfl rfl
theorem wq_415 : (Jvm.Cond.code ({ cls := "java/lang/Throwable", name := "<init>", desc := "()V" } : Jvm.MethodName) prog_35_method_1_code (1 : Nat) (Option.none : Option Jvm.ClassFile.FieldType)) ∈ GW := tq_2 175 rfl rfl
theorem wq_416 : (Jvm.Cond.instantiable "java/lang/String" (4 : Nat)) ∈ GW := tq_2 176 rfl rfl
theorem wq_417 : (Jvm.Cond.laysFinal "java/lang/String" "java/lang/String" "value" "[B") ∈ GW := tq_2 177 rfl rfl
theorem wq_418 : (Jvm.Cond.soleField "java/lang/String" "value") ∈ GW := tq_2 178 rfl rfl
theorem wq_419 : (Jvm.Cond.laysFinal "java/lang/String" "java/lang/String" "coder" "B") ∈ GW := tq_2 179 rfl rfl
theorem wq_420 : (Jvm.Cond.soleField "java/lang/String" "coder") ∈ GW := tq_2 180 rfl rfl
theorem wq_421 : (Jvm.Cond.methodLink "BenchBrokerLaw" (53 : Nat) ({ cls := "BenchBroker", name := "rentOf", desc := "(I)I" } : Jvm.MethodName)) ∈ GW := tq_2 181 rfl rfl
theorem wq_422 : (Jvm.Cond.instanceMethod ({ cls := "BenchBroker", name := "rentOf", desc := "(I)I" } : Jvm.MethodName)) ∈ GW := tq_2 182 rfl rfl
theorem wq_423 : (Jvm.Cond.selects "BenchBroker" ({ cls := "BenchBroker", name := "rentOf", desc := "(I)I" } : Jvm.MethodName) ({ cls := "BenchBroker", name := "rentOf", desc := "(I)I" } : Jvm.MethodName)) ∈ GW := tq_2 183 rfl rfl
theorem wq_424 : (Jvm.Cond.code ({ cls := "BenchBroker", name := "rentOf", desc := "(I)I" } : Jvm.MethodName) prog_1_method_12_code (2 : Nat) (Option.some Jvm.ClassFile.FieldType.int)) ∈ GW := tq_2 184 rfl rfl
theorem wq_425 : (Jvm.Cond.methodLink "BenchBroker" (111 : Nat) ({ cls := "BenchBroker", name := "needBench", desc := "(I)V" } : Jvm.MethodName)) ∈ GW := tq_2 185 rfl rfl
theorem wq_427 : (Jvm.Cond.instanceMethod ({ cls := "BenchBroker", name := "needBench", desc := "(I)V" } : Jvm.MethodName)) ∈ GW := tq_2 187 rfl rfl
theorem wq_428 : (Jvm.Cond.code ({ cls := "BenchBroker", name := "needBench", desc := "(I)V" } : Jvm.MethodName) prog_1_method_66_code (2 : Nat) (Option.none : Option Jvm.ClassFile.FieldType)) ∈ GW := tq_2 188 rfl rfl
theorem wq_429 : (Jvm.Cond.methodLink "BenchBroker" (351 : Nat) ({ cls := "BenchBroker$Park", name := "hasBench", desc := "(I)Z" } : Jvm.MethodName)) ∈ GW := tq_2 189 rfl rfl
theorem wq_430 : (Jvm.Cond.instanceMethod ({ cls := "BenchBroker$Park", name := "hasBench", desc := "(I)Z" } : Jvm.MethodName)) ∈ GW := tq_2 190 rfl rfl
theorem wq_431 : (Jvm.Cond.selects "BenchBroker$Park" ({ cls := "BenchBroker$Park", name := "hasBench", desc := "(I)Z" } : Jvm.MethodName) ({ cls := "BenchBroker$Park", name := "hasBench", desc := "(I)Z" } : Jvm.MethodName)) ∈ GW := tq_2 191 rfl rfl
theorem wq_432 : (Jvm.Cond.code ({ cls := "BenchBroker$Park", name := "hasBench", desc := "(I)Z" } : Jvm.MethodName) prog_8_method_3_code (2 : Nat) (Option.some Jvm.ClassFile.FieldType.boolean)) ∈ GW := tq_2 192 rfl rfl
theorem wq_433 : (Jvm.Cond.classLink "BenchBroker" (293 : Nat) "java/lang/IndexOutOfBoundsException") ∈ GW := tq_2 193 rfl rfl
theorem wq_434 : (Jvm.Cond.instantiable "java/lang/IndexOutOfBoundsException" (6 : Nat)) ∈ GW := tq_2 194 rfl rfl
theorem wq_436 : (Jvm.Cond.selects "java/lang/IndexOutOfBoundsException" ({ cls := "java/lang/Throwable", name := "fillInStackTrace", desc := "(I)Ljava/lang/Throwable;" } : Jvm.MethodName) ({ cls := "java/lang/Throwable", name := "fillInStackTrace", desc := "(I)Ljava/lang/Throwable;" } : Jvm.MethodName)) ∈ GW := tq_2 196 rfl rfl
theorem wq_437 : (Jvm.Cond.lays "java/lang/IndexOutOfBoundsException" "java/lang/Throwable" "cause" "Ljava/lang/Throwable;") ∈ GW := tq_2 197 rfl rfl
theorem wq_438 : (Jvm.Cond.lays "java/lang/IndexOutOfBoundsException" "java/lang/Throwable" "stackTrace" "[Ljava/lang/StackTraceElement;") ∈ GW := tq_2 198 rfl rfl
theorem wq_439 : (Jvm.Cond.lays "java/lang/IndexOutOfBoundsException" "java/lang/Throwable" "suppressedExceptions" "Ljava/util/List;") ∈ GW := tq_2 199 rfl rfl
theorem wq_440 : (Jvm.Cond.lays "java/lang/IndexOutOfBoundsException" "java/lang/Throwable" "detailMessage" "Ljava/lang/String;") ∈ GW := tq_2 200 rfl rfl
theorem wq_441 : (Jvm.Cond.lays "java/lang/IndexOutOfBoundsException" "java/lang/Throwable" "backtrace" "Ljava/lang/Object;") ∈ GW := tq_2 201 rfl rfl
theorem wq_442 : (Jvm.Cond.methodLink "BenchBroker" (295 : Nat) ({ cls := "java/lang/IndexOutOfBoundsException", name := "<init>", desc := "()V" } : Jvm.MethodName)) ∈ GW := tq_2 202 rfl rfl
theorem wq_443 : (Jvm.Cond.instanceMethod ({ cls := "java/lang/IndexOutOfBoundsException", name := "<init>", desc := "()V" } : Jvm.MethodName)) ∈ GW := tq_2 203 rfl rfl
theorem wq_444 : (Jvm.Cond.code ({ cls := "java/lang/IndexOutOfBoundsException", name := "<init>", desc := "()V" } : Jvm.MethodName) prog_24_method_1_code (1 : Nat) (Option.none : Option Jvm.ClassFile.FieldType)) ∈ GW := tq_2 204 rfl rfl
theorem wq_445 : (Jvm.Cond.methodLink "java/lang/IndexOutOfBoundsException" (1 : Nat) ({ cls := "java/lang/RuntimeException", name := "<init>", desc := "()V" } : Jvm.MethodName)) ∈ GW := tq_2 205 rfl rfl
theorem wq_446 : (Jvm.Cond.instanceMethod ({ cls := "java/lang/RuntimeException", name := "<init>", desc := "()V" } : Jvm.MethodName)) ∈ GW := tq_2 206 rfl rfl
theorem wq_447 : (Jvm.Cond.code ({ cls := "java/lang/RuntimeException", name := "<init>", desc := "()V" } : Jvm.MethodName) prog_28_method_1_code (1 : Nat) (Option.none : Option Jvm.ClassFile.FieldType)) ∈ GW := tq_2 207 rfl rfl
theorem wq_448 : (Jvm.Cond.methodLink "java/lang/RuntimeException" (1 : Nat) ({ cls := "java/lang/Exception", name := "<init>", desc := "()V" } : Jvm.MethodName)) ∈ GW := tq_2 208 rfl rfl
theorem wq_449 : (Jvm.Cond.instanceMethod ({ cls := "java/lang/Exception", name := "<init>", desc := "()V" } : Jvm.MethodName)) ∈ GW := tq_2 209 rfl rfl
theorem wq_450 : (Jvm.Cond.code ({ cls := "java/lang/Exception", name := "<init>", desc := "()V" } : Jvm.MethodName) prog_21_method_1_code (1 : Nat) (Option.none : Option Jvm.ClassFile.FieldType)) ∈ GW := tq_2 210 rfl rfl
theorem wq_451 : (Jvm.Cond.methodLink "java/lang/Exception" (1 : Nat) ({ cls := "java/lang/Throwable", name := "<init>", desc := "()V" } : Jvm.MethodName)) ∈ GW := tq_2 211 rfl rfl
theorem wq_452 : (Jvm.Cond.lays "java/lang/IndexOutOfBoundsException" "java/lang/Throwable" "depth" "I") ∈ GW := tq_2 212 rfl rfl
theorem wq_453 : (Jvm.Cond.superclass "java/lang/IndexOutOfBoundsException" "java/lang/RuntimeException") ∈ GW := tq_2 213 rfl rfl
theorem wq_454 : (Jvm.Cond.methodLink "BenchBroker" (125 : Nat) ({ cls := "BenchBroker$Park", name := "rent", desc := "(I)I" } : Jvm.MethodName)) ∈ GW := tq_2 214 rfl rfl
theorem wq_455 : (Jvm.Cond.instanceMethod ({ cls := "BenchBroker$Park", name := "rent", desc := "(I)I" } : Jvm.MethodName)) ∈ GW := tq_2 215 rfl rfl
theorem wq_456 : (Jvm.Cond.selects "BenchBroker$Park" ({ cls := "BenchBroker$Park", name := "rent", desc := "(I)I" } : Jvm.MethodName) ({ cls := "BenchBroker$Park", name := "rent", desc := "(I)I" } : Jvm.MethodName)) ∈ GW := tq_2 216 rfl rfl
theorem wq_457 : (Jvm.Cond.code ({ cls := "BenchBroker$Park", name := "rent", desc := "(I)I" } : Jvm.MethodName) prog_8_method_14_code (2 : Nat) (Option.some Jvm.ClassFile.FieldType.int)) ∈ GW := tq_2 217 rfl rfl
theorem wq_458 : (Jvm.Cond.methodLink "BenchBroker$Park" (81 : Nat) ({ cls := "BenchBroker$Park", name := "noise", desc := "(II)I" } : Jvm.MethodName)) ∈ GW := tq_2 218 rfl rfl
theorem wq_459 : (Jvm.Cond.instanceMethod ({ cls := "BenchBroker$Park", name := "noise", desc := "(II)I" } : Jvm.MethodName)) ∈ GW := tq_2 219 rfl rfl
theorem wq_460 : (Jvm.Cond.selects "BenchBroker$Park" ({ cls := "BenchBroker$Park", name := "noise", desc := "(II)I" } : Jvm.MethodName) ({ cls := "BenchBroker$Park", name := "noise", desc := "(II)I" } : Jvm.MethodName)) ∈ GW := tq_2 220 rfl rfl
theorem wq_461 : (Jvm.Cond.code ({ cls := "BenchBroker$Park", name := "noise", desc := "(II)I" } : Jvm.MethodName) prog_8_method_13_code (7 : Nat) (Option.some Jvm.ClassFile.FieldType.int)) ∈ GW := tq_2 221 rfl rfl
theorem wq_462 : (Jvm.Cond.methodLink "BenchBroker$Park" (75 : Nat) ({ cls := "java/lang/Math", name := "abs", desc := "(I)I" } : Jvm.MethodName)) ∈ GW := tq_2 222 rfl rfl
theorem wq_463 : (Jvm.Cond.static ({ cls := "java/lang/Math", name := "abs", desc := "(I)I" } : Jvm.MethodName)) ∈ GW := tq_2 223 rfl rfl
theorem wq_464 : (Jvm.Cond.code ({ cls := "java/lang/Math", name := "abs", desc := "(I)I" } : Jvm.MethodName) prog_26_method_59_code (1 : Nat) (Option.some Jvm.ClassFile.FieldType.int)) ∈ GW := tq_2 224 rfl rfl
theorem wq_465 : (Jvm.Cond.methodLink "BenchBroker$Park" (84 : Nat) ({ cls := "java/lang/Math", name := "max", desc := "(II)I" } : Jvm.MethodName)) ∈ GW := tq_2 225 rfl rfl
theorem wq_466 : (Jvm.Cond.static ({ cls := "java/lang/Math", name := "max", desc := "(II)I" } : Jvm.MethodName)) ∈ GW := tq_2 226 rfl rfl
theorem wq_467 : (Jvm.Cond.code ({ cls := "java/lang/Math", name := "max", desc := "(II)I" } : Jvm.MethodName) prog_26_method_65_code (2 : Nat) (Option.some Jvm.ClassFile.FieldType.int)) ∈ GW := tq_2 227 rfl rfl
theorem wq_468 : (Jvm.Cond.methodLink "BenchBrokerLaw" (246 : Nat) ({ cls := "BenchBrokerLaw", name := "benchOf", desc := "(LBenchBroker;I)I" } : Jvm.MethodName)) ∈ GW := tq_2 228 rfl rfl
theorem wq_469 : (Jvm.Cond.static ({ cls := "BenchBrokerLaw", name := "benchOf", desc := "(LBenchBroker;I)I" } : Jvm.MethodName)) ∈ GW := tq_2 229 rfl rfl
theorem wq_471 : (Jvm.Cond.classLink "BenchBrokerLaw" (86 : Nat) "java/util/NoSuchElementException") ∈ GW := tq_2 231 rfl rfl
theorem wq_472 : (Jvm.Cond.methodLink "BenchBrokerLaw" (83 : Nat) ({ cls := "BenchBroker", name := "benchOf", desc := "(I)I" } : Jvm.MethodName)) ∈ GW := tq_2 232 rfl rfl
theorem wq_473 : (Jvm.Cond.instanceMethod ({ cls := "BenchBroker", name := "benchOf", desc := "(I)I" } : Jvm.MethodName)) ∈ GW := tq_2 233 rfl rfl
theorem wq_474 : (Jvm.Cond.selects "BenchBroker" ({ cls := "BenchBroker", name := "benchOf", desc := "(I)I" } : Jvm.MethodName) ({ cls := "BenchBroker", name := "benchOf", desc := "(I)I" } : Jvm.MethodName)) ∈ GW := tq_2 234 rfl rfl
theorem wq_475 : (Jvm.Cond.code ({ cls := "BenchBroker", name := "benchOf", desc := "(I)I" } : Jvm.MethodName) prog_1_method_26_code (3 : Nat) (Option.some Jvm.ClassFile.FieldType.int)) ∈ GW := tq_2 235 rfl rfl
theorem wq_476 : (Jvm.Cond.methodLink "BenchBroker" (173 : Nat) ({ cls := "BenchBroker", name := "needTenant", desc := "(I)V" } : Jvm.MethodName)) ∈ GW := tq_2 236 rfl rfl
theorem wq_478 : (Jvm.Cond.instanceMethod ({ cls := "BenchBroker", name := "needTenant", desc := "(I)V" } : Jvm.MethodName)) ∈ GW := tq_2 238 rfl rfl
theorem wq_479 : (Jvm.Cond.code ({ cls := "BenchBroker", name := "needTenant", desc := "(I)V" } : Jvm.MethodName) prog_1_method_68_code (2 : Nat) (Option.none : Option Jvm.ClassFile.FieldType)) ∈ GW := tq_2 239 rfl rfl
theorem wq_480 : (Jvm.Cond.methodLink "BenchBroker" (357 : Nat) ({ cls := "BenchBroker$Books", name := "hasTenant", desc := "(I)Z" } : Jvm.MethodName)) ∈ GW := tq_3 0 rfl rfl
theorem wq_481 : (Jvm.Cond.instanceMethod ({ cls := "BenchBroker$Books", name := "hasTenant", desc := "(I)Z" } : Jvm.MethodName)) ∈ GW := tq_3 1 rfl rfl
theorem wq_482 : (Jvm.Cond.selects "BenchBroker$Books" ({ cls := "BenchBroker$Books", name := "hasTenant", desc := "(I)Z" } : Jvm.MethodName) ({ cls := "BenchBroker$Books", name := "hasTenant", desc := "(I)Z" } : Jvm.MethodName)) ∈ GW := tq_3 2 rfl rfl
theorem wq_483 : (Jvm.Cond.code ({ cls := "BenchBroker$Books", name := "hasTenant", desc := "(I)Z" } : Jvm.MethodName) prog_3_method_3_code (2 : Nat) (Option.some Jvm.ClassFile.FieldType.boolean)) ∈ GW := tq_3 3 rfl rfl
theorem wq_484 : (Jvm.Cond.methodLink "BenchBroker" (182 : Nat) ({ cls := "BenchBroker$Books", name := "leasedBench", desc := "(I)I" } : Jvm.MethodName)) ∈ GW := tq_3 4 rfl rfl
theorem wq_485 : (Jvm.Cond.instanceMethod ({ cls := "BenchBroker$Books", name := "leasedBench", desc := "(I)I" } : Jvm.MethodName)) ∈ GW := tq_3 5 rfl rfl
theorem wq_486 : (Jvm.Cond.selects "BenchBroker$Books" ({ cls := "BenchBroker$Books", name := "leasedBench", desc := "(I)I" } : Jvm.MethodName) ({ cls := "BenchBroker$Books", name := "leasedBench", desc := "(I)I" } : Jvm.MethodName)) ∈ GW := tq_3 6 rfl rfl
theorem wq_487 : (Jvm.Cond.code ({ cls := "BenchBroker$Books", name := "leasedBench", desc := "(I)I" } : Jvm.MethodName) prog_3_method_5_code (3 : Nat) (Option.some Jvm.ClassFile.FieldType.int)) ∈ GW := tq_3 7 rfl rfl
theorem wq_488 : (Jvm.Cond.classLink "BenchBroker" (185 : Nat) "java/util/NoSuchElementException") ∈ GW := tq_3 8 rfl rfl
theorem wq_489 : (Jvm.Cond.instantiable "java/util/NoSuchElementException" (6 : Nat)) ∈ GW := tq_3 9 rfl rfl
theorem wq_491 : (Jvm.Cond.selects "java/util/NoSuchElementException" ({ cls := "java/lang/Throwable", name := "fillInStackTrace", desc := "(I)Ljava/lang/Throwable;" } : Jvm.MethodName) ({ cls := "java/lang/Throwable", name := "fillInStackTrace", desc := "(I)Ljava/lang/Throwable;" } : Jvm.MethodName)) ∈ GW := tq_3 11 rfl rfl
theorem wq_492 : (Jvm.Cond.lays "java/util/NoSuchElementException" "java/lang/Throwable" "cause" "Ljava/lang/Throwable;") ∈ GW := tq_3 12 rfl rfl
theorem wq_493 : (Jvm.Cond.lays "java/util/NoSuchElementException" "java/lang/Throwable" "stackTrace" "[Ljava/lang/StackTraceElement;") ∈ GW := tq_3 13 rfl rfl
theorem wq_494 : (Jvm.Cond.lays "java/util/NoSuchElementException" "java/lang/Throwable" "suppressedExceptions" "Ljava/util/List;") ∈ GW := tq_3 14 rfl rfl
theorem wq_495 : (Jvm.Cond.lays "java/util/NoSuchElementException" "java/lang/Throwable" "detailMessage" "Ljava/lang/String;") ∈ GW := tq_3 15 rfl rfl
theorem wq_496 : (Jvm.Cond.lays "java/util/NoSuchElementException" "java/lang/Throwable" "backtrace" "Ljava/lang/Object;") ∈ GW := tq_3 16 rfl rfl
theorem wq_497 : (Jvm.Cond.methodLink "BenchBroker" (187 : Nat) ({ cls := "java/util/NoSuchElementException", name := "<init>", desc := "()V" } : Jvm.MethodName)) ∈ GW := tq_3 17 rfl rfl
theorem wq_498 : (Jvm.Cond.instanceMethod ({ cls := "java/util/NoSuchElementException", name := "<init>", desc := "()V" } : Jvm.MethodName)) ∈ GW := tq_3 18 rfl rfl
theorem wq_499 : (Jvm.Cond.code ({ cls := "java/util/NoSuchElementException", name := "<init>", desc := "()V" } : Jvm.MethodName) prog_40_method_1_code (1 : Nat) (Option.none : Option Jvm.ClassFile.FieldType)) ∈ GW := tq_3 19 rfl rfl
theorem wq_500 : (Jvm.Cond.methodLink "java/util/NoSuchElementException" (1 : Nat) ({ cls := "java/lang/RuntimeException", name := "<init>", desc := "()V" } : Jvm.MethodName)) ∈ GW := tq_3 20 rfl rfl
theorem wq_501 : (Jvm.Cond.lays "java/util/NoSuchElementException" "java/lang/Throwable" "depth" "I") ∈ GW := tq_3 21 rfl rfl
theorem wq_502 : (Jvm.Cond.superclass "java/util/NoSuchElementException" "java/lang/RuntimeException") ∈ GW := tq_3 22 rfl rfl
theorem wq_503 : (Jvm.Cond.methodLink "BenchBrokerLaw" (223 : Nat) ({ cls := "BenchBrokerLaw", name := "canLease", desc := "(LBenchBroker;II)I" } : Jvm.MethodName)) ∈ GW := tq_3 23 rfl rfl
theorem wq_504 : (Jvm.Cond.static ({ cls := "BenchBrokerLaw", name := "canLease", desc := "(LBenchBroker;II)I" } : Jvm.MethodName)) ∈ GW := tq_3 24 rfl rfl
theorem wq_506 : (Jvm.Cond.methodLink "BenchBrokerLaw" (88 : Nat) ({ cls := "BenchBroker", name := "canLease", desc := "(II)Z" } : Jvm.MethodName)) ∈ GW := tq_3 26 rfl rfl
theorem wq_507 : (Jvm.Cond.instanceMethod ({ cls := "BenchBroker", name := "canLease", desc := "(II)Z" } : Jvm.MethodName)) ∈ GW := tq_3 27 rfl rfl
theorem wq_508 : (Jvm.Cond.selects "BenchBroker" ({ cls := "BenchBroker", name := "canLease", desc := "(II)Z" } : Jvm.MethodName) ({ cls := "BenchBroker", name := "canLease", desc := "(II)Z" } : Jvm.MethodName)) ∈ GW := tq_3 28 rfl rfl
theorem wq_509 : (Jvm.Cond.code ({ cls := "BenchBroker", name := "canLease", desc := "(II)Z" } : Jvm.MethodName) prog_1_method_27_code (3 : Nat) (Option.some Jvm.ClassFile.FieldType.boolean)) ∈ GW := tq_3 29 rfl rfl
theorem wq_510 : (Jvm.Cond.methodLink "BenchBroker" (188 : Nat) ({ cls := "BenchBroker$Books", name := "leaseObstacle", desc := "(II)I" } : Jvm.MethodName)) ∈ GW := tq_3 30 rfl rfl
theorem wq_511 : (Jvm.Cond.instanceMethod ({ cls := "BenchBroker$Books", name := "leaseObstacle", desc := "(II)I" } : Jvm.MethodName)) ∈ GW := tq_3 31 rfl rfl
theorem wq_512 : (Jvm.Cond.selects "BenchBroker$Books" ({ cls := "BenchBroker$Books", name := "leaseObstacle", desc := "(II)I" } : Jvm.MethodName) ({ cls := "BenchBroker$Books", name := "leaseObstacle", desc := "(II)I" } : Jvm.MethodName)) ∈ GW := tq_3 32 rfl rfl
theorem wq_513 : (Jvm.Cond.code ({ cls := "BenchBroker$Books", name := "leaseObstacle", desc := "(II)I" } : Jvm.MethodName) prog_3_method_8_code (3 : Nat) (Option.some Jvm.ClassFile.FieldType.int)) ∈ GW := tq_3 33 rfl rfl
theorem wq_514 : (Jvm.Cond.methodLink "BenchBroker$Books" (85 : Nat) ({ cls := "BenchBroker$Books", name := "leasedBench", desc := "(I)I" } : Jvm.MethodName)) ∈ GW := tq_3 34 rfl rfl
theorem wq_515 : (Jvm.Cond.methodLink "BenchBroker$Books" (89 : Nat) ({ cls := "BenchBroker$Books", name := "leased", desc := "(I)Z" } : Jvm.MethodName)) ∈ GW := tq_3 35 rfl rfl
theorem wq_516 : (Jvm.Cond.instanceMethod ({ cls := "BenchBroker$Books", name := "leased", desc := "(I)Z" } : Jvm.MethodName)) ∈ GW := tq_3 36 rfl rfl
theorem wq_517 : (Jvm.Cond.selects "BenchBroker$Books" ({ cls := "BenchBroker$Books", name := "leased", desc := "(I)Z" } : Jvm.MethodName) ({ cls := "BenchBroker$Books", name := "leased", desc := "(I)Z" } : Jvm.MethodName)) ∈ GW := tq_3 37 rfl rfl
theorem wq_518 : (Jvm.Cond.code ({ cls := "BenchBroker$Books", name := "leased", desc := "(I)Z" } : Jvm.MethodName) prog_3_method_4_code (2 : Nat) (Option.some Jvm.ClassFile.FieldType.boolean)) ∈ GW := tq_3 38 rfl rfl
theorem wq_519 : (Jvm.Cond.methodLink "BenchBroker$Books" (62 : Nat) ({ cls := "BenchBroker$Books", name := "hasTenant", desc := "(I)Z" } : Jvm.MethodName)) ∈ GW := tq_3 39 rfl rfl
theorem wq_520 : (Jvm.Cond.methodLink "BenchBroker$Books" (92 : Nat) ({ cls := "BenchBroker$Park", name := "quiet", desc := "(I)Z" } : Jvm.MethodName)) ∈ GW := tq_3 40 rfl rfl
theorem wq_521 : (Jvm.Cond.instanceMethod ({ cls := "BenchBroker$Park", name := "quiet", desc := "(I)Z" } : Jvm.MethodName)) ∈ GW := tq_3 41 rfl rfl
theorem wq_522 : (Jvm.Cond.selects "BenchBroker$Park" ({ cls := "BenchBroker$Park", name := "quiet", desc := "(I)Z" } : Jvm.MethodName) ({ cls := "BenchBroker$Park", name := "quiet", desc := "(I)Z" } : Jvm.MethodName)) ∈ GW := tq_3 42 rfl rfl
theorem wq_523 : (Jvm.Cond.code ({ cls := "BenchBroker$Park", name := "quiet", desc := "(I)Z" } : Jvm.MethodName) prog_8_method_15_code (2 : Nat) (Option.some Jvm.ClassFile.FieldType.boolean)) ∈ GW := tq_3 43 rfl rfl
theorem wq_524 : (Jvm.Cond.methodLink "BenchBroker$Books" (95 : Nat) ({ cls := "BenchBroker$Park", name := "rent", desc := "(I)I" } : Jvm.MethodName)) ∈ GW := tq_3 44 rfl rfl
theorem wq_525 : (Jvm.Cond.methodLink "BenchBrokerLaw" (248 : Nat) ({ cls := "BenchBrokerLaw", name := "isLet", desc := "(LBenchBroker;I)I" } : Jvm.MethodName)) ∈ GW := tq_3 45 rfl rfl
theorem wq_526 : (Jvm.Cond.static ({ cls := "BenchBrokerLaw", name := "isLet", desc := "(LBenchBroker;I)I" } : Jvm.MethodName)) ∈ GW := tq_3 46 rfl rfl
theorem wq_528 : (Jvm.Cond.methodLink "BenchBrokerLaw" (104 : Nat) ({ cls := "BenchBroker", name := "isLet", desc := "(I)Z" } : Jvm.MethodName)) ∈ GW := tq_3 48 rfl rfl
theorem wq_529 : (Jvm.Cond.instanceMethod ({ cls := "BenchBroker", name := "isLet", desc := "(I)Z" } : Jvm.MethodName)) ∈ GW := tq_3 49 rfl rfl
theorem wq_530 : (Jvm.Cond.selects "BenchBroker" ({ cls := "BenchBroker", name := "isLet", desc := "(I)Z" } : Jvm.MethodName) ({ cls := "BenchBroker", name := "isLet", desc := "(I)Z" } : Jvm.MethodName)) ∈ GW := tq_3 50 rfl rfl
theorem wq_531 : (Jvm.Cond.code ({ cls := "BenchBroker", name := "isLet", desc := "(I)Z" } : Jvm.MethodName) prog_1_method_32_code (2 : Nat) (Option.some Jvm.ClassFile.FieldType.boolean)) ∈ GW := tq_3 51 rfl rfl
theorem wq_532 : (Jvm.Cond.methodLink "BenchBroker" (203 : Nat) ({ cls := "BenchBroker$Books", name := "leased", desc := "(I)Z" } : Jvm.MethodName)) ∈ GW := tq_3 52 rfl rfl
theorem wq_533 : (Jvm.Cond.methodLink "BenchBrokerLaw" (244 : Nat) ({ cls := "BenchBrokerLaw", name := "tenantOf", desc := "(LBenchBroker;I)I" } : Jvm.MethodName)) ∈ GW := tq_3 53 rfl rfl
theorem wq_534 : (Jvm.Cond.static ({ cls := "BenchBrokerLaw", name := "tenantOf", desc := "(LBenchBroker;I)I" } : Jvm.MethodName)) ∈ GW := tq_3 54 rfl rfl
theorem wq_536 : (Jvm.Cond.methodLink "BenchBrokerLaw" (107 : Nat) ({ cls := "BenchBroker", name := "tenantOf", desc := "(I)I" } : Jvm.MethodName)) ∈ GW := tq_3 56 rfl rfl
theorem wq_537 : (Jvm.Cond.instanceMethod ({ cls := "BenchBroker", name := "tenantOf", desc := "(I)I" } : Jvm.MethodName)) ∈ GW := tq_3 57 rfl rfl
theorem wq_538 : (Jvm.Cond.selects "BenchBroker" ({ cls := "BenchBroker", name := "tenantOf", desc := "(I)I" } : Jvm.MethodName) ({ cls := "BenchBroker", name := "tenantOf", desc := "(I)I" } : Jvm.MethodName)) ∈ GW := tq_3 58 rfl rfl
theorem wq_539 : (Jvm.Cond.code ({ cls := "BenchBroker", name := "tenantOf", desc := "(I)I" } : Jvm.MethodName) prog_1_method_33_code (2 : Nat) (Option.some Jvm.ClassFile.FieldType.int)) ∈ GW := tq_3 59 rfl rfl
theorem wq_540 : (Jvm.Cond.methodLink "BenchBroker" (206 : Nat) ({ cls := "BenchBroker", name := "needLease", desc := "(I)V" } : Jvm.MethodName)) ∈ GW := tq_3 60 rfl rfl
theorem wq_542 : (Jvm.Cond.instanceMethod ({ cls := "BenchBroker", name := "needLease", desc := "(I)V" } : Jvm.MethodName)) ∈ GW := tq_3 62 rfl rfl
theorem wq_543 : (Jvm.Cond.code ({ cls := "BenchBroker", name := "needLease", desc := "(I)V" } : Jvm.MethodName) prog_1_method_69_code (2 : Nat) (Option.none : Option Jvm.ClassFile.FieldType)) ∈ GW := tq_3 63 rfl rfl
theorem wq_544 : (Jvm.Cond.methodLink "BenchBrokerLaw" (236 : Nat) ({ cls := "BenchBrokerLaw", name := "monthsLeft", desc := "(LBenchBroker;I)I" } : Jvm.MethodName)) ∈ GW := tq_3 64 rfl rfl
theorem wq_545 : (Jvm.Cond.static ({ cls := "BenchBrokerLaw", name := "monthsLeft", desc := "(LBenchBroker;I)I" } : Jvm.MethodName)) ∈ GW := tq_3 65 rfl rfl
theorem wq_547 : (Jvm.Cond.methodLink "BenchBrokerLaw" (113 : Nat) ({ cls := "BenchBroker", name := "monthsLeft", desc := "(I)I" } : Jvm.MethodName)) ∈ GW := tq_3 67 rfl rfl
theorem wq_548 : (Jvm.Cond.instanceMethod ({ cls := "BenchBroker", name := "monthsLeft", desc := "(I)I" } : Jvm.MethodName)) ∈ GW := tq_3 68 rfl rfl
theorem wq_549 : (Jvm.Cond.selects "BenchBroker" ({ cls := "BenchBroker", name := "monthsLeft", desc := "(I)I" } : Jvm.MethodName) ({ cls := "BenchBroker", name := "monthsLeft", desc := "(I)I" } : Jvm.MethodName)) ∈ GW := tq_3 69 rfl rfl
theorem wq_550 : (Jvm.Cond.code ({ cls := "BenchBroker", name := "monthsLeft", desc := "(I)I" } : Jvm.MethodName) prog_1_method_35_code (2 : Nat) (Option.some Jvm.ClassFile.FieldType.int)) ∈ GW := tq_3 70 rfl rfl
theorem wq_551 : (Jvm.Cond.methodLink "BenchBrokerLaw" (234 : Nat) ({ cls := "BenchBrokerLaw", name := "defaultMonth", desc := "(LBenchBroker;I)I" } : Jvm.MethodName)) ∈ GW := tq_3 71 rfl rfl
theorem wq_552 : (Jvm.Cond.static ({ cls := "BenchBrokerLaw", name := "defaultMonth", desc := "(LBenchBroker;I)I" } : Jvm.MethodName)) ∈ GW := tq_3 72 rfl rfl
theorem wq_554 : (Jvm.Cond.methodLink "BenchBrokerLaw" (116 : Nat) ({ cls := "BenchBroker", name := "defaultMonth", desc := "(I)I" } : Jvm.MethodName)) ∈ GW := tq_3 74 rfl rfl
theorem wq_555 : (Jvm.Cond.instanceMethod ({ cls := "BenchBroker", name := "defaultMonth", desc := "(I)I" } : Jvm.MethodName)) ∈ GW := tq_3 75 rfl rfl
theorem wq_556 : (Jvm.Cond.selects "BenchBroker" ({ cls := "BenchBroker", name := "defaultMonth", desc := "(I)I" } : Jvm.MethodName) ({ cls := "BenchBroker", name := "defaultMonth", desc := "(I)I" } : Jvm.MethodName)) ∈ GW := tq_3 76 rfl rfl
theorem wq_557 : (Jvm.Cond.code ({ cls := "BenchBroker", name := "defaultMonth", desc := "(I)I" } : Jvm.MethodName) prog_1_method_36_code (3 : Nat) (Option.some Jvm.ClassFile.FieldType.int)) ∈ GW := tq_3 77 rfl rfl
theorem wq_558 : (Jvm.Cond.methodLink "BenchBroker" (218 : Nat) ({ cls := "BenchBroker$Books", name := "payableMonths", desc := "(I)I" } : Jvm.MethodName)) ∈ GW := tq_3 78 rfl rfl
theorem wq_559 : (Jvm.Cond.instanceMethod ({ cls := "BenchBroker$Books", name := "payableMonths", desc := "(I)I" } : Jvm.MethodName)) ∈ GW := tq_3 79 rfl rfl
theorem wq_560 : (Jvm.Cond.selects "BenchBroker$Books" ({ cls := "BenchBroker$Books", name := "payableMonths", desc := "(I)I" } : Jvm.MethodName) ({ cls := "BenchBroker$Books", name := "payableMonths", desc := "(I)I" } : Jvm.MethodName)) ∈ GW := tq_3 80 rfl rfl
theorem wq_561 : (Jvm.Cond.code ({ cls := "BenchBroker$Books", name := "payableMonths", desc := "(I)I" } : Jvm.MethodName) prog_3_method_17_code (3 : Nat) (Option.some Jvm.ClassFile.FieldType.int)) ∈ GW := tq_3 81 rfl rfl
theorem wq_562 : (Jvm.Cond.methodLink "BenchBroker" (160 : Nat) ({ cls := "BenchBroker$Park", name := "quiet", desc := "(I)Z" } : Jvm.MethodName)) ∈ GW := tq_3 82 rfl rfl
theorem wq_563 : (Jvm.Cond.methodLink "BenchBrokerLaw" (226 : Nat) ({ cls := "BenchBrokerLaw", name := "incomeWithin", desc := "(LBenchBroker;I)I" } : Jvm.MethodName)) ∈ GW := tq_3 83 rfl rfl
theorem wq_564 : (Jvm.Cond.static ({ cls := "BenchBrokerLaw", name := "incomeWithin", desc := "(LBenchBroker;I)I" } : Jvm.MethodName)) ∈ GW := tq_3 84 rfl rfl
theorem wq_566 : (Jvm.Cond.classLink "BenchBrokerLaw" (22 : Nat) "java/lang/IllegalArgumentException") ∈ GW := tq_3 86 rfl rfl
theorem wq_567 : (Jvm.Cond.methodLink "BenchBrokerLaw" (122 : Nat) ({ cls := "BenchBroker", name := "incomeWithin", desc := "(I)I" } : Jvm.MethodName)) ∈ GW := tq_3 87 rfl rfl
theorem wq_568 : (Jvm.Cond.instanceMethod ({ cls := "BenchBroker", name := "incomeWithin", desc := "(I)I" } : Jvm.MethodName)) ∈ GW := tq_3 88 rfl rfl
theorem wq_569 : (Jvm.Cond.selects "BenchBroker" ({ cls := "BenchBroker", name := "incomeWithin", desc := "(I)I" } : Jvm.MethodName) ({ cls := "BenchBroker", name := "incomeWithin", desc := "(I)I" } : Jvm.MethodName)) ∈ GW := tq_3 89 rfl rfl
theorem wq_570 : (Jvm.Cond.code ({ cls := "BenchBroker", name := "incomeWithin", desc := "(I)I" } : Jvm.MethodName) prog_1_method_39_code (2 : Nat) (Option.some Jvm.ClassFile.FieldType.int)) ∈ GW := tq_3 90 rfl rfl
theorem wq_571 : (Jvm.Cond.methodLink "BenchBroker" (227 : Nat) ({ cls := "BenchBroker", name := "needTerm", desc := "(I)V" } : Jvm.MethodName)) ∈ GW := tq_3 91 rfl rfl
theorem wq_573 : (Jvm.Cond.instanceMethod ({ cls := "BenchBroker", name := "needTerm", desc := "(I)V" } : Jvm.MethodName)) ∈ GW := tq_3 93 rfl rfl
theorem wq_574 : (Jvm.Cond.code ({ cls := "BenchBroker", name := "needTerm", desc := "(I)V" } : Jvm.MethodName) prog_1_method_70_code (2 : Nat) (Option.none : Option Jvm.ClassFile.FieldType)) ∈ GW := tq_3 94 rfl rfl
theorem wq_575 : (Jvm.Cond.methodLink "BenchBroker" (360 : Nat) ({ cls := "BenchBroker$Books", name := "isTerm", desc := "(I)Z" } : Jvm.MethodName)) ∈ GW := tq_3 95 rfl rfl
theorem wq_576 : (Jvm.Cond.static ({ cls := "BenchBroker$Books", name := "isTerm", desc := "(I)Z" } : Jvm.MethodName)) ∈ GW := tq_3 96 rfl rfl
theorem wq_577 : (Jvm.Cond.code ({ cls := "BenchBroker$Books", name := "isTerm", desc := "(I)Z" } : Jvm.MethodName) prog_3_method_2_code (1 : Nat) (Option.some Jvm.ClassFile.FieldType.boolean)) ∈ GW := tq_3 97 rfl rfl
theorem wq_578 : (Jvm.Cond.classLink "BenchBroker" (300 : Nat) "java/lang/IllegalArgumentException") ∈ GW := tq_3 98 rfl rfl
theorem wq_579 : (Jvm.Cond.instantiable "java/lang/IllegalArgumentException" (6 : Nat)) ∈ GW := tq_3 99 rfl rfl
theorem wq_581 : (Jvm.Cond.selects "java/lang/IllegalArgumentException" ({ cls := "java/lang/Throwable", name := "fillInStackTrace", desc := "(I)Ljava/lang/Throwable;" } : Jvm.MethodName) ({ cls := "java/lang/Throwable", name := "fillInStackTrace", desc := "(I)Ljava/lang/Throwable;" } : Jvm.MethodName)) ∈ GW := tq_3 101 rfl rfl
theorem wq_582 : (Jvm.Cond.lays "java/lang/IllegalArgumentException" "java/lang/Throwable" "cause" "Ljava/lang/Throwable;") ∈ GW := tq_3 102 rfl rfl
theorem wq_583 : (Jvm.Cond.lays "java/lang/IllegalArgumentException" "java/lang/Throwable" "stackTrace" "[Ljava/lang/StackTraceElement;") ∈ GW := tq_3 103 rfl rfl
theorem wq_584 : (Jvm.Cond.lays "java/lang/IllegalArgumentException" "java/lang/Throwable" "suppressedExceptions" "Ljava/util/List;") ∈ GW := tq_3 104 rfl rfl
theorem wq_585 : (Jvm.Cond.lays "java/lang/IllegalArgumentException" "java/lang/Throwable" "detailMessage" "Ljava/lang/String;") ∈ GW := tq_3 105 rfl rfl
theorem wq_586 : (Jvm.Cond.lays "java/lang/IllegalArgumentException" "java/lang/Throwable" "backtrace" "Ljava/lang/Object;") ∈ GW := tq_3 106 rfl rfl
theorem wq_587 : (Jvm.Cond.methodLink "BenchBroker" (302 : Nat) ({ cls := "java/lang/IllegalArgumentException", name := "<init>", desc := "()V" } : Jvm.MethodName)) ∈ GW := tq_3 107 rfl rfl
theorem wq_588 : (Jvm.Cond.instanceMethod ({ cls := "java/lang/IllegalArgumentException", name := "<init>", desc := "()V" } : Jvm.MethodName)) ∈ GW := tq_3 108 rfl rfl
theorem wq_589 : (Jvm.Cond.code ({ cls := "java/lang/IllegalArgumentException", name := "<init>", desc := "()V" } : Jvm.MethodName) prog_22_method_1_code (1 : Nat) (Option.none : Option Jvm.ClassFile.FieldType)) ∈ GW := tq_3 109 rfl rfl
theorem wq_590 : (Jvm.Cond.methodLink "java/lang/IllegalArgumentException" (1 : Nat) ({ cls := "java/lang/RuntimeException", name := "<init>", desc := "()V" } : Jvm.MethodName)) ∈ GW := tq_3 110 rfl rfl
theorem wq_591 : (Jvm.Cond.lays "java/lang/IllegalArgumentException" "java/lang/Throwable" "depth" "I") ∈ GW := tq_3 111 rfl rfl
theorem wq_592 : (Jvm.Cond.superclass "java/lang/IllegalArgumentException" "java/lang/RuntimeException") ∈ GW := tq_3 112 rfl rfl
theorem wq_593 : (Jvm.Cond.methodLink "BenchBroker" (230 : Nat) ({ cls := "BenchBroker", name := "incomeOnCopy", desc := "(I)I" } : Jvm.MethodName)) ∈ GW := tq_3 113 rfl rfl
theorem wq_595 : (Jvm.Cond.instanceMethod ({ cls := "BenchBroker", name := "incomeOnCopy", desc := "(I)I" } : Jvm.MethodName)) ∈ GW := tq_3 115 rfl rfl
theorem wq_596 : (Jvm.Cond.code ({ cls := "BenchBroker", name := "incomeOnCopy", desc := "(I)I" } : Jvm.MethodName) prog_1_method_77_code (2 : Nat) (Option.some Jvm.ClassFile.FieldType.int)) ∈ GW := tq_3 116 rfl rfl
theorem wq_597 : (Jvm.Cond.methodLink "BenchBroker" (344 : Nat) ({ cls := "BenchBroker$Books", name := "copyFrom", desc := "(LBenchBroker$Books;)V" } : Jvm.MethodName)) ∈ GW := tq_3 117 rfl rfl
theorem wq_598 : (Jvm.Cond.instanceMethod ({ cls := "BenchBroker$Books", name := "copyFrom", desc := "(LBenchBroker$Books;)V" } : Jvm.MethodName)) ∈ GW := tq_3 118 rfl rfl
theorem wq_599 : (Jvm.Cond.selects "BenchBroker$Books" ({ cls := "BenchBroker$Books", name := "copyFrom", desc := "(LBenchBroker$Books;)V" } : Jvm.MethodName) ({ cls := "BenchBroker$Books", name := "copyFrom", desc := "(LBenchBroker$Books;)V" } : Jvm.MethodName)) ∈ GW := tq_3 119 rfl rfl
theorem wq_600 : (Jvm.Cond.code ({ cls := "BenchBroker$Books", name := "copyFrom", desc := "(LBenchBroker$Books;)V" } : Jvm.MethodName) prog_3_method_27_code (2 : Nat) (Option.none : Option Jvm.ClassFile.FieldType)) ∈ GW := tq_3 120 rfl rfl
theorem wq_601 : (Jvm.Cond.methodLink "BenchBroker$Books" (149 : Nat) ({ cls := "BenchBroker$Park", name := "copyFrom", desc := "(LBenchBroker$Park;)V" } : Jvm.MethodName)) ∈ GW := tq_3 121 rfl rfl
theorem wq_602 : (Jvm.Cond.instanceMethod ({ cls := "BenchBroker$Park", name := "copyFrom", desc := "(LBenchBroker$Park;)V" } : Jvm.MethodName)) ∈ GW := tq_3 122 rfl rfl
theorem wq_603 : (Jvm.Cond.selects "BenchBroker$Park" ({ cls := "BenchBroker$Park", name := "copyFrom", desc := "(LBenchBroker$Park;)V" } : Jvm.MethodName) ({ cls := "BenchBroker$Park", name := "copyFrom", desc := "(LBenchBroker$Park;)V" } : Jvm.MethodName)) ∈ GW := tq_3 123 rfl rfl
theorem wq_604 : (Jvm.Cond.code ({ cls := "BenchBroker$Park", name := "copyFrom", desc := "(LBenchBroker$Park;)V" } : Jvm.MethodName) prog_8_method_16_code (2 : Nat) (Option.none : Option Jvm.ClassFile.FieldType)) ∈ GW := tq_3 124 rfl rfl
theorem wq_605 : (Jvm.Cond.methodLink "BenchBroker$Park" (87 : Nat) ({ cls := "java/lang/System", name := "arraycopy", desc := "(Ljava/lang/Object;ILjava/lang/Object;II)V" } : Jvm.MethodName)) ∈ GW := tq_3 125 rfl rfl
theorem wq_606 : (Jvm.Cond.static ({ cls := "java/lang/System", name := "arraycopy", desc := "(Ljava/lang/Object;ILjava/lang/Object;II)V" } : Jvm.MethodName)) ∈ GW := tq_3 126 rfl rfl
theorem wq_607 : (Jvm.Cond.native ({ cls := "java/lang/System", name := "arraycopy", desc := "(Ljava/lang/Object;ILjava/lang/Object;II)V" } : Jvm.MethodName)) ∈ GW := tq_3 127 rfl rfl
theorem wq_608 : (Jvm.Cond.methodLink "BenchBroker$Books" (153 : Nat) ({ cls := "java/lang/System", name := "arraycopy", desc := "(Ljava/lang/Object;ILjava/lang/Object;II)V" } : Jvm.MethodName)) ∈ GW := tq_3 128 rfl rfl
theorem wq_609 : (Jvm.Cond.methodLink "BenchBroker" (221 : Nat) ({ cls := "BenchBroker$Books", name := "elapse", desc := "(ILBenchBroker$Outcome;)V" } : Jvm.MethodName)) ∈ GW := tq_3 129 rfl rfl
theorem wq_610 : (Jvm.Cond.instanceMethod ({ cls := "BenchBroker$Books", name := "elapse", desc := "(ILBenchBroker$Outcome;)V" } : Jvm.MethodName)) ∈ GW := tq_3 130 rfl rfl
theorem wq_611 : (Jvm.Cond.selects "BenchBroker$Books" ({ cls := "BenchBroker$Books", name := "elapse", desc := "(ILBenchBroker$Outcome;)V" } : Jvm.MethodName) ({ cls := "BenchBroker$Books", name := "elapse", desc := "(ILBenchBroker$Outcome;)V" } : Jvm.MethodName)) ∈ GW := tq_3 131 rfl rfl
theorem wq_612 : (Jvm.Cond.code ({ cls := "BenchBroker$Books", name := "elapse", desc := "(ILBenchBroker$Outcome;)V" } : Jvm.MethodName) prog_3_method_15_code (6 : Nat) (Option.none : Option Jvm.ClassFile.FieldType)) ∈ GW := tq_3 132 rfl rfl
theorem wq_613 : (Jvm.Cond.methodLink "BenchBroker$Books" (114 : Nat) ({ cls := "BenchBroker$Books", name := "isTerm", desc := "(I)Z" } : Jvm.MethodName)) ∈ GW := tq_3 133 rfl rfl
theorem wq_614 : (Jvm.Cond.methodLink "BenchBroker$Books" (69 : Nat) ({ cls := "BenchBroker$Outcome", name := "missNumber", desc := "()V" } : Jvm.MethodName)) ∈ GW := tq_3 134 rfl rfl
theorem wq_615 : (Jvm.Cond.instanceMethod ({ cls := "BenchBroker$Outcome", name := "missNumber", desc := "()V" } : Jvm.MethodName)) ∈ GW := tq_3 135 rfl rfl
theorem wq_616 : (Jvm.Cond.selects "BenchBroker$Outcome" ({ cls := "BenchBroker$Outcome", name := "missNumber", desc := "()V" } : Jvm.MethodName) ({ cls := "BenchBroker$Outcome", name := "missNumber", desc := "()V" } : Jvm.MethodName)) ∈ GW := tq_3 136 rfl rfl
theorem wq_617 : (Jvm.Cond.code ({ cls := "BenchBroker$Outcome", name := "missNumber", desc := "()V" } : Jvm.MethodName) prog_7_method_4_code (1 : Nat) (Option.none : Option Jvm.ClassFile.FieldType)) ∈ GW := tq_3 137 rfl rfl
theorem wq_618 : (Jvm.Cond.methodLink "BenchBroker$Books" (124 : Nat) ({ cls := "BenchBroker$Books", name := "endsThisMonth", desc := "(I)Z" } : Jvm.MethodName)) ∈ GW := tq_3 138 rfl rfl
theorem wq_620 : (Jvm.Cond.instanceMethod ({ cls := "BenchBroker$Books", name := "endsThisMonth", desc := "(I)Z" } : Jvm.MethodName)) ∈ GW := tq_3 140 rfl rfl
theorem wq_621 : (Jvm.Cond.code ({ cls := "BenchBroker$Books", name := "endsThisMonth", desc := "(I)Z" } : Jvm.MethodName) prog_3_method_16_code (4 : Nat) (Option.some Jvm.ClassFile.FieldType.boolean)) ∈ GW := tq_3 141 rfl rfl
theorem wq_622 : (Jvm.Cond.methodLink "BenchBroker$Books" (121 : Nat) ({ cls := "BenchBroker$Books", name := "closeLease", desc := "(II)V" } : Jvm.MethodName)) ∈ GW := tq_3 142 rfl rfl
theorem wq_624 : (Jvm.Cond.instanceMethod ({ cls := "BenchBroker$Books", name := "closeLease", desc := "(II)V" } : Jvm.MethodName)) ∈ GW := tq_3 144 rfl rfl
theorem wq_625 : (Jvm.Cond.code ({ cls := "BenchBroker$Books", name := "closeLease", desc := "(II)V" } : Jvm.MethodName) prog_3_method_14_code (3 : Nat) (Option.none : Option Jvm.ClassFile.FieldType)) ∈ GW := tq_3 145 rfl rfl
theorem wq_626 : (Jvm.Cond.methodLink "BenchBroker$Books" (78 : Nat) ({ cls := "BenchBroker$Outcome", name := "succeed", desc := "(I)V" } : Jvm.MethodName)) ∈ GW := tq_3 146 rfl rfl
theorem wq_627 : (Jvm.Cond.instanceMethod ({ cls := "BenchBroker$Outcome", name := "succeed", desc := "(I)V" } : Jvm.MethodName)) ∈ GW := tq_3 147 rfl rfl
theorem wq_628 : (Jvm.Cond.selects "BenchBroker$Outcome" ({ cls := "BenchBroker$Outcome", name := "succeed", desc := "(I)V" } : Jvm.MethodName) ({ cls := "BenchBroker$Outcome", name := "succeed", desc := "(I)V" } : Jvm.MethodName)) ∈ GW := tq_3 148 rfl rfl
theorem wq_629 : (Jvm.Cond.code ({ cls := "BenchBroker$Outcome", name := "succeed", desc := "(I)V" } : Jvm.MethodName) prog_7_method_2_code (2 : Nat) (Option.none : Option Jvm.ClassFile.FieldType)) ∈ GW := tq_3 149 rfl rfl
theorem wq_630 : (Jvm.Cond.methodLink "BenchBrokerLaw" (231 : Nat) ({ cls := "BenchBrokerLaw", name := "endings", desc := "(LBenchBroker;)I" } : Jvm.MethodName)) ∈ GW := tq_3 150 rfl rfl
theorem wq_631 : (Jvm.Cond.static ({ cls := "BenchBrokerLaw", name := "endings", desc := "(LBenchBroker;)I" } : Jvm.MethodName)) ∈ GW := tq_3 151 rfl rfl
theorem wq_632 : (Jvm.Cond.code ({ cls := "BenchBrokerLaw", name := "endings", desc := "(LBenchBroker;)I" } : Jvm.MethodName) method_57_code (1 : Nat) (Option.some Jvm.ClassFile.FieldType.int)) ∈ GW := tq_3 152 rfl rfl
theorem wq_633 : (Jvm.Cond.methodLink "BenchBrokerLaw" (258 : Nat) ({ cls := "BenchBroker", name := "defaultedLeases", desc := "()I" } : Jvm.MethodName)) ∈ GW := tq_3 153 rfl rfl
theorem wq_634 : (Jvm.Cond.instanceMethod ({ cls := "BenchBroker", name := "defaultedLeases", desc := "()I" } : Jvm.MethodName)) ∈ GW := tq_3 154 rfl rfl
theorem wq_635 : (Jvm.Cond.selects "BenchBroker" ({ cls := "BenchBroker", name := "defaultedLeases", desc := "()I" } : Jvm.MethodName) ({ cls := "BenchBroker", name := "defaultedLeases", desc := "()I" } : Jvm.MethodName)) ∈ GW := tq_3 155 rfl rfl
theorem wq_636 : (Jvm.Cond.code ({ cls := "BenchBroker", name := "defaultedLeases", desc := "()I" } : Jvm.MethodName) prog_1_method_45_code (1 : Nat) (Option.some Jvm.ClassFile.FieldType.int)) ∈ GW := tq_3 156 rfl rfl
theorem wq_637 : (Jvm.Cond.methodLink "BenchBrokerLaw" (261 : Nat) ({ cls := "BenchBroker", name := "terminatedLeases", desc := "()I" } : Jvm.MethodName)) ∈ GW := tq_3 157 rfl rfl
theorem wq_638 : (Jvm.Cond.instanceMethod ({ cls := "BenchBroker", name := "terminatedLeases", desc := "()I" } : Jvm.MethodName)) ∈ GW := tq_3 158 rfl rfl
theorem wq_639 : (Jvm.Cond.selects "BenchBroker" ({ cls := "BenchBroker", name := "terminatedLeases", desc := "()I" } : Jvm.MethodName) ({ cls := "BenchBroker", name := "terminatedLeases", desc := "()I" } : Jvm.MethodName)) ∈ GW := tq_3 159 rfl rfl
theorem wq_640 : (Jvm.Cond.code ({ cls := "BenchBroker", name := "terminatedLeases", desc := "()I" } : Jvm.MethodName) prog_1_method_46_code (1 : Nat) (Option.some Jvm.ClassFile.FieldType.int)) ∈ GW := tq_3 160 rfl rfl
theorem wq_641 : (Jvm.Cond.methodLink "BenchBrokerLaw" (264 : Nat) ({ cls := "BenchBroker", name := "completedLeases", desc := "()I" } : Jvm.MethodName)) ∈ GW := tq_3 161 rfl rfl
theorem wq_642 : (Jvm.Cond.instanceMethod ({ cls := "BenchBroker", name := "completedLeases", desc := "()I" } : Jvm.MethodName)) ∈ GW := tq_3 162 rfl rfl
theorem wq_643 : (Jvm.Cond.selects "BenchBroker" ({ cls := "BenchBroker", name := "completedLeases", desc := "()I" } : Jvm.MethodName) ({ cls := "BenchBroker", name := "completedLeases", desc := "()I" } : Jvm.MethodName)) ∈ GW := tq_3 163 rfl rfl
theorem wq_644 : (Jvm.Cond.code ({ cls := "BenchBroker", name := "completedLeases", desc := "()I" } : Jvm.MethodName) prog_1_method_47_code (1 : Nat) (Option.some Jvm.ClassFile.FieldType.int)) ∈ GW := tq_3 164 rfl rfl
theorem wq_645 : (Jvm.Cond.methodLink "BenchBrokerLaw" (240 : Nat) ({ cls := "BenchBrokerLaw", name := "does", desc := "([IIILBenchBroker;III)I" } : Jvm.MethodName)) ∈ GW := tq_3 165 rfl rfl
theorem wq_646 : (Jvm.Cond.static ({ cls := "BenchBrokerLaw", name := "does", desc := "([IIILBenchBroker;III)I" } : Jvm.MethodName)) ∈ GW := tq_3 166 rfl rfl
theorem wq_647 : (Jvm.Cond.code ({ cls := "BenchBrokerLaw", name := "does", desc := "([IIILBenchBroker;III)I" } : Jvm.MethodName) method_58_code (10 : Nat) (Option.some Jvm.ClassFile.FieldType.int)) ∈ GW := tq_3 167 rfl rfl
theorem wq_648 : (Jvm.Cond.methodLink "BenchBrokerLaw" (267 : Nat) ({ cls := "BenchBroker", name := "fountainCount", desc := "()I" } : Jvm.MethodName)) ∈ GW := tq_3 168 rfl rfl
theorem wq_649 : (Jvm.Cond.instanceMethod ({ cls := "BenchBroker", name := "fountainCount", desc := "()I" } : Jvm.MethodName)) ∈ GW := tq_3 169 rfl rfl
theorem wq_650 : (Jvm.Cond.selects "BenchBroker" ({ cls := "BenchBroker", name := "fountainCount", desc := "()I" } : Jvm.MethodName) ({ cls := "BenchBroker", name := "fountainCount", desc := "()I" } : Jvm.MethodName)) ∈ GW := tq_3 170 rfl rfl
theorem wq_651 : (Jvm.Cond.code ({ cls := "BenchBroker", name := "fountainCount", desc := "()I" } : Jvm.MethodName) prog_1_method_13_code (1 : Nat) (Option.some Jvm.ClassFile.FieldType.int)) ∈ GW := tq_3 171 rfl rfl
theorem wq_652 : (Jvm.Cond.methodLink "BenchBrokerLaw" (270 : Nat) ({ cls := "BenchBrokerLaw", name := "addBench", desc := "(LBenchBroker;III)I" } : Jvm.MethodName)) ∈ GW := tq_3 172 rfl rfl
theorem wq_653 : (Jvm.Cond.static ({ cls := "BenchBrokerLaw", name := "addBench", desc := "(LBenchBroker;III)I" } : Jvm.MethodName)) ∈ GW := tq_3 173 rfl rfl
theorem wq_655 : (Jvm.Cond.classLink "BenchBrokerLaw" (24 : Nat) "java/lang/UnsupportedOperationException") ∈ GW := tq_3 175 rfl rfl
theorem wq_656 : (Jvm.Cond.methodLink "BenchBrokerLaw" (14 : Nat) ({ cls := "BenchBroker", name := "addBench", desc := "(III)I" } : Jvm.MethodName)) ∈ GW := tq_3 176 rfl rfl
theorem wq_657 : (Jvm.Cond.instanceMethod ({ cls := "BenchBroker", name := "addBench", desc := "(III)I" } : Jvm.MethodName)) ∈ GW := tq_3 177 rfl rfl
theorem wq_658 : (Jvm.Cond.selects "BenchBroker" ({ cls := "BenchBroker", name := "addBench", desc := "(III)I" } : Jvm.MethodName) ({ cls := "BenchBroker", name := "addBench", desc := "(III)I" } : Jvm.MethodName)) ∈ GW := tq_3 178 rfl rfl
theorem wq_659 : (Jvm.Cond.code ({ cls := "BenchBroker", name := "addBench", desc := "(III)I" } : Jvm.MethodName) prog_1_method_2_code (4 : Nat) (Option.some Jvm.ClassFile.FieldType.int)) ∈ GW := tq_3 179 rfl rfl
theorem wq_660 : (Jvm.Cond.methodLink "BenchBroker" (74 : Nat) ({ cls := "BenchBroker", name := "startChange", desc := "()V" } : Jvm.MethodName)) ∈ GW := tq_3 180 rfl rfl
theorem wq_662 : (Jvm.Cond.instanceMethod ({ cls := "BenchBroker", name := "startChange", desc := "()V" } : Jvm.MethodName)) ∈ GW := tq_3 182 rfl rfl
theorem wq_663 : (Jvm.Cond.code ({ cls := "BenchBroker", name := "startChange", desc := "()V" } : Jvm.MethodName) prog_1_method_71_code (1 : Nat) (Option.none : Option Jvm.ClassFile.FieldType)) ∈ GW := tq_3 183 rfl rfl
theorem wq_664 : (Jvm.Cond.methodLink "BenchBroker" (81 : Nat) ({ cls := "BenchBroker$Park", name := "placeBench", desc := "(IIILBenchBroker$Outcome;)V" } : Jvm.MethodName)) ∈ GW := tq_3 184 rfl rfl
theorem wq_665 : (Jvm.Cond.instanceMethod ({ cls := "BenchBroker$Park", name := "placeBench", desc := "(IIILBenchBroker$Outcome;)V" } : Jvm.MethodName)) ∈ GW := tq_3 185 rfl rfl
theorem wq_666 : (Jvm.Cond.selects "BenchBroker$Park" ({ cls := "BenchBroker$Park", name := "placeBench", desc := "(IIILBenchBroker$Outcome;)V" } : Jvm.MethodName) ({ cls := "BenchBroker$Park", name := "placeBench", desc := "(IIILBenchBroker$Outcome;)V" } : Jvm.MethodName)) ∈ GW := tq_3 186 rfl rfl
theorem wq_667 : (Jvm.Cond.code ({ cls := "BenchBroker$Park", name := "placeBench", desc := "(IIILBenchBroker$Outcome;)V" } : Jvm.MethodName) prog_8_method_5_code (5 : Nat) (Option.none : Option Jvm.ClassFile.FieldType)) ∈ GW := tq_3 187 rfl rfl
theorem wq_668 : (Jvm.Cond.methodLink "BenchBroker$Park" (44 : Nat) ({ cls := "BenchBroker$Park", name := "hasCell", desc := "(II)Z" } : Jvm.MethodName)) ∈ GW := tq_3 188 rfl rfl
theorem wq_669 : (Jvm.Cond.static ({ cls := "BenchBroker$Park", name := "hasCell", desc := "(II)Z" } : Jvm.MethodName)) ∈ GW := tq_3 189 rfl rfl
theorem wq_670 : (Jvm.Cond.code ({ cls := "BenchBroker$Park", name := "hasCell", desc := "(II)Z" } : Jvm.MethodName) prog_8_method_2_code (2 : Nat) (Option.some Jvm.ClassFile.FieldType.boolean)) ∈ GW := tq_3 190 rfl rfl
theorem wq_671 : (Jvm.Cond.methodLink "BenchBroker$Park" (48 : Nat) ({ cls := "BenchBroker$Outcome", name := "missIndex", desc := "()V" } : Jvm.MethodName)) ∈ GW := tq_3 191 rfl rfl
theorem wq_672 : (Jvm.Cond.instanceMethod ({ cls := "BenchBroker$Outcome", name := "missIndex", desc := "()V" } : Jvm.MethodName)) ∈ GW := tq_3 192 rfl rfl
theorem wq_673 : (Jvm.Cond.selects "BenchBroker$Outcome" ({ cls := "BenchBroker$Outcome", name := "missIndex", desc := "()V" } : Jvm.MethodName) ({ cls := "BenchBroker$Outcome", name := "missIndex", desc := "()V" } : Jvm.MethodName)) ∈ GW := tq_3 193 rfl rfl
theorem wq_674 : (Jvm.Cond.code ({ cls := "BenchBroker$Outcome", name := "missIndex", desc := "()V" } : Jvm.MethodName) prog_7_method_3_code (1 : Nat) (Option.none : Option Jvm.ClassFile.FieldType)) ∈ GW := tq_3 194 rfl rfl
theorem wq_675 : (Jvm.Cond.methodLink "BenchBroker$Park" (53 : Nat) ({ cls := "BenchBroker$Outcome", name := "missNumber", desc := "()V" } : Jvm.MethodName)) ∈ GW := tq_3 195 rfl rfl
theorem wq_676 : (Jvm.Cond.methodLink "BenchBroker$Park" (56 : Nat) ({ cls := "BenchBroker$Outcome", name := "reject", desc := "(II)V" } : Jvm.MethodName)) ∈ GW := tq_3 196 rfl rfl
theorem wq_677 : (Jvm.Cond.instanceMethod ({ cls := "BenchBroker$Outcome", name := "reject", desc := "(II)V" } : Jvm.MethodName)) ∈ GW := tq_3 197 rfl rfl
theorem wq_678 : (Jvm.Cond.selects "BenchBroker$Outcome" ({ cls := "BenchBroker$Outcome", name := "reject", desc := "(II)V" } : Jvm.MethodName) ({ cls := "BenchBroker$Outcome", name := "reject", desc := "(II)V" } : Jvm.MethodName)) ∈ GW := tq_3 198 rfl rfl
theorem wq_679 : (Jvm.Cond.code ({ cls := "BenchBroker$Outcome", name := "reject", desc := "(II)V" } : Jvm.MethodName) prog_7_method_5_code (3 : Nat) (Option.none : Option Jvm.ClassFile.FieldType)) ∈ GW := tq_3 199 rfl rfl
theorem wq_680 : (Jvm.Cond.methodLink "BenchBroker$Park" (60 : Nat) ({ cls := "BenchBroker$Park", name := "holder", desc := "(II)I" } : Jvm.MethodName)) ∈ GW := tq_3 200 rfl rfl
theorem wq_681 : (Jvm.Cond.instanceMethod ({ cls := "BenchBroker$Park", name := "holder", desc := "(II)I" } : Jvm.MethodName)) ∈ GW := tq_3 201 rfl rfl
theorem wq_682 : (Jvm.Cond.selects "BenchBroker$Park" ({ cls := "BenchBroker$Park", name := "holder", desc := "(II)I" } : Jvm.MethodName) ({ cls := "BenchBroker$Park", name := "holder", desc := "(II)I" } : Jvm.MethodName)) ∈ GW := tq_3 202 rfl rfl
theorem wq_683 : (Jvm.Cond.code ({ cls := "BenchBroker$Park", name := "holder", desc := "(II)I" } : Jvm.MethodName) prog_8_method_11_code (4 : Nat) (Option.some Jvm.ClassFile.FieldType.int)) ∈ GW := tq_3 203 rfl rfl
theorem wq_684 : (Jvm.Cond.methodLink "BenchBroker$Park" (64 : Nat) ({ cls := "BenchBroker$Outcome", name := "succeed", desc := "(I)V" } : Jvm.MethodName)) ∈ GW := tq_3 204 rfl rfl
theorem wq_685 : (Jvm.Cond.methodLink "BenchBroker" (87 : Nat) ({ cls := "BenchBroker", name := "finishChange", desc := "()I" } : Jvm.MethodName)) ∈ GW := tq_3 205 rfl rfl
theorem wq_687 : (Jvm.Cond.instanceMethod ({ cls := "BenchBroker", name := "finishChange", desc := "()I" } : Jvm.MethodName)) ∈ GW := tq_3 207 rfl rfl
theorem wq_688 : (Jvm.Cond.code ({ cls := "BenchBroker", name := "finishChange", desc := "()I" } : Jvm.MethodName) prog_1_method_72_code (1 : Nat) (Option.some Jvm.ClassFile.FieldType.int)) ∈ GW := tq_3 208 rfl rfl
theorem wq_689 : (Jvm.Cond.methodLink "BenchBroker" (330 : Nat) ({ cls := "BenchBroker", name := "keepRejection", desc := "(III)V" } : Jvm.MethodName)) ∈ GW := tq_3 209 rfl rfl
theorem wq_691 : (Jvm.Cond.instanceMethod ({ cls := "BenchBroker", name := "keepRejection", desc := "(III)V" } : Jvm.MethodName)) ∈ GW := tq_3 211 rfl rfl
theorem wq_692 : (Jvm.Cond.code ({ cls := "BenchBroker", name := "keepRejection", desc := "(III)V" } : Jvm.MethodName) prog_1_method_74_code (4 : Nat) (Option.none : Option Jvm.ClassFile.FieldType)) ∈ GW := tq_3 212 rfl rfl
theorem wq_693 : (Jvm.Cond.classLink "BenchBroker" (334 : Nat) "java/lang/UnsupportedOperationException") ∈ GW := tq_3 213 rfl rfl
theorem wq_694 : (Jvm.Cond.instantiable "java/lang/UnsupportedOperationException" (6 : Nat)) ∈ GW := tq_3 214 rfl rfl
theorem wq_696 : (Jvm.Cond.selects "java/lang/UnsupportedOperationException" ({ cls := "java/lang/Throwable", name := "fillInStackTrace", desc := "(I)Ljava/lang/Throwable;" } : Jvm.MethodName) ({ cls := "java/lang/Throwable", name := "fillInStackTrace", desc := "(I)Ljava/lang/Throwable;" } : Jvm.MethodName)) ∈ GW := tq_3 216 rfl rfl
theorem wq_697 : (Jvm.Cond.lays "java/lang/UnsupportedOperationException" "java/lang/Throwable" "cause" "Ljava/lang/Throwable;") ∈ GW := tq_3 217 rfl rfl
theorem wq_698 : (Jvm.Cond.lays "java/lang/UnsupportedOperationException" "java/lang/Throwable" "stackTrace" "[Ljava/lang/StackTraceElement;") ∈ GW := tq_3 218 rfl rfl
theorem wq_699 : (Jvm.Cond.lays "java/lang/UnsupportedOperationException" "java/lang/Throwable" "suppressedExceptions" "Ljava/util/List;") ∈ GW := tq_3 219 rfl rfl
theorem wq_700 : (Jvm.Cond.lays "java/lang/UnsupportedOperationException" "java/lang/Throwable" "detailMessage" "Ljava/lang/String;") ∈ GW := tq_3 220 rfl rfl
theorem wq_701 : (Jvm.Cond.lays "java/lang/UnsupportedOperationException" "java/lang/Throwable" "backtrace" "Ljava/lang/Object;") ∈ GW := tq_3 221 rfl rfl
theorem wq_702 : (Jvm.Cond.methodLink "BenchBroker" (336 : Nat) ({ cls := "java/lang/UnsupportedOperationException", name := "<init>", desc := "()V" } : Jvm.MethodName)) ∈ GW := tq_3 222 rfl rfl
theorem wq_703 : (Jvm.Cond.instanceMethod ({ cls := "java/lang/UnsupportedOperationException", name := "<init>", desc := "()V" } : Jvm.MethodName)) ∈ GW := tq_3 223 rfl rfl
theorem wq_704 : (Jvm.Cond.code ({ cls := "java/lang/UnsupportedOperationException", name := "<init>", desc := "()V" } : Jvm.MethodName) prog_36_method_1_code (1 : Nat) (Option.none : Option Jvm.ClassFile.FieldType)) ∈ GW := tq_3 224 rfl rfl
theorem wq_705 : (Jvm.Cond.methodLink "java/lang/UnsupportedOperationException" (1 : Nat) ({ cls := "java/lang/RuntimeException", name := "<init>", desc := "()V" } : Jvm.MethodName)) ∈ GW := tq_3 225 rfl rfl
theorem wq_706 : (Jvm.Cond.lays "java/lang/UnsupportedOperationException" "java/lang/Throwable" "depth" "I") ∈ GW := tq_3 226 rfl rfl
theorem wq_707 : (Jvm.Cond.superclass "java/lang/UnsupportedOperationException" "java/lang/RuntimeException") ∈ GW := tq_3 227 rfl rfl
theorem wq_708 : (Jvm.Cond.methodLink "BenchBroker" (321 : Nat) ({ cls := "BenchBroker", name := "keepTrial", desc := "()V" } : Jvm.MethodName)) ∈ GW := tq_3 228 rfl rfl
theorem wq_710 : (Jvm.Cond.instanceMethod ({ cls := "BenchBroker", name := "keepTrial", desc := "()V" } : Jvm.MethodName)) ∈ GW := tq_3 230 rfl rfl
theorem wq_711 : (Jvm.Cond.code ({ cls := "BenchBroker", name := "keepTrial", desc := "()V" } : Jvm.MethodName) prog_1_method_73_code (1 : Nat) (Option.none : Option Jvm.ClassFile.FieldType)) ∈ GW := tq_3 231 rfl rfl
theorem wq_712 : (Jvm.Cond.methodLink "BenchBroker" (369 : Nat) ({ cls := "BenchBroker$History", name := "remember", desc := "(LBenchBroker$Books;)V" } : Jvm.MethodName)) ∈ GW := tq_3 232 rfl rfl
theorem wq_713 : (Jvm.Cond.instanceMethod ({ cls := "BenchBroker$History", name := "remember", desc := "(LBenchBroker$Books;)V" } : Jvm.MethodName)) ∈ GW := tq_3 233 rfl rfl
theorem wq_714 : (Jvm.Cond.selects "BenchBroker$History" ({ cls := "BenchBroker$History", name := "remember", desc := "(LBenchBroker$Books;)V" } : Jvm.MethodName) ({ cls := "BenchBroker$History", name := "remember", desc := "(LBenchBroker$Books;)V" } : Jvm.MethodName)) ∈ GW := tq_3 234 rfl rfl
theorem wq_715 : (Jvm.Cond.code ({ cls := "BenchBroker$History", name := "remember", desc := "(LBenchBroker$Books;)V" } : Jvm.MethodName) prog_4_method_2_code (3 : Nat) (Option.none : Option Jvm.ClassFile.FieldType)) ∈ GW := tq_3 235 rfl rfl
theorem wq_716 : (Jvm.Cond.methodLink "BenchBroker$History" (25 : Nat) ({ cls := "BenchBroker$Books", name := "copyFrom", desc := "(LBenchBroker$Books;)V" } : Jvm.MethodName)) ∈ GW := tq_3 236 rfl rfl
theorem wq_717 : (Jvm.Cond.methodLink "BenchBroker$History" (29 : Nat) ({ cls := "java/lang/Math", name := "min", desc := "(II)I" } : Jvm.MethodName)) ∈ GW := tq_3 237 rfl rfl
theorem wq_718 : (Jvm.Cond.static ({ cls := "java/lang/Math", name := "min", desc := "(II)I" } : Jvm.MethodName)) ∈ GW := tq_3 238 rfl rfl
theorem wq_719 : (Jvm.Cond.code ({ cls := "java/lang/Math", name := "min", desc := "(II)I" } : Jvm.MethodName) prog_26_method_69_code (2 : Nat) (Option.some Jvm.ClassFile.FieldType.int)) ∈ GW := tq_3 239 rfl rfl
theorem wq_720 : (Jvm.Cond.methodLink "BenchBrokerLaw" (273 : Nat) ({ cls := "BenchBrokerLaw", name := "addFountain", desc := "(LBenchBroker;III)I" } : Jvm.MethodName)) ∈ GW := tq_4 0 rfl rfl
theorem wq_721 : (Jvm.Cond.static ({ cls := "BenchBrokerLaw", name := "addFountain", desc := "(LBenchBroker;III)I" } : Jvm.MethodName)) ∈ GW := tq_4 1 rfl rfl
theorem wq_723 : (Jvm.Cond.methodLink "BenchBrokerLaw" (30 : Nat) ({ cls := "BenchBroker", name := "addFountain", desc := "(III)I" } : Jvm.MethodName)) ∈ GW := tq_4 3 rfl rfl
theorem wq_724 : (Jvm.Cond.instanceMethod ({ cls := "BenchBroker", name := "addFountain", desc := "(III)I" } : Jvm.MethodName)) ∈ GW := tq_4 4 rfl rfl
theorem wq_725 : (Jvm.Cond.selects "BenchBroker" ({ cls := "BenchBroker", name := "addFountain", desc := "(III)I" } : Jvm.MethodName) ({ cls := "BenchBroker", name := "addFountain", desc := "(III)I" } : Jvm.MethodName)) ∈ GW := tq_4 5 rfl rfl
theorem wq_726 : (Jvm.Cond.code ({ cls := "BenchBroker", name := "addFountain", desc := "(III)I" } : Jvm.MethodName) prog_1_method_4_code (4 : Nat) (Option.some Jvm.ClassFile.FieldType.int)) ∈ GW := tq_4 6 rfl rfl
theorem wq_727 : (Jvm.Cond.methodLink "BenchBroker" (95 : Nat) ({ cls := "BenchBroker$Park", name := "placeFountain", desc := "(IIILBenchBroker$Outcome;)V" } : Jvm.MethodName)) ∈ GW := tq_4 7 rfl rfl
theorem wq_728 : (Jvm.Cond.instanceMethod ({ cls := "BenchBroker$Park", name := "placeFountain", desc := "(IIILBenchBroker$Outcome;)V" } : Jvm.MethodName)) ∈ GW := tq_4 8 rfl rfl
theorem wq_729 : (Jvm.Cond.selects "BenchBroker$Park" ({ cls := "BenchBroker$Park", name := "placeFountain", desc := "(IIILBenchBroker$Outcome;)V" } : Jvm.MethodName) ({ cls := "BenchBroker$Park", name := "placeFountain", desc := "(IIILBenchBroker$Outcome;)V" } : Jvm.MethodName)) ∈ GW := tq_4 9 rfl rfl
theorem wq_730 : (Jvm.Cond.code ({ cls := "BenchBroker$Park", name := "placeFountain", desc := "(IIILBenchBroker$Outcome;)V" } : Jvm.MethodName) prog_8_method_7_code (5 : Nat) (Option.none : Option Jvm.ClassFile.FieldType)) ∈ GW := tq_4 10 rfl rfl
theorem wq_731 : (Jvm.Cond.methodLink "BenchBrokerLaw" (275 : Nat) ({ cls := "BenchBrokerLaw", name := "setNoiseLimit", desc := "(LBenchBroker;I)I" } : Jvm.MethodName)) ∈ GW := tq_4 11 rfl rfl
theorem wq_732 : (Jvm.Cond.static ({ cls := "BenchBrokerLaw", name := "setNoiseLimit", desc := "(LBenchBroker;I)I" } : Jvm.MethodName)) ∈ GW := tq_4 12 rfl rfl
theorem wq_734 : (Jvm.Cond.methodLink "BenchBrokerLaw" (40 : Nat) ({ cls := "BenchBroker", name := "setNoiseLimit", desc := "(I)I" } : Jvm.MethodName)) ∈ GW := tq_4 14 rfl rfl
theorem wq_735 : (Jvm.Cond.instanceMethod ({ cls := "BenchBroker", name := "setNoiseLimit", desc := "(I)I" } : Jvm.MethodName)) ∈ GW := tq_4 15 rfl rfl
theorem wq_736 : (Jvm.Cond.selects "BenchBroker" ({ cls := "BenchBroker", name := "setNoiseLimit", desc := "(I)I" } : Jvm.MethodName) ({ cls := "BenchBroker", name := "setNoiseLimit", desc := "(I)I" } : Jvm.MethodName)) ∈ GW := tq_4 16 rfl rfl
theorem wq_737 : (Jvm.Cond.code ({ cls := "BenchBroker", name := "setNoiseLimit", desc := "(I)I" } : Jvm.MethodName) prog_1_method_7_code (2 : Nat) (Option.some Jvm.ClassFile.FieldType.int)) ∈ GW := tq_4 17 rfl rfl
theorem wq_738 : (Jvm.Cond.methodLink "BenchBroker" (105 : Nat) ({ cls := "BenchBroker$Park", name := "changeLimit", desc := "(ILBenchBroker$Outcome;)V" } : Jvm.MethodName)) ∈ GW := tq_4 18 rfl rfl
theorem wq_739 : (Jvm.Cond.instanceMethod ({ cls := "BenchBroker$Park", name := "changeLimit", desc := "(ILBenchBroker$Outcome;)V" } : Jvm.MethodName)) ∈ GW := tq_4 19 rfl rfl
theorem wq_740 : (Jvm.Cond.selects "BenchBroker$Park" ({ cls := "BenchBroker$Park", name := "changeLimit", desc := "(ILBenchBroker$Outcome;)V" } : Jvm.MethodName) ({ cls := "BenchBroker$Park", name := "changeLimit", desc := "(ILBenchBroker$Outcome;)V" } : Jvm.MethodName)) ∈ GW := tq_4 20 rfl rfl
theorem wq_741 : (Jvm.Cond.code ({ cls := "BenchBroker$Park", name := "changeLimit", desc := "(ILBenchBroker$Outcome;)V" } : Jvm.MethodName) prog_8_method_10_code (3 : Nat) (Option.none : Option Jvm.ClassFile.FieldType)) ∈ GW := tq_4 21 rfl rfl
theorem wq_742 : (Jvm.Cond.methodLink "BenchBrokerLaw" (277 : Nat) ({ cls := "BenchBrokerLaw", name := "addTenant", desc := "(LBenchBroker;I)I" } : Jvm.MethodName)) ∈ GW := tq_4 22 rfl rfl
theorem wq_743 : (Jvm.Cond.static ({ cls := "BenchBrokerLaw", name := "addTenant", desc := "(LBenchBroker;I)I" } : Jvm.MethodName)) ∈ GW := tq_4 23 rfl rfl
theorem wq_745 : (Jvm.Cond.methodLink "BenchBrokerLaw" (71 : Nat) ({ cls := "BenchBroker", name := "addTenant", desc := "(I)I" } : Jvm.MethodName)) ∈ GW := tq_4 25 rfl rfl
theorem wq_746 : (Jvm.Cond.instanceMethod ({ cls := "BenchBroker", name := "addTenant", desc := "(I)I" } : Jvm.MethodName)) ∈ GW := tq_4 26 rfl rfl
theorem wq_747 : (Jvm.Cond.selects "BenchBroker" ({ cls := "BenchBroker", name := "addTenant", desc := "(I)I" } : Jvm.MethodName) ({ cls := "BenchBroker", name := "addTenant", desc := "(I)I" } : Jvm.MethodName)) ∈ GW := tq_4 27 rfl rfl
theorem wq_748 : (Jvm.Cond.code ({ cls := "BenchBroker", name := "addTenant", desc := "(I)I" } : Jvm.MethodName) prog_1_method_21_code (2 : Nat) (Option.some Jvm.ClassFile.FieldType.int)) ∈ GW := tq_4 28 rfl rfl
theorem wq_749 : (Jvm.Cond.methodLink "BenchBroker" (164 : Nat) ({ cls := "BenchBroker$Books", name := "enrol", desc := "(ILBenchBroker$Outcome;)V" } : Jvm.MethodName)) ∈ GW := tq_4 29 rfl rfl
theorem wq_750 : (Jvm.Cond.instanceMethod ({ cls := "BenchBroker$Books", name := "enrol", desc := "(ILBenchBroker$Outcome;)V" } : Jvm.MethodName)) ∈ GW := tq_4 30 rfl rfl
theorem wq_751 : (Jvm.Cond.selects "BenchBroker$Books" ({ cls := "BenchBroker$Books", name := "enrol", desc := "(ILBenchBroker$Outcome;)V" } : Jvm.MethodName) ({ cls := "BenchBroker$Books", name := "enrol", desc := "(ILBenchBroker$Outcome;)V" } : Jvm.MethodName)) ∈ GW := tq_4 31 rfl rfl
theorem wq_752 : (Jvm.Cond.code ({ cls := "BenchBroker$Books", name := "enrol", desc := "(ILBenchBroker$Outcome;)V" } : Jvm.MethodName) prog_3_method_6_code (3 : Nat) (Option.none : Option Jvm.ClassFile.FieldType)) ∈ GW := tq_4 32 rfl rfl
theorem wq_753 : (Jvm.Cond.methodLink "BenchBroker$Books" (74 : Nat) ({ cls := "BenchBroker$Outcome", name := "reject", desc := "(II)V" } : Jvm.MethodName)) ∈ GW := tq_4 33 rfl rfl
theorem wq_754 : (Jvm.Cond.methodLink "BenchBrokerLaw" (279 : Nat) ({ cls := "BenchBrokerLaw", name := "switchFountain", desc := "(LBenchBroker;I)I" } : Jvm.MethodName)) ∈ GW := tq_4 34 rfl rfl
theorem wq_755 : (Jvm.Cond.static ({ cls := "BenchBrokerLaw", name := "switchFountain", desc := "(LBenchBroker;I)I" } : Jvm.MethodName)) ∈ GW := tq_4 35 rfl rfl
theorem wq_757 : (Jvm.Cond.methodLink "BenchBrokerLaw" (36 : Nat) ({ cls := "BenchBroker", name := "switchFountain", desc := "(I)Z" } : Jvm.MethodName)) ∈ GW := tq_4 37 rfl rfl
theorem wq_758 : (Jvm.Cond.instanceMethod ({ cls := "BenchBroker", name := "switchFountain", desc := "(I)Z" } : Jvm.MethodName)) ∈ GW := tq_4 38 rfl rfl
theorem wq_759 : (Jvm.Cond.selects "BenchBroker" ({ cls := "BenchBroker", name := "switchFountain", desc := "(I)Z" } : Jvm.MethodName) ({ cls := "BenchBroker", name := "switchFountain", desc := "(I)Z" } : Jvm.MethodName)) ∈ GW := tq_4 39 rfl rfl
theorem wq_760 : (Jvm.Cond.code ({ cls := "BenchBroker", name := "switchFountain", desc := "(I)Z" } : Jvm.MethodName) prog_1_method_6_code (2 : Nat) (Option.some Jvm.ClassFile.FieldType.boolean)) ∈ GW := tq_4 40 rfl rfl
theorem wq_761 : (Jvm.Cond.methodLink "BenchBroker" (101 : Nat) ({ cls := "BenchBroker$Park", name := "toggle", desc := "(ILBenchBroker$Outcome;)V" } : Jvm.MethodName)) ∈ GW := tq_4 41 rfl rfl
theorem wq_762 : (Jvm.Cond.instanceMethod ({ cls := "BenchBroker$Park", name := "toggle", desc := "(ILBenchBroker$Outcome;)V" } : Jvm.MethodName)) ∈ GW := tq_4 42 rfl rfl
theorem wq_763 : (Jvm.Cond.selects "BenchBroker$Park" ({ cls := "BenchBroker$Park", name := "toggle", desc := "(ILBenchBroker$Outcome;)V" } : Jvm.MethodName) ({ cls := "BenchBroker$Park", name := "toggle", desc := "(ILBenchBroker$Outcome;)V" } : Jvm.MethodName)) ∈ GW := tq_4 43 rfl rfl
theorem wq_764 : (Jvm.Cond.code ({ cls := "BenchBroker$Park", name := "toggle", desc := "(ILBenchBroker$Outcome;)V" } : Jvm.MethodName) prog_8_method_9_code (3 : Nat) (Option.none : Option Jvm.ClassFile.FieldType)) ∈ GW := tq_4 44 rfl rfl
theorem wq_765 : (Jvm.Cond.methodLink "BenchBroker$Park" (72 : Nat) ({ cls := "BenchBroker$Park", name := "hasFountain", desc := "(I)Z" } : Jvm.MethodName)) ∈ GW := tq_4 45 rfl rfl
theorem wq_766 : (Jvm.Cond.instanceMethod ({ cls := "BenchBroker$Park", name := "hasFountain", desc := "(I)Z" } : Jvm.MethodName)) ∈ GW := tq_4 46 rfl rfl
theorem wq_767 : (Jvm.Cond.selects "BenchBroker$Park" ({ cls := "BenchBroker$Park", name := "hasFountain", desc := "(I)Z" } : Jvm.MethodName) ({ cls := "BenchBroker$Park", name := "hasFountain", desc := "(I)Z" } : Jvm.MethodName)) ∈ GW := tq_4 47 rfl rfl
theorem wq_768 : (Jvm.Cond.code ({ cls := "BenchBroker$Park", name := "hasFountain", desc := "(I)Z" } : Jvm.MethodName) prog_8_method_4_code (2 : Nat) (Option.some Jvm.ClassFile.FieldType.boolean)) ∈ GW := tq_4 48 rfl rfl
theorem wq_769 : (Jvm.Cond.methodLink "BenchBrokerLaw" (281 : Nat) ({ cls := "BenchBrokerLaw", name := "setLoudness", desc := "(LBenchBroker;II)I" } : Jvm.MethodName)) ∈ GW := tq_4 49 rfl rfl
theorem wq_770 : (Jvm.Cond.static ({ cls := "BenchBrokerLaw", name := "setLoudness", desc := "(LBenchBroker;II)I" } : Jvm.MethodName)) ∈ GW := tq_4 50 rfl rfl
theorem wq_772 : (Jvm.Cond.methodLink "BenchBrokerLaw" (33 : Nat) ({ cls := "BenchBroker", name := "setLoudness", desc := "(II)I" } : Jvm.MethodName)) ∈ GW := tq_4 52 rfl rfl
theorem wq_773 : (Jvm.Cond.instanceMethod ({ cls := "BenchBroker", name := "setLoudness", desc := "(II)I" } : Jvm.MethodName)) ∈ GW := tq_4 53 rfl rfl
theorem wq_774 : (Jvm.Cond.selects "BenchBroker" ({ cls := "BenchBroker", name := "setLoudness", desc := "(II)I" } : Jvm.MethodName) ({ cls := "BenchBroker", name := "setLoudness", desc := "(II)I" } : Jvm.MethodName)) ∈ GW := tq_4 54 rfl rfl
theorem wq_775 : (Jvm.Cond.code ({ cls := "BenchBroker", name := "setLoudness", desc := "(II)I" } : Jvm.MethodName) prog_1_method_5_code (3 : Nat) (Option.some Jvm.ClassFile.FieldType.int)) ∈ GW := tq_4 55 rfl rfl
theorem wq_776 : (Jvm.Cond.methodLink "BenchBroker" (98 : Nat) ({ cls := "BenchBroker$Park", name := "changeLoudness", desc := "(IILBenchBroker$Outcome;)V" } : Jvm.MethodName)) ∈ GW := tq_4 56 rfl rfl
theorem wq_777 : (Jvm.Cond.instanceMethod ({ cls := "BenchBroker$Park", name := "changeLoudness", desc := "(IILBenchBroker$Outcome;)V" } : Jvm.MethodName)) ∈ GW := tq_4 57 rfl rfl
theorem wq_778 : (Jvm.Cond.selects "BenchBroker$Park" ({ cls := "BenchBroker$Park", name := "changeLoudness", desc := "(IILBenchBroker$Outcome;)V" } : Jvm.MethodName) ({ cls := "BenchBroker$Park", name := "changeLoudness", desc := "(IILBenchBroker$Outcome;)V" } : Jvm.MethodName)) ∈ GW := tq_4 58 rfl rfl
theorem wq_779 : (Jvm.Cond.code ({ cls := "BenchBroker$Park", name := "changeLoudness", desc := "(IILBenchBroker$Outcome;)V" } : Jvm.MethodName) prog_8_method_8_code (4 : Nat) (Option.none : Option Jvm.ClassFile.FieldType)) ∈ GW := tq_4 59 rfl rfl
theorem wq_780 : (Jvm.Cond.methodLink "BenchBrokerLaw" (283 : Nat) ({ cls := "BenchBrokerLaw", name := "passMonths", desc := "(LBenchBroker;I)I" } : Jvm.MethodName)) ∈ GW := tq_4 60 rfl rfl
theorem wq_781 : (Jvm.Cond.static ({ cls := "BenchBrokerLaw", name := "passMonths", desc := "(LBenchBroker;I)I" } : Jvm.MethodName)) ∈ GW := tq_4 61 rfl rfl
theorem wq_783 : (Jvm.Cond.methodLink "BenchBrokerLaw" (119 : Nat) ({ cls := "BenchBroker", name := "passMonths", desc := "(I)I" } : Jvm.MethodName)) ∈ GW := tq_4 63 rfl rfl
theorem wq_784 : (Jvm.Cond.instanceMethod ({ cls := "BenchBroker", name := "passMonths", desc := "(I)I" } : Jvm.MethodName)) ∈ GW := tq_4 64 rfl rfl
theorem wq_785 : (Jvm.Cond.selects "BenchBroker" ({ cls := "BenchBroker", name := "passMonths", desc := "(I)I" } : Jvm.MethodName) ({ cls := "BenchBroker", name := "passMonths", desc := "(I)I" } : Jvm.MethodName)) ∈ GW := tq_4 65 rfl rfl
theorem wq_786 : (Jvm.Cond.code ({ cls := "BenchBroker", name := "passMonths", desc := "(I)I" } : Jvm.MethodName) prog_1_method_37_code (2 : Nat) (Option.some Jvm.ClassFile.FieldType.int)) ∈ GW := tq_4 66 rfl rfl
theorem wq_787 : (Jvm.Cond.methodLink "BenchBrokerLaw" (285 : Nat) ({ cls := "BenchBrokerLaw", name := "giveCoins", desc := "(LBenchBroker;II)I" } : Jvm.MethodName)) ∈ GW := tq_4 67 rfl rfl
theorem wq_788 : (Jvm.Cond.static ({ cls := "BenchBrokerLaw", name := "giveCoins", desc := "(LBenchBroker;II)I" } : Jvm.MethodName)) ∈ GW := tq_4 68 rfl rfl
theorem wq_790 : (Jvm.Cond.methodLink "BenchBrokerLaw" (74 : Nat) ({ cls := "BenchBroker", name := "giveCoins", desc := "(II)I" } : Jvm.MethodName)) ∈ GW := tq_4 70 rfl rfl
theorem wq_791 : (Jvm.Cond.instanceMethod ({ cls := "BenchBroker", name := "giveCoins", desc := "(II)I" } : Jvm.MethodName)) ∈ GW := tq_4 71 rfl rfl
theorem wq_792 : (Jvm.Cond.selects "BenchBroker" ({ cls := "BenchBroker", name := "giveCoins", desc := "(II)I" } : Jvm.MethodName) ({ cls := "BenchBroker", name := "giveCoins", desc := "(II)I" } : Jvm.MethodName)) ∈ GW := tq_4 72 rfl rfl
theorem wq_793 : (Jvm.Cond.code ({ cls := "BenchBroker", name := "giveCoins", desc := "(II)I" } : Jvm.MethodName) prog_1_method_22_code (3 : Nat) (Option.some Jvm.ClassFile.FieldType.int)) ∈ GW := tq_4 73 rfl rfl
theorem wq_794 : (Jvm.Cond.methodLink "BenchBroker" (167 : Nat) ({ cls := "BenchBroker$Books", name := "endow", desc := "(IILBenchBroker$Outcome;)V" } : Jvm.MethodName)) ∈ GW := tq_4 74 rfl rfl
theorem wq_795 : (Jvm.Cond.instanceMethod ({ cls := "BenchBroker$Books", name := "endow", desc := "(IILBenchBroker$Outcome;)V" } : Jvm.MethodName)) ∈ GW := tq_4 75 rfl rfl
theorem wq_796 : (Jvm.Cond.selects "BenchBroker$Books" ({ cls := "BenchBroker$Books", name := "endow", desc := "(IILBenchBroker$Outcome;)V" } : Jvm.MethodName) ({ cls := "BenchBroker$Books", name := "endow", desc := "(IILBenchBroker$Outcome;)V" } : Jvm.MethodName)) ∈ GW := tq_4 76 rfl rfl
theorem wq_797 : (Jvm.Cond.code ({ cls := "BenchBroker$Books", name := "endow", desc := "(IILBenchBroker$Outcome;)V" } : Jvm.MethodName) prog_3_method_7_code (4 : Nat) (Option.none : Option Jvm.ClassFile.FieldType)) ∈ GW := tq_4 77 rfl rfl
theorem wq_798 : (Jvm.Cond.methodLink "BenchBroker$Books" (82 : Nat) ({ cls := "BenchBroker$Outcome", name := "missIndex", desc := "()V" } : Jvm.MethodName)) ∈ GW := tq_4 78 rfl rfl
theorem wq_799 : (Jvm.Cond.methodLink "BenchBrokerLaw" (287 : Nat) ({ cls := "BenchBrokerLaw", name := "lease", desc := "(LBenchBroker;III)I" } : Jvm.MethodName)) ∈ GW := tq_4 79 rfl rfl
theorem wq_800 : (Jvm.Cond.static ({ cls := "BenchBrokerLaw", name := "lease", desc := "(LBenchBroker;III)I" } : Jvm.MethodName)) ∈ GW := tq_4 80 rfl rfl
theorem wq_802 : (Jvm.Cond.methodLink "BenchBrokerLaw" (95 : Nat) ({ cls := "BenchBroker", name := "lease", desc := "(III)I" } : Jvm.MethodName)) ∈ GW := tq_4 82 rfl rfl
theorem wq_803 : (Jvm.Cond.instanceMethod ({ cls := "BenchBroker", name := "lease", desc := "(III)I" } : Jvm.MethodName)) ∈ GW := tq_4 83 rfl rfl
theorem wq_804 : (Jvm.Cond.selects "BenchBroker" ({ cls := "BenchBroker", name := "lease", desc := "(III)I" } : Jvm.MethodName) ({ cls := "BenchBroker", name := "lease", desc := "(III)I" } : Jvm.MethodName)) ∈ GW := tq_4 84 rfl rfl
theorem wq_805 : (Jvm.Cond.code ({ cls := "BenchBroker", name := "lease", desc := "(III)I" } : Jvm.MethodName) prog_1_method_29_code (4 : Nat) (Option.some Jvm.ClassFile.FieldType.int)) ∈ GW := tq_4 85 rfl rfl
theorem wq_806 : (Jvm.Cond.methodLink "BenchBroker" (194 : Nat) ({ cls := "BenchBroker$Books", name := "sign", desc := "(IIILBenchBroker$Outcome;)V" } : Jvm.MethodName)) ∈ GW := tq_4 86 rfl rfl
theorem wq_807 : (Jvm.Cond.instanceMethod ({ cls := "BenchBroker$Books", name := "sign", desc := "(IIILBenchBroker$Outcome;)V" } : Jvm.MethodName)) ∈ GW := tq_4 87 rfl rfl
theorem wq_808 : (Jvm.Cond.selects "BenchBroker$Books" ({ cls := "BenchBroker$Books", name := "sign", desc := "(IIILBenchBroker$Outcome;)V" } : Jvm.MethodName) ({ cls := "BenchBroker$Books", name := "sign", desc := "(IIILBenchBroker$Outcome;)V" } : Jvm.MethodName)) ∈ GW := tq_4 88 rfl rfl
theorem wq_809 : (Jvm.Cond.code ({ cls := "BenchBroker$Books", name := "sign", desc := "(IIILBenchBroker$Outcome;)V" } : Jvm.MethodName) prog_3_method_11_code (7 : Nat) (Option.none : Option Jvm.ClassFile.FieldType)) ∈ GW := tq_4 89 rfl rfl
theorem wq_810 : (Jvm.Cond.methodLink "BenchBroker$Books" (111 : Nat) ({ cls := "BenchBroker$Park", name := "hasBench", desc := "(I)Z" } : Jvm.MethodName)) ∈ GW := tq_4 90 rfl rfl
theorem wq_811 : (Jvm.Cond.methodLink "BenchBroker$Books" (108 : Nat) ({ cls := "BenchBroker$Books", name := "leaseObstacle", desc := "(II)I" } : Jvm.MethodName)) ∈ GW := tq_4 91 rfl rfl
theorem wq_812 : (Jvm.Cond.methodLink "BenchBroker$Books" (117 : Nat) ({ cls := "BenchBroker$Books", name := "obstacleDetail", desc := "(III)I" } : Jvm.MethodName)) ∈ GW := tq_4 92 rfl rfl
theorem wq_814 : (Jvm.Cond.instanceMethod ({ cls := "BenchBroker$Books", name := "obstacleDetail", desc := "(III)I" } : Jvm.MethodName)) ∈ GW := tq_4 94 rfl rfl
theorem wq_815 : (Jvm.Cond.code ({ cls := "BenchBroker$Books", name := "obstacleDetail", desc := "(III)I" } : Jvm.MethodName) prog_3_method_9_code (4 : Nat) (Option.some Jvm.ClassFile.FieldType.int)) ∈ GW := tq_4 95 rfl rfl
theorem wq_816 : (Jvm.Cond.methodLink "BenchBroker$Books" (104 : Nat) ({ cls := "BenchBroker$Park", name := "noise", desc := "(II)I" } : Jvm.MethodName)) ∈ GW := tq_4 96 rfl rfl
theorem wq_817 : (Jvm.Cond.methodLink "BenchBrokerLaw" (289 : Nat) ({ cls := "BenchBrokerLaw", name := "endLease", desc := "(LBenchBroker;I)I" } : Jvm.MethodName)) ∈ GW := tq_4 97 rfl rfl
theorem wq_818 : (Jvm.Cond.static ({ cls := "BenchBrokerLaw", name := "endLease", desc := "(LBenchBroker;I)I" } : Jvm.MethodName)) ∈ GW := tq_4 98 rfl rfl
theorem wq_820 : (Jvm.Cond.methodLink "BenchBrokerLaw" (98 : Nat) ({ cls := "BenchBroker", name := "endLease", desc := "(I)I" } : Jvm.MethodName)) ∈ GW := tq_4 100 rfl rfl
theorem wq_821 : (Jvm.Cond.instanceMethod ({ cls := "BenchBroker", name := "endLease", desc := "(I)I" } : Jvm.MethodName)) ∈ GW := tq_4 101 rfl rfl
theorem wq_822 : (Jvm.Cond.selects "BenchBroker" ({ cls := "BenchBroker", name := "endLease", desc := "(I)I" } : Jvm.MethodName) ({ cls := "BenchBroker", name := "endLease", desc := "(I)I" } : Jvm.MethodName)) ∈ GW := tq_4 102 rfl rfl
theorem wq_823 : (Jvm.Cond.code ({ cls := "BenchBroker", name := "endLease", desc := "(I)I" } : Jvm.MethodName) prog_1_method_30_code (2 : Nat) (Option.some Jvm.ClassFile.FieldType.int)) ∈ GW := tq_4 103 rfl rfl
theorem wq_824 : (Jvm.Cond.methodLink "BenchBroker" (197 : Nat) ({ cls := "BenchBroker$Books", name := "breakOff", desc := "(ILBenchBroker$Outcome;)V" } : Jvm.MethodName)) ∈ GW := tq_4 104 rfl rfl
theorem wq_825 : (Jvm.Cond.instanceMethod ({ cls := "BenchBroker$Books", name := "breakOff", desc := "(ILBenchBroker$Outcome;)V" } : Jvm.MethodName)) ∈ GW := tq_4 105 rfl rfl
theorem wq_826 : (Jvm.Cond.selects "BenchBroker$Books" ({ cls := "BenchBroker$Books", name := "breakOff", desc := "(ILBenchBroker$Outcome;)V" } : Jvm.MethodName) ({ cls := "BenchBroker$Books", name := "breakOff", desc := "(ILBenchBroker$Outcome;)V" } : Jvm.MethodName)) ∈ GW := tq_4 106 rfl rfl
theorem wq_827 : (Jvm.Cond.code ({ cls := "BenchBroker$Books", name := "breakOff", desc := "(ILBenchBroker$Outcome;)V" } : Jvm.MethodName) prog_3_method_12_code (4 : Nat) (Option.none : Option Jvm.ClassFile.FieldType)) ∈ GW := tq_4 107 rfl rfl
theorem wq_828 : (Jvm.Cond.methodLink "BenchBrokerLaw" (291 : Nat) ({ cls := "BenchBrokerLaw", name := "renew", desc := "(LBenchBroker;II)I" } : Jvm.MethodName)) ∈ GW := tq_4 108 rfl rfl
theorem wq_829 : (Jvm.Cond.static ({ cls := "BenchBrokerLaw", name := "renew", desc := "(LBenchBroker;II)I" } : Jvm.MethodName)) ∈ GW := tq_4 109 rfl rfl
theorem wq_831 : (Jvm.Cond.methodLink "BenchBrokerLaw" (101 : Nat) ({ cls := "BenchBroker", name := "renew", desc := "(II)I" } : Jvm.MethodName)) ∈ GW := tq_4 111 rfl rfl
theorem wq_832 : (Jvm.Cond.instanceMethod ({ cls := "BenchBroker", name := "renew", desc := "(II)I" } : Jvm.MethodName)) ∈ GW := tq_4 112 rfl rfl
theorem wq_833 : (Jvm.Cond.selects "BenchBroker" ({ cls := "BenchBroker", name := "renew", desc := "(II)I" } : Jvm.MethodName) ({ cls := "BenchBroker", name := "renew", desc := "(II)I" } : Jvm.MethodName)) ∈ GW := tq_4 113 rfl rfl
theorem wq_834 : (Jvm.Cond.code ({ cls := "BenchBroker", name := "renew", desc := "(II)I" } : Jvm.MethodName) prog_1_method_31_code (3 : Nat) (Option.some Jvm.ClassFile.FieldType.int)) ∈ GW := tq_4 114 rfl rfl
theorem wq_835 : (Jvm.Cond.methodLink "BenchBroker" (200 : Nat) ({ cls := "BenchBroker$Books", name := "extend", desc := "(IILBenchBroker$Outcome;)V" } : Jvm.MethodName)) ∈ GW := tq_4 115 rfl rfl
theorem wq_836 : (Jvm.Cond.instanceMethod ({ cls := "BenchBroker$Books", name := "extend", desc := "(IILBenchBroker$Outcome;)V" } : Jvm.MethodName)) ∈ GW := tq_4 116 rfl rfl
theorem wq_837 : (Jvm.Cond.selects "BenchBroker$Books" ({ cls := "BenchBroker$Books", name := "extend", desc := "(IILBenchBroker$Outcome;)V" } : Jvm.MethodName) ({ cls := "BenchBroker$Books", name := "extend", desc := "(IILBenchBroker$Outcome;)V" } : Jvm.MethodName)) ∈ GW := tq_4 117 rfl rfl
theorem wq_838 : (Jvm.Cond.code ({ cls := "BenchBroker$Books", name := "extend", desc := "(IILBenchBroker$Outcome;)V" } : Jvm.MethodName) prog_3_method_13_code (4 : Nat) (Option.none : Option Jvm.ClassFile.FieldType)) ∈ GW := tq_4 118 rfl rfl
theorem wq_839 : (Jvm.Cond.methodLink "BenchBrokerLaw" (293 : Nat) ({ cls := "BenchBrokerLaw", name := "setRent", desc := "(LBenchBroker;II)I" } : Jvm.MethodName)) ∈ GW := tq_4 119 rfl rfl
theorem wq_840 : (Jvm.Cond.static ({ cls := "BenchBrokerLaw", name := "setRent", desc := "(LBenchBroker;II)I" } : Jvm.MethodName)) ∈ GW := tq_4 120 rfl rfl
theorem wq_842 : (Jvm.Cond.methodLink "BenchBrokerLaw" (26 : Nat) ({ cls := "BenchBroker", name := "setRent", desc := "(II)I" } : Jvm.MethodName)) ∈ GW := tq_4 122 rfl rfl
theorem wq_843 : (Jvm.Cond.instanceMethod ({ cls := "BenchBroker", name := "setRent", desc := "(II)I" } : Jvm.MethodName)) ∈ GW := tq_4 123 rfl rfl
theorem wq_844 : (Jvm.Cond.selects "BenchBroker" ({ cls := "BenchBroker", name := "setRent", desc := "(II)I" } : Jvm.MethodName) ({ cls := "BenchBroker", name := "setRent", desc := "(II)I" } : Jvm.MethodName)) ∈ GW := tq_4 124 rfl rfl
theorem wq_845 : (Jvm.Cond.code ({ cls := "BenchBroker", name := "setRent", desc := "(II)I" } : Jvm.MethodName) prog_1_method_3_code (3 : Nat) (Option.some Jvm.ClassFile.FieldType.int)) ∈ GW := tq_4 125 rfl rfl
theorem wq_846 : (Jvm.Cond.methodLink "BenchBroker" (91 : Nat) ({ cls := "BenchBroker$Park", name := "changeRent", desc := "(IILBenchBroker$Outcome;)V" } : Jvm.MethodName)) ∈ GW := tq_4 126 rfl rfl
theorem wq_847 : (Jvm.Cond.instanceMethod ({ cls := "BenchBroker$Park", name := "changeRent", desc := "(IILBenchBroker$Outcome;)V" } : Jvm.MethodName)) ∈ GW := tq_4 127 rfl rfl
theorem wq_848 : (Jvm.Cond.selects "BenchBroker$Park" ({ cls := "BenchBroker$Park", name := "changeRent", desc := "(IILBenchBroker$Outcome;)V" } : Jvm.MethodName) ({ cls := "BenchBroker$Park", name := "changeRent", desc := "(IILBenchBroker$Outcome;)V" } : Jvm.MethodName)) ∈ GW := tq_4 128 rfl rfl
theorem wq_849 : (Jvm.Cond.code ({ cls := "BenchBroker$Park", name := "changeRent", desc := "(IILBenchBroker$Outcome;)V" } : Jvm.MethodName) prog_8_method_6_code (4 : Nat) (Option.none : Option Jvm.ClassFile.FieldType)) ∈ GW := tq_4 129 rfl rfl
theorem wq_850 : (Jvm.Cond.methodLink "BenchBroker$Park" (68 : Nat) ({ cls := "BenchBroker$Park", name := "hasBench", desc := "(I)Z" } : Jvm.MethodName)) ∈ GW := tq_4 130 rfl rfl
theorem wq_851 : (Jvm.Cond.classLink "BenchBrokerLaw" (295 : Nat) "java/lang/StringBuilder") ∈ GW := tq_4 131 rfl rfl
theorem wq_852 : (Jvm.Cond.methodLink "BenchBrokerLaw" (297 : Nat) ({ cls := "java/lang/StringBuilder", name := "<init>", desc := "()V" } : Jvm.MethodName)) ∈ GW := tq_4 132 rfl rfl
theorem wq_854 : (Jvm.Cond.methodLink "BenchBrokerLaw" (300 : Nat) ({ cls := "java/lang/StringBuilder", name := "append", desc := "(Ljava/lang/String;)Ljava/lang/StringBuilder;" } : Jvm.MethodName)) ∈ GW := tq_4 134 rfl rfl
theorem wq_855 : (Jvm.Cond.instanceMethod ({ cls := "java/lang/StringBuilder", name := "append", desc := "(Ljava/lang/String;)Ljava/lang/StringBuilder;" } : Jvm.MethodName)) ∈ GW := tq_4 135 rfl rfl
theorem wq_856 : (Jvm.Cond.selects "java/lang/StringBuilder" ({ cls := "java/lang/StringBuilder", name := "append", desc := "(Ljava/lang/String;)Ljava/lang/StringBuilder;" } : Jvm.MethodName) ({ cls := "java/lang/StringBuilder", name := "append", desc := "(Ljava/lang/String;)Ljava/lang/StringBuilder;" } : Jvm.MethodName)) ∈ GW := tq_4 136 rfl rfl
theorem wq_857 : (Jvm.Cond.code ({ cls := "java/lang/StringBuilder", name := "append", desc := "(Ljava/lang/String;)Ljava/lang/StringBuilder;" } : Jvm.MethodName) prog_30_method_7_code (2 : Nat) (Option.some (Jvm.ClassFile.FieldType.object "java/lang/StringBuilder"))) ∈ GW := tq_4 137 rfl rfl
theorem wq_858 : (Jvm.Cond.methodLink "java/lang/StringBuilder" (29 : Nat) ({ cls := "java/lang/AbstractStringBuilder", name := "append", desc := "(Ljava/lang/String;)Ljava/lang/AbstractStringBuilder;" } : Jvm.MethodName)) ∈ GW := tq_4 138 rfl rfl
theorem wq_859 : (Jvm.Cond.instanceMethod ({ cls := "java/lang/AbstractStringBuilder", name := "append", desc := "(Ljava/lang/String;)Ljava/lang/AbstractStringBuilder;" } : Jvm.MethodName)) ∈ GW := tq_4 139 rfl rfl
theorem wq_860 : (Jvm.Cond.code ({ cls := "java/lang/AbstractStringBuilder", name := "append", desc := "(Ljava/lang/String;)Ljava/lang/AbstractStringBuilder;" } : Jvm.MethodName) prog_13_method_22_code (3 : Nat) (Option.some (Jvm.ClassFile.FieldType.object "java/lang/AbstractStringBuilder"))) ∈ GW := tq_4 140 rfl rfl
theorem wq_861 : (Jvm.Cond.methodLink "java/lang/AbstractStringBuilder" (204 : Nat) ({ cls := "java/lang/AbstractStringBuilder", name := "appendNull", desc := "()Ljava/lang/AbstractStringBuilder;" } : Jvm.MethodName)) ∈ GW := tq_4 141 rfl rfl
theorem wq_863 : (Jvm.Cond.instanceMethod ({ cls := "java/lang/AbstractStringBuilder", name := "appendNull", desc := "()Ljava/lang/AbstractStringBuilder;" } : Jvm.MethodName)) ∈ GW := tq_4 143 rfl rfl
theorem wq_864 : (Jvm.Cond.code ({ cls := "java/lang/AbstractStringBuilder", name := "appendNull", desc := "()Ljava/lang/AbstractStringBuilder;" } : Jvm.MethodName) prog_13_method_26_code (3 : Nat) (Option.some (Jvm.ClassFile.FieldType.object "java/lang/AbstractStringBuilder"))) ∈ GW := tq_4 144 rfl rfl
theorem wq_865 : (Jvm.Cond.methodLink "java/lang/AbstractStringBuilder" (100 : Nat) ({ cls := "java/lang/AbstractStringBuilder", name := "ensureCapacityInternal", desc := "(I)V" } : Jvm.MethodName)) ∈ GW := tq_4 145 rfl rfl
theorem wq_867 : (Jvm.Cond.instanceMethod ({ cls := "java/lang/AbstractStringBuilder", name := "ensureCapacityInternal", desc := "(I)V" } : Jvm.MethodName)) ∈ GW := tq_4 147 rfl rfl
theorem wq_868 : (Jvm.Cond.code ({ cls := "java/lang/AbstractStringBuilder", name := "ensureCapacityInternal", desc := "(I)V" } : Jvm.MethodName) prog_13_method_9_code (3 : Nat) (Option.none : Option Jvm.ClassFile.FieldType)) ∈ GW := tq_4 148 rfl rfl
theorem wq_869 : (Jvm.Cond.methodLink "java/lang/AbstractStringBuilder" (104 : Nat) ({ cls := "java/lang/AbstractStringBuilder", name := "newCapacity", desc := "(I)I" } : Jvm.MethodName)) ∈ GW := tq_4 149 rfl rfl
theorem wq_871 : (Jvm.Cond.instanceMethod ({ cls := "java/lang/AbstractStringBuilder", name := "newCapacity", desc := "(I)I" } : Jvm.MethodName)) ∈ GW := tq_4 151 rfl rfl
theorem wq_872 : (Jvm.Cond.code ({ cls := "java/lang/AbstractStringBuilder", name := "newCapacity", desc := "(I)I" } : Jvm.MethodName) prog_13_method_10_code (6 : Nat) (Option.some Jvm.ClassFile.FieldType.int)) ∈ GW := tq_4 152 rfl rfl
theorem wq_873 : (Jvm.Cond.methodLink "java/lang/AbstractStringBuilder" (114 : Nat) ({ cls := "jdk/internal/util/ArraysSupport", name := "newLength", desc := "(III)I" } : Jvm.MethodName)) ∈ GW := tq_4 153 rfl rfl
theorem wq_874 : (Jvm.Cond.static ({ cls := "jdk/internal/util/ArraysSupport", name := "newLength", desc := "(III)I" } : Jvm.MethodName)) ∈ GW := tq_4 154 rfl rfl
theorem wq_875 : (Jvm.Cond.code ({ cls := "jdk/internal/util/ArraysSupport", name := "newLength", desc := "(III)I" } : Jvm.MethodName) prog_41_method_27_code (4 : Nat) (Option.some Jvm.ClassFile.FieldType.int)) ∈ GW := tq_4 155 rfl rfl
theorem wq_876 : (Jvm.Cond.methodLink "jdk/internal/util/ArraysSupport" (194 : Nat) ({ cls := "java/lang/Math", name := "max", desc := "(II)I" } : Jvm.MethodName)) ∈ GW := tq_4 156 rfl rfl
theorem wq_877 : (Jvm.Cond.constant "jdk/internal/util/ArraysSupport" (200 : Nat) (2147483639 : Int32)) ∈ GW := tq_4 157 rfl rfl
theorem wq_878 : (Jvm.Cond.methodLink "jdk/internal/util/ArraysSupport" (201 : Nat) ({ cls := "jdk/internal/util/ArraysSupport", name := "hugeLength", desc := "(II)I" } : Jvm.MethodName)) ∈ GW := tq_4 158 rfl rfl
theorem wq_879 : (Jvm.Cond.static ({ cls := "jdk/internal/util/ArraysSupport", name := "hugeLength", desc := "(II)I" } : Jvm.MethodName)) ∈ GW := tq_4 159 rfl rfl
theorem wq_880 : (Jvm.Cond.code ({ cls := "jdk/internal/util/ArraysSupport", name := "hugeLength", desc := "(II)I" } : Jvm.MethodName) prog_41_method_28_code (3 : Nat) (Option.some Jvm.ClassFile.FieldType.int)) ∈ GW := tq_4 160 rfl rfl
theorem wq_881 : (Jvm.Cond.constant "java/lang/AbstractStringBuilder" (39 : Nat) (2147483647 : Int32)) ∈ GW := tq_4 161 rfl rfl
theorem wq_882 : (Jvm.Cond.methodLink "java/lang/AbstractStringBuilder" (108 : Nat) ({ cls := "java/util/Arrays", name := "copyOf", desc := "([BI)[B" } : Jvm.MethodName)) ∈ GW := tq_4 162 rfl rfl
theorem wq_883 : (Jvm.Cond.static ({ cls := "java/util/Arrays", name := "copyOf", desc := "([BI)[B" } : Jvm.MethodName)) ∈ GW := tq_4 163 rfl rfl
theorem wq_884 : (Jvm.Cond.code ({ cls := "java/util/Arrays", name := "copyOf", desc := "([BI)[B" } : Jvm.MethodName) prog_39_method_121_code (3 : Nat) (Option.some (Jvm.ClassFile.FieldType.array Jvm.ClassFile.FieldType.byte))) ∈ GW := tq_4 164 rfl rfl
theorem wq_885 : (Jvm.Cond.methodLink "java/util/Arrays" (310 : Nat) ({ cls := "[B", name := "clone", desc := "()Ljava/lang/Object;" } : Jvm.MethodName)) ∈ GW := tq_4 165 rfl rfl
theorem wq_886 : (Jvm.Cond.sameMethod "[B" "java/lang/Object" "clone" "()Ljava/lang/Object;") ∈ GW := tq_4 166 rfl rfl
theorem wq_887 : (Jvm.Cond.native ({ cls := "java/lang/Object", name := "clone", desc := "()Ljava/lang/Object;" } : Jvm.MethodName)) ∈ GW := tq_4 167 rfl rfl
theorem wq_888 : (Jvm.Cond.instanceMethod ({ cls := "java/lang/Object", name := "clone", desc := "()Ljava/lang/Object;" } : Jvm.MethodName)) ∈ GW := tq_4 168 rfl rfl
theorem wq_889 : (Jvm.Cond.selects "[B" ({ cls := "[B", name := "clone", desc := "()Ljava/lang/Object;" } : Jvm.MethodName) ({ cls := "java/lang/Object", name := "clone", desc := "()Ljava/lang/Object;" } : Jvm.MethodName)) ∈ GW := tq_4 169 rfl rfl
theorem wq_891 : (Jvm.Cond.classLink "java/util/Arrays" (311 : Nat) "[B") ∈ GW := tq_4 171 rfl rfl
theorem wq_892 : (Jvm.Cond.methodLink "java/util/Arrays" (304 : Nat) ({ cls := "java/lang/Math", name := "min", desc := "(II)I" } : Jvm.MethodName)) ∈ GW := tq_4 172 rfl rfl
theorem wq_893 : (Jvm.Cond.methodLink "java/util/Arrays" (150 : Nat) ({ cls := "java/lang/System", name := "arraycopy", desc := "(Ljava/lang/Object;ILjava/lang/Object;II)V" } : Jvm.MethodName)) ∈ GW := tq_4 173 rfl rfl
theorem wq_894 : (Jvm.Cond.methodLink "java/lang/AbstractStringBuilder" (83 : Nat) ({ cls := "java/lang/AbstractStringBuilder", name := "isLatin1", desc := "()Z" } : Jvm.MethodName)) ∈ GW := tq_4 174 rfl rfl
theorem wq_895 : (Jvm.Cond.instanceMethod ({ cls := "java/lang/AbstractStringBuilder", name := "isLatin1", desc := "()Z" } : Jvm.MethodName)) ∈ GW := tq_4 175 rfl rfl
theorem wq_896 : (Jvm.Cond.sameMethod "java/lang/AbstractStringBuilder" "java/lang/AbstractStringBuilder" "isLatin1" "()Z") ∈ GW := tq_4 176 rfl rfl
theorem wq_897 : (Jvm.Cond.selects "java/lang/StringBuilder" ({ cls := "java/lang/AbstractStringBuilder", name := "isLatin1", desc := "()Z" } : Jvm.MethodName) ({ cls := "java/lang/AbstractStringBuilder", name := "isLatin1", desc := "()Z" } : Jvm.MethodName)) ∈ GW := tq_4 177 rfl rfl
theorem wq_898 : (Jvm.Cond.code ({ cls := "java/lang/AbstractStringBuilder", name := "isLatin1", desc := "()Z" } : Jvm.MethodName) prog_13_method_68_code (1 : Nat) (Option.some Jvm.ClassFile.FieldType.boolean)) ∈ GW := tq_4 178 rfl rfl
theorem wq_899 : (Jvm.Cond.methodLink "java/lang/AbstractStringBuilder" (226 : Nat) ({ cls := "java/lang/StringUTF16", name := "putCharsAt", desc := "([BICCCC)I" } : Jvm.MethodName)) ∈ GW := tq_4 179 rfl rfl
theorem wq_900 : (Jvm.Cond.static ({ cls := "java/lang/StringUTF16", name := "putCharsAt", desc := "([BICCCC)I" } : Jvm.MethodName)) ∈ GW := tq_4 180 rfl rfl
theorem wq_901 : (Jvm.Cond.code ({ cls := "java/lang/StringUTF16", name := "putCharsAt", desc := "([BICCCC)I" } : Jvm.MethodName) prog_33_method_81_code (7 : Nat) (Option.some Jvm.ClassFile.FieldType.int)) ∈ GW := tq_4 181 rfl rfl
theorem wq_902 : (Jvm.Cond.methodLink "java/lang/StringUTF16" (96 : Nat) ({ cls := "java/lang/StringUTF16", name := "checkBoundsBeginEnd", desc := "(II[B)V" } : Jvm.MethodName)) ∈ GW := tq_4 182 rfl rfl
theorem wq_903 : (Jvm.Cond.static ({ cls := "java/lang/StringUTF16", name := "checkBoundsBeginEnd", desc := "(II[B)V" } : Jvm.MethodName)) ∈ GW := tq_4 183 rfl rfl
theorem wq_904 : (Jvm.Cond.code ({ cls := "java/lang/StringUTF16", name := "checkBoundsBeginEnd", desc := "(II[B)V" } : Jvm.MethodName) prog_33_method_93_code (3 : Nat) (Option.none : Option Jvm.ClassFile.FieldType)) ∈ GW := tq_4 184 rfl rfl
theorem wq_905 : (Jvm.Cond.methodLink "java/lang/StringUTF16" (48 : Nat) ({ cls := "java/lang/StringUTF16", name := "length", desc := "([B)I" } : Jvm.MethodName)) ∈ GW := tq_4 185 rfl rfl
theorem wq_906 : (Jvm.Cond.static ({ cls := "java/lang/StringUTF16", name := "length", desc := "([B)I" } : Jvm.MethodName)) ∈ GW := tq_4 186 rfl rfl
theorem wq_907 : (Jvm.Cond.code ({ cls := "java/lang/StringUTF16", name := "length", desc := "([B)I" } : Jvm.MethodName) prog_33_method_6_code (1 : Nat) (Option.some Jvm.ClassFile.FieldType.int)) ∈ GW := tq_4 187 rfl rfl
theorem wq_908 : (Jvm.Cond.methodLink "java/lang/StringUTF16" (241 : Nat) ({ cls := "java/lang/String", name := "checkBoundsBeginEnd", desc := "(III)V" } : Jvm.MethodName)) ∈ GW := tq_4 188 rfl rfl
theorem wq_909 : (Jvm.Cond.static ({ cls := "java/lang/String", name := "checkBoundsBeginEnd", desc := "(III)V" } : Jvm.MethodName)) ∈ GW := tq_4 189 rfl rfl
theorem wq_910 : (Jvm.Cond.code ({ cls := "java/lang/String", name := "checkBoundsBeginEnd", desc := "(III)V" } : Jvm.MethodName) prog_29_method_158_code (3 : Nat) (Option.none : Option Jvm.ClassFile.FieldType)) ∈ GW := tq_4 190 rfl rfl
theorem wq_911 : (Jvm.Cond.fieldLink "java/lang/String" (1053 : Nat) "jdk/internal/util/Preconditions" "SIOOBE_FORMATTER" "Ljava/util/function/BiFunction;") ∈ GW := tq_4 191 rfl rfl
theorem wq_913 : (Jvm.Cond.methodLink "java/lang/String" (1062 : Nat) ({ cls := "jdk/internal/util/Preconditions", name := "checkFromToIndex", desc := "(IIILjava/util/function/BiFunction;)I" } : Jvm.MethodName)) ∈ GW := tq_4 193 rfl rfl
theorem wq_914 : (Jvm.Cond.static ({ cls := "jdk/internal/util/Preconditions", name := "checkFromToIndex", desc := "(IIILjava/util/function/BiFunction;)I" } : Jvm.MethodName)) ∈ GW := tq_4 194 rfl rfl
theorem wq_915 : (Jvm.Cond.code ({ cls := "jdk/internal/util/Preconditions", name := "checkFromToIndex", desc := "(IIILjava/util/function/BiFunction;)I" } : Jvm.MethodName) prog_42_method_12_code (4 : Nat) (Option.some Jvm.ClassFile.FieldType.int)) ∈ GW := tq_4 195 rfl rfl
theorem wq_916 : (Jvm.Cond.methodLink "java/lang/StringUTF16" (111 : Nat) ({ cls := "java/lang/StringUTF16", name := "putChar", desc := "([BII)V" } : Jvm.MethodName)) ∈ GW := tq_4 196 rfl rfl
theorem wq_917 : (Jvm.Cond.static ({ cls := "java/lang/StringUTF16", name := "putChar", desc := "([BII)V" } : Jvm.MethodName)) ∈ GW := tq_4 197 rfl rfl
theorem wq_918 : (Jvm.Cond.code ({ cls := "java/lang/StringUTF16", name := "putChar", desc := "([BII)V" } : Jvm.MethodName) prog_33_method_4_code (3 : Nat) (Option.none : Option Jvm.ClassFile.FieldType)) ∈ GW := tq_4 198 rfl rfl
theorem wq_919 : (Jvm.Cond.fieldLink "java/lang/StringUTF16" (44 : Nat) "java/lang/StringUTF16" "$assertionsDisabled" "Z") ∈ GW := tq_4 199 rfl rfl
theorem wq_921 : (Jvm.Cond.fieldLink "java/lang/StringUTF16" (59 : Nat) "java/lang/StringUTF16" "HI_BYTE_SHIFT" "I") ∈ GW := tq_4 201 rfl rfl
theorem wq_923 : (Jvm.Cond.fieldLink "java/lang/StringUTF16" (63 : Nat) "java/lang/StringUTF16" "LO_BYTE_SHIFT" "I") ∈ GW := tq_4 203 rfl rfl
theorem wq_925 : (Jvm.Cond.methodLink "java/lang/AbstractStringBuilder" (32 : Nat) ({ cls := "java/lang/String", name := "length", desc := "()I" } : Jvm.MethodName)) ∈ GW := tq_4 205 rfl rfl
theorem wq_926 : (Jvm.Cond.instanceMethod ({ cls := "java/lang/String", name := "length", desc := "()I" } : Jvm.MethodName)) ∈ GW := tq_4 206 rfl rfl
theorem wq_927 : (Jvm.Cond.selects "java/lang/String" ({ cls := "java/lang/String", name := "length", desc := "()I" } : Jvm.MethodName) ({ cls := "java/lang/String", name := "length", desc := "()I" } : Jvm.MethodName)) ∈ GW := tq_4 207 rfl rfl
theorem wq_928 : (Jvm.Cond.code ({ cls := "java/lang/String", name := "length", desc := "()I" } : Jvm.MethodName) prog_29_method_54_code (1 : Nat) (Option.some Jvm.ClassFile.FieldType.int)) ∈ GW := tq_4 208 rfl rfl
theorem wq_929 : (Jvm.Cond.methodLink "java/lang/String" (335 : Nat) ({ cls := "java/lang/String", name := "coder", desc := "()B" } : Jvm.MethodName)) ∈ GW := tq_4 209 rfl rfl
theorem wq_930 : (Jvm.Cond.instanceMethod ({ cls := "java/lang/String", name := "coder", desc := "()B" } : Jvm.MethodName)) ∈ GW := tq_4 210 rfl rfl
theorem wq_931 : (Jvm.Cond.selects "java/lang/String" ({ cls := "java/lang/String", name := "coder", desc := "()B" } : Jvm.MethodName) ({ cls := "java/lang/String", name := "coder", desc := "()B" } : Jvm.MethodName)) ∈ GW := tq_4 211 rfl rfl
theorem wq_932 : (Jvm.Cond.code ({ cls := "java/lang/String", name := "coder", desc := "()B" } : Jvm.MethodName) prog_29_method_152_code (1 : Nat) (Option.some Jvm.ClassFile.FieldType.byte)) ∈ GW := tq_4 212 rfl rfl
theorem wq_933 : (Jvm.Cond.fieldLink "java/lang/String" (38 : Nat) "java/lang/String" "COMPACT_STRINGS" "Z") ∈ GW := tq_4 213 rfl rfl
theorem wq_934 : (Jvm.Cond.methodLink "java/lang/AbstractStringBuilder" (208 : Nat) ({ cls := "java/lang/AbstractStringBuilder", name := "putStringAt", desc := "(ILjava/lang/String;)V" } : Jvm.MethodName)) ∈ GW := tq_4 214 rfl rfl
theorem wq_936 : (Jvm.Cond.instanceMethod ({ cls := "java/lang/AbstractStringBuilder", name := "putStringAt", desc := "(ILjava/lang/String;)V" } : Jvm.MethodName)) ∈ GW := tq_4 216 rfl rfl
theorem wq_937 : (Jvm.Cond.code ({ cls := "java/lang/AbstractStringBuilder", name := "putStringAt", desc := "(ILjava/lang/String;)V" } : Jvm.MethodName) prog_13_method_73_code (3 : Nat) (Option.none : Option Jvm.ClassFile.FieldType)) ∈ GW := tq_4 217 rfl rfl
theorem wq_938 : (Jvm.Cond.methodLink "java/lang/AbstractStringBuilder" (397 : Nat) ({ cls := "java/lang/AbstractStringBuilder", name := "inflateIfNeededFor", desc := "(Ljava/lang/String;)V" } : Jvm.MethodName)) ∈ GW := tq_4 218 rfl rfl
theorem wq_940 : (Jvm.Cond.instanceMethod ({ cls := "java/lang/AbstractStringBuilder", name := "inflateIfNeededFor", desc := "(Ljava/lang/String;)V" } : Jvm.MethodName)) ∈ GW := tq_4 220 rfl rfl
theorem wq_941 : (Jvm.Cond.code ({ cls := "java/lang/AbstractStringBuilder", name := "inflateIfNeededFor", desc := "(Ljava/lang/String;)V" } : Jvm.MethodName) prog_13_method_71_code (2 : Nat) (Option.none : Option Jvm.ClassFile.FieldType)) ∈ GW := tq_4 221 rfl rfl
theorem wq_942 : (Jvm.Cond.methodLink "java/lang/AbstractStringBuilder" (40 : Nat) ({ cls := "java/lang/String", name := "coder", desc := "()B" } : Jvm.MethodName)) ∈ GW := tq_4 222 rfl rfl
theorem wq_943 : (Jvm.Cond.methodLink "java/lang/AbstractStringBuilder" (195 : Nat) ({ cls := "java/lang/AbstractStringBuilder", name := "inflate", desc := "()V" } : Jvm.MethodName)) ∈ GW := tq_4 223 rfl rfl
theorem wq_945 : (Jvm.Cond.instanceMethod ({ cls := "java/lang/AbstractStringBuilder", name := "inflate", desc := "()V" } : Jvm.MethodName)) ∈ GW := tq_4 225 rfl rfl
theorem wq_946 : (Jvm.Cond.code ({ cls := "java/lang/AbstractStringBuilder", name := "inflate", desc := "()V" } : Jvm.MethodName) prog_13_method_11_code (2 : Nat) (Option.none : Option Jvm.ClassFile.FieldType)) ∈ GW := tq_4 226 rfl rfl
theorem wq_947 : (Jvm.Cond.methodLink "java/lang/AbstractStringBuilder" (125 : Nat) ({ cls := "java/lang/StringLatin1", name := "inflate", desc := "([BI[BII)V" } : Jvm.MethodName)) ∈ GW := tq_4 227 rfl rfl
theorem wq_948 : (Jvm.Cond.static ({ cls := "java/lang/StringLatin1", name := "inflate", desc := "([BI[BII)V" } : Jvm.MethodName)) ∈ GW := tq_4 228 rfl rfl
theorem wq_949 : (Jvm.Cond.code ({ cls := "java/lang/StringLatin1", name := "inflate", desc := "([BI[BII)V" } : Jvm.MethodName) prog_32_method_50_code (5 : Nat) (Option.none : Option Jvm.ClassFile.FieldType)) ∈ GW := tq_4 229 rfl rfl
theorem wq_950 : (Jvm.Cond.methodLink "java/lang/StringLatin1" (240 : Nat) ({ cls := "java/lang/StringUTF16", name := "inflate", desc := "([BI[BII)V" } : Jvm.MethodName)) ∈ GW := tq_4 230 rfl rfl
theorem wq_951 : (Jvm.Cond.static ({ cls := "java/lang/StringUTF16", name := "inflate", desc := "([BI[BII)V" } : Jvm.MethodName)) ∈ GW := tq_4 231 rfl rfl
theorem wq_952 : (Jvm.Cond.code ({ cls := "java/lang/StringUTF16", name := "inflate", desc := "([BI[BII)V" } : Jvm.MethodName) prog_33_method_86_code (6 : Nat) (Option.none : Option Jvm.ClassFile.FieldType)) ∈ GW := tq_4 232 rfl rfl
theorem wq_953 : (Jvm.Cond.methodLink "java/lang/StringUTF16" (173 : Nat) ({ cls := "java/lang/StringUTF16", name := "checkBoundsOffCount", desc := "(II[B)V" } : Jvm.MethodName)) ∈ GW := tq_4 233 rfl rfl
theorem wq_954 : (Jvm.Cond.static ({ cls := "java/lang/StringUTF16", name := "checkBoundsOffCount", desc := "(II[B)V" } : Jvm.MethodName)) ∈ GW := tq_4 234 rfl rfl
theorem wq_955 : (Jvm.Cond.code ({ cls := "java/lang/StringUTF16", name := "checkBoundsOffCount", desc := "(II[B)V" } : Jvm.MethodName) prog_33_method_94_code (3 : Nat) (Option.none : Option Jvm.ClassFile.FieldType)) ∈ GW := tq_4 235 rfl rfl
theorem wq_956 : (Jvm.Cond.methodLink "java/lang/StringUTF16" (419 : Nat) ({ cls := "java/lang/String", name := "checkBoundsOffCount", desc := "(III)I" } : Jvm.MethodName)) ∈ GW := tq_4 236 rfl rfl
theorem wq_957 : (Jvm.Cond.static ({ cls := "java/lang/String", name := "checkBoundsOffCount", desc := "(III)I" } : Jvm.MethodName)) ∈ GW := tq_4 237 rfl rfl
theorem wq_958 : (Jvm.Cond.code ({ cls := "java/lang/String", name := "checkBoundsOffCount", desc := "(III)I" } : Jvm.MethodName) prog_29_method_157_code (3 : Nat) (Option.some Jvm.ClassFile.FieldType.int)) ∈ GW := tq_4 238 rfl rfl
theorem wq_959 : (Jvm.Cond.methodLink "java/lang/String" (1065 : Nat) ({ cls := "jdk/internal/util/Preconditions", name := "checkFromIndexSize", desc := "(IIILjava/util/function/BiFunction;)I" } : Jvm.MethodName)) ∈ GW := tq_4 239 rfl rfl
theorem wq_960 : (Jvm.Cond.static ({ cls := "jdk/internal/util/Preconditions", name := "checkFromIndexSize", desc := "(IIILjava/util/function/BiFunction;)I" } : Jvm.MethodName)) ∈ GW := tq_5 0 rfl rfl
theorem wq_961 : (Jvm.Cond.code ({ cls := "jdk/internal/util/Preconditions", name := "checkFromIndexSize", desc := "(IIILjava/util/function/BiFunction;)I" } : Jvm.MethodName) prog_42_method_13_code (4 : Nat) (Option.some Jvm.ClassFile.FieldType.int)) ∈ GW := tq_5 1 rfl rfl
theorem wq_962 : (Jvm.Cond.methodLink "java/lang/AbstractStringBuilder" (399 : Nat) ({ cls := "java/lang/String", name := "getBytes", desc := "([BIB)V" } : Jvm.MethodName)) ∈ GW := tq_5 2 rfl rfl
theorem wq_963 : (Jvm.Cond.instanceMethod ({ cls := "java/lang/String", name := "getBytes", desc := "([BIB)V" } : Jvm.MethodName)) ∈ GW := tq_5 3 rfl rfl
theorem wq_964 : (Jvm.Cond.selects "java/lang/String" ({ cls := "java/lang/String", name := "getBytes", desc := "([BIB)V" } : Jvm.MethodName) ({ cls := "java/lang/String", name := "getBytes", desc := "([BIB)V" } : Jvm.MethodName)) ∈ GW := tq_5 4 rfl rfl
theorem wq_965 : (Jvm.Cond.code ({ cls := "java/lang/String", name := "getBytes", desc := "([BIB)V" } : Jvm.MethodName) prog_29_method_147_code (4 : Nat) (Option.none : Option Jvm.ClassFile.FieldType)) ∈ GW := tq_5 5 rfl rfl
theorem wq_966 : (Jvm.Cond.methodLink "java/lang/String" (212 : Nat) ({ cls := "java/lang/System", name := "arraycopy", desc := "(Ljava/lang/Object;ILjava/lang/Object;II)V" } : Jvm.MethodName)) ∈ GW := tq_5 6 rfl rfl
theorem wq_967 : (Jvm.Cond.methodLink "java/lang/String" (106 : Nat) ({ cls := "java/lang/StringLatin1", name := "inflate", desc := "([BI[BII)V" } : Jvm.MethodName)) ∈ GW := tq_5 7 rfl rfl
theorem wq_968 : (Jvm.Cond.methodLink "BenchBrokerLaw" (304 : Nat) ({ cls := "java/lang/StringBuilder", name := "append", desc := "(I)Ljava/lang/StringBuilder;" } : Jvm.MethodName)) ∈ GW := tq_5 8 rfl rfl
theorem wq_969 : (Jvm.Cond.instanceMethod ({ cls := "java/lang/StringBuilder", name := "append", desc := "(I)Ljava/lang/StringBuilder;" } : Jvm.MethodName)) ∈ GW := tq_5 9 rfl rfl
theorem wq_970 : (Jvm.Cond.selects "java/lang/StringBuilder" ({ cls := "java/lang/StringBuilder", name := "append", desc := "(I)Ljava/lang/StringBuilder;" } : Jvm.MethodName) ({ cls := "java/lang/StringBuilder", name := "append", desc := "(I)Ljava/lang/StringBuilder;" } : Jvm.MethodName)) ∈ GW := tq_5 10 rfl rfl
theorem wq_971 : (Jvm.Cond.code ({ cls := "java/lang/StringBuilder", name := "append", desc := "(I)Ljava/lang/StringBuilder;" } : Jvm.MethodName) prog_30_method_15_code (2 : Nat) (Option.some (Jvm.ClassFile.FieldType.object "java/lang/StringBuilder"))) ∈ GW := tq_5 11 rfl rfl
theorem wq_972 : (Jvm.Cond.methodLink "java/lang/StringBuilder" (53 : Nat) ({ cls := "java/lang/AbstractStringBuilder", name := "append", desc := "(I)Ljava/lang/AbstractStringBuilder;" } : Jvm.MethodName)) ∈ GW := tq_5 12 rfl rfl
theorem wq_973 : (Jvm.Cond.instanceMethod ({ cls := "java/lang/AbstractStringBuilder", name := "append", desc := "(I)Ljava/lang/AbstractStringBuilder;" } : Jvm.MethodName)) ∈ GW := tq_5 13 rfl rfl
theorem wq_974 : (Jvm.Cond.code ({ cls := "java/lang/AbstractStringBuilder", name := "append", desc := "(I)Ljava/lang/AbstractStringBuilder;" } : Jvm.MethodName) prog_13_method_32_code (4 : Nat) (Option.some (Jvm.ClassFile.FieldType.object "java/lang/AbstractStringBuilder"))) ∈ GW := tq_5 14 rfl rfl
theorem wq_975 : (Jvm.Cond.methodLink "java/lang/AbstractStringBuilder" (245 : Nat) ({ cls := "java/lang/Integer", name := "stringSize", desc := "(I)I" } : Jvm.MethodName)) ∈ GW := tq_5 15 rfl rfl
theorem wq_976 : (Jvm.Cond.static ({ cls := "java/lang/Integer", name := "stringSize", desc := "(I)I" } : Jvm.MethodName)) ∈ GW := tq_5 16 rfl rfl
theorem wq_977 : (Jvm.Cond.code ({ cls := "java/lang/Integer", name := "stringSize", desc := "(I)I" } : Jvm.MethodName) prog_25_method_13_code (4 : Nat) (Option.some Jvm.ClassFile.FieldType.int)) ∈ GW := tq_5 17 rfl rfl
theorem wq_978 : (Jvm.Cond.methodLink "java/lang/AbstractStringBuilder" (248 : Nat) ({ cls := "java/lang/Integer", name := "getChars", desc := "(II[B)I" } : Jvm.MethodName)) ∈ GW := tq_5 18 rfl rfl
theorem wq_979 : (Jvm.Cond.static ({ cls := "java/lang/Integer", name := "getChars", desc := "(II[B)I" } : Jvm.MethodName)) ∈ GW := tq_5 19 rfl rfl
theorem wq_980 : (Jvm.Cond.code ({ cls := "java/lang/Integer", name := "getChars", desc := "(II[B)I" } : Jvm.MethodName) prog_25_method_12_code (7 : Nat) (Option.some Jvm.ClassFile.FieldType.int)) ∈ GW := tq_5 20 rfl rfl
theorem wq_981 : (Jvm.Cond.fieldLink "java/lang/Integer" (83 : Nat) "java/lang/Integer" "DigitOnes" "[B") ∈ GW := tq_5 21 rfl rfl
theorem wq_983 : (Jvm.Cond.fieldLink "java/lang/Integer" (87 : Nat) "java/lang/Integer" "DigitTens" "[B") ∈ GW := tq_5 23 rfl rfl
theorem wq_985 : (Jvm.Cond.methodLink "java/lang/AbstractStringBuilder" (251 : Nat) ({ cls := "java/lang/StringUTF16", name := "getChars", desc := "(III[B)I" } : Jvm.MethodName)) ∈ GW := tq_5 25 rfl rfl
theorem wq_986 : (Jvm.Cond.static ({ cls := "java/lang/StringUTF16", name := "getChars", desc := "(III[B)I" } : Jvm.MethodName)) ∈ GW := tq_5 26 rfl rfl
theorem wq_987 : (Jvm.Cond.code ({ cls := "java/lang/StringUTF16", name := "getChars", desc := "(III[B)I" } : Jvm.MethodName) prog_33_method_77_code (5 : Nat) (Option.some Jvm.ClassFile.FieldType.int)) ∈ GW := tq_5 27 rfl rfl
theorem wq_988 : (Jvm.Cond.methodLink "java/lang/StringUTF16" (393 : Nat) ({ cls := "java/lang/StringUTF16", name := "getChars", desc := "(II[B)I" } : Jvm.MethodName)) ∈ GW := tq_5 28 rfl rfl
theorem wq_989 : (Jvm.Cond.static ({ cls := "java/lang/StringUTF16", name := "getChars", desc := "(II[B)I" } : Jvm.MethodName)) ∈ GW := tq_5 29 rfl rfl
theorem wq_990 : (Jvm.Cond.code ({ cls := "java/lang/StringUTF16", name := "getChars", desc := "(II[B)I" } : Jvm.MethodName) prog_33_method_89_code (7 : Nat) (Option.some Jvm.ClassFile.FieldType.int)) ∈ GW := tq_5 30 rfl rfl
theorem wq_991 : (Jvm.Cond.fieldLink "java/lang/StringUTF16" (403 : Nat) "java/lang/Integer" "DigitOnes" "[B") ∈ GW := tq_5 31 rfl rfl
theorem wq_992 : (Jvm.Cond.fieldLink "java/lang/StringUTF16" (407 : Nat) "java/lang/Integer" "DigitTens" "[B") ∈ GW := tq_5 32 rfl rfl
theorem wq_996 : (Jvm.Cond.methodLink "BenchBrokerLaw" (313 : Nat) ({ cls := "java/lang/StringBuilder", name := "toString", desc := "()Ljava/lang/String;" } : Jvm.MethodName)) ∈ GW := tq_5 36 rfl rfl
theorem wq_997 : (Jvm.Cond.instanceMethod ({ cls := "java/lang/StringBuilder", name := "toString", desc := "()Ljava/lang/String;" } : Jvm.MethodName)) ∈ GW := tq_5 37 rfl rfl
theorem wq_998 : (Jvm.Cond.selects "java/lang/StringBuilder" ({ cls := "java/lang/StringBuilder", name := "toString", desc := "()Ljava/lang/String;" } : Jvm.MethodName) ({ cls := "java/lang/StringBuilder", name := "toString", desc := "()Ljava/lang/String;" } : Jvm.MethodName)) ∈ GW := tq_5 38 rfl rfl
theorem wq_999 : (Jvm.Cond.code ({ cls := "java/lang/StringBuilder", name := "toString", desc := "()Ljava/lang/String;" } : Jvm.MethodName) prog_30_method_42_code (1 : Nat) (Option.some (Jvm.ClassFile.FieldType.object "java/lang/String"))) ∈ GW := tq_5 39 rfl rfl
theorem wq_1000 : (Jvm.Cond.classLink "java/lang/StringBuilder" (18 : Nat) "java/lang/String") ∈ GW := tq_5 40 rfl rfl
theorem wq_1001 : (Jvm.Cond.methodLink "java/lang/StringBuilder" (137 : Nat) ({ cls := "java/lang/String", name := "<init>", desc := "(Ljava/lang/StringBuilder;)V" } : Jvm.MethodName)) ∈ GW := tq_5 41 rfl rfl
theorem wq_1002 : (Jvm.Cond.instanceMethod ({ cls := "java/lang/String", name := "<init>", desc := "(Ljava/lang/StringBuilder;)V" } : Jvm.MethodName)) ∈ GW := tq_5 42 rfl rfl
theorem wq_1003 : (Jvm.Cond.code ({ cls := "java/lang/String", name := "<init>", desc := "(Ljava/lang/StringBuilder;)V" } : Jvm.MethodName) prog_29_method_53_code (2 : Nat) (Option.none : Option Jvm.ClassFile.FieldType)) ∈ GW := tq_5 43 rfl rfl
theorem wq_1004 : (Jvm.Cond.methodLink "java/lang/String" (489 : Nat) ({ cls := "java/lang/String", name := "<init>", desc := "(Ljava/lang/AbstractStringBuilder;Ljava/lang/Void;)V" } : Jvm.MethodName)) ∈ GW := tq_5 44 rfl rfl
theorem wq_1005 : (Jvm.Cond.instanceMethod ({ cls := "java/lang/String", name := "<init>", desc := "(Ljava/lang/AbstractStringBuilder;Ljava/lang/Void;)V" } : Jvm.MethodName)) ∈ GW := tq_5 45 rfl rfl
theorem wq_1006 : (Jvm.Cond.code ({ cls := "java/lang/String", name := "<init>", desc := "(Ljava/lang/AbstractStringBuilder;Ljava/lang/Void;)V" } : Jvm.MethodName) prog_29_method_150_code (5 : Nat) (Option.none : Option Jvm.ClassFile.FieldType)) ∈ GW := tq_5 46 rfl rfl
theorem wq_1007 : (Jvm.Cond.methodLink "java/lang/String" (1 : Nat) ({ cls := "java/lang/Object", name := "<init>", desc := "()V" } : Jvm.MethodName)) ∈ GW := tq_5 47 rfl rfl
theorem wq_1008 : (Jvm.Cond.methodLink "java/lang/String" (552 : Nat) ({ cls := "java/lang/AbstractStringBuilder", name := "getValue", desc := "()[B" } : Jvm.MethodName)) ∈ GW := tq_5 48 rfl rfl
theorem wq_1009 : (Jvm.Cond.instanceMethod ({ cls := "java/lang/AbstractStringBuilder", name := "getValue", desc := "()[B" } : Jvm.MethodName)) ∈ GW := tq_5 49 rfl rfl
theorem wq_1010 : (Jvm.Cond.sameMethod "java/lang/AbstractStringBuilder" "java/lang/AbstractStringBuilder" "getValue" "()[B") ∈ GW := tq_5 50 rfl rfl
theorem wq_1011 : (Jvm.Cond.selects "java/lang/StringBuilder" ({ cls := "java/lang/AbstractStringBuilder", name := "getValue", desc := "()[B" } : Jvm.MethodName) ({ cls := "java/lang/AbstractStringBuilder", name := "getValue", desc := "()[B" } : Jvm.MethodName)) ∈ GW := tq_5 51 rfl rfl
theorem wq_1012 : (Jvm.Cond.code ({ cls := "java/lang/AbstractStringBuilder", name := "getValue", desc := "()[B" } : Jvm.MethodName) prog_13_method_64_code (1 : Nat) (Option.some (Jvm.ClassFile.FieldType.array Jvm.ClassFile.FieldType.byte))) ∈ GW := tq_5 52 rfl rfl
theorem wq_1013 : (Jvm.Cond.methodLink "java/lang/String" (549 : Nat) ({ cls := "java/lang/AbstractStringBuilder", name := "length", desc := "()I" } : Jvm.MethodName)) ∈ GW := tq_5 53 rfl rfl
theorem wq_1014 : (Jvm.Cond.instanceMethod ({ cls := "java/lang/AbstractStringBuilder", name := "length", desc := "()I" } : Jvm.MethodName)) ∈ GW := tq_5 54 rfl rfl
theorem wq_1015 : (Jvm.Cond.sameMethod "java/lang/AbstractStringBuilder" "java/lang/AbstractStringBuilder" "length" "()I") ∈ GW := tq_5 55 rfl rfl
theorem wq_1016 : (Jvm.Cond.selects "java/lang/StringBuilder" ({ cls := "java/lang/AbstractStringBuilder", name := "length", desc := "()I" } : Jvm.MethodName) ({ cls := "java/lang/StringBuilder", name := "length", desc := "()I" } : Jvm.MethodName)) ∈ GW := tq_5 56 rfl rfl
theorem wq_1017 : (Jvm.Cond.instanceMethod ({ cls := "java/lang/StringBuilder", name := "length", desc := "()I" } : Jvm.MethodName)) ∈ GW := tq_5 57 rfl rfl
theorem wq_1018 : (Jvm.Cond.code ({ cls := "java/lang/StringBuilder", name := "length", desc := "()I" } : Jvm.MethodName) prog_30_method_93_code (1 : Nat) (Option.some Jvm.ClassFile.FieldType.int)) ∈ GW := tq_5 58 rfl rfl
theorem wq_1019 : (Jvm.Cond.methodLink "java/lang/StringBuilder" (343 : Nat) ({ cls := "java/lang/AbstractStringBuilder", name := "length", desc := "()I" } : Jvm.MethodName)) ∈ GW := tq_5 59 rfl rfl
theorem wq_1020 : (Jvm.Cond.code ({ cls := "java/lang/AbstractStringBuilder", name := "length", desc := "()I" } : Jvm.MethodName) prog_13_method_6_code (1 : Nat) (Option.some Jvm.ClassFile.FieldType.int)) ∈ GW := tq_5 60 rfl rfl
theorem wq_1021 : (Jvm.Cond.methodLink "java/lang/String" (1047 : Nat) ({ cls := "java/lang/AbstractStringBuilder", name := "isLatin1", desc := "()Z" } : Jvm.MethodName)) ∈ GW := tq_5 61 rfl rfl
theorem wq_1022 : (Jvm.Cond.methodLink "java/lang/String" (54 : Nat) ({ cls := "java/util/Arrays", name := "copyOfRange", desc := "([BII)[B" } : Jvm.MethodName)) ∈ GW := tq_5 62 rfl rfl
theorem wq_1023 : (Jvm.Cond.static ({ cls := "java/util/Arrays", name := "copyOfRange", desc := "([BII)[B" } : Jvm.MethodName)) ∈ GW := tq_5 63 rfl rfl
theorem wq_1024 : (Jvm.Cond.code ({ cls := "java/util/Arrays", name := "copyOfRange", desc := "([BII)[B" } : Jvm.MethodName) prog_39_method_132_code (3 : Nat) (Option.some (Jvm.ClassFile.FieldType.array Jvm.ClassFile.FieldType.byte))) ∈ GW := tq_5 64 rfl rfl
theorem wq_1025 : (Jvm.Cond.methodLink "java/util/Arrays" (339 : Nat) ({ cls := "java/util/Arrays", name := "copyOfRangeByte", desc := "([BII)[B" } : Jvm.MethodName)) ∈ GW := tq_5 65 rfl rfl
theorem wq_1026 : (Jvm.Cond.static ({ cls := "java/util/Arrays", name := "copyOfRangeByte", desc := "([BII)[B" } : Jvm.MethodName)) ∈ GW := tq_5 66 rfl rfl
theorem wq_1027 : (Jvm.Cond.code ({ cls := "java/util/Arrays", name := "copyOfRangeByte", desc := "([BII)[B" } : Jvm.MethodName) prog_39_method_133_code (5 : Nat) (Option.some (Jvm.ClassFile.FieldType.array Jvm.ClassFile.FieldType.byte))) ∈ GW := tq_5 67 rfl rfl
theorem wq_1028 : (Jvm.Cond.methodLink "java/util/Arrays" (343 : Nat) ({ cls := "java/util/Arrays", name := "checkLength", desc := "(II)V" } : Jvm.MethodName)) ∈ GW := tq_5 68 rfl rfl
theorem wq_1029 : (Jvm.Cond.static ({ cls := "java/util/Arrays", name := "checkLength", desc := "(II)V" } : Jvm.MethodName)) ∈ GW := tq_5 69 rfl rfl
theorem wq_1030 : (Jvm.Cond.code ({ cls := "java/util/Arrays", name := "checkLength", desc := "(II)V" } : Jvm.MethodName) prog_39_method_131_code (2 : Nat) (Option.none : Option Jvm.ClassFile.FieldType)) ∈ GW := tq_5 70 rfl rfl
theorem wq_1031 : (Jvm.Cond.classLink "java/util/Arrays" (43 : Nat) "java/lang/IllegalArgumentException") ∈ GW := tq_5 71 rfl rfl
theorem wq_1032 : (Jvm.Cond.classLink "java/util/Arrays" (45 : Nat) "java/lang/StringBuilder") ∈ GW := tq_5 72 rfl rfl
theorem wq_1033 : (Jvm.Cond.methodLink "java/util/Arrays" (47 : Nat) ({ cls := "java/lang/StringBuilder", name := "<init>", desc := "()V" } : Jvm.MethodName)) ∈ GW := tq_5 73 rfl rfl
theorem wq_1034 : (Jvm.Cond.methodLink "java/util/Arrays" (54 : Nat) ({ cls := "java/lang/StringBuilder", name := "append", desc := "(I)Ljava/lang/StringBuilder;" } : Jvm.MethodName)) ∈ GW := tq_5 74 rfl rfl
theorem wq_1036 : (Jvm.Cond.methodLink "java/util/Arrays" (50 : Nat) ({ cls := "java/lang/StringBuilder", name := "append", desc := "(Ljava/lang/String;)Ljava/lang/StringBuilder;" } : Jvm.MethodName)) ∈ GW := tq_5 76 rfl rfl
theorem wq_1037 : (Jvm.Cond.methodLink "java/util/Arrays" (61 : Nat) ({ cls := "java/lang/StringBuilder", name := "toString", desc := "()Ljava/lang/String;" } : Jvm.MethodName)) ∈ GW := tq_5 77 rfl rfl
theorem wq_1038 : (Jvm.Cond.methodLink "java/util/Arrays" (65 : Nat) ({ cls := "java/lang/IllegalArgumentException", name := "<init>", desc := "(Ljava/lang/String;)V" } : Jvm.MethodName)) ∈ GW := tq_5 78 rfl rfl
theorem wq_1039 : (Jvm.Cond.instanceMethod ({ cls := "java/lang/IllegalArgumentException", name := "<init>", desc := "(Ljava/lang/String;)V" } : Jvm.MethodName)) ∈ GW := tq_5 79 rfl rfl
theorem wq_1040 : (Jvm.Cond.code ({ cls := "java/lang/IllegalArgumentException", name := "<init>", desc := "(Ljava/lang/String;)V" } : Jvm.MethodName) prog_22_method_2_code (2 : Nat) (Option.none : Option Jvm.ClassFile.FieldType)) ∈ GW := tq_5 80 rfl rfl
theorem wq_1041 : (Jvm.Cond.methodLink "java/lang/IllegalArgumentException" (7 : Nat) ({ cls := "java/lang/RuntimeException", name := "<init>", desc := "(Ljava/lang/String;)V" } : Jvm.MethodName)) ∈ GW := tq_5 81 rfl rfl
theorem wq_1042 : (Jvm.Cond.methodLink "java/lang/String" (1051 : Nat) ({ cls := "java/lang/StringUTF16", name := "compress", desc := "([BII)[B" } : Jvm.MethodName)) ∈ GW := tq_5 82 rfl rfl
theorem wq_1043 : (Jvm.Cond.static ({ cls := "java/lang/StringUTF16", name := "compress", desc := "([BII)[B" } : Jvm.MethodName)) ∈ GW := tq_5 83 rfl rfl
theorem wq_1044 : (Jvm.Cond.code ({ cls := "java/lang/StringUTF16", name := "compress", desc := "([BII)[B" } : Jvm.MethodName) prog_33_method_17_code (6 : Nat) (Option.some (Jvm.ClassFile.FieldType.array Jvm.ClassFile.FieldType.byte))) ∈ GW := tq_5 84 rfl rfl
theorem wq_1045 : (Jvm.Cond.methodLink "java/lang/StringUTF16" (123 : Nat) ({ cls := "java/lang/StringUTF16", name := "compress", desc := "([BI[BII)I" } : Jvm.MethodName)) ∈ GW := tq_5 85 rfl rfl
theorem wq_1046 : (Jvm.Cond.static ({ cls := "java/lang/StringUTF16", name := "compress", desc := "([BI[BII)I" } : Jvm.MethodName)) ∈ GW := tq_5 86 rfl rfl
theorem wq_1047 : (Jvm.Cond.code ({ cls := "java/lang/StringUTF16", name := "compress", desc := "([BI[BII)I" } : Jvm.MethodName) prog_33_method_22_code (7 : Nat) (Option.some Jvm.ClassFile.FieldType.int)) ∈ GW := tq_5 87 rfl rfl
theorem wq_1048 : (Jvm.Cond.methodLink "java/lang/StringUTF16" (71 : Nat) ({ cls := "java/lang/StringUTF16", name := "getChar", desc := "([BI)C" } : Jvm.MethodName)) ∈ GW := tq_5 88 rfl rfl
theorem wq_1049 : (Jvm.Cond.static ({ cls := "java/lang/StringUTF16", name := "getChar", desc := "([BI)C" } : Jvm.MethodName)) ∈ GW := tq_5 89 rfl rfl
theorem wq_1050 : (Jvm.Cond.code ({ cls := "java/lang/StringUTF16", name := "getChar", desc := "([BI)C" } : Jvm.MethodName) prog_33_method_5_code (2 : Nat) (Option.some Jvm.ClassFile.FieldType.char)) ∈ GW := tq_5 90 rfl rfl
theorem wq_1051 : (Jvm.Cond.methodLink "java/lang/StringUTF16" (126 : Nat) ({ cls := "java/util/Arrays", name := "copyOfRange", desc := "([BII)[B" } : Jvm.MethodName)) ∈ GW := tq_5 91 rfl rfl
theorem wq_1052 : (Jvm.Cond.methodLink "java/lang/String" (47 : Nat) ({ cls := "java/lang/StringUTF16", name := "coderFromArrayLen", desc := "([BI)B" } : Jvm.MethodName)) ∈ GW := tq_5 92 rfl rfl
theorem wq_1053 : (Jvm.Cond.static ({ cls := "java/lang/StringUTF16", name := "coderFromArrayLen", desc := "([BI)B" } : Jvm.MethodName)) ∈ GW := tq_5 93 rfl rfl
theorem wq_1054 : (Jvm.Cond.code ({ cls := "java/lang/StringUTF16", name := "coderFromArrayLen", desc := "([BI)B" } : Jvm.MethodName) prog_33_method_15_code (2 : Nat) (Option.some Jvm.ClassFile.FieldType.byte)) ∈ GW := tq_5 94 rfl rfl
theorem wq_1055 : (Jvm.Cond.fieldLink "java/lang/String" (9 : Nat) "java/lang/String" "value" "[B") ∈ GW := tq_5 95 rfl rfl
theorem wq_1056 : (Jvm.Cond.fieldLink "java/lang/String" (15 : Nat) "java/lang/String" "coder" "B") ∈ GW := tq_5 96 rfl rfl
theorem wq_1057 : (Jvm.Cond.lays "java/lang/String" "java/lang/String" "hash" "I") ∈ GW := tq_5 97 rfl rfl
theorem wq_1058 : (Jvm.Cond.soleField "java/lang/String" "hash") ∈ GW := tq_5 98 rfl rfl
theorem wq_1059 : (Jvm.Cond.lays "java/lang/String" "java/lang/String" "hashIsZero" "Z") ∈ GW := tq_5 99 rfl rfl
theorem wq_1060 : (Jvm.Cond.soleField "java/lang/String" "hashIsZero") ∈ GW := tq_5 100 rfl rfl
theorem wq_1061 : (Jvm.Cond.superclass "java/lang/String" "java/lang/Object") ∈ GW := tq_5 101 rfl rfl
theorem wq_1065 : (Jvm.Cond.methodLink "BenchBrokerLaw" (323 : Nat) ({ cls := "BenchBrokerLaw", name := "runs", desc := "(LBenchBroker;Ljava/lang/String;)I" } : Jvm.MethodName)) ∈ GW := tq_5 105 rfl rfl
theorem wq_1066 : (Jvm.Cond.static ({ cls := "BenchBrokerLaw", name := "runs", desc := "(LBenchBroker;Ljava/lang/String;)I" } : Jvm.MethodName)) ∈ GW := tq_5 106 rfl rfl
theorem wq_1067 : (Jvm.Cond.code ({ cls := "BenchBrokerLaw", name := "runs", desc := "(LBenchBroker;Ljava/lang/String;)I" } : Jvm.MethodName) method_52_code (4 : Nat) (Option.some Jvm.ClassFile.FieldType.int)) ∈ GW := tq_5 107 rfl rfl
theorem wq_1068 : (Jvm.Cond.methodLink "BenchBrokerLaw" (185 : Nat) ({ cls := "java/lang/String", name := "length", desc := "()I" } : Jvm.MethodName)) ∈ GW := tq_5 108 rfl rfl
theorem wq_1069 : (Jvm.Cond.methodLink "BenchBrokerLaw" (190 : Nat) ({ cls := "java/lang/String", name := "charAt", desc := "(I)C" } : Jvm.MethodName)) ∈ GW := tq_5 109 rfl rfl
theorem wq_1070 : (Jvm.Cond.instanceMethod ({ cls := "java/lang/String", name := "charAt", desc := "(I)C" } : Jvm.MethodName)) ∈ GW := tq_5 110 rfl rfl
theorem wq_1071 : (Jvm.Cond.selects "java/lang/String" ({ cls := "java/lang/String", name := "charAt", desc := "(I)C" } : Jvm.MethodName) ({ cls := "java/lang/String", name := "charAt", desc := "(I)C" } : Jvm.MethodName)) ∈ GW := tq_5 111 rfl rfl
theorem wq_1072 : (Jvm.Cond.code ({ cls := "java/lang/String", name := "charAt", desc := "(I)C" } : Jvm.MethodName) prog_29_method_56_code (2 : Nat) (Option.some Jvm.ClassFile.FieldType.char)) ∈ GW := tq_5 112 rfl rfl
theorem wq_1073 : (Jvm.Cond.methodLink "java/lang/String" (492 : Nat) ({ cls := "java/lang/String", name := "isLatin1", desc := "()Z" } : Jvm.MethodName)) ∈ GW := tq_5 113 rfl rfl
theorem wq_1074 : (Jvm.Cond.instanceMethod ({ cls := "java/lang/String", name := "isLatin1", desc := "()Z" } : Jvm.MethodName)) ∈ GW := tq_5 114 rfl rfl
theorem wq_1075 : (Jvm.Cond.selects "java/lang/String" ({ cls := "java/lang/String", name := "isLatin1", desc := "()Z" } : Jvm.MethodName) ({ cls := "java/lang/String", name := "isLatin1", desc := "()Z" } : Jvm.MethodName)) ∈ GW := tq_5 115 rfl rfl
theorem wq_1076 : (Jvm.Cond.code ({ cls := "java/lang/String", name := "isLatin1", desc := "()Z" } : Jvm.MethodName) prog_29_method_154_code (1 : Nat) (Option.some Jvm.ClassFile.FieldType.boolean)) ∈ GW := tq_5 116 rfl rfl
theorem wq_1077 : (Jvm.Cond.methodLink "java/lang/String" (495 : Nat) ({ cls := "java/lang/StringLatin1", name := "charAt", desc := "([BI)C" } : Jvm.MethodName)) ∈ GW := tq_5 117 rfl rfl
theorem wq_1078 : (Jvm.Cond.static ({ cls := "java/lang/StringLatin1", name := "charAt", desc := "([BI)C" } : Jvm.MethodName)) ∈ GW := tq_5 118 rfl rfl
theorem wq_1079 : (Jvm.Cond.code ({ cls := "java/lang/StringLatin1", name := "charAt", desc := "([BI)C" } : Jvm.MethodName) prog_32_method_2_code (2 : Nat) (Option.some Jvm.ClassFile.FieldType.char)) ∈ GW := tq_5 119 rfl rfl
theorem wq_1080 : (Jvm.Cond.methodLink "java/lang/StringLatin1" (9 : Nat) ({ cls := "java/lang/String", name := "checkIndex", desc := "(II)V" } : Jvm.MethodName)) ∈ GW := tq_5 120 rfl rfl
theorem wq_1081 : (Jvm.Cond.static ({ cls := "java/lang/String", name := "checkIndex", desc := "(II)V" } : Jvm.MethodName)) ∈ GW := tq_5 121 rfl rfl
theorem wq_1082 : (Jvm.Cond.code ({ cls := "java/lang/String", name := "checkIndex", desc := "(II)V" } : Jvm.MethodName) prog_29_method_155_code (2 : Nat) (Option.none : Option Jvm.ClassFile.FieldType)) ∈ GW := tq_5 122 rfl rfl
theorem wq_1083 : (Jvm.Cond.methodLink "java/lang/String" (1059 : Nat) ({ cls := "jdk/internal/util/Preconditions", name := "checkIndex", desc := "(IILjava/util/function/BiFunction;)I" } : Jvm.MethodName)) ∈ GW := tq_5 123 rfl rfl
theorem wq_1084 : (Jvm.Cond.static ({ cls := "jdk/internal/util/Preconditions", name := "checkIndex", desc := "(IILjava/util/function/BiFunction;)I" } : Jvm.MethodName)) ∈ GW := tq_5 124 rfl rfl
theorem wq_1085 : (Jvm.Cond.code ({ cls := "jdk/internal/util/Preconditions", name := "checkIndex", desc := "(IILjava/util/function/BiFunction;)I" } : Jvm.MethodName) prog_42_method_11_code (3 : Nat) (Option.some Jvm.ClassFile.FieldType.int)) ∈ GW := tq_5 125 rfl rfl
theorem wq_1086 : (Jvm.Cond.methodLink "java/lang/String" (498 : Nat) ({ cls := "java/lang/StringUTF16", name := "charAt", desc := "([BI)C" } : Jvm.MethodName)) ∈ GW := tq_5 126 rfl rfl
theorem wq_1087 : (Jvm.Cond.static ({ cls := "java/lang/StringUTF16", name := "charAt", desc := "([BI)C" } : Jvm.MethodName)) ∈ GW := tq_5 127 rfl rfl
theorem wq_1088 : (Jvm.Cond.code ({ cls := "java/lang/StringUTF16", name := "charAt", desc := "([BI)C" } : Jvm.MethodName) prog_33_method_83_code (2 : Nat) (Option.some Jvm.ClassFile.FieldType.char)) ∈ GW := tq_5 128 rfl rfl
theorem wq_1089 : (Jvm.Cond.methodLink "java/lang/StringUTF16" (67 : Nat) ({ cls := "java/lang/StringUTF16", name := "checkIndex", desc := "(I[B)V" } : Jvm.MethodName)) ∈ GW := tq_5 129 rfl rfl
theorem wq_1090 : (Jvm.Cond.static ({ cls := "java/lang/StringUTF16", name := "checkIndex", desc := "(I[B)V" } : Jvm.MethodName)) ∈ GW := tq_5 130 rfl rfl
theorem wq_1091 : (Jvm.Cond.code ({ cls := "java/lang/StringUTF16", name := "checkIndex", desc := "(I[B)V" } : Jvm.MethodName) prog_33_method_91_code (2 : Nat) (Option.none : Option Jvm.ClassFile.FieldType)) ∈ GW := tq_5 131 rfl rfl
theorem wq_1092 : (Jvm.Cond.methodLink "java/lang/StringUTF16" (414 : Nat) ({ cls := "java/lang/String", name := "checkIndex", desc := "(II)V" } : Jvm.MethodName)) ∈ GW := tq_5 132 rfl rfl
theorem wq_1093 : (Jvm.Cond.methodLink "BenchBrokerLaw" (193 : Nat) ({ cls := "BenchBrokerLaw", name := "appendInput", desc := "(LBenchBroker;C)I" } : Jvm.MethodName)) ∈ GW := tq_5 133 rfl rfl
theorem wq_1094 : (Jvm.Cond.static ({ cls := "BenchBrokerLaw", name := "appendInput", desc := "(LBenchBroker;C)I" } : Jvm.MethodName)) ∈ GW := tq_5 134 rfl rfl
theorem wq_1096 : (Jvm.Cond.classLink "BenchBrokerLaw" (161 : Nat) "java/lang/IllegalStateException") ∈ GW := tq_5 136 rfl rfl
theorem wq_1097 : (Jvm.Cond.methodLink "BenchBrokerLaw" (157 : Nat) ({ cls := "BenchBroker", name := "appendInput", desc := "(C)I" } : Jvm.MethodName)) ∈ GW := tq_5 137 rfl rfl
theorem wq_1098 : (Jvm.Cond.instanceMethod ({ cls := "BenchBroker", name := "appendInput", desc := "(C)I" } : Jvm.MethodName)) ∈ GW := tq_5 138 rfl rfl
theorem wq_1099 : (Jvm.Cond.selects "BenchBroker" ({ cls := "BenchBroker", name := "appendInput", desc := "(C)I" } : Jvm.MethodName) ({ cls := "BenchBroker", name := "appendInput", desc := "(C)I" } : Jvm.MethodName)) ∈ GW := tq_5 139 rfl rfl
theorem wq_1100 : (Jvm.Cond.code ({ cls := "BenchBroker", name := "appendInput", desc := "(C)I" } : Jvm.MethodName) prog_1_method_56_code (2 : Nat) (Option.some Jvm.ClassFile.FieldType.int)) ∈ GW := tq_5 140 rfl rfl
theorem wq_1101 : (Jvm.Cond.classLink "BenchBroker" (305 : Nat) "java/lang/IllegalStateException") ∈ GW := tq_5 141 rfl rfl
theorem wq_1102 : (Jvm.Cond.instantiable "java/lang/IllegalStateException" (6 : Nat)) ∈ GW := tq_5 142 rfl rfl
theorem wq_1104 : (Jvm.Cond.selects "java/lang/IllegalStateException" ({ cls := "java/lang/Throwable", name := "fillInStackTrace", desc := "(I)Ljava/lang/Throwable;" } : Jvm.MethodName) ({ cls := "java/lang/Throwable", name := "fillInStackTrace", desc := "(I)Ljava/lang/Throwable;" } : Jvm.MethodName)) ∈ GW := tq_5 144 rfl rfl
theorem wq_1105 : (Jvm.Cond.lays "java/lang/IllegalStateException" "java/lang/Throwable" "cause" "Ljava/lang/Throwable;") ∈ GW := tq_5 145 rfl rfl
theorem wq_1106 : (Jvm.Cond.lays "java/lang/IllegalStateException" "java/lang/Throwable" "stackTrace" "[Ljava/lang/StackTraceElement;") ∈ GW := tq_5 146 rfl rfl
theorem wq_1107 : (Jvm.Cond.lays "java/lang/IllegalStateException" "java/lang/Throwable" "suppressedExceptions" "Ljava/util/List;") ∈ GW := tq_5 147 rfl rfl
theorem wq_1108 : (Jvm.Cond.lays "java/lang/IllegalStateException" "java/lang/Throwable" "detailMessage" "Ljava/lang/String;") ∈ GW := tq_5 148 rfl rfl
theorem wq_1109 : (Jvm.Cond.lays "java/lang/IllegalStateException" "java/lang/Throwable" "backtrace" "Ljava/lang/Object;") ∈ GW := tq_5 149 rfl rfl
theorem wq_1110 : (Jvm.Cond.methodLink "BenchBroker" (307 : Nat) ({ cls := "java/lang/IllegalStateException", name := "<init>", desc := "()V" } : Jvm.MethodName)) ∈ GW := tq_5 150 rfl rfl
theorem wq_1111 : (Jvm.Cond.instanceMethod ({ cls := "java/lang/IllegalStateException", name := "<init>", desc := "()V" } : Jvm.MethodName)) ∈ GW := tq_5 151 rfl rfl
theorem wq_1112 : (Jvm.Cond.code ({ cls := "java/lang/IllegalStateException", name := "<init>", desc := "()V" } : Jvm.MethodName) prog_23_method_1_code (1 : Nat) (Option.none : Option Jvm.ClassFile.FieldType)) ∈ GW := tq_5 152 rfl rfl
theorem wq_1113 : (Jvm.Cond.methodLink "java/lang/IllegalStateException" (1 : Nat) ({ cls := "java/lang/RuntimeException", name := "<init>", desc := "()V" } : Jvm.MethodName)) ∈ GW := tq_5 153 rfl rfl
theorem wq_1114 : (Jvm.Cond.lays "java/lang/IllegalStateException" "java/lang/Throwable" "depth" "I") ∈ GW := tq_5 154 rfl rfl
theorem wq_1115 : (Jvm.Cond.superclass "java/lang/IllegalStateException" "java/lang/RuntimeException") ∈ GW := tq_5 155 rfl rfl
theorem wq_1116 : (Jvm.Cond.methodLink "BenchBrokerLaw" (196 : Nat) ({ cls := "BenchBrokerLaw", name := "execute", desc := "(LBenchBroker;)I" } : Jvm.MethodName)) ∈ GW := tq_5 156 rfl rfl
theorem wq_1117 : (Jvm.Cond.static ({ cls := "BenchBrokerLaw", name := "execute", desc := "(LBenchBroker;)I" } : Jvm.MethodName)) ∈ GW := tq_5 157 rfl rfl
theorem wq_1119 : (Jvm.Cond.methodLink "BenchBrokerLaw" (163 : Nat) ({ cls := "BenchBroker", name := "execute", desc := "()I" } : Jvm.MethodName)) ∈ GW := tq_5 159 rfl rfl
theorem wq_1120 : (Jvm.Cond.instanceMethod ({ cls := "BenchBroker", name := "execute", desc := "()I" } : Jvm.MethodName)) ∈ GW := tq_5 160 rfl rfl
theorem wq_1121 : (Jvm.Cond.selects "BenchBroker" ({ cls := "BenchBroker", name := "execute", desc := "()I" } : Jvm.MethodName) ({ cls := "BenchBroker", name := "execute", desc := "()I" } : Jvm.MethodName)) ∈ GW := tq_5 161 rfl rfl
theorem wq_1122 : (Jvm.Cond.code ({ cls := "BenchBroker", name := "execute", desc := "()I" } : Jvm.MethodName) prog_1_method_57_code (3 : Nat) (Option.some Jvm.ClassFile.FieldType.int)) ∈ GW := tq_5 162 rfl rfl
theorem wq_1123 : (Jvm.Cond.methodLink "BenchBroker" (312 : Nat) ({ cls := "BenchBroker$Input", name := "countCommands", desc := "()I" } : Jvm.MethodName)) ∈ GW := tq_5 163 rfl rfl
theorem wq_1124 : (Jvm.Cond.instanceMethod ({ cls := "BenchBroker$Input", name := "countCommands", desc := "()I" } : Jvm.MethodName)) ∈ GW := tq_5 164 rfl rfl
theorem wq_1125 : (Jvm.Cond.selects "BenchBroker$Input" ({ cls := "BenchBroker$Input", name := "countCommands", desc := "()I" } : Jvm.MethodName) ({ cls := "BenchBroker$Input", name := "countCommands", desc := "()I" } : Jvm.MethodName)) ∈ GW := tq_5 165 rfl rfl
theorem wq_1126 : (Jvm.Cond.code ({ cls := "BenchBroker$Input", name := "countCommands", desc := "()I" } : Jvm.MethodName) prog_5_method_2_code (2 : Nat) (Option.some Jvm.ClassFile.FieldType.int)) ∈ GW := tq_5 166 rfl rfl
theorem wq_1127 : (Jvm.Cond.methodLink "BenchBroker$Input" (35 : Nat) ({ cls := "BenchBroker$Input", name := "readCommand", desc := "()Z" } : Jvm.MethodName)) ∈ GW := tq_5 167 rfl rfl
theorem wq_1128 : (Jvm.Cond.instanceMethod ({ cls := "BenchBroker$Input", name := "readCommand", desc := "()Z" } : Jvm.MethodName)) ∈ GW := tq_5 168 rfl rfl
theorem wq_1129 : (Jvm.Cond.selects "BenchBroker$Input" ({ cls := "BenchBroker$Input", name := "readCommand", desc := "()Z" } : Jvm.MethodName) ({ cls := "BenchBroker$Input", name := "readCommand", desc := "()Z" } : Jvm.MethodName)) ∈ GW := tq_5 169 rfl rfl
theorem wq_1130 : (Jvm.Cond.code ({ cls := "BenchBroker$Input", name := "readCommand", desc := "()Z" } : Jvm.MethodName) prog_5_method_3_code (1 : Nat) (Option.some Jvm.ClassFile.FieldType.boolean)) ∈ GW := tq_5 170 rfl rfl
theorem wq_1131 : (Jvm.Cond.methodLink "BenchBroker$Input" (43 : Nat) ({ cls := "BenchBroker$Input", name := "readWord", desc := "()Z" } : Jvm.MethodName)) ∈ GW := tq_5 171 rfl rfl
theorem wq_1133 : (Jvm.Cond.instanceMethod ({ cls := "BenchBroker$Input", name := "readWord", desc := "()Z" } : Jvm.MethodName)) ∈ GW := tq_5 173 rfl rfl
theorem wq_1134 : (Jvm.Cond.code ({ cls := "BenchBroker$Input", name := "readWord", desc := "()Z" } : Jvm.MethodName) prog_5_method_5_code (7 : Nat) (Option.some Jvm.ClassFile.FieldType.boolean)) ∈ GW := tq_5 174 rfl rfl
theorem wq_1137 : (Jvm.Cond.methodLink "BenchBroker$Input" (57 : Nat) ({ cls := "BenchBroker$Input", name := "matchingLetters", desc := "(Ljava/lang/String;)I" } : Jvm.MethodName)) ∈ GW := tq_5 177 rfl rfl
theorem wq_1139 : (Jvm.Cond.instanceMethod ({ cls := "BenchBroker$Input", name := "matchingLetters", desc := "(Ljava/lang/String;)I" } : Jvm.MethodName)) ∈ GW := tq_5 179 rfl rfl
theorem wq_1140 : (Jvm.Cond.code ({ cls := "BenchBroker$Input", name := "matchingLetters", desc := "(Ljava/lang/String;)I" } : Jvm.MethodName) prog_5_method_6_code (3 : Nat) (Option.some Jvm.ClassFile.FieldType.int)) ∈ GW := tq_5 180 rfl rfl
theorem wq_1141 : (Jvm.Cond.methodLink "BenchBroker$Input" (67 : Nat) ({ cls := "java/lang/String", name := "length", desc := "()I" } : Jvm.MethodName)) ∈ GW := tq_5 181 rfl rfl
theorem wq_1142 : (Jvm.Cond.methodLink "BenchBroker$Input" (72 : Nat) ({ cls := "java/lang/String", name := "charAt", desc := "(I)C" } : Jvm.MethodName)) ∈ GW := tq_5 182 rfl rfl
theorem wq_1143 : (Jvm.Cond.methodLink "BenchBroker$Input" (61 : Nat) ({ cls := "java/lang/Math", name := "max", desc := "(II)I" } : Jvm.MethodName)) ∈ GW := tq_5 183 rfl rfl
theorem wq_1144 : (Jvm.Cond.methodLink "BenchBroker$Input" (46 : Nat) ({ cls := "BenchBroker$Input", name := "readArguments", desc := "()Z" } : Jvm.MethodName)) ∈ GW := tq_5 184 rfl rfl
theorem wq_1146 : (Jvm.Cond.instanceMethod ({ cls := "BenchBroker$Input", name := "readArguments", desc := "()Z" } : Jvm.MethodName)) ∈ GW := tq_5 186 rfl rfl
theorem wq_1147 : (Jvm.Cond.code ({ cls := "BenchBroker$Input", name := "readArguments", desc := "()Z" } : Jvm.MethodName) prog_5_method_7_code (3 : Nat) (Option.some Jvm.ClassFile.FieldType.boolean)) ∈ GW := tq_5 187 rfl rfl
theorem wq_1148 : (Jvm.Cond.methodLink "BenchBroker$Input" (39 : Nat) ({ cls := "BenchBroker$Input", name := "readSign", desc := "(C)Z" } : Jvm.MethodName)) ∈ GW := tq_5 188 rfl rfl
theorem wq_1149 : (Jvm.Cond.instanceMethod ({ cls := "BenchBroker$Input", name := "readSign", desc := "(C)Z" } : Jvm.MethodName)) ∈ GW := tq_5 189 rfl rfl
theorem wq_1150 : (Jvm.Cond.selects "BenchBroker$Input" ({ cls := "BenchBroker$Input", name := "readSign", desc := "(C)Z" } : Jvm.MethodName) ({ cls := "BenchBroker$Input", name := "readSign", desc := "(C)Z" } : Jvm.MethodName)) ∈ GW := tq_5 190 rfl rfl
theorem wq_1151 : (Jvm.Cond.code ({ cls := "BenchBroker$Input", name := "readSign", desc := "(C)Z" } : Jvm.MethodName) prog_5_method_4_code (2 : Nat) (Option.some Jvm.ClassFile.FieldType.boolean)) ∈ GW := tq_5 191 rfl rfl
theorem wq_1152 : (Jvm.Cond.methodLink "BenchBroker$Input" (79 : Nat) ({ cls := "BenchBroker$Input", name := "atDigit", desc := "()Z" } : Jvm.MethodName)) ∈ GW := tq_5 192 rfl rfl
theorem wq_1154 : (Jvm.Cond.instanceMethod ({ cls := "BenchBroker$Input", name := "atDigit", desc := "()Z" } : Jvm.MethodName)) ∈ GW := tq_5 194 rfl rfl
theorem wq_1155 : (Jvm.Cond.code ({ cls := "BenchBroker$Input", name := "atDigit", desc := "()Z" } : Jvm.MethodName) prog_5_method_8_code (1 : Nat) (Option.some Jvm.ClassFile.FieldType.boolean)) ∈ GW := tq_5 195 rfl rfl
theorem wq_1156 : (Jvm.Cond.methodLink "BenchBroker$Input" (82 : Nat) ({ cls := "BenchBroker$Input", name := "readDigit", desc := "()I" } : Jvm.MethodName)) ∈ GW := tq_5 196 rfl rfl
theorem wq_1158 : (Jvm.Cond.instanceMethod ({ cls := "BenchBroker$Input", name := "readDigit", desc := "()I" } : Jvm.MethodName)) ∈ GW := tq_5 198 rfl rfl
theorem wq_1159 : (Jvm.Cond.code ({ cls := "BenchBroker$Input", name := "readDigit", desc := "()I" } : Jvm.MethodName) prog_5_method_9_code (2 : Nat) (Option.some Jvm.ClassFile.FieldType.int)) ∈ GW := tq_5 199 rfl rfl
theorem wq_1160 : (Jvm.Cond.methodLink "BenchBroker" (318 : Nat) ({ cls := "BenchBroker", name := "tryCommands", desc := "(I)I" } : Jvm.MethodName)) ∈ GW := tq_5 200 rfl rfl
theorem wq_1162 : (Jvm.Cond.instanceMethod ({ cls := "BenchBroker", name := "tryCommands", desc := "(I)I" } : Jvm.MethodName)) ∈ GW := tq_5 202 rfl rfl
theorem wq_1163 : (Jvm.Cond.code ({ cls := "BenchBroker", name := "tryCommands", desc := "(I)I" } : Jvm.MethodName) prog_1_method_75_code (3 : Nat) (Option.some Jvm.ClassFile.FieldType.int)) ∈ GW := tq_5 203 rfl rfl
theorem wq_1164 : (Jvm.Cond.methodLink "BenchBroker" (372 : Nat) ({ cls := "BenchBroker$Input", name := "readCommand", desc := "()Z" } : Jvm.MethodName)) ∈ GW := tq_5 204 rfl rfl
theorem wq_1165 : (Jvm.Cond.methodLink "BenchBroker" (375 : Nat) ({ cls := "BenchBroker$Input", name := "readSign", desc := "(C)Z" } : Jvm.MethodName)) ∈ GW := tq_5 205 rfl rfl
theorem wq_1166 : (Jvm.Cond.methodLink "BenchBroker" (386 : Nat) ({ cls := "BenchBroker", name := "tryCommand", desc := "(LBenchBroker$Verb;III)V" } : Jvm.MethodName)) ∈ GW := tq_5 206 rfl rfl
theorem wq_1168 : (Jvm.Cond.instanceMethod ({ cls := "BenchBroker", name := "tryCommand", desc := "(LBenchBroker$Verb;III)V" } : Jvm.MethodName)) ∈ GW := tq_5 208 rfl rfl
theorem wq_1169 : (Jvm.Cond.code ({ cls := "BenchBroker", name := "tryCommand", desc := "(LBenchBroker$Verb;III)V" } : Jvm.MethodName) prog_1_method_76_code (5 : Nat) (Option.none : Option Jvm.ClassFile.FieldType)) ∈ GW := tq_5 209 rfl rfl
theorem wq_1170 : (Jvm.Cond.fieldLink "BenchBroker" (390 : Nat) "BenchBroker$1" "$SwitchMap$BenchBroker$Verb" "[I") ∈ GW := tq_5 210 rfl rfl
theorem wq_1172 : (Jvm.Cond.methodLink "BenchBroker" (395 : Nat) ({ cls := "BenchBroker$Verb", name := "ordinal", desc := "()I" } : Jvm.MethodName)) ∈ GW := tq_5 212 rfl rfl
theorem wq_1173 : (Jvm.Cond.sameMethod "BenchBroker$Verb" "java/lang/Enum" "ordinal" "()I") ∈ GW := tq_5 213 rfl rfl
theorem wq_1175 : (Jvm.Cond.selects "BenchBroker$Verb" ({ cls := "BenchBroker$Verb", name := "ordinal", desc := "()I" } : Jvm.MethodName) ({ cls := "java/lang/Enum", name := "ordinal", desc := "()I" } : Jvm.MethodName)) ∈ GW := tq_5 215 rfl rfl
theorem wq_1176 : (Jvm.Cond.instanceMethod ({ cls := "java/lang/Enum", name := "ordinal", desc := "()I" } : Jvm.MethodName)) ∈ GW := tq_5 216 rfl rfl
theorem wq_1177 : (Jvm.Cond.code ({ cls := "java/lang/Enum", name := "ordinal", desc := "()I" } : Jvm.MethodName) prog_20_method_2_code (1 : Nat) (Option.some Jvm.ClassFile.FieldType.int)) ∈ GW := tq_5 217 rfl rfl
theorem wq_1178 : (Jvm.Cond.methodLink "BenchBrokerLaw" (209 : Nat) ({ cls := "BenchBrokerLaw", name := "sum", desc := "(LBenchBroker;)J" } : Jvm.MethodName)) ∈ GW := tq_5 218 rfl rfl
theorem wq_1179 : (Jvm.Cond.static ({ cls := "BenchBrokerLaw", name := "sum", desc := "(LBenchBroker;)J" } : Jvm.MethodName)) ∈ GW := tq_5 219 rfl rfl
theorem wq_1180 : (Jvm.Cond.code ({ cls := "BenchBrokerLaw", name := "sum", desc := "(LBenchBroker;)J" } : Jvm.MethodName) method_59_code (6 : Nat) (Option.some Jvm.ClassFile.FieldType.long)) ∈ GW := tq_5 220 rfl rfl
theorem wq_1181 : (Jvm.Cond.constantLong "BenchBrokerLaw" (327 : Nat) (31 : Int64)) ∈ GW := tq_5 221 rfl rfl
theorem wq_1182 : (Jvm.Cond.methodLink "BenchBrokerLaw" (329 : Nat) ({ cls := "BenchBroker", name := "noiseLimit", desc := "()I" } : Jvm.MethodName)) ∈ GW := tq_5 222 rfl rfl
theorem wq_1183 : (Jvm.Cond.instanceMethod ({ cls := "BenchBroker", name := "noiseLimit", desc := "()I" } : Jvm.MethodName)) ∈ GW := tq_5 223 rfl rfl
theorem wq_1184 : (Jvm.Cond.selects "BenchBroker" ({ cls := "BenchBroker", name := "noiseLimit", desc := "()I" } : Jvm.MethodName) ({ cls := "BenchBroker", name := "noiseLimit", desc := "()I" } : Jvm.MethodName)) ∈ GW := tq_5 224 rfl rfl
theorem wq_1185 : (Jvm.Cond.code ({ cls := "BenchBroker", name := "noiseLimit", desc := "()I" } : Jvm.MethodName) prog_1_method_16_code (1 : Nat) (Option.some Jvm.ClassFile.FieldType.int)) ∈ GW := tq_5 225 rfl rfl
theorem wq_1186 : (Jvm.Cond.methodLink "BenchBrokerLaw" (332 : Nat) ({ cls := "BenchBroker", name := "month", desc := "()I" } : Jvm.MethodName)) ∈ GW := tq_5 226 rfl rfl
theorem wq_1187 : (Jvm.Cond.instanceMethod ({ cls := "BenchBroker", name := "month", desc := "()I" } : Jvm.MethodName)) ∈ GW := tq_5 227 rfl rfl
theorem wq_1188 : (Jvm.Cond.selects "BenchBroker" ({ cls := "BenchBroker", name := "month", desc := "()I" } : Jvm.MethodName) ({ cls := "BenchBroker", name := "month", desc := "()I" } : Jvm.MethodName)) ∈ GW := tq_5 228 rfl rfl
theorem wq_1189 : (Jvm.Cond.code ({ cls := "BenchBroker", name := "month", desc := "()I" } : Jvm.MethodName) prog_1_method_38_code (1 : Nat) (Option.some Jvm.ClassFile.FieldType.int)) ∈ GW := tq_5 229 rfl rfl
theorem wq_1190 : (Jvm.Cond.methodLink "BenchBrokerLaw" (335 : Nat) ({ cls := "BenchBroker", name := "allCoinsGiven", desc := "()I" } : Jvm.MethodName)) ∈ GW := tq_5 230 rfl rfl
theorem wq_1191 : (Jvm.Cond.instanceMethod ({ cls := "BenchBroker", name := "allCoinsGiven", desc := "()I" } : Jvm.MethodName)) ∈ GW := tq_5 231 rfl rfl
theorem wq_1192 : (Jvm.Cond.selects "BenchBroker" ({ cls := "BenchBroker", name := "allCoinsGiven", desc := "()I" } : Jvm.MethodName) ({ cls := "BenchBroker", name := "allCoinsGiven", desc := "()I" } : Jvm.MethodName)) ∈ GW := tq_5 232 rfl rfl
theorem wq_1193 : (Jvm.Cond.code ({ cls := "BenchBroker", name := "allCoinsGiven", desc := "()I" } : Jvm.MethodName) prog_1_method_44_code (1 : Nat) (Option.some Jvm.ClassFile.FieldType.int)) ∈ GW := tq_5 233 rfl rfl
theorem wq_1194 : (Jvm.Cond.constantLong "BenchBrokerLaw" (338 : Nat) (101 : Int64)) ∈ GW := tq_5 234 rfl rfl
theorem wq_1195 : (Jvm.Cond.constantLong "BenchBrokerLaw" (340 : Nat) (11 : Int64)) ∈ GW := tq_5 235 rfl rfl
theorem wq_1196 : (Jvm.Cond.constantLong "BenchBrokerLaw" (342 : Nat) (1009 : Int64)) ∈ GW := tq_5 236 rfl rfl
theorem wq_1197 : (Jvm.Cond.methodLink "BenchBrokerLaw" (344 : Nat) ({ cls := "BenchBrokerLaw", name := "baseRent", desc := "(LBenchBroker;I)I" } : Jvm.MethodName)) ∈ GW := tq_5 237 rfl rfl
theorem wq_1198 : (Jvm.Cond.static ({ cls := "BenchBrokerLaw", name := "baseRent", desc := "(LBenchBroker;I)I" } : Jvm.MethodName)) ∈ GW := tq_5 238 rfl rfl
theorem wq_1200 : (Jvm.Cond.methodLink "BenchBrokerLaw" (50 : Nat) ({ cls := "BenchBroker", name := "baseRent", desc := "(I)I" } : Jvm.MethodName)) ∈ GW := tq_6 0 rfl rfl
theorem wq_1201 : (Jvm.Cond.instanceMethod ({ cls := "BenchBroker", name := "baseRent", desc := "(I)I" } : Jvm.MethodName)) ∈ GW := tq_6 1 rfl rfl
theorem wq_1202 : (Jvm.Cond.selects "BenchBroker" ({ cls := "BenchBroker", name := "baseRent", desc := "(I)I" } : Jvm.MethodName) ({ cls := "BenchBroker", name := "baseRent", desc := "(I)I" } : Jvm.MethodName)) ∈ GW := tq_6 2 rfl rfl
theorem wq_1203 : (Jvm.Cond.code ({ cls := "BenchBroker", name := "baseRent", desc := "(I)I" } : Jvm.MethodName) prog_1_method_11_code (2 : Nat) (Option.some Jvm.ClassFile.FieldType.int)) ∈ GW := tq_6 3 rfl rfl
theorem wq_1204 : (Jvm.Cond.methodLink "BenchBrokerLaw" (346 : Nat) ({ cls := "BenchBrokerLaw", name := "rowOf", desc := "(LBenchBroker;I)I" } : Jvm.MethodName)) ∈ GW := tq_6 4 rfl rfl
theorem wq_1205 : (Jvm.Cond.static ({ cls := "BenchBrokerLaw", name := "rowOf", desc := "(LBenchBroker;I)I" } : Jvm.MethodName)) ∈ GW := tq_6 5 rfl rfl
theorem wq_1207 : (Jvm.Cond.methodLink "BenchBrokerLaw" (44 : Nat) ({ cls := "BenchBroker", name := "rowOf", desc := "(I)I" } : Jvm.MethodName)) ∈ GW := tq_6 7 rfl rfl
theorem wq_1208 : (Jvm.Cond.instanceMethod ({ cls := "BenchBroker", name := "rowOf", desc := "(I)I" } : Jvm.MethodName)) ∈ GW := tq_6 8 rfl rfl
theorem wq_1209 : (Jvm.Cond.selects "BenchBroker" ({ cls := "BenchBroker", name := "rowOf", desc := "(I)I" } : Jvm.MethodName) ({ cls := "BenchBroker", name := "rowOf", desc := "(I)I" } : Jvm.MethodName)) ∈ GW := tq_6 9 rfl rfl
theorem wq_1210 : (Jvm.Cond.code ({ cls := "BenchBroker", name := "rowOf", desc := "(I)I" } : Jvm.MethodName) prog_1_method_9_code (2 : Nat) (Option.some Jvm.ClassFile.FieldType.int)) ∈ GW := tq_6 10 rfl rfl
theorem wq_1211 : (Jvm.Cond.methodLink "BenchBrokerLaw" (348 : Nat) ({ cls := "BenchBrokerLaw", name := "columnOf", desc := "(LBenchBroker;I)I" } : Jvm.MethodName)) ∈ GW := tq_6 11 rfl rfl
theorem wq_1212 : (Jvm.Cond.static ({ cls := "BenchBrokerLaw", name := "columnOf", desc := "(LBenchBroker;I)I" } : Jvm.MethodName)) ∈ GW := tq_6 12 rfl rfl
theorem wq_1214 : (Jvm.Cond.methodLink "BenchBrokerLaw" (47 : Nat) ({ cls := "BenchBroker", name := "columnOf", desc := "(I)I" } : Jvm.MethodName)) ∈ GW := tq_6 14 rfl rfl
theorem wq_1215 : (Jvm.Cond.instanceMethod ({ cls := "BenchBroker", name := "columnOf", desc := "(I)I" } : Jvm.MethodName)) ∈ GW := tq_6 15 rfl rfl
theorem wq_1216 : (Jvm.Cond.selects "BenchBroker" ({ cls := "BenchBroker", name := "columnOf", desc := "(I)I" } : Jvm.MethodName) ({ cls := "BenchBroker", name := "columnOf", desc := "(I)I" } : Jvm.MethodName)) ∈ GW := tq_6 16 rfl rfl
theorem wq_1217 : (Jvm.Cond.code ({ cls := "BenchBroker", name := "columnOf", desc := "(I)I" } : Jvm.MethodName) prog_1_method_10_code (2 : Nat) (Option.some Jvm.ClassFile.FieldType.int)) ∈ GW := tq_6 17 rfl rfl
theorem wq_1218 : (Jvm.Cond.methodLink "BenchBrokerLaw" (350 : Nat) ({ cls := "BenchBrokerLaw", name := "depositOf", desc := "(LBenchBroker;I)I" } : Jvm.MethodName)) ∈ GW := tq_6 18 rfl rfl
theorem wq_1219 : (Jvm.Cond.static ({ cls := "BenchBrokerLaw", name := "depositOf", desc := "(LBenchBroker;I)I" } : Jvm.MethodName)) ∈ GW := tq_6 19 rfl rfl
theorem wq_1221 : (Jvm.Cond.methodLink "BenchBrokerLaw" (110 : Nat) ({ cls := "BenchBroker", name := "depositOf", desc := "(I)I" } : Jvm.MethodName)) ∈ GW := tq_6 21 rfl rfl
theorem wq_1222 : (Jvm.Cond.instanceMethod ({ cls := "BenchBroker", name := "depositOf", desc := "(I)I" } : Jvm.MethodName)) ∈ GW := tq_6 22 rfl rfl
theorem wq_1223 : (Jvm.Cond.selects "BenchBroker" ({ cls := "BenchBroker", name := "depositOf", desc := "(I)I" } : Jvm.MethodName) ({ cls := "BenchBroker", name := "depositOf", desc := "(I)I" } : Jvm.MethodName)) ∈ GW := tq_6 23 rfl rfl
theorem wq_1224 : (Jvm.Cond.code ({ cls := "BenchBroker", name := "depositOf", desc := "(I)I" } : Jvm.MethodName) prog_1_method_34_code (2 : Nat) (Option.some Jvm.ClassFile.FieldType.int)) ∈ GW := tq_6 24 rfl rfl
theorem wq_1225 : (Jvm.Cond.methodLink "BenchBrokerLaw" (352 : Nat) ({ cls := "BenchBrokerLaw", name := "loudnessOf", desc := "(LBenchBroker;I)I" } : Jvm.MethodName)) ∈ GW := tq_6 25 rfl rfl
theorem wq_1226 : (Jvm.Cond.static ({ cls := "BenchBrokerLaw", name := "loudnessOf", desc := "(LBenchBroker;I)I" } : Jvm.MethodName)) ∈ GW := tq_6 26 rfl rfl
theorem wq_1228 : (Jvm.Cond.methodLink "BenchBrokerLaw" (56 : Nat) ({ cls := "BenchBroker", name := "loudnessOf", desc := "(I)I" } : Jvm.MethodName)) ∈ GW := tq_6 28 rfl rfl
theorem wq_1229 : (Jvm.Cond.instanceMethod ({ cls := "BenchBroker", name := "loudnessOf", desc := "(I)I" } : Jvm.MethodName)) ∈ GW := tq_6 29 rfl rfl
theorem wq_1230 : (Jvm.Cond.selects "BenchBroker" ({ cls := "BenchBroker", name := "loudnessOf", desc := "(I)I" } : Jvm.MethodName) ({ cls := "BenchBroker", name := "loudnessOf", desc := "(I)I" } : Jvm.MethodName)) ∈ GW := tq_6 30 rfl rfl
theorem wq_1231 : (Jvm.Cond.code ({ cls := "BenchBroker", name := "loudnessOf", desc := "(I)I" } : Jvm.MethodName) prog_1_method_14_code (2 : Nat) (Option.some Jvm.ClassFile.FieldType.int)) ∈ GW := tq_6 31 rfl rfl
theorem wq_1232 : (Jvm.Cond.methodLink "BenchBroker" (132 : Nat) ({ cls := "BenchBroker", name := "needFountain", desc := "(I)V" } : Jvm.MethodName)) ∈ GW := tq_6 32 rfl rfl
theorem wq_1234 : (Jvm.Cond.instanceMethod ({ cls := "BenchBroker", name := "needFountain", desc := "(I)V" } : Jvm.MethodName)) ∈ GW := tq_6 34 rfl rfl
theorem wq_1235 : (Jvm.Cond.code ({ cls := "BenchBroker", name := "needFountain", desc := "(I)V" } : Jvm.MethodName) prog_1_method_67_code (2 : Nat) (Option.none : Option Jvm.ClassFile.FieldType)) ∈ GW := tq_6 35 rfl rfl
theorem wq_1236 : (Jvm.Cond.methodLink "BenchBroker" (354 : Nat) ({ cls := "BenchBroker$Park", name := "hasFountain", desc := "(I)Z" } : Jvm.MethodName)) ∈ GW := tq_6 36 rfl rfl
theorem wq_1237 : (Jvm.Cond.methodLink "BenchBrokerLaw" (354 : Nat) ({ cls := "BenchBrokerLaw", name := "isRunning", desc := "(LBenchBroker;I)I" } : Jvm.MethodName)) ∈ GW := tq_6 37 rfl rfl
theorem wq_1238 : (Jvm.Cond.static ({ cls := "BenchBrokerLaw", name := "isRunning", desc := "(LBenchBroker;I)I" } : Jvm.MethodName)) ∈ GW := tq_6 38 rfl rfl
theorem wq_1240 : (Jvm.Cond.methodLink "BenchBrokerLaw" (59 : Nat) ({ cls := "BenchBroker", name := "isRunning", desc := "(I)Z" } : Jvm.MethodName)) ∈ GW := tq_6 40 rfl rfl
theorem wq_1241 : (Jvm.Cond.instanceMethod ({ cls := "BenchBroker", name := "isRunning", desc := "(I)Z" } : Jvm.MethodName)) ∈ GW := tq_6 41 rfl rfl
theorem wq_1242 : (Jvm.Cond.selects "BenchBroker" ({ cls := "BenchBroker", name := "isRunning", desc := "(I)Z" } : Jvm.MethodName) ({ cls := "BenchBroker", name := "isRunning", desc := "(I)Z" } : Jvm.MethodName)) ∈ GW := tq_6 42 rfl rfl
theorem wq_1243 : (Jvm.Cond.code ({ cls := "BenchBroker", name := "isRunning", desc := "(I)Z" } : Jvm.MethodName) prog_1_method_15_code (2 : Nat) (Option.some Jvm.ClassFile.FieldType.boolean)) ∈ GW := tq_6 43 rfl rfl
theorem wq_1244 : (Jvm.Cond.methodLink "BenchBrokerLaw" (356 : Nat) ({ cls := "BenchBrokerLaw", name := "coinsOf", desc := "(LBenchBroker;I)I" } : Jvm.MethodName)) ∈ GW := tq_6 44 rfl rfl
theorem wq_1245 : (Jvm.Cond.static ({ cls := "BenchBrokerLaw", name := "coinsOf", desc := "(LBenchBroker;I)I" } : Jvm.MethodName)) ∈ GW := tq_6 45 rfl rfl
theorem wq_1247 : (Jvm.Cond.methodLink "BenchBrokerLaw" (77 : Nat) ({ cls := "BenchBroker", name := "coinsOf", desc := "(I)I" } : Jvm.MethodName)) ∈ GW := tq_6 47 rfl rfl
theorem wq_1248 : (Jvm.Cond.instanceMethod ({ cls := "BenchBroker", name := "coinsOf", desc := "(I)I" } : Jvm.MethodName)) ∈ GW := tq_6 48 rfl rfl
theorem wq_1249 : (Jvm.Cond.selects "BenchBroker" ({ cls := "BenchBroker", name := "coinsOf", desc := "(I)I" } : Jvm.MethodName) ({ cls := "BenchBroker", name := "coinsOf", desc := "(I)I" } : Jvm.MethodName)) ∈ GW := tq_6 49 rfl rfl
theorem wq_1250 : (Jvm.Cond.code ({ cls := "BenchBroker", name := "coinsOf", desc := "(I)I" } : Jvm.MethodName) prog_1_method_24_code (2 : Nat) (Option.some Jvm.ClassFile.FieldType.int)) ∈ GW := tq_6 50 rfl rfl
theorem wq_1251 : (Jvm.Cond.methodLink "BenchBrokerLaw" (358 : Nat) ({ cls := "BenchBrokerLaw", name := "defaultsOf", desc := "(LBenchBroker;I)I" } : Jvm.MethodName)) ∈ GW := tq_6 51 rfl rfl
theorem wq_1252 : (Jvm.Cond.static ({ cls := "BenchBrokerLaw", name := "defaultsOf", desc := "(LBenchBroker;I)I" } : Jvm.MethodName)) ∈ GW := tq_6 52 rfl rfl
theorem wq_1254 : (Jvm.Cond.methodLink "BenchBrokerLaw" (80 : Nat) ({ cls := "BenchBroker", name := "defaultsOf", desc := "(I)I" } : Jvm.MethodName)) ∈ GW := tq_6 54 rfl rfl
theorem wq_1255 : (Jvm.Cond.instanceMethod ({ cls := "BenchBroker", name := "defaultsOf", desc := "(I)I" } : Jvm.MethodName)) ∈ GW := tq_6 55 rfl rfl
theorem wq_1256 : (Jvm.Cond.selects "BenchBroker" ({ cls := "BenchBroker", name := "defaultsOf", desc := "(I)I" } : Jvm.MethodName) ({ cls := "BenchBroker", name := "defaultsOf", desc := "(I)I" } : Jvm.MethodName)) ∈ GW := tq_6 56 rfl rfl
theorem wq_1257 : (Jvm.Cond.code ({ cls := "BenchBroker", name := "defaultsOf", desc := "(I)I" } : Jvm.MethodName) prog_1_method_25_code (2 : Nat) (Option.some Jvm.ClassFile.FieldType.int)) ∈ GW := tq_6 57 rfl rfl
theorem wq_1258 : (Jvm.Cond.methodLink "BenchBrokerLaw" (360 : Nat) ({ cls := "BenchBrokerLaw", name := "writeRow", desc := "(LBenchBroker;I)I" } : Jvm.MethodName)) ∈ GW := tq_6 58 rfl rfl
theorem wq_1259 : (Jvm.Cond.static ({ cls := "BenchBrokerLaw", name := "writeRow", desc := "(LBenchBroker;I)I" } : Jvm.MethodName)) ∈ GW := tq_6 59 rfl rfl
theorem wq_1261 : (Jvm.Cond.methodLink "BenchBrokerLaw" (150 : Nat) ({ cls := "BenchBroker", name := "writeRow", desc := "(I)I" } : Jvm.MethodName)) ∈ GW := tq_6 61 rfl rfl
theorem wq_1262 : (Jvm.Cond.instanceMethod ({ cls := "BenchBroker", name := "writeRow", desc := "(I)I" } : Jvm.MethodName)) ∈ GW := tq_6 62 rfl rfl
theorem wq_1263 : (Jvm.Cond.selects "BenchBroker" ({ cls := "BenchBroker", name := "writeRow", desc := "(I)I" } : Jvm.MethodName) ({ cls := "BenchBroker", name := "writeRow", desc := "(I)I" } : Jvm.MethodName)) ∈ GW := tq_6 63 rfl rfl
theorem wq_1264 : (Jvm.Cond.code ({ cls := "BenchBroker", name := "writeRow", desc := "(I)I" } : Jvm.MethodName) prog_1_method_54_code (3 : Nat) (Option.some Jvm.ClassFile.FieldType.int)) ∈ GW := tq_6 64 rfl rfl
theorem wq_1265 : (Jvm.Cond.methodLink "BenchBroker" (145 : Nat) ({ cls := "BenchBroker", name := "needCell", desc := "(II)V" } : Jvm.MethodName)) ∈ GW := tq_6 65 rfl rfl
theorem wq_1267 : (Jvm.Cond.instanceMethod ({ cls := "BenchBroker", name := "needCell", desc := "(II)V" } : Jvm.MethodName)) ∈ GW := tq_6 67 rfl rfl
theorem wq_1268 : (Jvm.Cond.code ({ cls := "BenchBroker", name := "needCell", desc := "(II)V" } : Jvm.MethodName) prog_1_method_65_code (3 : Nat) (Option.none : Option Jvm.ClassFile.FieldType)) ∈ GW := tq_6 68 rfl rfl
theorem wq_1269 : (Jvm.Cond.methodLink "BenchBroker" (347 : Nat) ({ cls := "BenchBroker$Park", name := "hasCell", desc := "(II)Z" } : Jvm.MethodName)) ∈ GW := tq_6 69 rfl rfl
theorem wq_1270 : (Jvm.Cond.methodLink "BenchBroker" (276 : Nat) ({ cls := "java/lang/StringBuilder", name := "setLength", desc := "(I)V" } : Jvm.MethodName)) ∈ GW := tq_6 70 rfl rfl
theorem wq_1271 : (Jvm.Cond.instanceMethod ({ cls := "java/lang/StringBuilder", name := "setLength", desc := "(I)V" } : Jvm.MethodName)) ∈ GW := tq_6 71 rfl rfl
theorem wq_1272 : (Jvm.Cond.selects "java/lang/StringBuilder" ({ cls := "java/lang/StringBuilder", name := "setLength", desc := "(I)V" } : Jvm.MethodName) ({ cls := "java/lang/StringBuilder", name := "setLength", desc := "(I)V" } : Jvm.MethodName)) ∈ GW := tq_6 72 rfl rfl
theorem wq_1273 : (Jvm.Cond.code ({ cls := "java/lang/StringBuilder", name := "setLength", desc := "(I)V" } : Jvm.MethodName) prog_30_method_89_code (2 : Nat) (Option.none : Option Jvm.ClassFile.FieldType)) ∈ GW := tq_6 73 rfl rfl
theorem wq_1274 : (Jvm.Cond.methodLink "java/lang/StringBuilder" (333 : Nat) ({ cls := "java/lang/AbstractStringBuilder", name := "setLength", desc := "(I)V" } : Jvm.MethodName)) ∈ GW := tq_6 74 rfl rfl
theorem wq_1275 : (Jvm.Cond.instanceMethod ({ cls := "java/lang/AbstractStringBuilder", name := "setLength", desc := "(I)V" } : Jvm.MethodName)) ∈ GW := tq_6 75 rfl rfl
theorem wq_1276 : (Jvm.Cond.code ({ cls := "java/lang/AbstractStringBuilder", name := "setLength", desc := "(I)V" } : Jvm.MethodName) prog_13_method_13_code (2 : Nat) (Option.none : Option Jvm.ClassFile.FieldType)) ∈ GW := tq_6 76 rfl rfl
theorem wq_1277 : (Jvm.Cond.classLink "java/lang/AbstractStringBuilder" (129 : Nat) "java/lang/StringIndexOutOfBoundsException") ∈ GW := tq_6 77 rfl rfl
theorem wq_1278 : (Jvm.Cond.instantiable "java/lang/StringIndexOutOfBoundsException" (6 : Nat)) ∈ GW := tq_6 78 rfl rfl
theorem wq_1279 : (Jvm.Cond.methodLink "java/lang/AbstractStringBuilder" (131 : Nat) ({ cls := "java/lang/StringIndexOutOfBoundsException", name := "<init>", desc := "(I)V" } : Jvm.MethodName)) ∈ GW := tq_6 79 rfl rfl
theorem wq_1280 : (Jvm.Cond.instanceMethod ({ cls := "java/lang/StringIndexOutOfBoundsException", name := "<init>", desc := "(I)V" } : Jvm.MethodName)) ∈ GW := tq_6 80 rfl rfl
theorem wq_1281 : (Jvm.Cond.code ({ cls := "java/lang/StringIndexOutOfBoundsException", name := "<init>", desc := "(I)V" } : Jvm.MethodName) prog_31_method_3_code (2 : Nat) (Option.none : Option Jvm.ClassFile.FieldType)) ∈ GW := tq_6 81 rfl rfl
theorem wq_1282 : (Jvm.Cond.classLink "java/lang/StringIndexOutOfBoundsException" (10 : Nat) "java/lang/StringBuilder") ∈ GW := tq_6 82 rfl rfl
theorem wq_1283 : (Jvm.Cond.methodLink "java/lang/StringIndexOutOfBoundsException" (12 : Nat) ({ cls := "java/lang/StringBuilder", name := "<init>", desc := "()V" } : Jvm.MethodName)) ∈ GW := tq_6 83 rfl rfl
theorem wq_1285 : (Jvm.Cond.methodLink "java/lang/StringIndexOutOfBoundsException" (15 : Nat) ({ cls := "java/lang/StringBuilder", name := "append", desc := "(Ljava/lang/String;)Ljava/lang/StringBuilder;" } : Jvm.MethodName)) ∈ GW := tq_6 85 rfl rfl
theorem wq_1286 : (Jvm.Cond.methodLink "java/lang/StringIndexOutOfBoundsException" (19 : Nat) ({ cls := "java/lang/StringBuilder", name := "append", desc := "(I)Ljava/lang/StringBuilder;" } : Jvm.MethodName)) ∈ GW := tq_6 86 rfl rfl
theorem wq_1287 : (Jvm.Cond.methodLink "java/lang/StringIndexOutOfBoundsException" (22 : Nat) ({ cls := "java/lang/StringBuilder", name := "toString", desc := "()Ljava/lang/String;" } : Jvm.MethodName)) ∈ GW := tq_6 87 rfl rfl
theorem wq_1288 : (Jvm.Cond.methodLink "java/lang/StringIndexOutOfBoundsException" (7 : Nat) ({ cls := "java/lang/IndexOutOfBoundsException", name := "<init>", desc := "(Ljava/lang/String;)V" } : Jvm.MethodName)) ∈ GW := tq_6 88 rfl rfl
theorem wq_1289 : (Jvm.Cond.lays "java/lang/StringIndexOutOfBoundsException" "java/lang/Throwable" "backtrace" "Ljava/lang/Object;") ∈ GW := tq_6 89 rfl rfl
theorem wq_1290 : (Jvm.Cond.lays "java/lang/StringIndexOutOfBoundsException" "java/lang/Throwable" "detailMessage" "Ljava/lang/String;") ∈ GW := tq_6 90 rfl rfl
theorem wq_1291 : (Jvm.Cond.lays "java/lang/StringIndexOutOfBoundsException" "java/lang/Throwable" "cause" "Ljava/lang/Throwable;") ∈ GW := tq_6 91 rfl rfl
theorem wq_1292 : (Jvm.Cond.lays "java/lang/StringIndexOutOfBoundsException" "java/lang/Throwable" "stackTrace" "[Ljava/lang/StackTraceElement;") ∈ GW := tq_6 92 rfl rfl
theorem wq_1293 : (Jvm.Cond.lays "java/lang/StringIndexOutOfBoundsException" "java/lang/Throwable" "depth" "I") ∈ GW := tq_6 93 rfl rfl
theorem wq_1294 : (Jvm.Cond.lays "java/lang/StringIndexOutOfBoundsException" "java/lang/Throwable" "suppressedExceptions" "Ljava/util/List;") ∈ GW := tq_6 94 rfl rfl
theorem wq_1295 : (Jvm.Cond.superclass "java/lang/StringIndexOutOfBoundsException" "java/lang/IndexOutOfBoundsException") ∈ GW := tq_6 95 rfl rfl
theorem wq_1296 : (Jvm.Cond.methodLink "java/lang/AbstractStringBuilder" (133 : Nat) ({ cls := "java/lang/StringLatin1", name := "fillNull", desc := "([BII)V" } : Jvm.MethodName)) ∈ GW := tq_6 96 rfl rfl
theorem wq_1297 : (Jvm.Cond.static ({ cls := "java/lang/StringLatin1", name := "fillNull", desc := "([BII)V" } : Jvm.MethodName)) ∈ GW := tq_6 97 rfl rfl
theorem wq_1298 : (Jvm.Cond.code ({ cls := "java/lang/StringLatin1", name := "fillNull", desc := "([BII)V" } : Jvm.MethodName) prog_32_method_48_code (3 : Nat) (Option.none : Option Jvm.ClassFile.FieldType)) ∈ GW := tq_6 98 rfl rfl
theorem wq_1299 : (Jvm.Cond.methodLink "java/lang/StringLatin1" (236 : Nat) ({ cls := "java/util/Arrays", name := "fill", desc := "([BIIB)V" } : Jvm.MethodName)) ∈ GW := tq_6 99 rfl rfl
theorem wq_1300 : (Jvm.Cond.static ({ cls := "java/util/Arrays", name := "fill", desc := "([BIIB)V" } : Jvm.MethodName)) ∈ GW := tq_6 100 rfl rfl
theorem wq_1301 : (Jvm.Cond.code ({ cls := "java/util/Arrays", name := "fill", desc := "([BIIB)V" } : Jvm.MethodName) prog_39_method_110_code (5 : Nat) (Option.none : Option Jvm.ClassFile.FieldType)) ∈ GW := tq_6 101 rfl rfl
theorem wq_1302 : (Jvm.Cond.methodLink "java/util/Arrays" (13 : Nat) ({ cls := "java/util/Arrays", name := "rangeCheck", desc := "(III)V" } : Jvm.MethodName)) ∈ GW := tq_6 102 rfl rfl
theorem wq_1303 : (Jvm.Cond.static ({ cls := "java/util/Arrays", name := "rangeCheck", desc := "(III)V" } : Jvm.MethodName)) ∈ GW := tq_6 103 rfl rfl
theorem wq_1304 : (Jvm.Cond.code ({ cls := "java/util/Arrays", name := "rangeCheck", desc := "(III)V" } : Jvm.MethodName) prog_39_method_30_code (3 : Nat) (Option.none : Option Jvm.ClassFile.FieldType)) ∈ GW := tq_6 104 rfl rfl
theorem wq_1308 : (Jvm.Cond.classLink "java/util/Arrays" (68 : Nat) "java/lang/ArrayIndexOutOfBoundsException") ∈ GW := tq_6 108 rfl rfl
theorem wq_1309 : (Jvm.Cond.methodLink "java/util/Arrays" (70 : Nat) ({ cls := "java/lang/ArrayIndexOutOfBoundsException", name := "<init>", desc := "(I)V" } : Jvm.MethodName)) ∈ GW := tq_6 109 rfl rfl
theorem wq_1310 : (Jvm.Cond.instanceMethod ({ cls := "java/lang/ArrayIndexOutOfBoundsException", name := "<init>", desc := "(I)V" } : Jvm.MethodName)) ∈ GW := tq_6 110 rfl rfl
theorem wq_1311 : (Jvm.Cond.code ({ cls := "java/lang/ArrayIndexOutOfBoundsException", name := "<init>", desc := "(I)V" } : Jvm.MethodName) prog_16_method_3_code (2 : Nat) (Option.none : Option Jvm.ClassFile.FieldType)) ∈ GW := tq_6 111 rfl rfl
theorem wq_1312 : (Jvm.Cond.classLink "java/lang/ArrayIndexOutOfBoundsException" (10 : Nat) "java/lang/StringBuilder") ∈ GW := tq_6 112 rfl rfl
theorem wq_1313 : (Jvm.Cond.methodLink "java/lang/ArrayIndexOutOfBoundsException" (12 : Nat) ({ cls := "java/lang/StringBuilder", name := "<init>", desc := "()V" } : Jvm.MethodName)) ∈ GW := tq_6 113 rfl rfl
theorem wq_1315 : (Jvm.Cond.methodLink "java/lang/ArrayIndexOutOfBoundsException" (15 : Nat) ({ cls := "java/lang/StringBuilder", name := "append", desc := "(Ljava/lang/String;)Ljava/lang/StringBuilder;" } : Jvm.MethodName)) ∈ GW := tq_6 115 rfl rfl
theorem wq_1316 : (Jvm.Cond.methodLink "java/lang/ArrayIndexOutOfBoundsException" (19 : Nat) ({ cls := "java/lang/StringBuilder", name := "append", desc := "(I)Ljava/lang/StringBuilder;" } : Jvm.MethodName)) ∈ GW := tq_6 116 rfl rfl
theorem wq_1317 : (Jvm.Cond.methodLink "java/lang/ArrayIndexOutOfBoundsException" (22 : Nat) ({ cls := "java/lang/StringBuilder", name := "toString", desc := "()Ljava/lang/String;" } : Jvm.MethodName)) ∈ GW := tq_6 117 rfl rfl
theorem wq_1318 : (Jvm.Cond.methodLink "java/lang/AbstractStringBuilder" (137 : Nat) ({ cls := "java/lang/StringUTF16", name := "fillNull", desc := "([BII)V" } : Jvm.MethodName)) ∈ GW := tq_6 118 rfl rfl
theorem wq_1319 : (Jvm.Cond.static ({ cls := "java/lang/StringUTF16", name := "fillNull", desc := "([BII)V" } : Jvm.MethodName)) ∈ GW := tq_6 119 rfl rfl
theorem wq_1320 : (Jvm.Cond.code ({ cls := "java/lang/StringUTF16", name := "fillNull", desc := "([BII)V" } : Jvm.MethodName) prog_33_method_70_code (3 : Nat) (Option.none : Option Jvm.ClassFile.FieldType)) ∈ GW := tq_6 120 rfl rfl
theorem wq_1321 : (Jvm.Cond.methodLink "java/lang/StringUTF16" (380 : Nat) ({ cls := "java/util/Arrays", name := "fill", desc := "([BIIB)V" } : Jvm.MethodName)) ∈ GW := tq_6 121 rfl rfl
theorem wq_1322 : (Jvm.Cond.methodLink "BenchBroker" (289 : Nat) ({ cls := "BenchBroker$Park", name := "signAt", desc := "(II)C" } : Jvm.MethodName)) ∈ GW := tq_6 122 rfl rfl
theorem wq_1323 : (Jvm.Cond.instanceMethod ({ cls := "BenchBroker$Park", name := "signAt", desc := "(II)C" } : Jvm.MethodName)) ∈ GW := tq_6 123 rfl rfl
theorem wq_1324 : (Jvm.Cond.selects "BenchBroker$Park" ({ cls := "BenchBroker$Park", name := "signAt", desc := "(II)C" } : Jvm.MethodName) ({ cls := "BenchBroker$Park", name := "signAt", desc := "(II)C" } : Jvm.MethodName)) ∈ GW := tq_6 124 rfl rfl
theorem wq_1325 : (Jvm.Cond.code ({ cls := "BenchBroker$Park", name := "signAt", desc := "(II)C" } : Jvm.MethodName) prog_8_method_12_code (4 : Nat) (Option.some Jvm.ClassFile.FieldType.char)) ∈ GW := tq_6 125 rfl rfl
theorem wq_1326 : (Jvm.Cond.methodLink "BenchBroker" (283 : Nat) ({ cls := "java/lang/StringBuilder", name := "append", desc := "(C)Ljava/lang/StringBuilder;" } : Jvm.MethodName)) ∈ GW := tq_6 126 rfl rfl
theorem wq_1327 : (Jvm.Cond.instanceMethod ({ cls := "java/lang/StringBuilder", name := "append", desc := "(C)Ljava/lang/StringBuilder;" } : Jvm.MethodName)) ∈ GW := tq_6 127 rfl rfl
theorem wq_1328 : (Jvm.Cond.selects "java/lang/StringBuilder" ({ cls := "java/lang/StringBuilder", name := "append", desc := "(C)Ljava/lang/StringBuilder;" } : Jvm.MethodName) ({ cls := "java/lang/StringBuilder", name := "append", desc := "(C)Ljava/lang/StringBuilder;" } : Jvm.MethodName)) ∈ GW := tq_6 128 rfl rfl
theorem wq_1329 : (Jvm.Cond.code ({ cls := "java/lang/StringBuilder", name := "append", desc := "(C)Ljava/lang/StringBuilder;" } : Jvm.MethodName) prog_30_method_14_code (2 : Nat) (Option.some (Jvm.ClassFile.FieldType.object "java/lang/StringBuilder"))) ∈ GW := tq_6 129 rfl rfl
theorem wq_1330 : (Jvm.Cond.methodLink "java/lang/StringBuilder" (50 : Nat) ({ cls := "java/lang/AbstractStringBuilder", name := "append", desc := "(C)Ljava/lang/AbstractStringBuilder;" } : Jvm.MethodName)) ∈ GW := tq_6 130 rfl rfl
theorem wq_1331 : (Jvm.Cond.instanceMethod ({ cls := "java/lang/AbstractStringBuilder", name := "append", desc := "(C)Ljava/lang/AbstractStringBuilder;" } : Jvm.MethodName)) ∈ GW := tq_6 131 rfl rfl
theorem wq_1332 : (Jvm.Cond.code ({ cls := "java/lang/AbstractStringBuilder", name := "append", desc := "(C)Ljava/lang/AbstractStringBuilder;" } : Jvm.MethodName) prog_13_method_31_code (2 : Nat) (Option.some (Jvm.ClassFile.FieldType.object "java/lang/AbstractStringBuilder"))) ∈ GW := tq_6 132 rfl rfl
theorem wq_1333 : (Jvm.Cond.methodLink "java/lang/AbstractStringBuilder" (191 : Nat) ({ cls := "java/lang/StringLatin1", name := "canEncode", desc := "(C)Z" } : Jvm.MethodName)) ∈ GW := tq_6 133 rfl rfl
theorem wq_1334 : (Jvm.Cond.static ({ cls := "java/lang/StringLatin1", name := "canEncode", desc := "(C)Z" } : Jvm.MethodName)) ∈ GW := tq_6 134 rfl rfl
theorem wq_1335 : (Jvm.Cond.code ({ cls := "java/lang/StringLatin1", name := "canEncode", desc := "(C)Z" } : Jvm.MethodName) prog_32_method_3_code (1 : Nat) (Option.some Jvm.ClassFile.FieldType.boolean)) ∈ GW := tq_6 135 rfl rfl
theorem wq_1336 : (Jvm.Cond.methodLink "java/lang/AbstractStringBuilder" (197 : Nat) ({ cls := "java/lang/StringUTF16", name := "putCharSB", desc := "([BII)V" } : Jvm.MethodName)) ∈ GW := tq_6 136 rfl rfl
theorem wq_1337 : (Jvm.Cond.static ({ cls := "java/lang/StringUTF16", name := "putCharSB", desc := "([BII)V" } : Jvm.MethodName)) ∈ GW := tq_6 137 rfl rfl
theorem wq_1338 : (Jvm.Cond.code ({ cls := "java/lang/StringUTF16", name := "putCharSB", desc := "([BII)V" } : Jvm.MethodName) prog_33_method_71_code (3 : Nat) (Option.none : Option Jvm.ClassFile.FieldType)) ∈ GW := tq_6 138 rfl rfl
theorem wq_1339 : (Jvm.Cond.methodLink "BenchBroker" (286 : Nat) ({ cls := "java/lang/StringBuilder", name := "length", desc := "()I" } : Jvm.MethodName)) ∈ GW := tq_6 139 rfl rfl
theorem wq_1340 : (Jvm.Cond.methodLink "BenchBrokerLaw" (205 : Nat) ({ cls := "BenchBrokerLaw", name := "outputAt", desc := "(LBenchBroker;I)I" } : Jvm.MethodName)) ∈ GW := tq_6 140 rfl rfl
theorem wq_1341 : (Jvm.Cond.static ({ cls := "BenchBrokerLaw", name := "outputAt", desc := "(LBenchBroker;I)I" } : Jvm.MethodName)) ∈ GW := tq_6 141 rfl rfl
theorem wq_1343 : (Jvm.Cond.methodLink "BenchBrokerLaw" (153 : Nat) ({ cls := "BenchBroker", name := "outputAt", desc := "(I)C" } : Jvm.MethodName)) ∈ GW := tq_6 143 rfl rfl
theorem wq_1344 : (Jvm.Cond.instanceMethod ({ cls := "BenchBroker", name := "outputAt", desc := "(I)C" } : Jvm.MethodName)) ∈ GW := tq_6 144 rfl rfl
theorem wq_1345 : (Jvm.Cond.selects "BenchBroker" ({ cls := "BenchBroker", name := "outputAt", desc := "(I)C" } : Jvm.MethodName) ({ cls := "BenchBroker", name := "outputAt", desc := "(I)C" } : Jvm.MethodName)) ∈ GW := tq_6 145 rfl rfl
theorem wq_1346 : (Jvm.Cond.code ({ cls := "BenchBroker", name := "outputAt", desc := "(I)C" } : Jvm.MethodName) prog_1_method_55_code (2 : Nat) (Option.some Jvm.ClassFile.FieldType.char)) ∈ GW := tq_6 146 rfl rfl
theorem wq_1347 : (Jvm.Cond.methodLink "BenchBroker" (296 : Nat) ({ cls := "java/lang/StringBuilder", name := "charAt", desc := "(I)C" } : Jvm.MethodName)) ∈ GW := tq_6 147 rfl rfl
theorem wq_1348 : (Jvm.Cond.instanceMethod ({ cls := "java/lang/StringBuilder", name := "charAt", desc := "(I)C" } : Jvm.MethodName)) ∈ GW := tq_6 148 rfl rfl
theorem wq_1349 : (Jvm.Cond.selects "java/lang/StringBuilder" ({ cls := "java/lang/StringBuilder", name := "charAt", desc := "(I)C" } : Jvm.MethodName) ({ cls := "java/lang/StringBuilder", name := "charAt", desc := "(I)C" } : Jvm.MethodName)) ∈ GW := tq_6 149 rfl rfl
theorem wq_1350 : (Jvm.Cond.code ({ cls := "java/lang/StringBuilder", name := "charAt", desc := "(I)C" } : Jvm.MethodName) prog_30_method_88_code (2 : Nat) (Option.some Jvm.ClassFile.FieldType.char)) ∈ GW := tq_6 150 rfl rfl
theorem wq_1351 : (Jvm.Cond.methodLink "java/lang/StringBuilder" (329 : Nat) ({ cls := "java/lang/AbstractStringBuilder", name := "charAt", desc := "(I)C" } : Jvm.MethodName)) ∈ GW := tq_6 151 rfl rfl
theorem wq_1352 : (Jvm.Cond.instanceMethod ({ cls := "java/lang/AbstractStringBuilder", name := "charAt", desc := "(I)C" } : Jvm.MethodName)) ∈ GW := tq_6 152 rfl rfl
theorem wq_1353 : (Jvm.Cond.code ({ cls := "java/lang/AbstractStringBuilder", name := "charAt", desc := "(I)C" } : Jvm.MethodName) prog_13_method_14_code (5 : Nat) (Option.some Jvm.ClassFile.FieldType.char)) ∈ GW := tq_6 153 rfl rfl
theorem wq_1354 : (Jvm.Cond.methodLink "java/lang/AbstractStringBuilder" (138 : Nat) ({ cls := "java/lang/Math", name := "min", desc := "(II)I" } : Jvm.MethodName)) ∈ GW := tq_6 154 rfl rfl
theorem wq_1355 : (Jvm.Cond.methodLink "java/lang/AbstractStringBuilder" (144 : Nat) ({ cls := "java/lang/String", name := "checkIndex", desc := "(II)V" } : Jvm.MethodName)) ∈ GW := tq_6 155 rfl rfl
theorem wq_1356 : (Jvm.Cond.methodLink "java/lang/AbstractStringBuilder" (148 : Nat) ({ cls := "java/lang/StringUTF16", name := "getChar", desc := "([BI)C" } : Jvm.MethodName)) ∈ GW := tq_6 156 rfl rfl
theorem wq_1357 : (Jvm.Cond.methodLink "BenchBrokerLaw" (250 : Nat) ({ cls := "BenchBrokerLaw", name := "isWhole", desc := "(LBenchBroker;[IIZ)Z" } : Jvm.MethodName)) ∈ GW := tq_6 157 rfl rfl
theorem wq_1358 : (Jvm.Cond.static ({ cls := "BenchBrokerLaw", name := "isWhole", desc := "(LBenchBroker;[IIZ)Z" } : Jvm.MethodName)) ∈ GW := tq_6 158 rfl rfl
theorem wq_1359 : (Jvm.Cond.code ({ cls := "BenchBrokerLaw", name := "isWhole", desc := "(LBenchBroker;[IIZ)Z" } : Jvm.MethodName) method_62_code (17 : Nat) (Option.some Jvm.ClassFile.FieldType.boolean)) ∈ GW := tq_6 159 rfl rfl
theorem wq_1360 : (Jvm.Cond.methodLink "BenchBrokerLaw" (373 : Nat) ({ cls := "BenchBrokerLaw", name := "isBench", desc := "(LBenchBroker;I)Z" } : Jvm.MethodName)) ∈ GW := tq_6 160 rfl rfl
theorem wq_1361 : (Jvm.Cond.static ({ cls := "BenchBrokerLaw", name := "isBench", desc := "(LBenchBroker;I)Z" } : Jvm.MethodName)) ∈ GW := tq_6 161 rfl rfl
theorem wq_1362 : (Jvm.Cond.code ({ cls := "BenchBrokerLaw", name := "isBench", desc := "(LBenchBroker;I)Z" } : Jvm.MethodName) method_60_code (10 : Nat) (Option.some Jvm.ClassFile.FieldType.boolean)) ∈ GW := tq_6 162 rfl rfl
theorem wq_1363 : (Jvm.Cond.methodLink "BenchBrokerLaw" (362 : Nat) ({ cls := "BenchBrokerLaw", name := "noiseAt", desc := "(LBenchBroker;II)I" } : Jvm.MethodName)) ∈ GW := tq_6 163 rfl rfl
theorem wq_1364 : (Jvm.Cond.static ({ cls := "BenchBrokerLaw", name := "noiseAt", desc := "(LBenchBroker;II)I" } : Jvm.MethodName)) ∈ GW := tq_6 164 rfl rfl
theorem wq_1366 : (Jvm.Cond.methodLink "BenchBrokerLaw" (62 : Nat) ({ cls := "BenchBroker", name := "noiseAt", desc := "(II)I" } : Jvm.MethodName)) ∈ GW := tq_6 166 rfl rfl
theorem wq_1367 : (Jvm.Cond.instanceMethod ({ cls := "BenchBroker", name := "noiseAt", desc := "(II)I" } : Jvm.MethodName)) ∈ GW := tq_6 167 rfl rfl
theorem wq_1368 : (Jvm.Cond.selects "BenchBroker" ({ cls := "BenchBroker", name := "noiseAt", desc := "(II)I" } : Jvm.MethodName) ({ cls := "BenchBroker", name := "noiseAt", desc := "(II)I" } : Jvm.MethodName)) ∈ GW := tq_6 168 rfl rfl
theorem wq_1369 : (Jvm.Cond.code ({ cls := "BenchBroker", name := "noiseAt", desc := "(II)I" } : Jvm.MethodName) prog_1_method_17_code (3 : Nat) (Option.some Jvm.ClassFile.FieldType.int)) ∈ GW := tq_6 169 rfl rfl
theorem wq_1370 : (Jvm.Cond.methodLink "BenchBroker" (149 : Nat) ({ cls := "BenchBroker$Park", name := "noise", desc := "(II)I" } : Jvm.MethodName)) ∈ GW := tq_6 170 rfl rfl
theorem wq_1371 : (Jvm.Cond.methodLink "BenchBrokerLaw" (364 : Nat) ({ cls := "BenchBrokerLaw", name := "isQuiet", desc := "(LBenchBroker;I)I" } : Jvm.MethodName)) ∈ GW := tq_6 171 rfl rfl
theorem wq_1372 : (Jvm.Cond.static ({ cls := "BenchBrokerLaw", name := "isQuiet", desc := "(LBenchBroker;I)I" } : Jvm.MethodName)) ∈ GW := tq_6 172 rfl rfl
theorem wq_1374 : (Jvm.Cond.methodLink "BenchBrokerLaw" (68 : Nat) ({ cls := "BenchBroker", name := "isQuiet", desc := "(I)Z" } : Jvm.MethodName)) ∈ GW := tq_6 174 rfl rfl
theorem wq_1375 : (Jvm.Cond.instanceMethod ({ cls := "BenchBroker", name := "isQuiet", desc := "(I)Z" } : Jvm.MethodName)) ∈ GW := tq_6 175 rfl rfl
theorem wq_1376 : (Jvm.Cond.selects "BenchBroker" ({ cls := "BenchBroker", name := "isQuiet", desc := "(I)Z" } : Jvm.MethodName) ({ cls := "BenchBroker", name := "isQuiet", desc := "(I)Z" } : Jvm.MethodName)) ∈ GW := tq_6 176 rfl rfl
theorem wq_1377 : (Jvm.Cond.code ({ cls := "BenchBroker", name := "isQuiet", desc := "(I)Z" } : Jvm.MethodName) prog_1_method_19_code (2 : Nat) (Option.some Jvm.ClassFile.FieldType.boolean)) ∈ GW := tq_6 177 rfl rfl
theorem wq_1378 : (Jvm.Cond.methodLink "BenchBrokerLaw" (366 : Nat) ({ cls := "java/lang/Math", name := "max", desc := "(II)I" } : Jvm.MethodName)) ∈ GW := tq_6 178 rfl rfl
theorem wq_1379 : (Jvm.Cond.methodLink "BenchBrokerLaw" (377 : Nat) ({ cls := "BenchBrokerLaw", name := "benchByRent", desc := "(LBenchBroker;I)I" } : Jvm.MethodName)) ∈ GW := tq_6 179 rfl rfl
theorem wq_1380 : (Jvm.Cond.static ({ cls := "BenchBrokerLaw", name := "benchByRent", desc := "(LBenchBroker;I)I" } : Jvm.MethodName)) ∈ GW := tq_6 180 rfl rfl
theorem wq_1382 : (Jvm.Cond.methodLink "BenchBrokerLaw" (128 : Nat) ({ cls := "BenchBroker", name := "benchByRent", desc := "(I)I" } : Jvm.MethodName)) ∈ GW := tq_6 182 rfl rfl
theorem wq_1383 : (Jvm.Cond.instanceMethod ({ cls := "BenchBroker", name := "benchByRent", desc := "(I)I" } : Jvm.MethodName)) ∈ GW := tq_6 183 rfl rfl
theorem wq_1384 : (Jvm.Cond.selects "BenchBroker" ({ cls := "BenchBroker", name := "benchByRent", desc := "(I)I" } : Jvm.MethodName) ({ cls := "BenchBroker", name := "benchByRent", desc := "(I)I" } : Jvm.MethodName)) ∈ GW := tq_6 184 rfl rfl
theorem wq_1385 : (Jvm.Cond.code ({ cls := "BenchBroker", name := "benchByRent", desc := "(I)I" } : Jvm.MethodName) prog_1_method_48_code (3 : Nat) (Option.some Jvm.ClassFile.FieldType.int)) ∈ GW := tq_6 185 rfl rfl
theorem wq_1386 : (Jvm.Cond.methodLink "BenchBroker" (257 : Nat) ({ cls := "BenchBroker$Books", name := "benchesAhead", desc := "(I)I" } : Jvm.MethodName)) ∈ GW := tq_6 186 rfl rfl
theorem wq_1387 : (Jvm.Cond.instanceMethod ({ cls := "BenchBroker$Books", name := "benchesAhead", desc := "(I)I" } : Jvm.MethodName)) ∈ GW := tq_6 187 rfl rfl
theorem wq_1388 : (Jvm.Cond.selects "BenchBroker$Books" ({ cls := "BenchBroker$Books", name := "benchesAhead", desc := "(I)I" } : Jvm.MethodName) ({ cls := "BenchBroker$Books", name := "benchesAhead", desc := "(I)I" } : Jvm.MethodName)) ∈ GW := tq_6 188 rfl rfl
theorem wq_1389 : (Jvm.Cond.code ({ cls := "BenchBroker$Books", name := "benchesAhead", desc := "(I)I" } : Jvm.MethodName) prog_3_method_23_code (4 : Nat) (Option.some Jvm.ClassFile.FieldType.int)) ∈ GW := tq_6 189 rfl rfl
theorem wq_1390 : (Jvm.Cond.methodLink "BenchBroker$Books" (142 : Nat) ({ cls := "BenchBroker$Books", name := "benchComesFirst", desc := "(II)Z" } : Jvm.MethodName)) ∈ GW := tq_6 190 rfl rfl
theorem wq_1392 : (Jvm.Cond.instanceMethod ({ cls := "BenchBroker$Books", name := "benchComesFirst", desc := "(II)Z" } : Jvm.MethodName)) ∈ GW := tq_6 192 rfl rfl
theorem wq_1393 : (Jvm.Cond.code ({ cls := "BenchBroker$Books", name := "benchComesFirst", desc := "(II)Z" } : Jvm.MethodName) prog_3_method_24_code (5 : Nat) (Option.some Jvm.ClassFile.FieldType.boolean)) ∈ GW := tq_6 193 rfl rfl
theorem wq_1394 : (Jvm.Cond.methodLink "BenchBrokerLaw" (379 : Nat) ({ cls := "BenchBrokerLaw", name := "isTenant", desc := "(LBenchBroker;I)Z" } : Jvm.MethodName)) ∈ GW := tq_6 194 rfl rfl
theorem wq_1395 : (Jvm.Cond.static ({ cls := "BenchBrokerLaw", name := "isTenant", desc := "(LBenchBroker;I)Z" } : Jvm.MethodName)) ∈ GW := tq_6 195 rfl rfl
theorem wq_1396 : (Jvm.Cond.code ({ cls := "BenchBrokerLaw", name := "isTenant", desc := "(LBenchBroker;I)Z" } : Jvm.MethodName) method_61_code (7 : Nat) (Option.some Jvm.ClassFile.FieldType.boolean)) ∈ GW := tq_6 196 rfl rfl
theorem wq_1397 : (Jvm.Cond.methodLink "BenchBrokerLaw" (371 : Nat) ({ cls := "BenchBrokerLaw", name := "cheapestFor", desc := "(LBenchBroker;I)I" } : Jvm.MethodName)) ∈ GW := tq_6 197 rfl rfl
theorem wq_1398 : (Jvm.Cond.static ({ cls := "BenchBrokerLaw", name := "cheapestFor", desc := "(LBenchBroker;I)I" } : Jvm.MethodName)) ∈ GW := tq_6 198 rfl rfl
theorem wq_1400 : (Jvm.Cond.methodLink "BenchBrokerLaw" (92 : Nat) ({ cls := "BenchBroker", name := "cheapestFor", desc := "(I)I" } : Jvm.MethodName)) ∈ GW := tq_6 200 rfl rfl
theorem wq_1401 : (Jvm.Cond.instanceMethod ({ cls := "BenchBroker", name := "cheapestFor", desc := "(I)I" } : Jvm.MethodName)) ∈ GW := tq_6 201 rfl rfl
theorem wq_1402 : (Jvm.Cond.selects "BenchBroker" ({ cls := "BenchBroker", name := "cheapestFor", desc := "(I)I" } : Jvm.MethodName) ({ cls := "BenchBroker", name := "cheapestFor", desc := "(I)I" } : Jvm.MethodName)) ∈ GW := tq_6 202 rfl rfl
theorem wq_1403 : (Jvm.Cond.code ({ cls := "BenchBroker", name := "cheapestFor", desc := "(I)I" } : Jvm.MethodName) prog_1_method_28_code (3 : Nat) (Option.some Jvm.ClassFile.FieldType.int)) ∈ GW := tq_6 203 rfl rfl
theorem wq_1404 : (Jvm.Cond.methodLink "BenchBroker" (191 : Nat) ({ cls := "BenchBroker$Books", name := "cheapestBench", desc := "(I)I" } : Jvm.MethodName)) ∈ GW := tq_6 204 rfl rfl
theorem wq_1405 : (Jvm.Cond.instanceMethod ({ cls := "BenchBroker$Books", name := "cheapestBench", desc := "(I)I" } : Jvm.MethodName)) ∈ GW := tq_6 205 rfl rfl
theorem wq_1406 : (Jvm.Cond.selects "BenchBroker$Books" ({ cls := "BenchBroker$Books", name := "cheapestBench", desc := "(I)I" } : Jvm.MethodName) ({ cls := "BenchBroker$Books", name := "cheapestBench", desc := "(I)I" } : Jvm.MethodName)) ∈ GW := tq_6 206 rfl rfl
theorem wq_1407 : (Jvm.Cond.code ({ cls := "BenchBroker$Books", name := "cheapestBench", desc := "(I)I" } : Jvm.MethodName) prog_3_method_10_code (6 : Nat) (Option.some Jvm.ClassFile.FieldType.int)) ∈ GW := tq_6 207 rfl rfl
theorem wq_1408 : (Jvm.Cond.methodLink "BenchBrokerLaw" (382 : Nat) ({ cls := "BenchBrokerLaw", name := "tenantByCoins", desc := "(LBenchBroker;I)I" } : Jvm.MethodName)) ∈ GW := tq_6 208 rfl rfl
theorem wq_1409 : (Jvm.Cond.static ({ cls := "BenchBrokerLaw", name := "tenantByCoins", desc := "(LBenchBroker;I)I" } : Jvm.MethodName)) ∈ GW := tq_6 209 rfl rfl
theorem wq_1411 : (Jvm.Cond.methodLink "BenchBrokerLaw" (131 : Nat) ({ cls := "BenchBroker", name := "tenantByCoins", desc := "(I)I" } : Jvm.MethodName)) ∈ GW := tq_6 211 rfl rfl
theorem wq_1412 : (Jvm.Cond.instanceMethod ({ cls := "BenchBroker", name := "tenantByCoins", desc := "(I)I" } : Jvm.MethodName)) ∈ GW := tq_6 212 rfl rfl
theorem wq_1413 : (Jvm.Cond.selects "BenchBroker" ({ cls := "BenchBroker", name := "tenantByCoins", desc := "(I)I" } : Jvm.MethodName) ({ cls := "BenchBroker", name := "tenantByCoins", desc := "(I)I" } : Jvm.MethodName)) ∈ GW := tq_6 213 rfl rfl
theorem wq_1414 : (Jvm.Cond.code ({ cls := "BenchBroker", name := "tenantByCoins", desc := "(I)I" } : Jvm.MethodName) prog_1_method_49_code (3 : Nat) (Option.some Jvm.ClassFile.FieldType.int)) ∈ GW := tq_6 214 rfl rfl
theorem wq_1415 : (Jvm.Cond.methodLink "BenchBroker" (260 : Nat) ({ cls := "BenchBroker$Books", name := "tenantsAhead", desc := "(I)I" } : Jvm.MethodName)) ∈ GW := tq_6 215 rfl rfl
theorem wq_1416 : (Jvm.Cond.instanceMethod ({ cls := "BenchBroker$Books", name := "tenantsAhead", desc := "(I)I" } : Jvm.MethodName)) ∈ GW := tq_6 216 rfl rfl
theorem wq_1417 : (Jvm.Cond.selects "BenchBroker$Books" ({ cls := "BenchBroker$Books", name := "tenantsAhead", desc := "(I)I" } : Jvm.MethodName) ({ cls := "BenchBroker$Books", name := "tenantsAhead", desc := "(I)I" } : Jvm.MethodName)) ∈ GW := tq_6 217 rfl rfl
theorem wq_1418 : (Jvm.Cond.code ({ cls := "BenchBroker$Books", name := "tenantsAhead", desc := "(I)I" } : Jvm.MethodName) prog_3_method_25_code (4 : Nat) (Option.some Jvm.ClassFile.FieldType.int)) ∈ GW := tq_6 218 rfl rfl
theorem wq_1419 : (Jvm.Cond.methodLink "BenchBroker$Books" (146 : Nat) ({ cls := "BenchBroker$Books", name := "tenantComesFirst", desc := "(II)Z" } : Jvm.MethodName)) ∈ GW := tq_6 219 rfl rfl
theorem wq_1421 : (Jvm.Cond.instanceMethod ({ cls := "BenchBroker$Books", name := "tenantComesFirst", desc := "(II)Z" } : Jvm.MethodName)) ∈ GW := tq_6 221 rfl rfl
theorem wq_1422 : (Jvm.Cond.code ({ cls := "BenchBroker$Books", name := "tenantComesFirst", desc := "(II)Z" } : Jvm.MethodName) prog_3_method_26_code (3 : Nat) (Option.some Jvm.ClassFile.FieldType.boolean)) ∈ GW := tq_6 222 rfl rfl
theorem wq_1423 : (Jvm.Cond.methodLink "BenchBrokerLaw" (384 : Nat) ({ cls := "BenchBrokerLaw", name := "noiseBySpreading", desc := "(LBenchBroker;II)I" } : Jvm.MethodName)) ∈ GW := tq_6 223 rfl rfl
theorem wq_1424 : (Jvm.Cond.static ({ cls := "BenchBrokerLaw", name := "noiseBySpreading", desc := "(LBenchBroker;II)I" } : Jvm.MethodName)) ∈ GW := tq_6 224 rfl rfl
theorem wq_1426 : (Jvm.Cond.methodLink "BenchBrokerLaw" (65 : Nat) ({ cls := "BenchBroker", name := "noiseBySpreading", desc := "(II)I" } : Jvm.MethodName)) ∈ GW := tq_6 226 rfl rfl
theorem wq_1427 : (Jvm.Cond.instanceMethod ({ cls := "BenchBroker", name := "noiseBySpreading", desc := "(II)I" } : Jvm.MethodName)) ∈ GW := tq_6 227 rfl rfl
theorem wq_1428 : (Jvm.Cond.selects "BenchBroker" ({ cls := "BenchBroker", name := "noiseBySpreading", desc := "(II)I" } : Jvm.MethodName) ({ cls := "BenchBroker", name := "noiseBySpreading", desc := "(II)I" } : Jvm.MethodName)) ∈ GW := tq_6 228 rfl rfl
theorem wq_1429 : (Jvm.Cond.code ({ cls := "BenchBroker", name := "noiseBySpreading", desc := "(II)I" } : Jvm.MethodName) prog_1_method_18_code (3 : Nat) (Option.some Jvm.ClassFile.FieldType.int)) ∈ GW := tq_6 229 rfl rfl
theorem wq_1430 : (Jvm.Cond.methodLink "BenchBroker" (153 : Nat) ({ cls := "BenchBroker$NoiseMap", name := "spreadAll", desc := "(LBenchBroker$Park;)V" } : Jvm.MethodName)) ∈ GW := tq_6 230 rfl rfl
theorem wq_1431 : (Jvm.Cond.instanceMethod ({ cls := "BenchBroker$NoiseMap", name := "spreadAll", desc := "(LBenchBroker$Park;)V" } : Jvm.MethodName)) ∈ GW := tq_6 231 rfl rfl
theorem wq_1432 : (Jvm.Cond.selects "BenchBroker$NoiseMap" ({ cls := "BenchBroker$NoiseMap", name := "spreadAll", desc := "(LBenchBroker$Park;)V" } : Jvm.MethodName) ({ cls := "BenchBroker$NoiseMap", name := "spreadAll", desc := "(LBenchBroker$Park;)V" } : Jvm.MethodName)) ∈ GW := tq_6 232 rfl rfl
theorem wq_1433 : (Jvm.Cond.code ({ cls := "BenchBroker$NoiseMap", name := "spreadAll", desc := "(LBenchBroker$Park;)V" } : Jvm.MethodName) prog_6_method_2_code (4 : Nat) (Option.none : Option Jvm.ClassFile.FieldType)) ∈ GW := tq_6 233 rfl rfl
theorem wq_1434 : (Jvm.Cond.methodLink "BenchBroker$NoiseMap" (18 : Nat) ({ cls := "java/util/Arrays", name := "fill", desc := "([II)V" } : Jvm.MethodName)) ∈ GW := tq_6 234 rfl rfl
theorem wq_1435 : (Jvm.Cond.methodLink "BenchBroker$NoiseMap" (43 : Nat) ({ cls := "BenchBroker$NoiseMap", name := "spreadFrom", desc := "(II)V" } : Jvm.MethodName)) ∈ GW := tq_6 235 rfl rfl
theorem wq_1437 : (Jvm.Cond.instanceMethod ({ cls := "BenchBroker$NoiseMap", name := "spreadFrom", desc := "(II)V" } : Jvm.MethodName)) ∈ GW := tq_6 237 rfl rfl
theorem wq_1438 : (Jvm.Cond.code ({ cls := "BenchBroker$NoiseMap", name := "spreadFrom", desc := "(II)V" } : Jvm.MethodName) prog_6_method_3_code (5 : Nat) (Option.none : Option Jvm.ClassFile.FieldType)) ∈ GW := tq_6 238 rfl rfl
theorem wq_1439 : (Jvm.Cond.methodLink "BenchBroker$NoiseMap" (50 : Nat) ({ cls := "BenchBroker$NoiseMap", name := "passOn", desc := "(III)V" } : Jvm.MethodName)) ∈ GW := tq_6 239 rfl rfl
theorem wq_1441 : (Jvm.Cond.instanceMethod ({ cls := "BenchBroker$NoiseMap", name := "passOn", desc := "(III)V" } : Jvm.MethodName)) ∈ GW := tq_7 1 rfl rfl
theorem wq_1442 : (Jvm.Cond.code ({ cls := "BenchBroker$NoiseMap", name := "passOn", desc := "(III)V" } : Jvm.MethodName) prog_6_method_4_code (4 : Nat) (Option.none : Option Jvm.ClassFile.FieldType)) ∈ GW := tq_7 2 rfl rfl
theorem wq_1443 : (Jvm.Cond.methodLink "BenchBroker$NoiseMap" (54 : Nat) ({ cls := "BenchBroker$NoiseMap", name := "hear", desc := "(III)V" } : Jvm.MethodName)) ∈ GW := tq_7 3 rfl rfl
theorem wq_1445 : (Jvm.Cond.instanceMethod ({ cls := "BenchBroker$NoiseMap", name := "hear", desc := "(III)V" } : Jvm.MethodName)) ∈ GW := tq_7 5 rfl rfl
theorem wq_1446 : (Jvm.Cond.code ({ cls := "BenchBroker$NoiseMap", name := "hear", desc := "(III)V" } : Jvm.MethodName) prog_6_method_5_code (4 : Nat) (Option.none : Option Jvm.ClassFile.FieldType)) ∈ GW := tq_7 6 rfl rfl
theorem wq_1447 : (Jvm.Cond.methodLink "BenchBroker$NoiseMap" (57 : Nat) ({ cls := "BenchBroker$Park", name := "hasCell", desc := "(II)Z" } : Jvm.MethodName)) ∈ GW := tq_7 7 rfl rfl
theorem wq_1448 : (Jvm.Cond.methodLink "BenchBroker$NoiseMap" (47 : Nat) ({ cls := "BenchBroker$NoiseMap", name := "addSound", desc := "()V" } : Jvm.MethodName)) ∈ GW := tq_7 8 rfl rfl
theorem wq_1450 : (Jvm.Cond.instanceMethod ({ cls := "BenchBroker$NoiseMap", name := "addSound", desc := "()V" } : Jvm.MethodName)) ∈ GW := tq_7 10 rfl rfl
theorem wq_1451 : (Jvm.Cond.code ({ cls := "BenchBroker$NoiseMap", name := "addSound", desc := "()V" } : Jvm.MethodName) prog_6_method_6_code (2 : Nat) (Option.none : Option Jvm.ClassFile.FieldType)) ∈ GW := tq_7 11 rfl rfl
theorem wq_1452 : (Jvm.Cond.methodLink "BenchBrokerLaw" (386 : Nat) ({ cls := "BenchBrokerLaw", name := "incomeByLeases", desc := "(LBenchBroker;I)I" } : Jvm.MethodName)) ∈ GW := tq_7 12 rfl rfl
theorem wq_1453 : (Jvm.Cond.static ({ cls := "BenchBrokerLaw", name := "incomeByLeases", desc := "(LBenchBroker;I)I" } : Jvm.MethodName)) ∈ GW := tq_7 13 rfl rfl
theorem wq_1455 : (Jvm.Cond.methodLink "BenchBrokerLaw" (125 : Nat) ({ cls := "BenchBroker", name := "incomeByLeases", desc := "(I)I" } : Jvm.MethodName)) ∈ GW := tq_7 15 rfl rfl
theorem wq_1456 : (Jvm.Cond.instanceMethod ({ cls := "BenchBroker", name := "incomeByLeases", desc := "(I)I" } : Jvm.MethodName)) ∈ GW := tq_7 16 rfl rfl
theorem wq_1457 : (Jvm.Cond.selects "BenchBroker" ({ cls := "BenchBroker", name := "incomeByLeases", desc := "(I)I" } : Jvm.MethodName) ({ cls := "BenchBroker", name := "incomeByLeases", desc := "(I)I" } : Jvm.MethodName)) ∈ GW := tq_7 17 rfl rfl
theorem wq_1458 : (Jvm.Cond.code ({ cls := "BenchBroker", name := "incomeByLeases", desc := "(I)I" } : Jvm.MethodName) prog_1_method_40_code (2 : Nat) (Option.some Jvm.ClassFile.FieldType.int)) ∈ GW := tq_7 18 rfl rfl
theorem wq_1459 : (Jvm.Cond.methodLink "BenchBroker" (233 : Nat) ({ cls := "BenchBroker$Books", name := "leaseIncome", desc := "(I)I" } : Jvm.MethodName)) ∈ GW := tq_7 19 rfl rfl
theorem wq_1460 : (Jvm.Cond.instanceMethod ({ cls := "BenchBroker$Books", name := "leaseIncome", desc := "(I)I" } : Jvm.MethodName)) ∈ GW := tq_7 20 rfl rfl
theorem wq_1461 : (Jvm.Cond.selects "BenchBroker$Books" ({ cls := "BenchBroker$Books", name := "leaseIncome", desc := "(I)I" } : Jvm.MethodName) ({ cls := "BenchBroker$Books", name := "leaseIncome", desc := "(I)I" } : Jvm.MethodName)) ∈ GW := tq_7 21 rfl rfl
theorem wq_1462 : (Jvm.Cond.code ({ cls := "BenchBroker$Books", name := "leaseIncome", desc := "(I)I" } : Jvm.MethodName) prog_3_method_18_code (4 : Nat) (Option.some Jvm.ClassFile.FieldType.int)) ∈ GW := tq_7 22 rfl rfl
theorem wq_1463 : (Jvm.Cond.methodLink "BenchBroker$Books" (127 : Nat) ({ cls := "java/lang/Math", name := "min", desc := "(II)I" } : Jvm.MethodName)) ∈ GW := tq_7 23 rfl rfl
theorem wq_1464 : (Jvm.Cond.methodLink "BenchBroker$Books" (132 : Nat) ({ cls := "BenchBroker$Books", name := "incomeFrom", desc := "(II)I" } : Jvm.MethodName)) ∈ GW := tq_7 24 rfl rfl
theorem wq_1466 : (Jvm.Cond.instanceMethod ({ cls := "BenchBroker$Books", name := "incomeFrom", desc := "(II)I" } : Jvm.MethodName)) ∈ GW := tq_7 26 rfl rfl
theorem wq_1467 : (Jvm.Cond.code ({ cls := "BenchBroker$Books", name := "incomeFrom", desc := "(II)I" } : Jvm.MethodName) prog_3_method_19_code (5 : Nat) (Option.some Jvm.ClassFile.FieldType.int)) ∈ GW := tq_7 27 rfl rfl
theorem wq_1468 : (Jvm.Cond.methodLink "BenchBroker$Books" (135 : Nat) ({ cls := "BenchBroker$Books", name := "payableMonths", desc := "(I)I" } : Jvm.MethodName)) ∈ GW := tq_7 28 rfl rfl
theorem wq_1469 : (Jvm.Cond.methodLink "BenchBrokerLaw" (388 : Nat) ({ cls := "BenchBrokerLaw", name := "meanRent", desc := "(LBenchBroker;)D" } : Jvm.MethodName)) ∈ GW := tq_7 29 rfl rfl
theorem wq_1470 : (Jvm.Cond.static ({ cls := "BenchBrokerLaw", name := "meanRent", desc := "(LBenchBroker;)D" } : Jvm.MethodName)) ∈ GW := tq_7 30 rfl rfl
theorem wq_1472 : (Jvm.Cond.classLink "BenchBrokerLaw" (138 : Nat) "java/lang/ArithmeticException") ∈ GW := tq_7 32 rfl rfl
theorem wq_1473 : (Jvm.Cond.instantiable "java/lang/ArithmeticException" (6 : Nat)) ∈ GW := tq_7 33 rfl rfl
theorem wq_1474 : (Jvm.Cond.instanceMethod ({ cls := "java/lang/ArithmeticException", name := "<init>", desc := "(Ljava/lang/String;)V" } : Jvm.MethodName)) ∈ GW := tq_7 34 rfl rfl
theorem wq_1475 : (Jvm.Cond.code ({ cls := "java/lang/ArithmeticException", name := "<init>", desc := "(Ljava/lang/String;)V" } : Jvm.MethodName) prog_15_method_2_code (2 : Nat) (Option.none : Option Jvm.ClassFile.FieldType)) ∈ GW := tq_7 35 rfl rfl
theorem wq_1476 : (Jvm.Cond.methodLink "java/lang/ArithmeticException" (7 : Nat) ({ cls := "java/lang/RuntimeException", name := "<init>", desc := "(Ljava/lang/String;)V" } : Jvm.MethodName)) ∈ GW := tq_7 36 rfl rfl
theorem wq_1477 : (Jvm.Cond.lays "java/lang/ArithmeticException" "java/lang/Throwable" "backtrace" "Ljava/lang/Object;") ∈ GW := tq_7 37 rfl rfl
theorem wq_1478 : (Jvm.Cond.lays "java/lang/ArithmeticException" "java/lang/Throwable" "detailMessage" "Ljava/lang/String;") ∈ GW := tq_7 38 rfl rfl
theorem wq_1479 : (Jvm.Cond.lays "java/lang/ArithmeticException" "java/lang/Throwable" "cause" "Ljava/lang/Throwable;") ∈ GW := tq_7 39 rfl rfl
theorem wq_1480 : (Jvm.Cond.lays "java/lang/ArithmeticException" "java/lang/Throwable" "stackTrace" "[Ljava/lang/StackTraceElement;") ∈ GW := tq_7 40 rfl rfl
theorem wq_1481 : (Jvm.Cond.lays "java/lang/ArithmeticException" "java/lang/Throwable" "depth" "I") ∈ GW := tq_7 41 rfl rfl
theorem wq_1482 : (Jvm.Cond.lays "java/lang/ArithmeticException" "java/lang/Throwable" "suppressedExceptions" "Ljava/util/List;") ∈ GW := tq_7 42 rfl rfl
theorem wq_1483 : (Jvm.Cond.superclass "java/lang/ArithmeticException" "java/lang/RuntimeException") ∈ GW := tq_7 43 rfl rfl
theorem wq_1485 : (Jvm.Cond.selects "java/lang/ArithmeticException" ({ cls := "java/lang/Throwable", name := "fillInStackTrace", desc := "(I)Ljava/lang/Throwable;" } : Jvm.MethodName) ({ cls := "java/lang/Throwable", name := "fillInStackTrace", desc := "(I)Ljava/lang/Throwable;" } : Jvm.MethodName)) ∈ GW := tq_7 45 rfl rfl
theorem wq_1486 : (Jvm.Cond.methodLink "BenchBrokerLaw" (134 : Nat) ({ cls := "BenchBroker", name := "meanRent", desc := "()D" } : Jvm.MethodName)) ∈ GW := tq_7 46 rfl rfl
theorem wq_1487 : (Jvm.Cond.instanceMethod ({ cls := "BenchBroker", name := "meanRent", desc := "()D" } : Jvm.MethodName)) ∈ GW := tq_7 47 rfl rfl
theorem wq_1488 : (Jvm.Cond.selects "BenchBroker" ({ cls := "BenchBroker", name := "meanRent", desc := "()D" } : Jvm.MethodName) ({ cls := "BenchBroker", name := "meanRent", desc := "()D" } : Jvm.MethodName)) ∈ GW := tq_7 48 rfl rfl
theorem wq_1489 : (Jvm.Cond.code ({ cls := "BenchBroker", name := "meanRent", desc := "()D" } : Jvm.MethodName) prog_1_method_50_code (4 : Nat) (Option.some Jvm.ClassFile.FieldType.double)) ∈ GW := tq_7 49 rfl rfl
theorem wq_1490 : (Jvm.Cond.classLink "BenchBroker" (263 : Nat) "java/lang/ArithmeticException") ∈ GW := tq_7 50 rfl rfl
theorem wq_1491 : (Jvm.Cond.methodLink "BenchBroker" (265 : Nat) ({ cls := "java/lang/ArithmeticException", name := "<init>", desc := "()V" } : Jvm.MethodName)) ∈ GW := tq_7 51 rfl rfl
theorem wq_1492 : (Jvm.Cond.instanceMethod ({ cls := "java/lang/ArithmeticException", name := "<init>", desc := "()V" } : Jvm.MethodName)) ∈ GW := tq_7 52 rfl rfl
theorem wq_1493 : (Jvm.Cond.code ({ cls := "java/lang/ArithmeticException", name := "<init>", desc := "()V" } : Jvm.MethodName) prog_15_method_1_code (1 : Nat) (Option.none : Option Jvm.ClassFile.FieldType)) ∈ GW := tq_7 53 rfl rfl
theorem wq_1494 : (Jvm.Cond.methodLink "java/lang/ArithmeticException" (1 : Nat) ({ cls := "java/lang/RuntimeException", name := "<init>", desc := "()V" } : Jvm.MethodName)) ∈ GW := tq_7 54 rfl rfl
theorem wq_1495 : (Jvm.Cond.constantDouble "BenchBrokerLaw" (140 : Nat) (13858279740860792832 : UInt64)) ∈ GW := tq_7 55 rfl rfl
theorem wq_1496 : (Jvm.Cond.methodLink "BenchBrokerLaw" (391 : Nat) ({ cls := "BenchBrokerLaw", name := "letShare", desc := "(LBenchBroker;)F" } : Jvm.MethodName)) ∈ GW := tq_7 56 rfl rfl
theorem wq_1497 : (Jvm.Cond.static ({ cls := "BenchBrokerLaw", name := "letShare", desc := "(LBenchBroker;)F" } : Jvm.MethodName)) ∈ GW := tq_7 57 rfl rfl
theorem wq_1499 : (Jvm.Cond.methodLink "BenchBrokerLaw" (142 : Nat) ({ cls := "BenchBroker", name := "letShare", desc := "()F" } : Jvm.MethodName)) ∈ GW := tq_7 59 rfl rfl
theorem wq_1500 : (Jvm.Cond.instanceMethod ({ cls := "BenchBroker", name := "letShare", desc := "()F" } : Jvm.MethodName)) ∈ GW := tq_7 60 rfl rfl
theorem wq_1501 : (Jvm.Cond.selects "BenchBroker" ({ cls := "BenchBroker", name := "letShare", desc := "()F" } : Jvm.MethodName) ({ cls := "BenchBroker", name := "letShare", desc := "()F" } : Jvm.MethodName)) ∈ GW := tq_7 61 rfl rfl
theorem wq_1502 : (Jvm.Cond.code ({ cls := "BenchBroker", name := "letShare", desc := "()F" } : Jvm.MethodName) prog_1_method_51_code (4 : Nat) (Option.some Jvm.ClassFile.FieldType.float)) ∈ GW := tq_7 62 rfl rfl
theorem wq_1503 : (Jvm.Cond.constantFloat "BenchBrokerLaw" (146 : Nat) (3264479232 : UInt32)) ∈ GW := tq_7 63 rfl rfl
theorem wq_1504 : (Jvm.Cond.methodLink "BenchBrokerLaw" (394 : Nat) ({ cls := "BenchBroker", name := "quietCount", desc := "()I" } : Jvm.MethodName)) ∈ GW := tq_7 64 rfl rfl
theorem wq_1505 : (Jvm.Cond.instanceMethod ({ cls := "BenchBroker", name := "quietCount", desc := "()I" } : Jvm.MethodName)) ∈ GW := tq_7 65 rfl rfl
theorem wq_1506 : (Jvm.Cond.selects "BenchBroker" ({ cls := "BenchBroker", name := "quietCount", desc := "()I" } : Jvm.MethodName) ({ cls := "BenchBroker", name := "quietCount", desc := "()I" } : Jvm.MethodName)) ∈ GW := tq_7 66 rfl rfl
theorem wq_1507 : (Jvm.Cond.code ({ cls := "BenchBroker", name := "quietCount", desc := "()I" } : Jvm.MethodName) prog_1_method_20_code (3 : Nat) (Option.some Jvm.ClassFile.FieldType.int)) ∈ GW := tq_7 67 rfl rfl
theorem wq_1508 : (Jvm.Cond.methodLink "BenchBrokerLaw" (397 : Nat) ({ cls := "BenchBroker", name := "depositTotal", desc := "()I" } : Jvm.MethodName)) ∈ GW := tq_7 68 rfl rfl
theorem wq_1509 : (Jvm.Cond.instanceMethod ({ cls := "BenchBroker", name := "depositTotal", desc := "()I" } : Jvm.MethodName)) ∈ GW := tq_7 69 rfl rfl
theorem wq_1510 : (Jvm.Cond.selects "BenchBroker" ({ cls := "BenchBroker", name := "depositTotal", desc := "()I" } : Jvm.MethodName) ({ cls := "BenchBroker", name := "depositTotal", desc := "()I" } : Jvm.MethodName)) ∈ GW := tq_7 70 rfl rfl
theorem wq_1511 : (Jvm.Cond.code ({ cls := "BenchBroker", name := "depositTotal", desc := "()I" } : Jvm.MethodName) prog_1_method_42_code (1 : Nat) (Option.some Jvm.ClassFile.FieldType.int)) ∈ GW := tq_7 71 rfl rfl
theorem wq_1512 : (Jvm.Cond.methodLink "BenchBroker" (239 : Nat) ({ cls := "BenchBroker$Books", name := "deposits", desc := "()I" } : Jvm.MethodName)) ∈ GW := tq_7 72 rfl rfl
theorem wq_1513 : (Jvm.Cond.instanceMethod ({ cls := "BenchBroker$Books", name := "deposits", desc := "()I" } : Jvm.MethodName)) ∈ GW := tq_7 73 rfl rfl
theorem wq_1514 : (Jvm.Cond.selects "BenchBroker$Books" ({ cls := "BenchBroker$Books", name := "deposits", desc := "()I" } : Jvm.MethodName) ({ cls := "BenchBroker$Books", name := "deposits", desc := "()I" } : Jvm.MethodName)) ∈ GW := tq_7 74 rfl rfl
theorem wq_1515 : (Jvm.Cond.code ({ cls := "BenchBroker$Books", name := "deposits", desc := "()I" } : Jvm.MethodName) prog_3_method_20_code (3 : Nat) (Option.some Jvm.ClassFile.FieldType.int)) ∈ GW := tq_7 75 rfl rfl
theorem wq_1516 : (Jvm.Cond.methodLink "BenchBrokerLaw" (400 : Nat) ({ cls := "BenchBroker", name := "allCoins", desc := "()I" } : Jvm.MethodName)) ∈ GW := tq_7 76 rfl rfl
theorem wq_1517 : (Jvm.Cond.instanceMethod ({ cls := "BenchBroker", name := "allCoins", desc := "()I" } : Jvm.MethodName)) ∈ GW := tq_7 77 rfl rfl
theorem wq_1518 : (Jvm.Cond.selects "BenchBroker" ({ cls := "BenchBroker", name := "allCoins", desc := "()I" } : Jvm.MethodName) ({ cls := "BenchBroker", name := "allCoins", desc := "()I" } : Jvm.MethodName)) ∈ GW := tq_7 78 rfl rfl
theorem wq_1519 : (Jvm.Cond.code ({ cls := "BenchBroker", name := "allCoins", desc := "()I" } : Jvm.MethodName) prog_1_method_43_code (1 : Nat) (Option.some Jvm.ClassFile.FieldType.int)) ∈ GW := tq_7 79 rfl rfl
theorem wq_1520 : (Jvm.Cond.methodLink "BenchBroker" (242 : Nat) ({ cls := "BenchBroker$Books", name := "coinsAround", desc := "()I" } : Jvm.MethodName)) ∈ GW := tq_7 80 rfl rfl
theorem wq_1521 : (Jvm.Cond.instanceMethod ({ cls := "BenchBroker$Books", name := "coinsAround", desc := "()I" } : Jvm.MethodName)) ∈ GW := tq_7 81 rfl rfl
theorem wq_1522 : (Jvm.Cond.selects "BenchBroker$Books" ({ cls := "BenchBroker$Books", name := "coinsAround", desc := "()I" } : Jvm.MethodName) ({ cls := "BenchBroker$Books", name := "coinsAround", desc := "()I" } : Jvm.MethodName)) ∈ GW := tq_7 82 rfl rfl
theorem wq_1523 : (Jvm.Cond.code ({ cls := "BenchBroker$Books", name := "coinsAround", desc := "()I" } : Jvm.MethodName) prog_3_method_21_code (3 : Nat) (Option.some Jvm.ClassFile.FieldType.int)) ∈ GW := tq_7 83 rfl rfl
theorem wq_1524 : (Jvm.Cond.methodLink "BenchBroker$Books" (138 : Nat) ({ cls := "BenchBroker$Books", name := "deposits", desc := "()I" } : Jvm.MethodName)) ∈ GW := tq_7 84 rfl rfl
theorem wq_1525 : (Jvm.Cond.methodLink "BenchBrokerLaw" (403 : Nat) ({ cls := "BenchBroker", name := "isConsistent", desc := "()Z" } : Jvm.MethodName)) ∈ GW := tq_7 85 rfl rfl
theorem wq_1526 : (Jvm.Cond.instanceMethod ({ cls := "BenchBroker", name := "isConsistent", desc := "()Z" } : Jvm.MethodName)) ∈ GW := tq_7 86 rfl rfl
theorem wq_1527 : (Jvm.Cond.selects "BenchBroker" ({ cls := "BenchBroker", name := "isConsistent", desc := "()Z" } : Jvm.MethodName) ({ cls := "BenchBroker", name := "isConsistent", desc := "()Z" } : Jvm.MethodName)) ∈ GW := tq_7 87 rfl rfl
theorem wq_1528 : (Jvm.Cond.code ({ cls := "BenchBroker", name := "isConsistent", desc := "()Z" } : Jvm.MethodName) prog_1_method_52_code (1 : Nat) (Option.some Jvm.ClassFile.FieldType.boolean)) ∈ GW := tq_7 88 rfl rfl
theorem wq_1529 : (Jvm.Cond.methodLink "BenchBroker" (266 : Nat) ({ cls := "BenchBroker", name := "noisesAgree", desc := "()Z" } : Jvm.MethodName)) ∈ GW := tq_7 89 rfl rfl
theorem wq_1531 : (Jvm.Cond.instanceMethod ({ cls := "BenchBroker", name := "noisesAgree", desc := "()Z" } : Jvm.MethodName)) ∈ GW := tq_7 91 rfl rfl
theorem wq_1532 : (Jvm.Cond.code ({ cls := "BenchBroker", name := "noisesAgree", desc := "()Z" } : Jvm.MethodName) prog_1_method_79_code (3 : Nat) (Option.some Jvm.ClassFile.FieldType.boolean)) ∈ GW := tq_7 92 rfl rfl
theorem wq_1533 : (Jvm.Cond.methodLink "BenchBroker" (270 : Nat) ({ cls := "BenchBroker", name := "incomesAgree", desc := "(I)Z" } : Jvm.MethodName)) ∈ GW := tq_7 93 rfl rfl
theorem wq_1535 : (Jvm.Cond.instanceMethod ({ cls := "BenchBroker", name := "incomesAgree", desc := "(I)Z" } : Jvm.MethodName)) ∈ GW := tq_7 95 rfl rfl
theorem wq_1536 : (Jvm.Cond.code ({ cls := "BenchBroker", name := "incomesAgree", desc := "(I)Z" } : Jvm.MethodName) prog_1_method_78_code (2 : Nat) (Option.some Jvm.ClassFile.FieldType.boolean)) ∈ GW := tq_7 96 rfl rfl
theorem wq_1537 : (Jvm.Cond.methodLink "BenchBroker" (273 : Nat) ({ cls := "BenchBroker$Books", name := "someTenantHasTwoBenches", desc := "()Z" } : Jvm.MethodName)) ∈ GW := tq_7 97 rfl rfl
theorem wq_1538 : (Jvm.Cond.instanceMethod ({ cls := "BenchBroker$Books", name := "someTenantHasTwoBenches", desc := "()Z" } : Jvm.MethodName)) ∈ GW := tq_7 98 rfl rfl
theorem wq_1539 : (Jvm.Cond.selects "BenchBroker$Books" ({ cls := "BenchBroker$Books", name := "someTenantHasTwoBenches", desc := "()Z" } : Jvm.MethodName) ({ cls := "BenchBroker$Books", name := "someTenantHasTwoBenches", desc := "()Z" } : Jvm.MethodName)) ∈ GW := tq_7 99 rfl rfl
theorem wq_1540 : (Jvm.Cond.code ({ cls := "BenchBroker$Books", name := "someTenantHasTwoBenches", desc := "()Z" } : Jvm.MethodName) prog_3_method_22_code (2 : Nat) (Option.some Jvm.ClassFile.FieldType.boolean)) ∈ GW := tq_7 100 rfl rfl
theorem wq_1541 : (Jvm.Cond.methodLink "BenchBrokerLaw" (254 : Nat) ({ cls := "BenchBrokerLaw", name := "isKept", desc := "(LBenchBroker;[JI)Z" } : Jvm.MethodName)) ∈ GW := tq_7 101 rfl rfl
theorem wq_1542 : (Jvm.Cond.static ({ cls := "BenchBrokerLaw", name := "isKept", desc := "(LBenchBroker;[JI)Z" } : Jvm.MethodName)) ∈ GW := tq_7 102 rfl rfl
theorem wq_1543 : (Jvm.Cond.code ({ cls := "BenchBrokerLaw", name := "isKept", desc := "(LBenchBroker;[JI)Z" } : Jvm.MethodName) method_63_code (6 : Nat) (Option.some Jvm.ClassFile.FieldType.boolean)) ∈ GW := tq_7 103 rfl rfl
theorem wq_1544 : (Jvm.Cond.methodLink "BenchBrokerLaw" (407 : Nat) ({ cls := "BenchBroker", name := "saveSnapshot", desc := "()I" } : Jvm.MethodName)) ∈ GW := tq_7 104 rfl rfl
theorem wq_1545 : (Jvm.Cond.instanceMethod ({ cls := "BenchBroker", name := "saveSnapshot", desc := "()I" } : Jvm.MethodName)) ∈ GW := tq_7 105 rfl rfl
theorem wq_1546 : (Jvm.Cond.selects "BenchBroker" ({ cls := "BenchBroker", name := "saveSnapshot", desc := "()I" } : Jvm.MethodName) ({ cls := "BenchBroker", name := "saveSnapshot", desc := "()I" } : Jvm.MethodName)) ∈ GW := tq_7 106 rfl rfl
theorem wq_1547 : (Jvm.Cond.code ({ cls := "BenchBroker", name := "saveSnapshot", desc := "()I" } : Jvm.MethodName) prog_1_method_63_code (1 : Nat) (Option.some Jvm.ClassFile.FieldType.int)) ∈ GW := tq_7 107 rfl rfl
theorem wq_1548 : (Jvm.Cond.methodLink "BenchBrokerLaw" (410 : Nat) ({ cls := "java/lang/Math", name := "min", desc := "(II)I" } : Jvm.MethodName)) ∈ GW := tq_7 108 rfl rfl
theorem wq_1549 : (Jvm.Cond.methodLink "BenchBrokerLaw" (413 : Nat) ({ cls := "BenchBrokerLaw", name := "undo", desc := "(LBenchBroker;)I" } : Jvm.MethodName)) ∈ GW := tq_7 109 rfl rfl
theorem wq_1550 : (Jvm.Cond.static ({ cls := "BenchBrokerLaw", name := "undo", desc := "(LBenchBroker;)I" } : Jvm.MethodName)) ∈ GW := tq_7 110 rfl rfl
theorem wq_1552 : (Jvm.Cond.methodLink "BenchBrokerLaw" (179 : Nat) ({ cls := "BenchBroker", name := "undo", desc := "()I" } : Jvm.MethodName)) ∈ GW := tq_7 112 rfl rfl
theorem wq_1553 : (Jvm.Cond.instanceMethod ({ cls := "BenchBroker", name := "undo", desc := "()I" } : Jvm.MethodName)) ∈ GW := tq_7 113 rfl rfl
theorem wq_1554 : (Jvm.Cond.selects "BenchBroker" ({ cls := "BenchBroker", name := "undo", desc := "()I" } : Jvm.MethodName) ({ cls := "BenchBroker", name := "undo", desc := "()I" } : Jvm.MethodName)) ∈ GW := tq_7 114 rfl rfl
theorem wq_1555 : (Jvm.Cond.code ({ cls := "BenchBroker", name := "undo", desc := "()I" } : Jvm.MethodName) prog_1_method_62_code (1 : Nat) (Option.some Jvm.ClassFile.FieldType.int)) ∈ GW := tq_7 115 rfl rfl
theorem wq_1556 : (Jvm.Cond.methodLink "BenchBroker" (340 : Nat) ({ cls := "BenchBroker$History", name := "takeBack", desc := "(LBenchBroker$Books;)V" } : Jvm.MethodName)) ∈ GW := tq_7 116 rfl rfl
theorem wq_1557 : (Jvm.Cond.instanceMethod ({ cls := "BenchBroker$History", name := "takeBack", desc := "(LBenchBroker$Books;)V" } : Jvm.MethodName)) ∈ GW := tq_7 117 rfl rfl
theorem wq_1558 : (Jvm.Cond.selects "BenchBroker$History" ({ cls := "BenchBroker$History", name := "takeBack", desc := "(LBenchBroker$Books;)V" } : Jvm.MethodName) ({ cls := "BenchBroker$History", name := "takeBack", desc := "(LBenchBroker$Books;)V" } : Jvm.MethodName)) ∈ GW := tq_7 118 rfl rfl
theorem wq_1559 : (Jvm.Cond.code ({ cls := "BenchBroker$History", name := "takeBack", desc := "(LBenchBroker$Books;)V" } : Jvm.MethodName) prog_4_method_3_code (3 : Nat) (Option.none : Option Jvm.ClassFile.FieldType)) ∈ GW := tq_7 119 rfl rfl
theorem wq_1560 : (Jvm.Cond.methodLink "BenchBrokerLaw" (415 : Nat) ({ cls := "BenchBrokerLaw", name := "restoreSnapshot", desc := "(LBenchBroker;)I" } : Jvm.MethodName)) ∈ GW := tq_7 120 rfl rfl
theorem wq_1561 : (Jvm.Cond.static ({ cls := "BenchBrokerLaw", name := "restoreSnapshot", desc := "(LBenchBroker;)I" } : Jvm.MethodName)) ∈ GW := tq_7 121 rfl rfl
theorem wq_1563 : (Jvm.Cond.methodLink "BenchBrokerLaw" (182 : Nat) ({ cls := "BenchBroker", name := "restoreSnapshot", desc := "()I" } : Jvm.MethodName)) ∈ GW := tq_7 123 rfl rfl
theorem wq_1564 : (Jvm.Cond.instanceMethod ({ cls := "BenchBroker", name := "restoreSnapshot", desc := "()I" } : Jvm.MethodName)) ∈ GW := tq_7 124 rfl rfl
theorem wq_1565 : (Jvm.Cond.selects "BenchBroker" ({ cls := "BenchBroker", name := "restoreSnapshot", desc := "()I" } : Jvm.MethodName) ({ cls := "BenchBroker", name := "restoreSnapshot", desc := "()I" } : Jvm.MethodName)) ∈ GW := tq_7 125 rfl rfl
theorem wq_1566 : (Jvm.Cond.code ({ cls := "BenchBroker", name := "restoreSnapshot", desc := "()I" } : Jvm.MethodName) prog_1_method_64_code (1 : Nat) (Option.some Jvm.ClassFile.FieldType.int)) ∈ GW := tq_7 126 rfl rfl
theorem wq_1567 : (Jvm.Cond.arrayClass Jvm.ClassFile.FieldType.long) ∈ GW := tq_7 127 rfl rfl
theorem wq_1568 : (Jvm.Cond.sameMethod "java/lang/Throwable" "java/lang/Throwable" "fillInStackTrace" "(I)Ljava/lang/Throwable;") ∈ GW := tq_7 128 rfl rfl
theorem wq_1569 : (Jvm.Cond.sameMethod "java/lang/AbstractStringBuilder" "java/lang/AbstractStringBuilder" "append" "(Ljava/lang/String;)Ljava/lang/AbstractStringBuilder;") ∈ GW := tq_7 129 rfl rfl
theorem wq_1570 : (Jvm.Cond.sameMethod "java/lang/AbstractStringBuilder" "java/lang/AbstractStringBuilder" "appendNull" "()Ljava/lang/AbstractStringBuilder;") ∈ GW := tq_7 130 rfl rfl
theorem wq_1571 : (Jvm.Cond.sameMethod "java/lang/AbstractStringBuilder" "java/lang/AbstractStringBuilder" "ensureCapacityInternal" "(I)V") ∈ GW := tq_7 131 rfl rfl
theorem wq_1572 : (Jvm.Cond.sameMethod "java/lang/AbstractStringBuilder" "java/lang/AbstractStringBuilder" "newCapacity" "(I)I") ∈ GW := tq_7 132 rfl rfl
theorem wq_1573 : (Jvm.Cond.sameMethod "java/lang/AbstractStringBuilder" "java/lang/AbstractStringBuilder" "putStringAt" "(ILjava/lang/String;)V") ∈ GW := tq_7 133 rfl rfl
theorem wq_1574 : (Jvm.Cond.sameMethod "java/lang/AbstractStringBuilder" "java/lang/AbstractStringBuilder" "inflateIfNeededFor" "(Ljava/lang/String;)V") ∈ GW := tq_7 134 rfl rfl
theorem wq_1575 : (Jvm.Cond.sameMethod "java/lang/AbstractStringBuilder" "java/lang/AbstractStringBuilder" "inflate" "()V") ∈ GW := tq_7 135 rfl rfl
theorem wq_1576 : (Jvm.Cond.sameMethod "java/lang/AbstractStringBuilder" "java/lang/AbstractStringBuilder" "append" "(I)Ljava/lang/AbstractStringBuilder;") ∈ GW := tq_7 136 rfl rfl
theorem wq_1577 : (Jvm.Cond.sameMethod "java/lang/AbstractStringBuilder" "java/lang/AbstractStringBuilder" "setLength" "(I)V") ∈ GW := tq_7 137 rfl rfl
theorem wq_1578 : (Jvm.Cond.sameMethod "java/lang/AbstractStringBuilder" "java/lang/AbstractStringBuilder" "append" "(C)Ljava/lang/AbstractStringBuilder;") ∈ GW := tq_7 138 rfl rfl
theorem wq_1579 : (Jvm.Cond.selects "java/lang/StringBuilder" ({ cls := "java/lang/StringBuilder", name := "length", desc := "()I" } : Jvm.MethodName) ({ cls := "java/lang/StringBuilder", name := "length", desc := "()I" } : Jvm.MethodName)) ∈ GW := tq_7 139 rfl rfl
theorem wq_1580 : (Jvm.Cond.sameMethod "java/lang/AbstractStringBuilder" "java/lang/AbstractStringBuilder" "charAt" "(I)C") ∈ GW := tq_7 140 rfl rfl
theorem wq_1602 : (Jvm.Cond.fieldLink "BenchBroker$Input" (53 : Nat) "BenchBroker$Verb" "word" "Ljava/lang/String;") ∈ GW := tq_7 162 rfl rfl
theorem wq_1603 : (Jvm.Cond.fieldLink "BenchBroker$Input" (76 : Nat) "BenchBroker$Verb" "argumentCount" "I") ∈ GW := tq_7 163 rfl rfl
theorem wq_1604 : (Jvm.Cond.fieldLink "BenchBroker$Input" (85 : Nat) "BenchBroker$Verb" "endsInNumber" "Z") ∈ GW := tq_7 164 rfl rfl
theorem wq_1605 : (Jvm.Cond.fieldLink "java/lang/Enum" (7 : Nat) "java/lang/Enum" "ordinal" "I") ∈ GW := tq_7 165 rfl rfl
theorem wp_0 : Cond.selects "java/lang/Throwable" ({ cls := "java/lang/Throwable", name := "fillInStackTrace", desc := "(I)Ljava/lang/Throwable;" } : Jvm.MethodName) ({ cls := "java/lang/Throwable", name := "fillInStackTrace", desc := "(I)Ljava/lang/Throwable;" } : Jvm.MethodName) ∈ GW := gw_p (q := (({ cls := "java/lang/Throwable", name := "fillInStackTrace", desc := "(I)Ljava/lang/Throwable;" } : Jvm.MethodName), 6)) (by have h := List.mem_of_getElem? (l := lw_privs_1) (i := 0) (a := (({ cls := "java/lang/Throwable", name := "fillInStackTrace", desc := "(I)Ljava/lang/Throwable;" } : Jvm.MethodName), 6)) rfl; exact List.mem_append_left _ h) rfl
theorem wp_1 : Cond.selects "BenchBroker" ({ cls := "BenchBroker", name := "needBench", desc := "(I)V" } : Jvm.MethodName) ({ cls := "BenchBroker", name := "needBench", desc := "(I)V" } : Jvm.MethodName) ∈ GW := gw_p (q := (({ cls := "BenchBroker", name := "needBench", desc := "(I)V" } : Jvm.MethodName), 13)) (by have h := List.mem_of_getElem? (l := lw_privs_1) (i := 1) (a := (({ cls := "BenchBroker", name := "needBench", desc := "(I)V" } : Jvm.MethodName), 13)) rfl; exact List.mem_append_left _ h) rfl
theorem wp_2 : Cond.selects "BenchBroker" ({ cls := "BenchBroker", name := "needTenant", desc := "(I)V" } : Jvm.MethodName) ({ cls := "BenchBroker", name := "needTenant", desc := "(I)V" } : Jvm.MethodName) ∈ GW := gw_p (q := (({ cls := "BenchBroker", name := "needTenant", desc := "(I)V" } : Jvm.MethodName), 13)) (by have h := List.mem_of_getElem? (l := lw_privs_1) (i := 2) (a := (({ cls := "BenchBroker", name := "needTenant", desc := "(I)V" } : Jvm.MethodName), 13)) rfl; exact List.mem_append_left _ h) rfl
theorem wp_3 : Cond.selects "BenchBroker" ({ cls := "BenchBroker", name := "needLease", desc := "(I)V" } : Jvm.MethodName) ({ cls := "BenchBroker", name := "needLease", desc := "(I)V" } : Jvm.MethodName) ∈ GW := gw_p (q := (({ cls := "BenchBroker", name := "needLease", desc := "(I)V" } : Jvm.MethodName), 13)) (by have h := List.mem_of_getElem? (l := lw_privs_1) (i := 3) (a := (({ cls := "BenchBroker", name := "needLease", desc := "(I)V" } : Jvm.MethodName), 13)) rfl; exact List.mem_append_left _ h) rfl
theorem wp_4 : Cond.selects "BenchBroker" ({ cls := "BenchBroker", name := "needTerm", desc := "(I)V" } : Jvm.MethodName) ({ cls := "BenchBroker", name := "needTerm", desc := "(I)V" } : Jvm.MethodName) ∈ GW := gw_p (q := (({ cls := "BenchBroker", name := "needTerm", desc := "(I)V" } : Jvm.MethodName), 13)) (by have h := List.mem_of_getElem? (l := lw_privs_1) (i := 4) (a := (({ cls := "BenchBroker", name := "needTerm", desc := "(I)V" } : Jvm.MethodName), 13)) rfl; exact List.mem_append_left _ h) rfl
theorem wp_5 : Cond.selects "BenchBroker" ({ cls := "BenchBroker", name := "incomeOnCopy", desc := "(I)I" } : Jvm.MethodName) ({ cls := "BenchBroker", name := "incomeOnCopy", desc := "(I)I" } : Jvm.MethodName) ∈ GW := gw_p (q := (({ cls := "BenchBroker", name := "incomeOnCopy", desc := "(I)I" } : Jvm.MethodName), 13)) (by have h := List.mem_of_getElem? (l := lw_privs_1) (i := 5) (a := (({ cls := "BenchBroker", name := "incomeOnCopy", desc := "(I)I" } : Jvm.MethodName), 13)) rfl; exact List.mem_append_left _ h) rfl
theorem wp_6 : Cond.selects "BenchBroker$Books" ({ cls := "BenchBroker$Books", name := "endsThisMonth", desc := "(I)Z" } : Jvm.MethodName) ({ cls := "BenchBroker$Books", name := "endsThisMonth", desc := "(I)Z" } : Jvm.MethodName) ∈ GW := gw_p (q := (({ cls := "BenchBroker$Books", name := "endsThisMonth", desc := "(I)Z" } : Jvm.MethodName), 13)) (by have h := List.mem_of_getElem? (l := lw_privs_1) (i := 6) (a := (({ cls := "BenchBroker$Books", name := "endsThisMonth", desc := "(I)Z" } : Jvm.MethodName), 13)) rfl; exact List.mem_append_left _ h) rfl
theorem wp_7 : Cond.selects "BenchBroker$Books" ({ cls := "BenchBroker$Books", name := "closeLease", desc := "(II)V" } : Jvm.MethodName) ({ cls := "BenchBroker$Books", name := "closeLease", desc := "(II)V" } : Jvm.MethodName) ∈ GW := gw_p (q := (({ cls := "BenchBroker$Books", name := "closeLease", desc := "(II)V" } : Jvm.MethodName), 13)) (by have h := List.mem_of_getElem? (l := lw_privs_1) (i := 7) (a := (({ cls := "BenchBroker$Books", name := "closeLease", desc := "(II)V" } : Jvm.MethodName), 13)) rfl; exact List.mem_append_left _ h) rfl
theorem wp_8 : Cond.selects "BenchBroker" ({ cls := "BenchBroker", name := "startChange", desc := "()V" } : Jvm.MethodName) ({ cls := "BenchBroker", name := "startChange", desc := "()V" } : Jvm.MethodName) ∈ GW := gw_p (q := (({ cls := "BenchBroker", name := "startChange", desc := "()V" } : Jvm.MethodName), 13)) (by have h := List.mem_of_getElem? (l := lw_privs_1) (i := 8) (a := (({ cls := "BenchBroker", name := "startChange", desc := "()V" } : Jvm.MethodName), 13)) rfl; exact List.mem_append_left _ h) rfl
theorem wp_9 : Cond.selects "BenchBroker" ({ cls := "BenchBroker", name := "finishChange", desc := "()I" } : Jvm.MethodName) ({ cls := "BenchBroker", name := "finishChange", desc := "()I" } : Jvm.MethodName) ∈ GW := gw_p (q := (({ cls := "BenchBroker", name := "finishChange", desc := "()I" } : Jvm.MethodName), 13)) (by have h := List.mem_of_getElem? (l := lw_privs_1) (i := 9) (a := (({ cls := "BenchBroker", name := "finishChange", desc := "()I" } : Jvm.MethodName), 13)) rfl; exact List.mem_append_left _ h) rfl
theorem wp_10 : Cond.selects "BenchBroker" ({ cls := "BenchBroker", name := "keepRejection", desc := "(III)V" } : Jvm.MethodName) ({ cls := "BenchBroker", name := "keepRejection", desc := "(III)V" } : Jvm.MethodName) ∈ GW := gw_p (q := (({ cls := "BenchBroker", name := "keepRejection", desc := "(III)V" } : Jvm.MethodName), 13)) (by have h := List.mem_of_getElem? (l := lw_privs_1) (i := 10) (a := (({ cls := "BenchBroker", name := "keepRejection", desc := "(III)V" } : Jvm.MethodName), 13)) rfl; exact List.mem_append_left _ h) rfl
theorem wp_11 : Cond.selects "BenchBroker" ({ cls := "BenchBroker", name := "keepTrial", desc := "()V" } : Jvm.MethodName) ({ cls := "BenchBroker", name := "keepTrial", desc := "()V" } : Jvm.MethodName) ∈ GW := gw_p (q := (({ cls := "BenchBroker", name := "keepTrial", desc := "()V" } : Jvm.MethodName), 13)) (by have h := List.mem_of_getElem? (l := lw_privs_1) (i := 11) (a := (({ cls := "BenchBroker", name := "keepTrial", desc := "()V" } : Jvm.MethodName), 13)) rfl; exact List.mem_append_left _ h) rfl
theorem wp_12 : Cond.selects "BenchBroker$Books" ({ cls := "BenchBroker$Books", name := "obstacleDetail", desc := "(III)I" } : Jvm.MethodName) ({ cls := "BenchBroker$Books", name := "obstacleDetail", desc := "(III)I" } : Jvm.MethodName) ∈ GW := gw_p (q := (({ cls := "BenchBroker$Books", name := "obstacleDetail", desc := "(III)I" } : Jvm.MethodName), 13)) (by have h := List.mem_of_getElem? (l := lw_privs_1) (i := 12) (a := (({ cls := "BenchBroker$Books", name := "obstacleDetail", desc := "(III)I" } : Jvm.MethodName), 13)) rfl; exact List.mem_append_left _ h) rfl
theorem wp_13 : Cond.selects "BenchBroker$Input" ({ cls := "BenchBroker$Input", name := "readWord", desc := "()Z" } : Jvm.MethodName) ({ cls := "BenchBroker$Input", name := "readWord", desc := "()Z" } : Jvm.MethodName) ∈ GW := gw_p (q := (({ cls := "BenchBroker$Input", name := "readWord", desc := "()Z" } : Jvm.MethodName), 5)) (by have h := List.mem_of_getElem? (l := lw_privs_1) (i := 13) (a := (({ cls := "BenchBroker$Input", name := "readWord", desc := "()Z" } : Jvm.MethodName), 5)) rfl; exact List.mem_append_left _ h) rfl
theorem wp_14 : Cond.selects "BenchBroker$Input" ({ cls := "BenchBroker$Input", name := "matchingLetters", desc := "(Ljava/lang/String;)I" } : Jvm.MethodName) ({ cls := "BenchBroker$Input", name := "matchingLetters", desc := "(Ljava/lang/String;)I" } : Jvm.MethodName) ∈ GW := gw_p (q := (({ cls := "BenchBroker$Input", name := "matchingLetters", desc := "(Ljava/lang/String;)I" } : Jvm.MethodName), 5)) (by have h := List.mem_of_getElem? (l := lw_privs_1) (i := 14) (a := (({ cls := "BenchBroker$Input", name := "matchingLetters", desc := "(Ljava/lang/String;)I" } : Jvm.MethodName), 5)) rfl; exact List.mem_append_left _ h) rfl
theorem wp_15 : Cond.selects "BenchBroker$Input" ({ cls := "BenchBroker$Input", name := "readArguments", desc := "()Z" } : Jvm.MethodName) ({ cls := "BenchBroker$Input", name := "readArguments", desc := "()Z" } : Jvm.MethodName) ∈ GW := gw_p (q := (({ cls := "BenchBroker$Input", name := "readArguments", desc := "()Z" } : Jvm.MethodName), 5)) (by have h := List.mem_of_getElem? (l := lw_privs_1) (i := 15) (a := (({ cls := "BenchBroker$Input", name := "readArguments", desc := "()Z" } : Jvm.MethodName), 5)) rfl; exact List.mem_append_left _ h) rfl
theorem wp_16 : Cond.selects "BenchBroker$Input" ({ cls := "BenchBroker$Input", name := "atDigit", desc := "()Z" } : Jvm.MethodName) ({ cls := "BenchBroker$Input", name := "atDigit", desc := "()Z" } : Jvm.MethodName) ∈ GW := gw_p (q := (({ cls := "BenchBroker$Input", name := "atDigit", desc := "()Z" } : Jvm.MethodName), 5)) (by have h := List.mem_of_getElem? (l := lw_privs_2) (i := 0) (a := (({ cls := "BenchBroker$Input", name := "atDigit", desc := "()Z" } : Jvm.MethodName), 5)) rfl; exact List.mem_append_right _ (h)) rfl
theorem wp_17 : Cond.selects "BenchBroker$Input" ({ cls := "BenchBroker$Input", name := "readDigit", desc := "()I" } : Jvm.MethodName) ({ cls := "BenchBroker$Input", name := "readDigit", desc := "()I" } : Jvm.MethodName) ∈ GW := gw_p (q := (({ cls := "BenchBroker$Input", name := "readDigit", desc := "()I" } : Jvm.MethodName), 5)) (by have h := List.mem_of_getElem? (l := lw_privs_2) (i := 1) (a := (({ cls := "BenchBroker$Input", name := "readDigit", desc := "()I" } : Jvm.MethodName), 5)) rfl; exact List.mem_append_right _ (h)) rfl
theorem wp_18 : Cond.selects "BenchBroker" ({ cls := "BenchBroker", name := "tryCommands", desc := "(I)I" } : Jvm.MethodName) ({ cls := "BenchBroker", name := "tryCommands", desc := "(I)I" } : Jvm.MethodName) ∈ GW := gw_p (q := (({ cls := "BenchBroker", name := "tryCommands", desc := "(I)I" } : Jvm.MethodName), 13)) (by have h := List.mem_of_getElem? (l := lw_privs_2) (i := 2) (a := (({ cls := "BenchBroker", name := "tryCommands", desc := "(I)I" } : Jvm.MethodName), 13)) rfl; exact List.mem_append_right _ (h)) rfl
theorem wp_19 : Cond.selects "BenchBroker" ({ cls := "BenchBroker", name := "tryCommand", desc := "(LBenchBroker$Verb;III)V" } : Jvm.MethodName) ({ cls := "BenchBroker", name := "tryCommand", desc := "(LBenchBroker$Verb;III)V" } : Jvm.MethodName) ∈ GW := gw_p (q := (({ cls := "BenchBroker", name := "tryCommand", desc := "(LBenchBroker$Verb;III)V" } : Jvm.MethodName), 13)) (by have h := List.mem_of_getElem? (l := lw_privs_2) (i := 3) (a := (({ cls := "BenchBroker", name := "tryCommand", desc := "(LBenchBroker$Verb;III)V" } : Jvm.MethodName), 13)) rfl; exact List.mem_append_right _ (h)) rfl
theorem wp_20 : Cond.selects "BenchBroker" ({ cls := "BenchBroker", name := "needFountain", desc := "(I)V" } : Jvm.MethodName) ({ cls := "BenchBroker", name := "needFountain", desc := "(I)V" } : Jvm.MethodName) ∈ GW := gw_p (q := (({ cls := "BenchBroker", name := "needFountain", desc := "(I)V" } : Jvm.MethodName), 13)) (by have h := List.mem_of_getElem? (l := lw_privs_2) (i := 4) (a := (({ cls := "BenchBroker", name := "needFountain", desc := "(I)V" } : Jvm.MethodName), 13)) rfl; exact List.mem_append_right _ (h)) rfl
theorem wp_21 : Cond.selects "BenchBroker" ({ cls := "BenchBroker", name := "needCell", desc := "(II)V" } : Jvm.MethodName) ({ cls := "BenchBroker", name := "needCell", desc := "(II)V" } : Jvm.MethodName) ∈ GW := gw_p (q := (({ cls := "BenchBroker", name := "needCell", desc := "(II)V" } : Jvm.MethodName), 13)) (by have h := List.mem_of_getElem? (l := lw_privs_2) (i := 5) (a := (({ cls := "BenchBroker", name := "needCell", desc := "(II)V" } : Jvm.MethodName), 13)) rfl; exact List.mem_append_right _ (h)) rfl
theorem wp_22 : Cond.selects "BenchBroker$Books" ({ cls := "BenchBroker$Books", name := "benchComesFirst", desc := "(II)Z" } : Jvm.MethodName) ({ cls := "BenchBroker$Books", name := "benchComesFirst", desc := "(II)Z" } : Jvm.MethodName) ∈ GW := gw_p (q := (({ cls := "BenchBroker$Books", name := "benchComesFirst", desc := "(II)Z" } : Jvm.MethodName), 13)) (by have h := List.mem_of_getElem? (l := lw_privs_2) (i := 6) (a := (({ cls := "BenchBroker$Books", name := "benchComesFirst", desc := "(II)Z" } : Jvm.MethodName), 13)) rfl; exact List.mem_append_right _ (h)) rfl
theorem wp_23 : Cond.selects "BenchBroker$Books" ({ cls := "BenchBroker$Books", name := "tenantComesFirst", desc := "(II)Z" } : Jvm.MethodName) ({ cls := "BenchBroker$Books", name := "tenantComesFirst", desc := "(II)Z" } : Jvm.MethodName) ∈ GW := gw_p (q := (({ cls := "BenchBroker$Books", name := "tenantComesFirst", desc := "(II)Z" } : Jvm.MethodName), 13)) (by have h := List.mem_of_getElem? (l := lw_privs_2) (i := 7) (a := (({ cls := "BenchBroker$Books", name := "tenantComesFirst", desc := "(II)Z" } : Jvm.MethodName), 13)) rfl; exact List.mem_append_right _ (h)) rfl
theorem wp_24 : Cond.selects "BenchBroker$NoiseMap" ({ cls := "BenchBroker$NoiseMap", name := "spreadFrom", desc := "(II)V" } : Jvm.MethodName) ({ cls := "BenchBroker$NoiseMap", name := "spreadFrom", desc := "(II)V" } : Jvm.MethodName) ∈ GW := gw_p (q := (({ cls := "BenchBroker$NoiseMap", name := "spreadFrom", desc := "(II)V" } : Jvm.MethodName), 2)) (by have h := List.mem_of_getElem? (l := lw_privs_2) (i := 8) (a := (({ cls := "BenchBroker$NoiseMap", name := "spreadFrom", desc := "(II)V" } : Jvm.MethodName), 2)) rfl; exact List.mem_append_right _ (h)) rfl
theorem wp_25 : Cond.selects "BenchBroker$NoiseMap" ({ cls := "BenchBroker$NoiseMap", name := "passOn", desc := "(III)V" } : Jvm.MethodName) ({ cls := "BenchBroker$NoiseMap", name := "passOn", desc := "(III)V" } : Jvm.MethodName) ∈ GW := gw_p (q := (({ cls := "BenchBroker$NoiseMap", name := "passOn", desc := "(III)V" } : Jvm.MethodName), 2)) (by have h := List.mem_of_getElem? (l := lw_privs_2) (i := 9) (a := (({ cls := "BenchBroker$NoiseMap", name := "passOn", desc := "(III)V" } : Jvm.MethodName), 2)) rfl; exact List.mem_append_right _ (h)) rfl
theorem wp_26 : Cond.selects "BenchBroker$NoiseMap" ({ cls := "BenchBroker$NoiseMap", name := "hear", desc := "(III)V" } : Jvm.MethodName) ({ cls := "BenchBroker$NoiseMap", name := "hear", desc := "(III)V" } : Jvm.MethodName) ∈ GW := gw_p (q := (({ cls := "BenchBroker$NoiseMap", name := "hear", desc := "(III)V" } : Jvm.MethodName), 2)) (by have h := List.mem_of_getElem? (l := lw_privs_2) (i := 10) (a := (({ cls := "BenchBroker$NoiseMap", name := "hear", desc := "(III)V" } : Jvm.MethodName), 2)) rfl; exact List.mem_append_right _ (h)) rfl
theorem wp_27 : Cond.selects "BenchBroker$NoiseMap" ({ cls := "BenchBroker$NoiseMap", name := "addSound", desc := "()V" } : Jvm.MethodName) ({ cls := "BenchBroker$NoiseMap", name := "addSound", desc := "()V" } : Jvm.MethodName) ∈ GW := gw_p (q := (({ cls := "BenchBroker$NoiseMap", name := "addSound", desc := "()V" } : Jvm.MethodName), 2)) (by have h := List.mem_of_getElem? (l := lw_privs_2) (i := 11) (a := (({ cls := "BenchBroker$NoiseMap", name := "addSound", desc := "()V" } : Jvm.MethodName), 2)) rfl; exact List.mem_append_right _ (h)) rfl
theorem wp_28 : Cond.selects "BenchBroker$Books" ({ cls := "BenchBroker$Books", name := "incomeFrom", desc := "(II)I" } : Jvm.MethodName) ({ cls := "BenchBroker$Books", name := "incomeFrom", desc := "(II)I" } : Jvm.MethodName) ∈ GW := gw_p (q := (({ cls := "BenchBroker$Books", name := "incomeFrom", desc := "(II)I" } : Jvm.MethodName), 13)) (by have h := List.mem_of_getElem? (l := lw_privs_2) (i := 12) (a := (({ cls := "BenchBroker$Books", name := "incomeFrom", desc := "(II)I" } : Jvm.MethodName), 13)) rfl; exact List.mem_append_right _ (h)) rfl
theorem wp_29 : Cond.selects "BenchBroker" ({ cls := "BenchBroker", name := "noisesAgree", desc := "()Z" } : Jvm.MethodName) ({ cls := "BenchBroker", name := "noisesAgree", desc := "()Z" } : Jvm.MethodName) ∈ GW := gw_p (q := (({ cls := "BenchBroker", name := "noisesAgree", desc := "()Z" } : Jvm.MethodName), 13)) (by have h := List.mem_of_getElem? (l := lw_privs_2) (i := 13) (a := (({ cls := "BenchBroker", name := "noisesAgree", desc := "()Z" } : Jvm.MethodName), 13)) rfl; exact List.mem_append_right _ (h)) rfl
theorem wp_30 : Cond.selects "BenchBroker" ({ cls := "BenchBroker", name := "incomesAgree", desc := "(I)Z" } : Jvm.MethodName) ({ cls := "BenchBroker", name := "incomesAgree", desc := "(I)Z" } : Jvm.MethodName) ∈ GW := gw_p (q := (({ cls := "BenchBroker", name := "incomesAgree", desc := "(I)Z" } : Jvm.MethodName), 13)) (by have h := List.mem_of_getElem? (l := lw_privs_2) (i := 14) (a := (({ cls := "BenchBroker", name := "incomesAgree", desc := "(I)Z" } : Jvm.MethodName), 13)) rfl; exact List.mem_append_right _ (h)) rfl
theorem uG_X1 : ∀ k, k < 13 → u_lay RX1 TX1 k ∈ GW := fun k hk => match k, hk with
  | 0, _ => wq_132
  | 1, _ => wq_134
  | 2, _ => wq_136
  | 3, _ => wq_138
  | 4, _ => wq_140
  | 5, _ => wq_142
  | 6, _ => wq_144
  | 7, _ => wq_146
  | 8, _ => wq_148
  | 9, _ => wq_150
  | 10, _ => wq_152
  | 11, _ => wq_154
  | 12, _ => wq_156
  | k + 13, hk => absurd hk (by omega)
theorem inG_X1 : ∀ w ∈ u_ws RX1 TX1 13, w ∈ GW := by
  intro w hw
  obtain ⟨k, hk, rfl⟩ := List.mem_map.mp hw
  exact uG_X1 k (List.mem_range.mp hk)
theorem uG_X2 : ∀ k, k < 3 → u_lay RX2 TX2 k ∈ GW := fun k hk => match k, hk with
  | 0, _ => wq_172
  | 1, _ => wq_174
  | 2, _ => wq_176
  | k + 3, hk => absurd hk (by omega)
theorem inG_X2 : ∀ w ∈ u_ws RX2 TX2 3, w ∈ GW := by
  intro w hw
  obtain ⟨k, hk, rfl⟩ := List.mem_map.mp hw
  exact uG_X2 k (List.mem_range.mp hk)
theorem uG_X3 : ∀ k, k < 5 → u_lay RX3 TX3 k ∈ GW := fun k hk => match k, hk with
  | 0, _ => wq_234
  | 1, _ => wq_236
  | 2, _ => wq_238
  | 3, _ => wq_240
  | 4, _ => wq_242
  | k + 5, hk => absurd hk (by omega)
theorem inG_X3 : ∀ w ∈ u_ws RX3 TX3 5, w ∈ GW := by
  intro w hw
  obtain ⟨k, hk, rfl⟩ := List.mem_map.mp hw
  exact uG_X3 k (List.mem_range.mp hk)
theorem uG_X4 : ∀ k, k < 2 → u_lay RX4 TX4 k ∈ GW := fun k hk => match k, hk with
  | 0, _ => wq_211
  | 1, _ => wq_213
  | k + 2, hk => absurd hk (by omega)
theorem inG_X4 : ∀ w ∈ u_ws RX4 TX4 2, w ∈ GW := by
  intro w hw
  obtain ⟨k, hk, rfl⟩ := List.mem_map.mp hw
  exact uG_X4 k (List.mem_range.mp hk)
theorem uG_X5 : ∀ k, k < 4 → u_lay RX5 TX5 k ∈ GW := fun k hk => match k, hk with
  | 0, _ => wq_193
  | 1, _ => wq_195
  | 2, _ => wq_197
  | 3, _ => wq_199
  | k + 4, hk => absurd hk (by omega)
theorem inG_X5 : ∀ w ∈ u_ws RX5 TX5 4, w ∈ GW := by
  intro w hw
  obtain ⟨k, hk, rfl⟩ := List.mem_map.mp hw
  exact uG_X5 k (List.mem_range.mp hk)
theorem uG_X6 : ∀ k, k < 10 → u_lay RX6 TX6 k ∈ GW := fun k hk => match k, hk with
  | 0, _ => wq_80
  | 1, _ => wq_82
  | 2, _ => wq_84
  | 3, _ => wq_86
  | 4, _ => wq_88
  | 5, _ => wq_90
  | 6, _ => wq_92
  | 7, _ => wq_94
  | 8, _ => wq_96
  | 9, _ => wq_98
  | k + 10, hk => absurd hk (by omega)
theorem inG_X6 : ∀ w ∈ u_ws RX6 TX6 10, w ∈ GW := by
  intro w hw
  obtain ⟨k, hk, rfl⟩ := List.mem_map.mp hw
  exact uG_X6 k (List.mem_range.mp hk)
theorem uG_X8 : ∀ k, k < 13 → u_lay RX8 TX8 k ∈ GW := fun k hk => match k, hk with
  | 0, _ => wq_292
  | 1, _ => wq_294
  | 2, _ => wq_296
  | 3, _ => wq_298
  | 4, _ => wq_300
  | 5, _ => wq_302
  | 6, _ => wq_304
  | 7, _ => wq_306
  | 8, _ => wq_308
  | 9, _ => wq_310
  | 10, _ => wq_312
  | 11, _ => wq_314
  | 12, _ => wq_316
  | k + 13, hk => absurd hk (by omega)
theorem inG_X8 : ∀ w ∈ u_ws RX8 TX8 13, w ∈ GW := by
  intro w hw
  obtain ⟨k, hk, rfl⟩ := List.mem_map.mp hw
  exact uG_X8 k (List.mem_range.mp hk)
theorem uG_J0 : ∀ k, k < 4 → u_lay RJ0 TJ0 k ∈ GW := fun k hk => match k, hk with
  | 0, _ => wq_417
  | 1, _ => wq_419
  | 2, _ => wq_1057
  | 3, _ => wq_1059
  | k + 4, hk => absurd hk (by omega)
theorem inG_J0 : ∀ w ∈ u_ws RJ0 TJ0 4, w ∈ GW := by
  intro w hw
  obtain ⟨k, hk, rfl⟩ := List.mem_map.mp hw
  exact uG_J0 k (List.mem_range.mp hk)
theorem uG_J4 : ∀ k, k < 4 → u_lay RJ4 TJ4 k ∈ GW := fun k hk => match k, hk with
  | 0, _ => wq_269
  | 1, _ => wq_271
  | 2, _ => wq_273
  | 3, _ => wq_275
  | k + 4, hk => absurd hk (by omega)
theorem inG_J4 : ∀ w ∈ u_ws RJ4 TJ4 4, w ∈ GW := by
  intro w hw
  obtain ⟨k, hk, rfl⟩ := List.mem_map.mp hw
  exact uG_J4 k (List.mem_range.mp hk)
theorem gwG {y : MethodName} {cc : ByteArray} {n : Nat} {r : Option FieldType} (h : Cond.code y cc n r ∈ GW) : GoodIn GW (.code y cc n r :: GW) := by
  intro w hw
  rcases List.mem_cons.mp hw with e | h2
  · rw [e]; exact ⟨h, good_of_word (gw_good h)⟩
  · exact ⟨h2, good_of_word (gw_good h2)⟩
theorem gwV {own C : String} {ix : Nat} {y : MethodName} {cc : ByteArray} {n : Nat} {r : Option FieldType} (h1 : Cond.methodLink own ix y ∈ GW) (h2 : Cond.instanceMethod y ∈ GW) (h3 : Cond.selects C y y ∈ GW) (h4 : Cond.initialized C ∈ GW) (h5 : Cond.code y cc n r ∈ GW) : GoodIn GW (wsV own ix C y (.code y cc n r :: GW)) := by
  intro w hw
  rcases List.mem_append.mp hw with h | h
  · simp only [List.mem_cons, List.not_mem_nil, or_false] at h
    rcases h with e | e | e | e <;> rw [e]
    · exact ⟨h1, good_of_word (gw_good h1)⟩
    · exact ⟨h2, good_of_word (gw_good h2)⟩
    · exact ⟨h3, good_of_word (gw_good h3)⟩
    · exact ⟨h4, good_of_word (gw_good h4)⟩
  · exact gwG h5 w h
theorem gwS {own : String} {ix : Nat} {y : MethodName} {cc : ByteArray} {n : Nat} {r : Option FieldType} (h1 : Cond.methodLink own ix y ∈ GW) (h2 : Cond.static y ∈ GW) (h4 : Cond.initialized own ∈ GW) (h5 : Cond.code y cc n r ∈ GW) : GoodIn GW (wsS own ix y (.code y cc n r :: GW)) := by
  intro w hw
  rcases List.mem_append.mp hw with h | h
  · simp only [List.mem_cons, List.not_mem_nil, or_false] at h
    rcases h with e | e | e <;> rw [e]
    · exact ⟨h1, good_of_word (gw_good h1)⟩
    · exact ⟨h2, good_of_word (gw_good h2)⟩
    · exact ⟨h4, good_of_word (gw_good h4)⟩
  · exact gwG h5 w h
