/-! ===== BEGIN printed: names, fields, word lists, decode rows ===== -/
def RX0 : String := "PrintLedger$Expectation"
def TX0 : u_T := fun k => match k with
  | 0 => ("PrintLedger$Expectation", "passes", "I", false)
  | 1 => ("PrintLedger$Expectation", "change", "I", false)
  | 2 => ("PrintLedger$Expectation", "spoiled", "I", false)
  | 3 => ("PrintLedger$Expectation", "needed", "I", false)
  | 4 => ("PrintLedger$Expectation", "minutes", "I", false)
  | 5 => ("PrintLedger$Expectation", "cost", "I", false)
  | _ => ("PrintLedger$Expectation", "quote", "I", false)
def tyX0 : Nat → FieldType := fun k => match k with
  | 0 => .int
  | 1 => .int
  | 2 => .int
  | 3 => .int
  | 4 => .int
  | 5 => .int
  | _ => .int
abbrev wsX00 : List Cond := u_ws RX0 TX0 7
theorem nmX0 : ∀ a, a < 7 → ∀ b, b < 7 → a ≠ b → (TX0 a).2.1 ≠ (TX0 b).2.1 := by decide +kernel
theorem tyX0_ok : ∀ k, k < 7 → parseFieldDescriptor (TX0 k).2.2.1 = some (tyX0 k) := by decide +kernel
abbrev cX0_init : ByteArray := prog_2_method_1_code
def yX0_init : MethodName := ⟨RX0, "<init>", "()V"⟩
def RX1 : String := "PrintLedger$Job"
def TX1 : u_T := fun k => match k with
  | 0 => ("PrintLedger$Job", "number", "I", true)
  | 1 => ("PrintLedger$Job", "paper", "I", true)
  | 2 => ("PrintLedger$Job", "sheet", "LPrintLedger$Paper;", true)
  | 3 => ("PrintLedger$Job", "copies", "I", true)
  | 4 => ("PrintLedger$Job", "inks", "I", true)
  | 5 => ("PrintLedger$Job", "lies", "I", false)
  | 6 => ("PrintLedger$Job", "turned", "Z", false)
  | 7 => ("PrintLedger$Job", "leaves", "I", false)
  | 8 => ("PrintLedger$Job", "state", "I", false)
  | 9 => ("PrintLedger$Job", "press", "I", false)
  | 10 => ("PrintLedger$Job", "made", "I", false)
  | 11 => ("PrintLedger$Job", "quote", "I", false)
  | 12 => ("PrintLedger$Job", "cost", "I", false)
  | 13 => ("PrintLedger$Job", "invoiced", "I", false)
  | _ => ("PrintLedger$Job", "inksArePaid", "Z", false)
def tyX1 : Nat → FieldType := fun k => match k with
  | 0 => .int
  | 1 => .int
  | 2 => .object "PrintLedger$Paper"
  | 3 => .int
  | 4 => .int
  | 5 => .int
  | 6 => .boolean
  | 7 => .int
  | 8 => .int
  | 9 => .int
  | 10 => .int
  | 11 => .int
  | 12 => .int
  | 13 => .int
  | _ => .boolean
abbrev wsX10 : List Cond := u_ws RX1 TX1 15
theorem nmX1 : ∀ a, a < 15 → ∀ b, b < 15 → a ≠ b → (TX1 a).2.1 ≠ (TX1 b).2.1 := by decide +kernel
theorem tyX1_ok : ∀ k, k < 15 → parseFieldDescriptor (TX1 k).2.2.1 = some (tyX1 k) := by decide +kernel
abbrev cX1_init : ByteArray := prog_3_method_1_code
def yX1_init : MethodName := ⟨RX1, "<init>", "(IILPrintLedger$Paper;II)V"⟩
abbrev cX1_layOut : ByteArray := prog_3_method_2_code
def yX1_layOut : MethodName := ⟨RX1, "layOut", "(II)V"⟩
abbrev cX1_sheets : ByteArray := prog_3_method_3_code
def yX1_sheets : MethodName := ⟨RX1, "sheets", "()I"⟩
abbrev cX1_moneyOfInks : ByteArray := prog_3_method_4_code
def yX1_moneyOfInks : MethodName := ⟨RX1, "moneyOfInks", "()I"⟩
abbrev cX1_takenWith : ByteArray := prog_3_method_5_code
def yX1_takenWith : MethodName := ⟨RX1, "takenWith", "(I)I"⟩
abbrev cX1_worth : ByteArray := prog_3_method_6_code
def yX1_worth : MethodName := ⟨RX1, "worth", "()I"⟩
def RX2 : String := "PrintLedger$Paper"
def TX2 : u_T := fun k => match k with
  | 0 => ("PrintLedger$Paper", "wide", "I", false)
  | 1 => ("PrintLedger$Paper", "high", "I", false)
  | 2 => ("PrintLedger$Paper", "price", "I", false)
  | _ => ("PrintLedger$Paper", "stock", "I", false)
def tyX2 : Nat → FieldType := fun k => match k with
  | 0 => .int
  | 1 => .int
  | 2 => .int
  | _ => .int
abbrev wsX20 : List Cond := u_ws RX2 TX2 4
theorem nmX2 : ∀ a, a < 4 → ∀ b, b < 4 → a ≠ b → (TX2 a).2.1 ≠ (TX2 b).2.1 := by decide +kernel
theorem tyX2_ok : ∀ k, k < 4 → parseFieldDescriptor (TX2 k).2.2.1 = some (tyX2 k) := by decide +kernel
abbrev cX2_init : ByteArray := prog_4_method_1_code
def yX2_init : MethodName := ⟨RX2, "<init>", "()V"⟩
abbrev cX2_holds : ByteArray := prog_4_method_2_code
def yX2_holds : MethodName := ⟨RX2, "holds", "(II)I"⟩
abbrev cX2_lotsWithRoom : ByteArray := prog_4_method_3_code
def yX2_lotsWithRoom : MethodName := ⟨RX2, "lotsWithRoom", "()I"⟩
def RX3 : String := "PrintLedger$Press"
def TX3 : u_T := fun k => match k with
  | 0 => ("PrintLedger$Press", "towers", "I", false)
  | 1 => ("PrintLedger$Press", "inks", "I", false)
  | 2 => ("PrintLedger$Press", "ready", "I", false)
  | 3 => ("PrintLedger$Press", "run", "I", false)
  | 4 => ("PrintLedger$Press", "spoil", "I", false)
  | 5 => ("PrintLedger$Press", "line", "[LPrintLedger$Job;", true)
  | _ => ("PrintLedger$Press", "waiting", "I", false)
def tyX3 : Nat → FieldType := fun k => match k with
  | 0 => .int
  | 1 => .int
  | 2 => .int
  | 3 => .int
  | 4 => .int
  | 5 => .array (.object "PrintLedger$Job")
  | _ => .int
abbrev wsX30 : List Cond := u_ws RX3 TX3 7
theorem nmX3 : ∀ a, a < 7 → ∀ b, b < 7 → a ≠ b → (TX3 a).2.1 ≠ (TX3 b).2.1 := by decide +kernel
theorem tyX3_ok : ∀ k, k < 7 → parseFieldDescriptor (TX3 k).2.2.1 = some (tyX3 k) := by decide +kernel
abbrev cX3_init : ByteArray := prog_5_method_1_code
def yX3_init : MethodName := ⟨RX3, "<init>", "()V"⟩
abbrev cX3_passesOf : ByteArray := prog_5_method_2_code
def yX3_passesOf : MethodName := ⟨RX3, "passesOf", "(LPrintLedger$Job;)I"⟩
abbrev cX3_jobAt : ByteArray := prog_5_method_3_code
def yX3_jobAt : MethodName := ⟨RX3, "jobAt", "(I)LPrintLedger$Job;"⟩
abbrev cX3_insert : ByteArray := prog_5_method_4_code
def yX3_insert : MethodName := ⟨RX3, "insert", "(LPrintLedger$Job;I)V"⟩
abbrev cX3_remove : ByteArray := prog_5_method_5_code
def yX3_remove : MethodName := ⟨RX3, "remove", "(I)V"⟩
abbrev cX3_bringLeastChangeAhead : ByteArray := prog_5_method_6_code
def yX3_bringLeastChangeAhead : MethodName := ⟨RX3, "bringLeastChangeAhead", "()V"⟩
abbrev cX3_placeOfLeastChange : ByteArray := prog_5_method_7_code
def yX3_placeOfLeastChange : MethodName := ⟨RX3, "placeOfLeastChange", "(II)I"⟩
abbrev cX3_learn : ByteArray := prog_5_method_9_code
def yX3_learn : MethodName := ⟨RX3, "learn", "(LPrintLedger$Job;III)V"⟩
abbrev cX3_rateOf : ByteArray := prog_5_method_10_code
def yX3_rateOf : MethodName := ⟨RX3, "rateOf", "(I)I"⟩
def RX4 : String := "PrintLedger"
def TX4 : u_T := fun k => match k with
  | 0 => ("PrintLedger", "papers", "[LPrintLedger$Paper;", true)
  | 1 => ("PrintLedger", "presses", "[LPrintLedger$Press;", true)
  | 2 => ("PrintLedger", "jobs", "[LPrintLedger$Job;", true)
  | 3 => ("PrintLedger", "jobCount", "I", false)
  | 4 => ("PrintLedger", "money", "I", false)
  | 5 => ("PrintLedger", "wage", "I", false)
  | 6 => ("PrintLedger", "margin", "I", false)
  | 7 => ("PrintLedger", "minutesTold", "I", false)
  | 8 => ("PrintLedger", "spoiledTold", "I", false)
  | 9 => ("PrintLedger", "expectation", "LPrintLedger$Expectation;", true)
  | _ => ("PrintLedger", "trial", "LPrintLedger$Press;", true)
def tyX4 : Nat → FieldType := fun k => match k with
  | 0 => .array (.object "PrintLedger$Paper")
  | 1 => .array (.object "PrintLedger$Press")
  | 2 => .array (.object "PrintLedger$Job")
  | 3 => .int
  | 4 => .int
  | 5 => .int
  | 6 => .int
  | 7 => .int
  | 8 => .int
  | 9 => .object "PrintLedger$Expectation"
  | _ => .object "PrintLedger$Press"
abbrev wsX40 : List Cond := u_ws RX4 TX4 11
theorem nmX4 : ∀ a, a < 11 → ∀ b, b < 11 → a ≠ b → (TX4 a).2.1 ≠ (TX4 b).2.1 := by decide +kernel
theorem tyX4_ok : ∀ k, k < 11 → parseFieldDescriptor (TX4 k).2.2.1 = some (tyX4 k) := by decide +kernel
abbrev cX4_init : ByteArray := prog_1_method_1_code
def yX4_init : MethodName := ⟨RX4, "<init>", "()V"⟩
abbrev cX4_paper : ByteArray := prog_1_method_2_code
def yX4_paper : MethodName := ⟨RX4, "paper", "(IIII)I"⟩
abbrev cX4_buy : ByteArray := prog_1_method_3_code
def yX4_buy : MethodName := ⟨RX4, "buy", "(II)I"⟩
abbrev cX4_buyAll : ByteArray := prog_1_method_4_code
def yX4_buyAll : MethodName := ⟨RX4, "buyAll", "()I"⟩
abbrev cX4_ofPaper : ByteArray := prog_1_method_5_code
def yX4_ofPaper : MethodName := ⟨RX4, "ofPaper", "(II)I"⟩
abbrev cX4_bring : ByteArray := prog_1_method_6_code
def yX4_bring : MethodName := ⟨RX4, "bring", "(LPrintLedger$Paper;I)V"⟩
abbrev cX4_forecastOf : ByteArray := prog_1_method_7_code
def yX4_forecastOf : MethodName := ⟨RX4, "forecastOf", "(LPrintLedger$Paper;)I"⟩
abbrev cX4_neededOf : ByteArray := prog_1_method_8_code
def yX4_neededOf : MethodName := ⟨RX4, "neededOf", "(LPrintLedger$Paper;LPrintLedger$Press;)I"⟩
abbrev cX4_shortOf : ByteArray := prog_1_method_9_code
def yX4_shortOf : MethodName := ⟨RX4, "shortOf", "(LPrintLedger$Paper;)I"⟩
abbrev cX4_job : ByteArray := prog_1_method_10_code
def yX4_job : MethodName := ⟨RX4, "job", "(IIIII)I"⟩
abbrev cX4_ofJob : ByteArray := prog_1_method_11_code
def yX4_ofJob : MethodName := ⟨RX4, "ofJob", "(II)I"⟩
abbrev cX4_expected : ByteArray := prog_1_method_12_code
def yX4_expected : MethodName := ⟨RX4, "expected", "(III)I"⟩
abbrev cX4_order : ByteArray := prog_1_method_13_code
def yX4_order : MethodName := ⟨RX4, "order", "(II)I"⟩
abbrev cX4_again : ByteArray := prog_1_method_14_code
def yX4_again : MethodName := ⟨RX4, "again", "(I)I"⟩
abbrev cX4_invoice : ByteArray := prog_1_method_15_code
def yX4_invoice : MethodName := ⟨RX4, "invoice", "(I)I"⟩
abbrev cX4_expect : ByteArray := prog_1_method_16_code
def yX4_expect : MethodName := ⟨RX4, "expect", "(LPrintLedger$Job;LPrintLedger$Press;I)LPrintLedger$Expectation;"⟩
abbrev cX4_changeOf : ByteArray := prog_1_method_17_code
def yX4_changeOf : MethodName := ⟨RX4, "changeOf", "(LPrintLedger$Job;I)I"⟩
abbrev cX4_towers : ByteArray := prog_1_method_18_code
def yX4_towers : MethodName := ⟨RX4, "towers", "(II)I"⟩
abbrev cX4_ofPress : ByteArray := prog_1_method_19_code
def yX4_ofPress : MethodName := ⟨RX4, "ofPress", "(II)I"⟩
abbrev cX4_queue : ByteArray := prog_1_method_20_code
def yX4_queue : MethodName := ⟨RX4, "queue", "(II)I"⟩
abbrev cX4_sort : ByteArray := prog_1_method_21_code
def yX4_sort : MethodName := ⟨RX4, "sort", "(I)I"⟩
abbrev cX4_slip : ByteArray := prog_1_method_22_code
def yX4_slip : MethodName := ⟨RX4, "slip", "(III)I"⟩
abbrev cX4_jobOfSlip : ByteArray := prog_1_method_23_code
def yX4_jobOfSlip : MethodName := ⟨RX4, "jobOfSlip", "(LPrintLedger$Press;II)LPrintLedger$Job;"⟩
abbrev cX4_minutesOfQueue : ByteArray := prog_1_method_24_code
def yX4_minutesOfQueue : MethodName := ⟨RX4, "minutesOfQueue", "(LPrintLedger$Press;)I"⟩
abbrev cX4_terms : ByteArray := prog_1_method_25_code
def yX4_terms : MethodName := ⟨RX4, "terms", "(II)I"⟩
abbrev cX4_many : ByteArray := prog_1_method_26_code
def yX4_many : MethodName := ⟨RX4, "many", "(I)I"⟩
abbrev cX4_jobsThatAre : ByteArray := prog_1_method_28_code
def yX4_jobsThatAre : MethodName := ⟨RX4, "jobsThatAre", "(I)I"⟩
abbrev cX4_moneyOfInvoices : ByteArray := prog_1_method_29_code
def yX4_moneyOfInvoices : MethodName := ⟨RX4, "moneyOfInvoices", "()I"⟩
abbrev cX4_costOfJobs : ByteArray := prog_1_method_30_code
def yX4_costOfJobs : MethodName := ⟨RX4, "costOfJobs", "()I"⟩
abbrev cX4_worthOfStock : ByteArray := prog_1_method_31_code
def yX4_worthOfStock : MethodName := ⟨RX4, "worthOfStock", "()I"⟩
abbrev cX4_bestPress : ByteArray := prog_1_method_32_code
def yX4_bestPress : MethodName := ⟨RX4, "bestPress", "(I)I"⟩
abbrev cX4_profit : ByteArray := prog_1_method_34_code
def yX4_profit : MethodName := ⟨RX4, "profit", "(I)I"⟩
abbrev cX4_digest : ByteArray := prog_1_method_35_code
def yX4_digest : MethodName := ⟨RX4, "digest", "()J"⟩
abbrev cX4_digestWithPress : ByteArray := prog_1_method_36_code
def yX4_digestWithPress : MethodName := ⟨RX4, "digestWithPress", "(JI)J"⟩
abbrev cX4_digestWithJob : ByteArray := prog_1_method_37_code
def yX4_digestWithJob : MethodName := ⟨RX4, "digestWithJob", "(JI)J"⟩
abbrev cX4_paperOf : ByteArray := prog_1_method_38_code
def yX4_paperOf : MethodName := ⟨RX4, "paperOf", "(I)LPrintLedger$Paper;"⟩
abbrev cX4_jobOf : ByteArray := prog_1_method_39_code
def yX4_jobOf : MethodName := ⟨RX4, "jobOf", "(I)LPrintLedger$Job;"⟩
abbrev cX4_pressOf : ByteArray := prog_1_method_40_code
def yX4_pressOf : MethodName := ⟨RX4, "pressOf", "(I)LPrintLedger$Press;"⟩
abbrev cX4_isOutside : ByteArray := prog_1_method_41_code
def yX4_isOutside : MethodName := ⟨RX4, "isOutside", "(III)Z"⟩
abbrev cX4_divide : ByteArray := prog_1_method_42_code
def yX4_divide : MethodName := ⟨RX4, "divide", "(II)I"⟩
abbrev cX4_divideUp : ByteArray := prog_1_method_43_code
def yX4_divideUp : MethodName := ⟨RX4, "divideUp", "(II)I"⟩
def RX5 : String := "PrintLedgerModel$Job"
def TX5 : u_T := fun k => match k with
  | _ => ("", "", "", false)
def tyX5 : Nat → FieldType := fun k => match k with
  | _ => .int
abbrev wsX50 : List Cond := u_ws RX5 TX5 0
theorem nmX5 : ∀ a, a < 0 → ∀ b, b < 0 → a ≠ b → (TX5 a).2.1 ≠ (TX5 b).2.1 := by decide +kernel
theorem tyX5_ok : ∀ k, k < 0 → parseFieldDescriptor (TX5 k).2.2.1 = some (tyX5 k) := by decide +kernel
def RX6 : String := "PrintLedgerModel$Paper"
def TX6 : u_T := fun k => match k with
  | _ => ("", "", "", false)
def tyX6 : Nat → FieldType := fun k => match k with
  | _ => .int
abbrev wsX60 : List Cond := u_ws RX6 TX6 0
theorem nmX6 : ∀ a, a < 0 → ∀ b, b < 0 → a ≠ b → (TX6 a).2.1 ≠ (TX6 b).2.1 := by decide +kernel
theorem tyX6_ok : ∀ k, k < 0 → parseFieldDescriptor (TX6 k).2.2.1 = some (tyX6 k) := by decide +kernel
def RX7 : String := "PrintLedgerModel$Press"
def TX7 : u_T := fun k => match k with
  | _ => ("", "", "", false)
def tyX7 : Nat → FieldType := fun k => match k with
  | _ => .int
abbrev wsX70 : List Cond := u_ws RX7 TX7 0
theorem nmX7 : ∀ a, a < 0 → ∀ b, b < 0 → a ≠ b → (TX7 a).2.1 ≠ (TX7 b).2.1 := by decide +kernel
theorem tyX7_ok : ∀ k, k < 0 → parseFieldDescriptor (TX7 k).2.2.1 = some (tyX7 k) := by decide +kernel
def RX8 : String := "PrintLedgerModel"
def TX8 : u_T := fun k => match k with
  | _ => ("", "", "", false)
def tyX8 : Nat → FieldType := fun k => match k with
  | _ => .int
abbrev wsX80 : List Cond := u_ws RX8 TX8 0
theorem nmX8 : ∀ a, a < 0 → ∀ b, b < 0 → a ≠ b → (TX8 a).2.1 ≠ (TX8 b).2.1 := by decide +kernel
theorem tyX8_ok : ∀ k, k < 0 → parseFieldDescriptor (TX8 k).2.2.1 = some (tyX8 k) := by decide +kernel
def RJx145de : String := "java/io/Serializable"
def TJx145de : u_T := fun k => match k with
  | _ => ("", "", "", false)
def tyJx145de : Nat → FieldType := fun k => match k with
  | _ => .int
abbrev wsJx145de0 : List Cond := u_ws RJx145de TJx145de 0
theorem nmJx145de : ∀ a, a < 0 → ∀ b, b < 0 → a ≠ b → (TJx145de a).2.1 ≠ (TJx145de b).2.1 := by decide +kernel
theorem tyJx145de_ok : ∀ k, k < 0 → parseFieldDescriptor (TJx145de k).2.2.1 = some (tyJx145de k) := by decide +kernel
def RJ6 : String := "java/lang/Integer"
def TJ6 : u_T := fun k => match k with
  | _ => ("", "", "", false)
def tyJ6 : Nat → FieldType := fun k => match k with
  | _ => .int
abbrev wsJ60 : List Cond := u_ws RJ6 TJ6 0
theorem nmJ6 : ∀ a, a < 0 → ∀ b, b < 0 → a ≠ b → (TJ6 a).2.1 ≠ (TJ6 b).2.1 := by decide +kernel
theorem tyJ6_ok : ∀ k, k < 0 → parseFieldDescriptor (TJ6 k).2.2.1 = some (tyJ6 k) := by decide +kernel
abbrev cJ6_bitCount_0f7a4 : ByteArray := prog_15_method_49_code
def yJ6_bitCount_0f7a4 : MethodName := ⟨RJ6, "bitCount", "(I)I"⟩
def RJ9 : String := "java/lang/Math"
def TJ9 : u_T := fun k => match k with
  | _ => ("", "", "", false)
def tyJ9 : Nat → FieldType := fun k => match k with
  | _ => .int
abbrev wsJ90 : List Cond := u_ws RJ9 TJ9 0
theorem nmJ9 : ∀ a, a < 0 → ∀ b, b < 0 → a ≠ b → (TJ9 a).2.1 ≠ (TJ9 b).2.1 := by decide +kernel
theorem tyJ9_ok : ∀ k, k < 0 → parseFieldDescriptor (TJ9 k).2.2.1 = some (tyJ9 k) := by decide +kernel
abbrev cJ9_max_7cf53 : ByteArray := prog_16_method_65_code
def yJ9_max_7cf53 : MethodName := ⟨RJ9, "max", "(II)I"⟩
abbrev cJ9_min_7cf53 : ByteArray := prog_16_method_69_code
def yJ9_min_7cf53 : MethodName := ⟨RJ9, "min", "(II)I"⟩
def RJ0 : String := "java/lang/String"
def TJ0 : u_T := fun k => match k with
  | _ => ("", "", "", false)
def tyJ0 : Nat → FieldType := fun k => match k with
  | _ => .int
abbrev wsJ00 : List Cond := u_ws RJ0 TJ0 0
theorem nmJ0 : ∀ a, a < 0 → ∀ b, b < 0 → a ≠ b → (TJ0 a).2.1 ≠ (TJ0 b).2.1 := by decide +kernel
theorem tyJ0_ok : ∀ k, k < 0 → parseFieldDescriptor (TJ0 k).2.2.1 = some (tyJ0 k) := by decide +kernel
def RL : String := "PrintLedgerLaw"
abbrev cL_below : ByteArray := method_2_code
def yL_below : MethodName := ⟨RL, "below", "(II)I"⟩
abbrev cL_cell : ByteArray := method_3_code
def yL_cell : MethodName := ⟨RL, "cell", "([II)I"⟩
abbrev cL_law : ByteArray := code
def yL_law : MethodName := ⟨RL, "law", "([I)Z"⟩
abbrev cL_act : ByteArray := method_5_code
def yL_act : MethodName := ⟨RL, "act", "(LPrintLedger;IIII)Z"⟩
abbrev cL_isTold : ByteArray := method_6_code
def yL_isTold : MethodName := ⟨RL, "isTold", "(LPrintLedger;III)Z"⟩
abbrev cL_areJobsRight : ByteArray := method_7_code
def yL_areJobsRight : MethodName := ⟨RL, "areJobsRight", "(LPrintLedger;)Z"⟩
abbrev cL_arePressesRight : ByteArray := method_8_code
def yL_arePressesRight : MethodName := ⟨RL, "arePressesRight", "(LPrintLedger;)Z"⟩
abbrev cL_arePapersRight : ByteArray := method_9_code
def yL_arePapersRight : MethodName := ⟨RL, "arePapersRight", "(LPrintLedger;Z)Z"⟩
abbrev vwCl : List vw_C := [(RX0, TX0, 7), (RX1, TX1, 15), (RX2, TX2, 4), (RX3, TX3, 7), (RX4, TX4, 11)]
