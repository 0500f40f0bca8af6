set_option maxRecDepth 100000 in
theorem kw_0 : (Jvm.Cond.selects "PrintLedger" ({ cls := "PrintLedger", name := "jobsThatAre", desc := "(I)I" } : Jvm.MethodName) ({ cls := "PrintLedger", name := "jobsThatAre", desc := "(I)I" } : Jvm.MethodName)) ∈ BG := bg_in 0 rfl rfl
set_option maxRecDepth 100000 in
theorem kw_1 : (Jvm.Cond.selects "PrintLedger" ({ cls := "PrintLedger", name := "moneyOfInvoices", desc := "()I" } : Jvm.MethodName) ({ cls := "PrintLedger", name := "moneyOfInvoices", desc := "()I" } : Jvm.MethodName)) ∈ BG := bg_in 1 rfl rfl
set_option maxRecDepth 100000 in
theorem kw_2 : (Jvm.Cond.selects "PrintLedger" ({ cls := "PrintLedger", name := "costOfJobs", desc := "()I" } : Jvm.MethodName) ({ cls := "PrintLedger", name := "costOfJobs", desc := "()I" } : Jvm.MethodName)) ∈ BG := bg_in 2 rfl rfl
set_option maxRecDepth 100000 in
theorem kw_3 : (Jvm.Cond.selects "PrintLedger" ({ cls := "PrintLedger", name := "worthOfStock", desc := "()I" } : Jvm.MethodName) ({ cls := "PrintLedger", name := "worthOfStock", desc := "()I" } : Jvm.MethodName)) ∈ BG := bg_in 3 rfl rfl
set_option maxRecDepth 100000 in
theorem kw_4 : (Jvm.Cond.selects "java/lang/Throwable" ({ cls := "java/lang/Throwable", name := "fillInStackTrace", desc := "(I)Ljava/lang/Throwable;" } : Jvm.MethodName) ({ cls := "java/lang/Throwable", name := "fillInStackTrace", desc := "(I)Ljava/lang/Throwable;" } : Jvm.MethodName)) ∈ BG := bg_in 4 rfl rfl
set_option maxRecDepth 100000 in
theorem kw_5 : (Jvm.Cond.selects "PrintLedger" ({ cls := "PrintLedger", name := "paperOf", desc := "(I)LPrintLedger$Paper;" } : Jvm.MethodName) ({ cls := "PrintLedger", name := "paperOf", desc := "(I)LPrintLedger$Paper;" } : Jvm.MethodName)) ∈ BG := bg_in 5 rfl rfl
set_option maxRecDepth 100000 in
theorem kw_6 : (Jvm.Cond.selects "PrintLedger" ({ cls := "PrintLedger", name := "forecastOf", desc := "(LPrintLedger$Paper;)I" } : Jvm.MethodName) ({ cls := "PrintLedger", name := "forecastOf", desc := "(LPrintLedger$Paper;)I" } : Jvm.MethodName)) ∈ BG := bg_in 6 rfl rfl
set_option maxRecDepth 100000 in
theorem kw_7 : (Jvm.Cond.selects "PrintLedger" ({ cls := "PrintLedger", name := "neededOf", desc := "(LPrintLedger$Paper;LPrintLedger$Press;)I" } : Jvm.MethodName) ({ cls := "PrintLedger", name := "neededOf", desc := "(LPrintLedger$Paper;LPrintLedger$Press;)I" } : Jvm.MethodName)) ∈ BG := bg_in 7 rfl rfl
set_option maxRecDepth 100000 in
theorem kw_8 : (Jvm.Cond.selects "PrintLedger$Press" ({ cls := "PrintLedger$Press", name := "jobAt", desc := "(I)LPrintLedger$Job;" } : Jvm.MethodName) ({ cls := "PrintLedger$Press", name := "jobAt", desc := "(I)LPrintLedger$Job;" } : Jvm.MethodName)) ∈ BG := bg_in 8 rfl rfl
set_option maxRecDepth 100000 in
theorem kw_9 : (Jvm.Cond.selects "PrintLedger" ({ cls := "PrintLedger", name := "expect", desc := "(LPrintLedger$Job;LPrintLedger$Press;I)LPrintLedger$Expectation;" } : Jvm.MethodName) ({ cls := "PrintLedger", name := "expect", desc := "(LPrintLedger$Job;LPrintLedger$Press;I)LPrintLedger$Expectation;" } : Jvm.MethodName)) ∈ BG := bg_in 9 rfl rfl
set_option maxRecDepth 100000 in
theorem kw_10 : (Jvm.Cond.selects "PrintLedger$Job" ({ cls := "PrintLedger$Job", name := "sheets", desc := "()I" } : Jvm.MethodName) ({ cls := "PrintLedger$Job", name := "sheets", desc := "()I" } : Jvm.MethodName)) ∈ BG := bg_in 10 rfl rfl
set_option maxRecDepth 100000 in
theorem kw_11 : (Jvm.Cond.selects "PrintLedger$Press" ({ cls := "PrintLedger$Press", name := "passesOf", desc := "(LPrintLedger$Job;)I" } : Jvm.MethodName) ({ cls := "PrintLedger$Press", name := "passesOf", desc := "(LPrintLedger$Job;)I" } : Jvm.MethodName)) ∈ BG := bg_in 11 rfl rfl
set_option maxRecDepth 100000 in
theorem kw_12 : (Jvm.Cond.selects "PrintLedger$Job" ({ cls := "PrintLedger$Job", name := "moneyOfInks", desc := "()I" } : Jvm.MethodName) ({ cls := "PrintLedger$Job", name := "moneyOfInks", desc := "()I" } : Jvm.MethodName)) ∈ BG := bg_in 12 rfl rfl
set_option maxRecDepth 100000 in
theorem kw_13 : (Jvm.Cond.selects "PrintLedger" ({ cls := "PrintLedger", name := "shortOf", desc := "(LPrintLedger$Paper;)I" } : Jvm.MethodName) ({ cls := "PrintLedger", name := "shortOf", desc := "(LPrintLedger$Paper;)I" } : Jvm.MethodName)) ∈ BG := bg_in 13 rfl rfl
set_option maxRecDepth 100000 in
theorem kw_14 : (Jvm.Cond.selects "PrintLedger" ({ cls := "PrintLedger", name := "digestWithPress", desc := "(JI)J" } : Jvm.MethodName) ({ cls := "PrintLedger", name := "digestWithPress", desc := "(JI)J" } : Jvm.MethodName)) ∈ BG := bg_in 14 rfl rfl
set_option maxRecDepth 100000 in
theorem kw_15 : (Jvm.Cond.selects "PrintLedger" ({ cls := "PrintLedger", name := "pressOf", desc := "(I)LPrintLedger$Press;" } : Jvm.MethodName) ({ cls := "PrintLedger", name := "pressOf", desc := "(I)LPrintLedger$Press;" } : Jvm.MethodName)) ∈ BG := bg_in 15 rfl rfl
set_option maxRecDepth 100000 in
theorem kw_16 : (Jvm.Cond.selects "PrintLedger" ({ cls := "PrintLedger", name := "minutesOfQueue", desc := "(LPrintLedger$Press;)I" } : Jvm.MethodName) ({ cls := "PrintLedger", name := "minutesOfQueue", desc := "(LPrintLedger$Press;)I" } : Jvm.MethodName)) ∈ BG := bg_in 16 rfl rfl
set_option maxRecDepth 100000 in
theorem kw_17 : (Jvm.Cond.selects "PrintLedger" ({ cls := "PrintLedger", name := "digestWithJob", desc := "(JI)J" } : Jvm.MethodName) ({ cls := "PrintLedger", name := "digestWithJob", desc := "(JI)J" } : Jvm.MethodName)) ∈ BG := bg_in 17 rfl rfl
set_option maxRecDepth 100000 in
theorem kw_18 : (Jvm.Cond.selects "PrintLedger" ({ cls := "PrintLedger", name := "jobOf", desc := "(I)LPrintLedger$Job;" } : Jvm.MethodName) ({ cls := "PrintLedger", name := "jobOf", desc := "(I)LPrintLedger$Job;" } : Jvm.MethodName)) ∈ BG := bg_in 18 rfl rfl
set_option maxRecDepth 100000 in
theorem kw_19 : (Jvm.Cond.selects "PrintLedger$Job" ({ cls := "PrintLedger$Job", name := "worth", desc := "()I" } : Jvm.MethodName) ({ cls := "PrintLedger$Job", name := "worth", desc := "()I" } : Jvm.MethodName)) ∈ BG := bg_in 19 rfl rfl
set_option maxRecDepth 100000 in
theorem kw_20 : (Jvm.Cond.selects "PrintLedger$Paper" ({ cls := "PrintLedger$Paper", name := "holds", desc := "(II)I" } : Jvm.MethodName) ({ cls := "PrintLedger$Paper", name := "holds", desc := "(II)I" } : Jvm.MethodName)) ∈ BG := bg_in 20 rfl rfl
set_option maxRecDepth 100000 in
theorem kw_21 : (Jvm.Cond.selects "PrintLedger$Job" ({ cls := "PrintLedger$Job", name := "layOut", desc := "(II)V" } : Jvm.MethodName) ({ cls := "PrintLedger$Job", name := "layOut", desc := "(II)V" } : Jvm.MethodName)) ∈ BG := bg_in 21 rfl rfl
set_option maxRecDepth 100000 in
theorem kw_22 : (Jvm.Cond.selects "PrintLedger$Press" ({ cls := "PrintLedger$Press", name := "insert", desc := "(LPrintLedger$Job;I)V" } : Jvm.MethodName) ({ cls := "PrintLedger$Press", name := "insert", desc := "(LPrintLedger$Job;I)V" } : Jvm.MethodName)) ∈ BG := bg_in 22 rfl rfl
set_option maxRecDepth 100000 in
theorem kw_23 : (Jvm.Cond.selects "PrintLedger$Paper" ({ cls := "PrintLedger$Paper", name := "lotsWithRoom", desc := "()I" } : Jvm.MethodName) ({ cls := "PrintLedger$Paper", name := "lotsWithRoom", desc := "()I" } : Jvm.MethodName)) ∈ BG := bg_in 23 rfl rfl
set_option maxRecDepth 100000 in
theorem kw_24 : (Jvm.Cond.selects "PrintLedger" ({ cls := "PrintLedger", name := "bring", desc := "(LPrintLedger$Paper;I)V" } : Jvm.MethodName) ({ cls := "PrintLedger", name := "bring", desc := "(LPrintLedger$Paper;I)V" } : Jvm.MethodName)) ∈ BG := bg_in 24 rfl rfl
set_option maxRecDepth 100000 in
theorem kw_25 : (Jvm.Cond.selects "PrintLedger$Press" ({ cls := "PrintLedger$Press", name := "bringLeastChangeAhead", desc := "()V" } : Jvm.MethodName) ({ cls := "PrintLedger$Press", name := "bringLeastChangeAhead", desc := "()V" } : Jvm.MethodName)) ∈ BG := bg_in 25 rfl rfl
set_option maxRecDepth 100000 in
theorem kw_26 : (Jvm.Cond.selects "PrintLedger$Press" ({ cls := "PrintLedger$Press", name := "placeOfLeastChange", desc := "(II)I" } : Jvm.MethodName) ({ cls := "PrintLedger$Press", name := "placeOfLeastChange", desc := "(II)I" } : Jvm.MethodName)) ∈ BG := bg_in 26 rfl rfl
set_option maxRecDepth 100000 in
theorem kw_27 : (Jvm.Cond.selects "PrintLedger$Press" ({ cls := "PrintLedger$Press", name := "remove", desc := "(I)V" } : Jvm.MethodName) ({ cls := "PrintLedger$Press", name := "remove", desc := "(I)V" } : Jvm.MethodName)) ∈ BG := bg_in 27 rfl rfl
set_option maxRecDepth 100000 in
theorem kw_28 : (Jvm.Cond.selects "PrintLedger$Job" ({ cls := "PrintLedger$Job", name := "takenWith", desc := "(I)I" } : Jvm.MethodName) ({ cls := "PrintLedger$Job", name := "takenWith", desc := "(I)I" } : Jvm.MethodName)) ∈ BG := bg_in 28 rfl rfl
set_option maxRecDepth 100000 in
theorem kw_29 : (Jvm.Cond.selects "PrintLedger$Press" ({ cls := "PrintLedger$Press", name := "learn", desc := "(LPrintLedger$Job;III)V" } : Jvm.MethodName) ({ cls := "PrintLedger$Press", name := "learn", desc := "(LPrintLedger$Job;III)V" } : Jvm.MethodName)) ∈ BG := bg_in 29 rfl rfl
set_option maxRecDepth 100000 in
theorem kw_30 : (Jvm.Cond.initialized "PrintLedgerLaw") ∈ BG := bg_in 30 rfl rfl
set_option maxRecDepth 100000 in
theorem kw_31 : (Jvm.Cond.initialized "PrintLedger") ∈ BG := bg_in 31 rfl rfl
set_option maxRecDepth 100000 in
theorem kw_32 : (Jvm.Cond.initialized "PrintLedger$Paper") ∈ BG := bg_in 32 rfl rfl
set_option maxRecDepth 100000 in
theorem kw_33 : (Jvm.Cond.initialized "PrintLedger$Press") ∈ BG := bg_in 33 rfl rfl
set_option maxRecDepth 100000 in
theorem kw_34 : (Jvm.Cond.initialized "PrintLedger$Expectation") ∈ BG := bg_in 34 rfl rfl
set_option maxRecDepth 100000 in
theorem kw_35 : (Jvm.Cond.initialized "java/lang/Throwable") ∈ BG := bg_in 35 rfl rfl
set_option maxRecDepth 100000 in
theorem kw_36 : (Jvm.Cond.initialized "java/lang/Exception") ∈ BG := bg_in 36 rfl rfl
set_option maxRecDepth 100000 in
theorem kw_37 : (Jvm.Cond.initialized "java/lang/RuntimeException") ∈ BG := bg_in 37 rfl rfl
set_option maxRecDepth 100000 in
theorem kw_38 : (Jvm.Cond.initialized "java/lang/IllegalArgumentException") ∈ BG := bg_in 38 rfl rfl
set_option maxRecDepth 100000 in
theorem kw_39 : (Jvm.Cond.initialized "java/lang/Math") ∈ BG := bg_in 39 rfl rfl
set_option maxRecDepth 100000 in
theorem kw_40 : (Jvm.Cond.initialized "java/lang/IndexOutOfBoundsException") ∈ BG := bg_in 40 rfl rfl
set_option maxRecDepth 100000 in
theorem kw_41 : (Jvm.Cond.initialized "java/lang/IllegalStateException") ∈ BG := bg_in 41 rfl rfl
set_option maxRecDepth 100000 in
theorem kw_42 : (Jvm.Cond.initialized "PrintLedger$Job") ∈ BG := bg_in 42 rfl rfl
set_option maxRecDepth 100000 in
theorem kw_43 : (Jvm.Cond.initialized "java/lang/Integer") ∈ BG := bg_in 43 rfl rfl
set_option maxRecDepth 100000 in
theorem kw_44 : (Jvm.Cond.classLink "PrintLedgerLaw" (9 : Nat) "PrintLedger") ∈ BG := bg_in 44 rfl rfl
set_option maxRecDepth 100000 in
theorem kw_45 : (Jvm.Cond.instantiable "PrintLedger" (11 : Nat)) ∈ BG := bg_in 45 rfl rfl
set_option maxRecDepth 100000 in
theorem kw_46 : (Jvm.Cond.methodLink "PrintLedgerLaw" (11 : Nat) ({ cls := "PrintLedger", name := "<init>", desc := "()V" } : Jvm.MethodName)) ∈ BG := bg_in 46 rfl rfl
set_option maxRecDepth 100000 in
theorem kw_47 : (Jvm.Cond.instanceMethod ({ cls := "PrintLedger", name := "<init>", desc := "()V" } : Jvm.MethodName)) ∈ BG := bg_in 47 rfl rfl
set_option maxRecDepth 100000 in
theorem kw_48 : (Jvm.Cond.code ({ cls := "PrintLedger", name := "<init>", desc := "()V" } : Jvm.MethodName) prog_1_method_1_code (2 : Nat) (Option.none : Option Jvm.ClassFile.FieldType)) ∈ BG := bg_in 48 rfl rfl
set_option maxRecDepth 100000 in
theorem kw_49 : (Jvm.Cond.methodLink "PrintLedger" (1 : Nat) ({ cls := "java/lang/Object", name := "<init>", desc := "()V" } : Jvm.MethodName)) ∈ BG := bg_in 49 rfl rfl
set_option maxRecDepth 100000 in
theorem kw_50 : (Jvm.Cond.instanceMethod ({ cls := "java/lang/Object", name := "<init>", desc := "()V" } : Jvm.MethodName)) ∈ BG := bg_in 50 rfl rfl
set_option maxRecDepth 100000 in
theorem kw_51 : (Jvm.Cond.code ({ cls := "java/lang/Object", name := "<init>", desc := "()V" } : Jvm.MethodName) object_method_1_code (1 : Nat) (Option.none : Option Jvm.ClassFile.FieldType)) ∈ BG := bg_in 51 rfl rfl
set_option maxRecDepth 100000 in
theorem kw_52 : (Jvm.Cond.classLink "PrintLedger" (9 : Nat) "PrintLedger$Paper") ∈ BG := bg_in 52 rfl rfl
set_option maxRecDepth 100000 in
theorem kw_54 : (Jvm.Cond.instantiable "PrintLedger$Paper" (4 : Nat)) ∈ BG := bg_in 54 rfl rfl
set_option maxRecDepth 100000 in
theorem kw_55 : (Jvm.Cond.methodLinkNest "PrintLedger" (15 : Nat) ({ cls := "PrintLedger$Paper", name := "<init>", desc := "()V" } : Jvm.MethodName) "PrintLedger") ∈ EW := ew_in 55 rfl rfl
set_option maxRecDepth 100000 in
theorem kw_56 : (Jvm.Cond.instanceMethod ({ cls := "PrintLedger$Paper", name := "<init>", desc := "()V" } : Jvm.MethodName)) ∈ BG := bg_in 56 rfl rfl
set_option maxRecDepth 100000 in
theorem kw_57 : (Jvm.Cond.code ({ cls := "PrintLedger$Paper", name := "<init>", desc := "()V" } : Jvm.MethodName) prog_4_method_1_code (1 : Nat) (Option.none : Option Jvm.ClassFile.FieldType)) ∈ BG := bg_in 57 rfl rfl
set_option maxRecDepth 100000 in
theorem kw_58 : (Jvm.Cond.methodLink "PrintLedger$Paper" (3 : Nat) ({ cls := "java/lang/Object", name := "<init>", desc := "()V" } : Jvm.MethodName)) ∈ BG := bg_in 58 rfl rfl
set_option maxRecDepth 100000 in
theorem kw_59 : (Jvm.Cond.fieldLink "PrintLedger$Paper" (9 : Nat) "PrintLedger$Paper" "wide" "I") ∈ BG := bg_in 59 rfl rfl
set_option maxRecDepth 100000 in
theorem kw_60 : (Jvm.Cond.fieldLinkNest "PrintLedger$Job" (47 : Nat) "PrintLedger$Paper" "wide" "I" "PrintLedger") ∈ EW := ew_in 60 rfl rfl
set_option maxRecDepth 100000 in
theorem kw_61 : (Jvm.Cond.fieldLinkNest "PrintLedger" (67 : Nat) "PrintLedger$Paper" "wide" "I" "PrintLedger") ∈ EW := ew_in 61 rfl rfl
set_option maxRecDepth 100000 in
theorem kw_62 : (Jvm.Cond.fieldLink "PrintLedger$Paper" (15 : Nat) "PrintLedger$Paper" "high" "I") ∈ BG := bg_in 62 rfl rfl
set_option maxRecDepth 100000 in
theorem kw_63 : (Jvm.Cond.fieldLinkNest "PrintLedger$Job" (50 : Nat) "PrintLedger$Paper" "high" "I" "PrintLedger") ∈ EW := ew_in 63 rfl rfl
set_option maxRecDepth 100000 in
theorem kw_64 : (Jvm.Cond.fieldLinkNest "PrintLedger" (70 : Nat) "PrintLedger$Paper" "high" "I" "PrintLedger") ∈ EW := ew_in 64 rfl rfl
set_option maxRecDepth 100000 in
theorem kw_65 : (Jvm.Cond.fieldLink "PrintLedger$Paper" (18 : Nat) "PrintLedger$Paper" "price" "I") ∈ BG := bg_in 65 rfl rfl
set_option maxRecDepth 100000 in
theorem kw_66 : (Jvm.Cond.fieldLinkNest "PrintLedger" (64 : Nat) "PrintLedger$Paper" "price" "I" "PrintLedger") ∈ EW := ew_in 66 rfl rfl
set_option maxRecDepth 100000 in
theorem kw_67 : (Jvm.Cond.fieldLink "PrintLedger$Paper" (26 : Nat) "PrintLedger$Paper" "stock" "I") ∈ BG := bg_in 67 rfl rfl
set_option maxRecDepth 100000 in
theorem kw_68 : (Jvm.Cond.fieldLinkNest "PrintLedger" (85 : Nat) "PrintLedger$Paper" "stock" "I" "PrintLedger") ∈ EW := ew_in 68 rfl rfl
set_option maxRecDepth 100000 in
theorem kw_69 : (Jvm.Cond.fieldLinkNest "PrintLedger$Job" (77 : Nat) "PrintLedger$Paper" "stock" "I" "PrintLedger") ∈ EW := ew_in 69 rfl rfl
set_option maxRecDepth 100000 in
theorem kw_70 : (Jvm.Cond.lays "PrintLedger$Paper" "PrintLedger$Paper" "wide" "I") ∈ BG := bg_in 70 rfl rfl
set_option maxRecDepth 100000 in
theorem kw_72 : (Jvm.Cond.lays "PrintLedger$Paper" "PrintLedger$Paper" "high" "I") ∈ BG := bg_in 72 rfl rfl
set_option maxRecDepth 100000 in
theorem kw_74 : (Jvm.Cond.lays "PrintLedger$Paper" "PrintLedger$Paper" "price" "I") ∈ BG := bg_in 74 rfl rfl
set_option maxRecDepth 100000 in
theorem kw_76 : (Jvm.Cond.lays "PrintLedger$Paper" "PrintLedger$Paper" "stock" "I") ∈ BG := bg_in 76 rfl rfl
set_option maxRecDepth 100000 in
theorem kw_79 : (Jvm.Cond.classLink "PrintLedger" (16 : Nat) "PrintLedger$Press") ∈ BG := bg_in 79 rfl rfl
set_option maxRecDepth 100000 in
theorem kw_81 : (Jvm.Cond.instantiable "PrintLedger$Press" (7 : Nat)) ∈ BG := bg_in 81 rfl rfl
set_option maxRecDepth 100000 in
theorem kw_82 : (Jvm.Cond.methodLinkNest "PrintLedger" (22 : Nat) ({ cls := "PrintLedger$Press", name := "<init>", desc := "()V" } : Jvm.MethodName) "PrintLedger") ∈ EW := ew_in 82 rfl rfl
set_option maxRecDepth 100000 in
theorem kw_83 : (Jvm.Cond.instanceMethod ({ cls := "PrintLedger$Press", name := "<init>", desc := "()V" } : Jvm.MethodName)) ∈ BG := bg_in 83 rfl rfl
set_option maxRecDepth 100000 in
theorem kw_84 : (Jvm.Cond.code ({ cls := "PrintLedger$Press", name := "<init>", desc := "()V" } : Jvm.MethodName) prog_5_method_1_code (1 : Nat) (Option.none : Option Jvm.ClassFile.FieldType)) ∈ BG := bg_in 84 rfl rfl
set_option maxRecDepth 100000 in
theorem kw_85 : (Jvm.Cond.methodLink "PrintLedger$Press" (3 : Nat) ({ cls := "java/lang/Object", name := "<init>", desc := "()V" } : Jvm.MethodName)) ∈ BG := bg_in 85 rfl rfl
set_option maxRecDepth 100000 in
theorem kw_86 : (Jvm.Cond.classLink "PrintLedger$Press" (24 : Nat) "PrintLedger$Job") ∈ BG := bg_in 86 rfl rfl
set_option maxRecDepth 100000 in
theorem kw_88 : (Jvm.Cond.fieldLink "PrintLedger$Press" (9 : Nat) "PrintLedger$Press" "towers" "I") ∈ BG := bg_in 88 rfl rfl
set_option maxRecDepth 100000 in
theorem kw_89 : (Jvm.Cond.fieldLinkNest "PrintLedger" (273 : Nat) "PrintLedger$Press" "towers" "I" "PrintLedger") ∈ EW := ew_in 89 rfl rfl
set_option maxRecDepth 100000 in
theorem kw_90 : (Jvm.Cond.fieldLink "PrintLedger$Press" (46 : Nat) "PrintLedger$Press" "inks" "I") ∈ BG := bg_in 90 rfl rfl
set_option maxRecDepth 100000 in
theorem kw_91 : (Jvm.Cond.fieldLinkNest "PrintLedger" (124 : Nat) "PrintLedger$Press" "inks" "I" "PrintLedger") ∈ EW := ew_in 91 rfl rfl
set_option maxRecDepth 100000 in
theorem kw_92 : (Jvm.Cond.fieldLink "PrintLedger$Press" (15 : Nat) "PrintLedger$Press" "ready" "I") ∈ BG := bg_in 92 rfl rfl
set_option maxRecDepth 100000 in
theorem kw_93 : (Jvm.Cond.fieldLinkNest "PrintLedger" (257 : Nat) "PrintLedger$Press" "ready" "I" "PrintLedger") ∈ EW := ew_in 93 rfl rfl
set_option maxRecDepth 100000 in
theorem kw_94 : (Jvm.Cond.fieldLink "PrintLedger$Press" (18 : Nat) "PrintLedger$Press" "run" "I") ∈ BG := bg_in 94 rfl rfl
set_option maxRecDepth 100000 in
theorem kw_95 : (Jvm.Cond.fieldLinkNest "PrintLedger" (252 : Nat) "PrintLedger$Press" "run" "I" "PrintLedger") ∈ EW := ew_in 95 rfl rfl
set_option maxRecDepth 100000 in
theorem kw_96 : (Jvm.Cond.fieldLink "PrintLedger$Press" (21 : Nat) "PrintLedger$Press" "spoil" "I") ∈ BG := bg_in 96 rfl rfl
set_option maxRecDepth 100000 in
theorem kw_97 : (Jvm.Cond.fieldLinkNest "PrintLedger" (249 : Nat) "PrintLedger$Press" "spoil" "I" "PrintLedger") ∈ EW := ew_in 97 rfl rfl
set_option maxRecDepth 100000 in
theorem kw_98 : (Jvm.Cond.fieldLink "PrintLedger$Press" (26 : Nat) "PrintLedger$Press" "line" "[LPrintLedger$Job;") ∈ BG := bg_in 98 rfl rfl
set_option maxRecDepth 100000 in
theorem kw_99 : (Jvm.Cond.fieldLink "PrintLedger$Press" (43 : Nat) "PrintLedger$Press" "waiting" "I") ∈ BG := bg_in 99 rfl rfl
set_option maxRecDepth 100000 in
theorem kw_100 : (Jvm.Cond.fieldLinkNest "PrintLedger" (113 : Nat) "PrintLedger$Press" "waiting" "I" "PrintLedger") ∈ EW := ew_in 100 rfl rfl
set_option maxRecDepth 100000 in
theorem kw_101 : (Jvm.Cond.lays "PrintLedger$Press" "PrintLedger$Press" "towers" "I") ∈ BG := bg_in 101 rfl rfl
set_option maxRecDepth 100000 in
theorem kw_103 : (Jvm.Cond.lays "PrintLedger$Press" "PrintLedger$Press" "inks" "I") ∈ BG := bg_in 103 rfl rfl
set_option maxRecDepth 100000 in
theorem kw_105 : (Jvm.Cond.lays "PrintLedger$Press" "PrintLedger$Press" "ready" "I") ∈ BG := bg_in 105 rfl rfl
set_option maxRecDepth 100000 in
theorem kw_107 : (Jvm.Cond.lays "PrintLedger$Press" "PrintLedger$Press" "run" "I") ∈ BG := bg_in 107 rfl rfl
set_option maxRecDepth 100000 in
theorem kw_109 : (Jvm.Cond.lays "PrintLedger$Press" "PrintLedger$Press" "spoil" "I") ∈ BG := bg_in 109 rfl rfl
set_option maxRecDepth 100000 in
theorem kw_111 : (Jvm.Cond.laysFinal "PrintLedger$Press" "PrintLedger$Press" "line" "[LPrintLedger$Job;") ∈ BG := bg_in 111 rfl rfl
set_option maxRecDepth 100000 in
theorem kw_113 : (Jvm.Cond.lays "PrintLedger$Press" "PrintLedger$Press" "waiting" "I") ∈ BG := bg_in 113 rfl rfl
set_option maxRecDepth 100000 in
theorem kw_116 : (Jvm.Cond.classLink "PrintLedger" (23 : Nat) "PrintLedger$Job") ∈ BG := bg_in 116 rfl rfl
set_option maxRecDepth 100000 in
theorem kw_117 : (Jvm.Cond.classLink "PrintLedger" (36 : Nat) "PrintLedger$Expectation") ∈ BG := bg_in 117 rfl rfl
set_option maxRecDepth 100000 in
theorem kw_118 : (Jvm.Cond.instantiable "PrintLedger$Expectation" (7 : Nat)) ∈ BG := bg_in 118 rfl rfl
set_option maxRecDepth 100000 in
theorem kw_119 : (Jvm.Cond.methodLinkNest "PrintLedger" (38 : Nat) ({ cls := "PrintLedger$Expectation", name := "<init>", desc := "()V" } : Jvm.MethodName) "PrintLedger") ∈ EW := ew_in 119 rfl rfl
set_option maxRecDepth 100000 in
theorem kw_120 : (Jvm.Cond.instanceMethod ({ cls := "PrintLedger$Expectation", name := "<init>", desc := "()V" } : Jvm.MethodName)) ∈ BG := bg_in 120 rfl rfl
set_option maxRecDepth 100000 in
theorem kw_121 : (Jvm.Cond.code ({ cls := "PrintLedger$Expectation", name := "<init>", desc := "()V" } : Jvm.MethodName) prog_2_method_1_code (1 : Nat) (Option.none : Option Jvm.ClassFile.FieldType)) ∈ BG := bg_in 121 rfl rfl
set_option maxRecDepth 100000 in
theorem kw_122 : (Jvm.Cond.methodLink "PrintLedger$Expectation" (1 : Nat) ({ cls := "java/lang/Object", name := "<init>", desc := "()V" } : Jvm.MethodName)) ∈ BG := bg_in 122 rfl rfl
set_option maxRecDepth 100000 in
theorem kw_123 : (Jvm.Cond.fieldLinkNest "PrintLedger" (210 : Nat) "PrintLedger$Expectation" "passes" "I" "PrintLedger") ∈ EW := ew_in 123 rfl rfl
set_option maxRecDepth 100000 in
theorem kw_124 : (Jvm.Cond.fieldLinkNest "PrintLedger" (213 : Nat) "PrintLedger$Expectation" "change" "I" "PrintLedger") ∈ EW := ew_in 124 rfl rfl
set_option maxRecDepth 100000 in
theorem kw_125 : (Jvm.Cond.fieldLinkNest "PrintLedger" (216 : Nat) "PrintLedger$Expectation" "spoiled" "I" "PrintLedger") ∈ EW := ew_in 125 rfl rfl
set_option maxRecDepth 100000 in
theorem kw_126 : (Jvm.Cond.fieldLinkNest "PrintLedger" (131 : Nat) "PrintLedger$Expectation" "needed" "I" "PrintLedger") ∈ EW := ew_in 126 rfl rfl
set_option maxRecDepth 100000 in
theorem kw_127 : (Jvm.Cond.fieldLinkNest "PrintLedger" (219 : Nat) "PrintLedger$Expectation" "minutes" "I" "PrintLedger") ∈ EW := ew_in 127 rfl rfl
set_option maxRecDepth 100000 in
theorem kw_128 : (Jvm.Cond.fieldLinkNest "PrintLedger" (222 : Nat) "PrintLedger$Expectation" "cost" "I" "PrintLedger") ∈ EW := ew_in 128 rfl rfl
set_option maxRecDepth 100000 in
theorem kw_129 : (Jvm.Cond.fieldLinkNest "PrintLedger" (223 : Nat) "PrintLedger$Expectation" "quote" "I" "PrintLedger") ∈ EW := ew_in 129 rfl rfl
set_option maxRecDepth 100000 in
theorem kw_130 : (Jvm.Cond.lays "PrintLedger$Expectation" "PrintLedger$Expectation" "passes" "I") ∈ BG := bg_in 130 rfl rfl
set_option maxRecDepth 100000 in
theorem kw_132 : (Jvm.Cond.lays "PrintLedger$Expectation" "PrintLedger$Expectation" "change" "I") ∈ BG := bg_in 132 rfl rfl
set_option maxRecDepth 100000 in
theorem kw_134 : (Jvm.Cond.lays "PrintLedger$Expectation" "PrintLedger$Expectation" "spoiled" "I") ∈ BG := bg_in 134 rfl rfl
set_option maxRecDepth 100000 in
theorem kw_136 : (Jvm.Cond.lays "PrintLedger$Expectation" "PrintLedger$Expectation" "needed" "I") ∈ BG := bg_in 136 rfl rfl
set_option maxRecDepth 100000 in
theorem kw_138 : (Jvm.Cond.lays "PrintLedger$Expectation" "PrintLedger$Expectation" "minutes" "I") ∈ BG := bg_in 138 rfl rfl
set_option maxRecDepth 100000 in
theorem kw_140 : (Jvm.Cond.lays "PrintLedger$Expectation" "PrintLedger$Expectation" "cost" "I") ∈ BG := bg_in 140 rfl rfl
set_option maxRecDepth 100000 in
theorem kw_142 : (Jvm.Cond.lays "PrintLedger$Expectation" "PrintLedger$Expectation" "quote" "I") ∈ BG := bg_in 142 rfl rfl
set_option maxRecDepth 100000 in
theorem kw_145 : (Jvm.Cond.fieldLink "PrintLedger" (11 : Nat) "PrintLedger" "papers" "[LPrintLedger$Paper;") ∈ BG := bg_in 145 rfl rfl
set_option maxRecDepth 100000 in
theorem kw_146 : (Jvm.Cond.fieldLink "PrintLedger" (18 : Nat) "PrintLedger" "presses" "[LPrintLedger$Press;") ∈ BG := bg_in 146 rfl rfl
set_option maxRecDepth 100000 in
theorem kw_147 : (Jvm.Cond.fieldLink "PrintLedger" (25 : Nat) "PrintLedger" "jobs" "[LPrintLedger$Job;") ∈ BG := bg_in 147 rfl rfl
set_option maxRecDepth 100000 in
theorem kw_148 : (Jvm.Cond.fieldLink "PrintLedger" (148 : Nat) "PrintLedger" "jobCount" "I") ∈ BG := bg_in 148 rfl rfl
set_option maxRecDepth 100000 in
theorem kw_149 : (Jvm.Cond.fieldLink "PrintLedger" (106 : Nat) "PrintLedger" "money" "I") ∈ BG := bg_in 149 rfl rfl
set_option maxRecDepth 100000 in
theorem kw_150 : (Jvm.Cond.fieldLink "PrintLedger" (29 : Nat) "PrintLedger" "wage" "I") ∈ BG := bg_in 150 rfl rfl
set_option maxRecDepth 100000 in
theorem kw_151 : (Jvm.Cond.fieldLink "PrintLedger" (33 : Nat) "PrintLedger" "margin" "I") ∈ BG := bg_in 151 rfl rfl
set_option maxRecDepth 100000 in
theorem kw_152 : (Jvm.Cond.fieldLink "PrintLedger" (311 : Nat) "PrintLedger" "minutesTold" "I") ∈ BG := bg_in 152 rfl rfl
set_option maxRecDepth 100000 in
theorem kw_153 : (Jvm.Cond.fieldLink "PrintLedger" (314 : Nat) "PrintLedger" "spoiledTold" "I") ∈ BG := bg_in 153 rfl rfl
set_option maxRecDepth 100000 in
theorem kw_154 : (Jvm.Cond.fieldLink "PrintLedger" (39 : Nat) "PrintLedger" "expectation" "LPrintLedger$Expectation;") ∈ BG := bg_in 154 rfl rfl
set_option maxRecDepth 100000 in
theorem kw_155 : (Jvm.Cond.fieldLink "PrintLedger" (43 : Nat) "PrintLedger" "trial" "LPrintLedger$Press;") ∈ BG := bg_in 155 rfl rfl
set_option maxRecDepth 100000 in
theorem kw_156 : (Jvm.Cond.laysFinal "PrintLedger" "PrintLedger" "papers" "[LPrintLedger$Paper;") ∈ BG := bg_in 156 rfl rfl
set_option maxRecDepth 100000 in
theorem kw_158 : (Jvm.Cond.laysFinal "PrintLedger" "PrintLedger" "presses" "[LPrintLedger$Press;") ∈ BG := bg_in 158 rfl rfl
set_option maxRecDepth 100000 in
theorem kw_160 : (Jvm.Cond.laysFinal "PrintLedger" "PrintLedger" "jobs" "[LPrintLedger$Job;") ∈ BG := bg_in 160 rfl rfl
set_option maxRecDepth 100000 in
theorem kw_162 : (Jvm.Cond.lays "PrintLedger" "PrintLedger" "jobCount" "I") ∈ BG := bg_in 162 rfl rfl
set_option maxRecDepth 100000 in
theorem kw_164 : (Jvm.Cond.lays "PrintLedger" "PrintLedger" "money" "I") ∈ BG := bg_in 164 rfl rfl
set_option maxRecDepth 100000 in
theorem kw_166 : (Jvm.Cond.lays "PrintLedger" "PrintLedger" "wage" "I") ∈ BG := bg_in 166 rfl rfl
set_option maxRecDepth 100000 in
theorem kw_168 : (Jvm.Cond.lays "PrintLedger" "PrintLedger" "margin" "I") ∈ BG := bg_in 168 rfl rfl
set_option maxRecDepth 100000 in
theorem kw_170 : (Jvm.Cond.lays "PrintLedger" "PrintLedger" "minutesTold" "I") ∈ BG := bg_in 170 rfl rfl
set_option maxRecDepth 100000 in
theorem kw_172 : (Jvm.Cond.lays "PrintLedger" "PrintLedger" "spoiledTold" "I") ∈ BG := bg_in 172 rfl rfl
set_option maxRecDepth 100000 in
theorem kw_174 : (Jvm.Cond.laysFinal "PrintLedger" "PrintLedger" "expectation" "LPrintLedger$Expectation;") ∈ BG := bg_in 174 rfl rfl
set_option maxRecDepth 100000 in
theorem kw_176 : (Jvm.Cond.laysFinal "PrintLedger" "PrintLedger" "trial" "LPrintLedger$Press;") ∈ BG := bg_in 176 rfl rfl
set_option maxRecDepth 100000 in
theorem kw_179 : (Jvm.Cond.methodLink "PrintLedgerLaw" (18 : Nat) ({ cls := "PrintLedger", name := "many", desc := "(I)I" } : Jvm.MethodName)) ∈ BG := bg_in 179 rfl rfl
set_option maxRecDepth 100000 in
theorem kw_180 : (Jvm.Cond.instanceMethod ({ cls := "PrintLedger", name := "many", desc := "(I)I" } : Jvm.MethodName)) ∈ BG := bg_in 180 rfl rfl
set_option maxRecDepth 100000 in
theorem kw_181 : (Jvm.Cond.selects "PrintLedger" ({ cls := "PrintLedger", name := "many", desc := "(I)I" } : Jvm.MethodName) ({ cls := "PrintLedger", name := "many", desc := "(I)I" } : Jvm.MethodName)) ∈ BG := bg_in 181 rfl rfl
set_option maxRecDepth 100000 in
theorem kw_182 : (Jvm.Cond.code ({ cls := "PrintLedger", name := "many", desc := "(I)I" } : Jvm.MethodName) prog_1_method_26_code (2 : Nat) (Option.some Jvm.ClassFile.FieldType.int)) ∈ BG := bg_in 182 rfl rfl
set_option maxRecDepth 100000 in
theorem kw_183 : (Jvm.Cond.methodLink "PrintLedger" (329 : Nat) ({ cls := "PrintLedger", name := "jobsThatAre", desc := "(I)I" } : Jvm.MethodName)) ∈ BG := bg_in 183 rfl rfl
set_option maxRecDepth 100000 in
theorem kw_185 : (Jvm.Cond.instanceMethod ({ cls := "PrintLedger", name := "jobsThatAre", desc := "(I)I" } : Jvm.MethodName)) ∈ BG := bg_in 185 rfl rfl
set_option maxRecDepth 100000 in
theorem kw_186 : (Jvm.Cond.code ({ cls := "PrintLedger", name := "jobsThatAre", desc := "(I)I" } : Jvm.MethodName) prog_1_method_28_code (5 : Nat) (Option.some Jvm.ClassFile.FieldType.int)) ∈ BG := bg_in 186 rfl rfl
set_option maxRecDepth 100000 in
theorem kw_187 : (Jvm.Cond.methodLink "PrintLedger" (332 : Nat) ({ cls := "PrintLedger", name := "moneyOfInvoices", desc := "()I" } : Jvm.MethodName)) ∈ BG := bg_in 187 rfl rfl
set_option maxRecDepth 100000 in
theorem kw_189 : (Jvm.Cond.instanceMethod ({ cls := "PrintLedger", name := "moneyOfInvoices", desc := "()I" } : Jvm.MethodName)) ∈ BG := bg_in 189 rfl rfl
set_option maxRecDepth 100000 in
theorem kw_190 : (Jvm.Cond.code ({ cls := "PrintLedger", name := "moneyOfInvoices", desc := "()I" } : Jvm.MethodName) prog_1_method_29_code (4 : Nat) (Option.some Jvm.ClassFile.FieldType.int)) ∈ BG := bg_in 190 rfl rfl
set_option maxRecDepth 100000 in
theorem kw_191 : (Jvm.Cond.methodLink "PrintLedger" (335 : Nat) ({ cls := "PrintLedger", name := "costOfJobs", desc := "()I" } : Jvm.MethodName)) ∈ BG := bg_in 191 rfl rfl
set_option maxRecDepth 100000 in
theorem kw_193 : (Jvm.Cond.instanceMethod ({ cls := "PrintLedger", name := "costOfJobs", desc := "()I" } : Jvm.MethodName)) ∈ BG := bg_in 193 rfl rfl
set_option maxRecDepth 100000 in
theorem kw_194 : (Jvm.Cond.code ({ cls := "PrintLedger", name := "costOfJobs", desc := "()I" } : Jvm.MethodName) prog_1_method_30_code (4 : Nat) (Option.some Jvm.ClassFile.FieldType.int)) ∈ BG := bg_in 194 rfl rfl
set_option maxRecDepth 100000 in
theorem kw_195 : (Jvm.Cond.methodLink "PrintLedger" (338 : Nat) ({ cls := "PrintLedger", name := "worthOfStock", desc := "()I" } : Jvm.MethodName)) ∈ BG := bg_in 195 rfl rfl
set_option maxRecDepth 100000 in
theorem kw_197 : (Jvm.Cond.instanceMethod ({ cls := "PrintLedger", name := "worthOfStock", desc := "()I" } : Jvm.MethodName)) ∈ BG := bg_in 197 rfl rfl
set_option maxRecDepth 100000 in
theorem kw_198 : (Jvm.Cond.code ({ cls := "PrintLedger", name := "worthOfStock", desc := "()I" } : Jvm.MethodName) prog_1_method_31_code (4 : Nat) (Option.some Jvm.ClassFile.FieldType.int)) ∈ BG := bg_in 198 rfl rfl
set_option maxRecDepth 100000 in
theorem kw_199 : (Jvm.Cond.classLink "PrintLedger" (55 : Nat) "java/lang/IllegalArgumentException") ∈ BG := bg_in 199 rfl rfl
set_option maxRecDepth 100000 in
theorem kw_200 : (Jvm.Cond.instantiable "java/lang/IllegalArgumentException" (6 : Nat)) ∈ BG := bg_in 200 rfl rfl
set_option maxRecDepth 100000 in
theorem kw_201 : (Jvm.Cond.castable "java/lang/IllegalArgumentException" "java/lang/IllegalArgumentException") ∈ EW := ew_in 201 rfl rfl
set_option maxRecDepth 100000 in
theorem kw_208 : (Jvm.Cond.selects "java/lang/IllegalArgumentException" ({ cls := "java/lang/Throwable", name := "fillInStackTrace", desc := "(I)Ljava/lang/Throwable;" } : Jvm.MethodName) ({ cls := "java/lang/Throwable", name := "fillInStackTrace", desc := "(I)Ljava/lang/Throwable;" } : Jvm.MethodName)) ∈ BG := bg_in 208 rfl rfl
set_option maxRecDepth 100000 in
theorem kw_209 : (Jvm.Cond.selects "java/lang/IllegalArgumentException" ({ cls := "java/lang/Throwable", name := "fillInStackTrace", desc := "()Ljava/lang/Throwable;" } : Jvm.MethodName) ({ cls := "java/lang/Throwable", name := "fillInStackTrace", desc := "()Ljava/lang/Throwable;" } : Jvm.MethodName)) ∈ BG := bg_in 209 rfl rfl
set_option maxRecDepth 100000 in
theorem kw_210 : (Jvm.Cond.lays "java/lang/IllegalArgumentException" "java/lang/Throwable" "cause" "Ljava/lang/Throwable;") ∈ BG := bg_in 210 rfl rfl
set_option maxRecDepth 100000 in
theorem kw_211 : (Jvm.Cond.lays "java/lang/Throwable" "java/lang/Throwable" "cause" "Ljava/lang/Throwable;") ∈ BG := bg_in 211 rfl rfl
set_option maxRecDepth 100000 in
theorem kw_212 : (Jvm.Cond.lays "java/lang/IllegalArgumentException" "java/lang/Throwable" "stackTrace" "[Ljava/lang/StackTraceElement;") ∈ BG := bg_in 212 rfl rfl
set_option maxRecDepth 100000 in
theorem kw_213 : (Jvm.Cond.lays "java/lang/Throwable" "java/lang/Throwable" "stackTrace" "[Ljava/lang/StackTraceElement;") ∈ BG := bg_in 213 rfl rfl
set_option maxRecDepth 100000 in
theorem kw_214 : (Jvm.Cond.lays "java/lang/IllegalArgumentException" "java/lang/Throwable" "suppressedExceptions" "Ljava/util/List;") ∈ BG := bg_in 214 rfl rfl
set_option maxRecDepth 100000 in
theorem kw_215 : (Jvm.Cond.lays "java/lang/Throwable" "java/lang/Throwable" "suppressedExceptions" "Ljava/util/List;") ∈ BG := bg_in 215 rfl rfl
set_option maxRecDepth 100000 in
theorem kw_216 : (Jvm.Cond.lays "java/lang/IllegalArgumentException" "java/lang/Throwable" "detailMessage" "Ljava/lang/String;") ∈ BG := bg_in 216 rfl rfl
set_option maxRecDepth 100000 in
theorem kw_217 : (Jvm.Cond.lays "java/lang/Throwable" "java/lang/Throwable" "detailMessage" "Ljava/lang/String;") ∈ BG := bg_in 217 rfl rfl
set_option maxRecDepth 100000 in
theorem kw_218 : (Jvm.Cond.lays "java/lang/IllegalArgumentException" "java/lang/Throwable" "backtrace" "Ljava/lang/Object;") ∈ BG := bg_in 218 rfl rfl
set_option maxRecDepth 100000 in
theorem kw_219 : (Jvm.Cond.lays "java/lang/Throwable" "java/lang/Throwable" "backtrace" "Ljava/lang/Object;") ∈ BG := bg_in 219 rfl rfl
set_option maxRecDepth 100000 in
theorem kw_220 : (Jvm.Cond.fieldLink "java/lang/Throwable" (198 : Nat) "java/lang/Throwable" "backtrace" "Ljava/lang/Object;") ∈ BG := bg_in 220 rfl rfl
set_option maxRecDepth 100000 in
theorem kw_222 : (Jvm.Cond.instanceMethod ({ cls := "java/lang/Throwable", name := "<init>", desc := "()V" } : Jvm.MethodName)) ∈ BG := bg_in 222 rfl rfl
set_option maxRecDepth 100000 in
theorem kw_223 : (Jvm.Cond.code ({ cls := "java/lang/Throwable", name := "<init>", desc := "()V" } : Jvm.MethodName) prog_19_method_1_code (1 : Nat) (Option.none : Option Jvm.ClassFile.FieldType)) ∈ BG := bg_in 223 rfl rfl
set_option maxRecDepth 100000 in
theorem kw_224 : (Jvm.Cond.methodLink "java/lang/Throwable" (1 : Nat) ({ cls := "java/lang/Object", name := "<init>", desc := "()V" } : Jvm.MethodName)) ∈ BG := bg_in 224 rfl rfl
set_option maxRecDepth 100000 in
theorem kw_225 : (Jvm.Cond.fieldLink "java/lang/Throwable" (13 : Nat) "java/lang/Throwable" "UNASSIGNED_STACK" "[Ljava/lang/StackTraceElement;") ∈ BG := bg_in 225 rfl rfl
set_option maxRecDepth 100000 in
theorem kw_227 : (Jvm.Cond.fieldLink "java/lang/Throwable" (20 : Nat) "java/lang/Throwable" "SUPPRESSED_SENTINEL" "Ljava/util/List;") ∈ BG := bg_in 227 rfl rfl
set_option maxRecDepth 100000 in
theorem kw_229 : (Jvm.Cond.methodLink "java/lang/Throwable" (27 : Nat) ({ cls := "java/lang/Throwable", name := "fillInStackTrace", desc := "()Ljava/lang/Throwable;" } : Jvm.MethodName)) ∈ BG := bg_in 229 rfl rfl
set_option maxRecDepth 100000 in
theorem kw_230 : (Jvm.Cond.instanceMethod ({ cls := "java/lang/Throwable", name := "fillInStackTrace", desc := "()Ljava/lang/Throwable;" } : Jvm.MethodName)) ∈ BG := bg_in 230 rfl rfl
set_option maxRecDepth 100000 in
theorem kw_232 : (Jvm.Cond.selects "java/lang/IllegalStateException" ({ cls := "java/lang/Throwable", name := "fillInStackTrace", desc := "()Ljava/lang/Throwable;" } : Jvm.MethodName) ({ cls := "java/lang/Throwable", name := "fillInStackTrace", desc := "()Ljava/lang/Throwable;" } : Jvm.MethodName)) ∈ BG := bg_in 232 rfl rfl
set_option maxRecDepth 100000 in
theorem kw_233 : (Jvm.Cond.selects "java/lang/IndexOutOfBoundsException" ({ cls := "java/lang/Throwable", name := "fillInStackTrace", desc := "()Ljava/lang/Throwable;" } : Jvm.MethodName) ({ cls := "java/lang/Throwable", name := "fillInStackTrace", desc := "()Ljava/lang/Throwable;" } : Jvm.MethodName)) ∈ BG := bg_in 233 rfl rfl
set_option maxRecDepth 100000 in
theorem kw_235 : (Jvm.Cond.methodLink "java/lang/Throwable" (202 : Nat) ({ cls := "java/lang/Throwable", name := "fillInStackTrace", desc := "(I)Ljava/lang/Throwable;" } : Jvm.MethodName)) ∈ BG := bg_in 235 rfl rfl
set_option maxRecDepth 100000 in
theorem kw_237 : (Jvm.Cond.instanceMethod ({ cls := "java/lang/Throwable", name := "fillInStackTrace", desc := "(I)Ljava/lang/Throwable;" } : Jvm.MethodName)) ∈ BG := bg_in 237 rfl rfl
set_option maxRecDepth 100000 in
theorem kw_238 : (Jvm.Cond.instantiable "java/lang/Throwable" (6 : Nat)) ∈ BG := bg_in 238 rfl rfl
set_option maxRecDepth 100000 in
theorem kw_241 : (Jvm.Cond.methodLink "PrintLedger" (59 : Nat) ({ cls := "java/lang/IllegalArgumentException", name := "<init>", desc := "(Ljava/lang/String;)V" } : Jvm.MethodName)) ∈ BG := bg_in 241 rfl rfl
set_option maxRecDepth 100000 in
theorem kw_242 : (Jvm.Cond.instanceMethod ({ cls := "java/lang/IllegalArgumentException", name := "<init>", desc := "(Ljava/lang/String;)V" } : Jvm.MethodName)) ∈ BG := bg_in 242 rfl rfl
set_option maxRecDepth 100000 in
theorem kw_243 : (Jvm.Cond.code ({ cls := "java/lang/IllegalArgumentException", name := "<init>", desc := "(Ljava/lang/String;)V" } : Jvm.MethodName) prog_12_method_2_code (2 : Nat) (Option.none : Option Jvm.ClassFile.FieldType)) ∈ BG := bg_in 243 rfl rfl
set_option maxRecDepth 100000 in
theorem kw_244 : (Jvm.Cond.methodLink "java/lang/IllegalArgumentException" (7 : Nat) ({ cls := "java/lang/RuntimeException", name := "<init>", desc := "(Ljava/lang/String;)V" } : Jvm.MethodName)) ∈ BG := bg_in 244 rfl rfl
set_option maxRecDepth 100000 in
theorem kw_245 : (Jvm.Cond.instanceMethod ({ cls := "java/lang/RuntimeException", name := "<init>", desc := "(Ljava/lang/String;)V" } : Jvm.MethodName)) ∈ BG := bg_in 245 rfl rfl
set_option maxRecDepth 100000 in
theorem kw_246 : (Jvm.Cond.code ({ cls := "java/lang/RuntimeException", name := "<init>", desc := "(Ljava/lang/String;)V" } : Jvm.MethodName) prog_17_method_2_code (2 : Nat) (Option.none : Option Jvm.ClassFile.FieldType)) ∈ BG := bg_in 246 rfl rfl
set_option maxRecDepth 100000 in
theorem kw_247 : (Jvm.Cond.methodLink "java/lang/RuntimeException" (7 : Nat) ({ cls := "java/lang/Exception", name := "<init>", desc := "(Ljava/lang/String;)V" } : Jvm.MethodName)) ∈ BG := bg_in 247 rfl rfl
set_option maxRecDepth 100000 in
theorem kw_248 : (Jvm.Cond.instanceMethod ({ cls := "java/lang/Exception", name := "<init>", desc := "(Ljava/lang/String;)V" } : Jvm.MethodName)) ∈ BG := bg_in 248 rfl rfl
set_option maxRecDepth 100000 in
theorem kw_249 : (Jvm.Cond.code ({ cls := "java/lang/Exception", name := "<init>", desc := "(Ljava/lang/String;)V" } : Jvm.MethodName) prog_11_method_2_code (2 : Nat) (Option.none : Option Jvm.ClassFile.FieldType)) ∈ BG := bg_in 249 rfl rfl
set_option maxRecDepth 100000 in
theorem kw_250 : (Jvm.Cond.methodLink "java/lang/Exception" (7 : Nat) ({ cls := "java/lang/Throwable", name := "<init>", desc := "(Ljava/lang/String;)V" } : Jvm.MethodName)) ∈ BG := bg_in 250 rfl rfl
set_option maxRecDepth 100000 in
theorem kw_251 : (Jvm.Cond.instanceMethod ({ cls := "java/lang/Throwable", name := "<init>", desc := "(Ljava/lang/String;)V" } : Jvm.MethodName)) ∈ BG := bg_in 251 rfl rfl
set_option maxRecDepth 100000 in
theorem kw_252 : (Jvm.Cond.code ({ cls := "java/lang/Throwable", name := "<init>", desc := "(Ljava/lang/String;)V" } : Jvm.MethodName) prog_19_method_2_code (2 : Nat) (Option.none : Option Jvm.ClassFile.FieldType)) ∈ BG := bg_in 252 rfl rfl
set_option maxRecDepth 100000 in
theorem kw_253 : (Jvm.Cond.fieldLink "java/lang/Throwable" (198 : Nat) "java/lang/Throwable" "backtrace" "Ljava/lang/Object;") ∈ BG := bg_in 253 rfl rfl
set_option maxRecDepth 100000 in
theorem kw_254 : (Jvm.Cond.fieldLink "java/lang/Throwable" (31 : Nat) "java/lang/Throwable" "detailMessage" "Ljava/lang/String;") ∈ BG := bg_in 254 rfl rfl
set_option maxRecDepth 100000 in
theorem kw_255 : (Jvm.Cond.fieldLink "java/lang/Throwable" (7 : Nat) "java/lang/Throwable" "cause" "Ljava/lang/Throwable;") ∈ BG := bg_in 255 rfl rfl
set_option maxRecDepth 100000 in
theorem kw_256 : (Jvm.Cond.fieldLink "java/lang/Throwable" (17 : Nat) "java/lang/Throwable" "stackTrace" "[Ljava/lang/StackTraceElement;") ∈ BG := bg_in 256 rfl rfl
set_option maxRecDepth 100000 in
theorem kw_257 : (Jvm.Cond.fieldLink "java/lang/Throwable" (24 : Nat) "java/lang/Throwable" "suppressedExceptions" "Ljava/util/List;") ∈ BG := bg_in 257 rfl rfl
set_option maxRecDepth 100000 in
theorem kw_262 : (Jvm.Cond.lays "java/lang/IllegalArgumentException" "java/lang/Throwable" "depth" "I") ∈ BG := bg_in 262 rfl rfl
set_option maxRecDepth 100000 in
theorem kw_266 : (Jvm.Cond.arrayClass Jvm.ClassFile.FieldType.byte) ∈ BG := bg_in 266 rfl rfl
set_option maxRecDepth 100000 in
theorem kw_267 : (Jvm.Cond.methodLink "PrintLedgerLaw" (35 : Nat) ({ cls := "PrintLedger", name := "digest", desc := "()J" } : Jvm.MethodName)) ∈ BG := bg_in 267 rfl rfl
set_option maxRecDepth 100000 in
theorem kw_268 : (Jvm.Cond.instanceMethod ({ cls := "PrintLedger", name := "digest", desc := "()J" } : Jvm.MethodName)) ∈ BG := bg_in 268 rfl rfl
set_option maxRecDepth 100000 in
theorem kw_269 : (Jvm.Cond.selects "PrintLedger" ({ cls := "PrintLedger", name := "digest", desc := "()J" } : Jvm.MethodName) ({ cls := "PrintLedger", name := "digest", desc := "()J" } : Jvm.MethodName)) ∈ BG := bg_in 269 rfl rfl
set_option maxRecDepth 100000 in
theorem kw_270 : (Jvm.Cond.code ({ cls := "PrintLedger", name := "digest", desc := "()J" } : Jvm.MethodName) prog_1_method_35_code (5 : Nat) (Option.some Jvm.ClassFile.FieldType.long)) ∈ BG := bg_in 270 rfl rfl
set_option maxRecDepth 100000 in
theorem kw_271 : (Jvm.Cond.constantLong "PrintLedger" (348 : Nat) (58117 : Int64)) ∈ BG := bg_in 271 rfl rfl
set_option maxRecDepth 100000 in
theorem kw_272 : (Jvm.Cond.constantLong "PrintLedger" (350 : Nat) (31 : Int64)) ∈ BG := bg_in 272 rfl rfl
set_option maxRecDepth 100000 in
theorem kw_273 : (Jvm.Cond.methodLink "PrintLedger" (352 : Nat) ({ cls := "PrintLedger", name := "many", desc := "(I)I" } : Jvm.MethodName)) ∈ BG := bg_in 273 rfl rfl
set_option maxRecDepth 100000 in
theorem kw_274 : (Jvm.Cond.methodLink "PrintLedger" (355 : Nat) ({ cls := "PrintLedger", name := "ofPaper", desc := "(II)I" } : Jvm.MethodName)) ∈ BG := bg_in 274 rfl rfl
set_option maxRecDepth 100000 in
theorem kw_275 : (Jvm.Cond.instanceMethod ({ cls := "PrintLedger", name := "ofPaper", desc := "(II)I" } : Jvm.MethodName)) ∈ BG := bg_in 275 rfl rfl
set_option maxRecDepth 100000 in
theorem kw_276 : (Jvm.Cond.selects "PrintLedger" ({ cls := "PrintLedger", name := "ofPaper", desc := "(II)I" } : Jvm.MethodName) ({ cls := "PrintLedger", name := "ofPaper", desc := "(II)I" } : Jvm.MethodName)) ∈ BG := bg_in 276 rfl rfl
set_option maxRecDepth 100000 in
theorem kw_277 : (Jvm.Cond.code ({ cls := "PrintLedger", name := "ofPaper", desc := "(II)I" } : Jvm.MethodName) prog_1_method_5_code (4 : Nat) (Option.some Jvm.ClassFile.FieldType.int)) ∈ BG := bg_in 277 rfl rfl
set_option maxRecDepth 100000 in
theorem kw_278 : (Jvm.Cond.methodLink "PrintLedger" (47 : Nat) ({ cls := "PrintLedger", name := "paperOf", desc := "(I)LPrintLedger$Paper;" } : Jvm.MethodName)) ∈ BG := bg_in 278 rfl rfl
set_option maxRecDepth 100000 in
theorem kw_280 : (Jvm.Cond.instanceMethod ({ cls := "PrintLedger", name := "paperOf", desc := "(I)LPrintLedger$Paper;" } : Jvm.MethodName)) ∈ BG := bg_in 280 rfl rfl
set_option maxRecDepth 100000 in
theorem kw_281 : (Jvm.Cond.code ({ cls := "PrintLedger", name := "paperOf", desc := "(I)LPrintLedger$Paper;" } : Jvm.MethodName) prog_1_method_38_code (3 : Nat) (Option.some (Jvm.ClassFile.FieldType.object "PrintLedger$Paper"))) ∈ BG := bg_in 281 rfl rfl
set_option maxRecDepth 100000 in
theorem kw_282 : (Jvm.Cond.classLink "PrintLedger" (282 : Nat) "java/lang/IndexOutOfBoundsException") ∈ BG := bg_in 282 rfl rfl
set_option maxRecDepth 100000 in
theorem kw_283 : (Jvm.Cond.instantiable "java/lang/IndexOutOfBoundsException" (6 : Nat)) ∈ BG := bg_in 283 rfl rfl
set_option maxRecDepth 100000 in
theorem kw_284 : (Jvm.Cond.castable "java/lang/IndexOutOfBoundsException" "java/lang/IndexOutOfBoundsException") ∈ EW := ew_in 284 rfl rfl
set_option maxRecDepth 100000 in
theorem kw_285 : (Jvm.Cond.selects "java/lang/IndexOutOfBoundsException" ({ cls := "java/lang/Throwable", name := "fillInStackTrace", desc := "(I)Ljava/lang/Throwable;" } : Jvm.MethodName) ({ cls := "java/lang/Throwable", name := "fillInStackTrace", desc := "(I)Ljava/lang/Throwable;" } : Jvm.MethodName)) ∈ BG := bg_in 285 rfl rfl
set_option maxRecDepth 100000 in
theorem kw_286 : (Jvm.Cond.lays "java/lang/IndexOutOfBoundsException" "java/lang/Throwable" "cause" "Ljava/lang/Throwable;") ∈ BG := bg_in 286 rfl rfl
set_option maxRecDepth 100000 in
theorem kw_287 : (Jvm.Cond.lays "java/lang/IndexOutOfBoundsException" "java/lang/Throwable" "stackTrace" "[Ljava/lang/StackTraceElement;") ∈ BG := bg_in 287 rfl rfl
set_option maxRecDepth 100000 in
theorem kw_288 : (Jvm.Cond.lays "java/lang/IndexOutOfBoundsException" "java/lang/Throwable" "suppressedExceptions" "Ljava/util/List;") ∈ BG := bg_in 288 rfl rfl
set_option maxRecDepth 100000 in
theorem kw_289 : (Jvm.Cond.lays "java/lang/IndexOutOfBoundsException" "java/lang/Throwable" "detailMessage" "Ljava/lang/String;") ∈ BG := bg_in 289 rfl rfl
set_option maxRecDepth 100000 in
theorem kw_290 : (Jvm.Cond.lays "java/lang/IndexOutOfBoundsException" "java/lang/Throwable" "backtrace" "Ljava/lang/Object;") ∈ BG := bg_in 290 rfl rfl
set_option maxRecDepth 100000 in
theorem kw_292 : (Jvm.Cond.methodLink "PrintLedger" (286 : Nat) ({ cls := "java/lang/IndexOutOfBoundsException", name := "<init>", desc := "(Ljava/lang/String;)V" } : Jvm.MethodName)) ∈ BG := bg_in 292 rfl rfl
set_option maxRecDepth 100000 in
theorem kw_293 : (Jvm.Cond.instanceMethod ({ cls := "java/lang/IndexOutOfBoundsException", name := "<init>", desc := "(Ljava/lang/String;)V" } : Jvm.MethodName)) ∈ BG := bg_in 293 rfl rfl
set_option maxRecDepth 100000 in
theorem kw_294 : (Jvm.Cond.code ({ cls := "java/lang/IndexOutOfBoundsException", name := "<init>", desc := "(Ljava/lang/String;)V" } : Jvm.MethodName) prog_14_method_2_code (2 : Nat) (Option.none : Option Jvm.ClassFile.FieldType)) ∈ BG := bg_in 294 rfl rfl
set_option maxRecDepth 100000 in
theorem kw_295 : (Jvm.Cond.methodLink "java/lang/IndexOutOfBoundsException" (7 : Nat) ({ cls := "java/lang/RuntimeException", name := "<init>", desc := "(Ljava/lang/String;)V" } : Jvm.MethodName)) ∈ BG := bg_in 295 rfl rfl
set_option maxRecDepth 100000 in
theorem kw_296 : (Jvm.Cond.lays "java/lang/IndexOutOfBoundsException" "java/lang/Throwable" "depth" "I") ∈ BG := bg_in 296 rfl rfl
set_option maxRecDepth 100000 in
theorem kw_298 : (Jvm.Cond.methodLink "PrintLedger" (101 : Nat) ({ cls := "PrintLedger", name := "forecastOf", desc := "(LPrintLedger$Paper;)I" } : Jvm.MethodName)) ∈ BG := bg_in 298 rfl rfl
set_option maxRecDepth 100000 in
theorem kw_300 : (Jvm.Cond.instanceMethod ({ cls := "PrintLedger", name := "forecastOf", desc := "(LPrintLedger$Paper;)I" } : Jvm.MethodName)) ∈ BG := bg_in 300 rfl rfl
set_option maxRecDepth 100000 in
theorem kw_301 : (Jvm.Cond.code ({ cls := "PrintLedger", name := "forecastOf", desc := "(LPrintLedger$Paper;)I" } : Jvm.MethodName) prog_1_method_7_code (5 : Nat) (Option.some Jvm.ClassFile.FieldType.int)) ∈ BG := bg_in 301 rfl rfl
set_option maxRecDepth 100000 in
theorem kw_302 : (Jvm.Cond.methodLink "PrintLedger" (109 : Nat) ({ cls := "PrintLedger", name := "neededOf", desc := "(LPrintLedger$Paper;LPrintLedger$Press;)I" } : Jvm.MethodName)) ∈ BG := bg_in 302 rfl rfl
set_option maxRecDepth 100000 in
theorem kw_304 : (Jvm.Cond.instanceMethod ({ cls := "PrintLedger", name := "neededOf", desc := "(LPrintLedger$Paper;LPrintLedger$Press;)I" } : Jvm.MethodName)) ∈ BG := bg_in 304 rfl rfl
set_option maxRecDepth 100000 in
theorem kw_305 : (Jvm.Cond.code ({ cls := "PrintLedger", name := "neededOf", desc := "(LPrintLedger$Paper;LPrintLedger$Press;)I" } : Jvm.MethodName) prog_1_method_8_code (6 : Nat) (Option.some Jvm.ClassFile.FieldType.int)) ∈ BG := bg_in 305 rfl rfl
set_option maxRecDepth 100000 in
theorem kw_306 : (Jvm.Cond.methodLinkNest "PrintLedger" (116 : Nat) ({ cls := "PrintLedger$Press", name := "jobAt", desc := "(I)LPrintLedger$Job;" } : Jvm.MethodName) "PrintLedger") ∈ EW := ew_in 306 rfl rfl
set_option maxRecDepth 100000 in
theorem kw_308 : (Jvm.Cond.instanceMethod ({ cls := "PrintLedger$Press", name := "jobAt", desc := "(I)LPrintLedger$Job;" } : Jvm.MethodName)) ∈ BG := bg_in 308 rfl rfl
set_option maxRecDepth 100000 in
theorem kw_309 : (Jvm.Cond.code ({ cls := "PrintLedger$Press", name := "jobAt", desc := "(I)LPrintLedger$Job;" } : Jvm.MethodName) prog_5_method_3_code (2 : Nat) (Option.some (Jvm.ClassFile.FieldType.object "PrintLedger$Job"))) ∈ BG := bg_in 309 rfl rfl
set_option maxRecDepth 100000 in
theorem kw_310 : (Jvm.Cond.methodLink "PrintLedger" (127 : Nat) ({ cls := "PrintLedger", name := "expect", desc := "(LPrintLedger$Job;LPrintLedger$Press;I)LPrintLedger$Expectation;" } : Jvm.MethodName)) ∈ BG := bg_in 310 rfl rfl
set_option maxRecDepth 100000 in
theorem kw_312 : (Jvm.Cond.instanceMethod ({ cls := "PrintLedger", name := "expect", desc := "(LPrintLedger$Job;LPrintLedger$Press;I)LPrintLedger$Expectation;" } : Jvm.MethodName)) ∈ BG := bg_in 312 rfl rfl
set_option maxRecDepth 100000 in
theorem kw_313 : (Jvm.Cond.code ({ cls := "PrintLedger", name := "expect", desc := "(LPrintLedger$Job;LPrintLedger$Press;I)LPrintLedger$Expectation;" } : Jvm.MethodName) prog_1_method_16_code (8 : Nat) (Option.some (Jvm.ClassFile.FieldType.object "PrintLedger$Expectation"))) ∈ BG := bg_in 313 rfl rfl
set_option maxRecDepth 100000 in
theorem kw_314 : (Jvm.Cond.methodLinkNest "PrintLedger" (189 : Nat) ({ cls := "PrintLedger$Job", name := "sheets", desc := "()I" } : Jvm.MethodName) "PrintLedger") ∈ EW := ew_in 314 rfl rfl
set_option maxRecDepth 100000 in
theorem kw_316 : (Jvm.Cond.instanceMethod ({ cls := "PrintLedger$Job", name := "sheets", desc := "()I" } : Jvm.MethodName)) ∈ BG := bg_in 316 rfl rfl
set_option maxRecDepth 100000 in
theorem kw_317 : (Jvm.Cond.instantiable "PrintLedger$Job" (15 : Nat)) ∈ BG := bg_in 317 rfl rfl
set_option maxRecDepth 100000 in
theorem kw_318 : (Jvm.Cond.code ({ cls := "PrintLedger$Job", name := "sheets", desc := "()I" } : Jvm.MethodName) prog_3_method_3_code (2 : Nat) (Option.some Jvm.ClassFile.FieldType.int)) ∈ BG := bg_in 318 rfl rfl
set_option maxRecDepth 100000 in
theorem kw_319 : (Jvm.Cond.methodLink "PrintLedger$Job" (59 : Nat) ({ cls := "java/lang/Math", name := "max", desc := "(II)I" } : Jvm.MethodName)) ∈ BG := bg_in 319 rfl rfl
set_option maxRecDepth 100000 in
theorem kw_320 : (Jvm.Cond.static ({ cls := "java/lang/Math", name := "max", desc := "(II)I" } : Jvm.MethodName)) ∈ BG := bg_in 320 rfl rfl
set_option maxRecDepth 100000 in
theorem kw_321 : (Jvm.Cond.code ({ cls := "java/lang/Math", name := "max", desc := "(II)I" } : Jvm.MethodName) prog_16_method_65_code (2 : Nat) (Option.some Jvm.ClassFile.FieldType.int)) ∈ BG := bg_in 321 rfl rfl
set_option maxRecDepth 100000 in
theorem kw_322 : (Jvm.Cond.methodLinkNest "PrintLedger$Job" (64 : Nat) ({ cls := "PrintLedger", name := "divideUp", desc := "(II)I" } : Jvm.MethodName) "PrintLedger") ∈ EW := ew_in 322 rfl rfl
set_option maxRecDepth 100000 in
theorem kw_323 : (Jvm.Cond.static ({ cls := "PrintLedger", name := "divideUp", desc := "(II)I" } : Jvm.MethodName)) ∈ BG := bg_in 323 rfl rfl
set_option maxRecDepth 100000 in
theorem kw_324 : (Jvm.Cond.code ({ cls := "PrintLedger", name := "divideUp", desc := "(II)I" } : Jvm.MethodName) prog_1_method_43_code (2 : Nat) (Option.some Jvm.ClassFile.FieldType.int)) ∈ BG := bg_in 324 rfl rfl
set_option maxRecDepth 100000 in
theorem kw_325 : (Jvm.Cond.methodLinkNest "PrintLedger" (241 : Nat) ({ cls := "PrintLedger$Press", name := "passesOf", desc := "(LPrintLedger$Job;)I" } : Jvm.MethodName) "PrintLedger") ∈ EW := ew_in 325 rfl rfl
set_option maxRecDepth 100000 in
theorem kw_327 : (Jvm.Cond.instanceMethod ({ cls := "PrintLedger$Press", name := "passesOf", desc := "(LPrintLedger$Job;)I" } : Jvm.MethodName)) ∈ BG := bg_in 327 rfl rfl
set_option maxRecDepth 100000 in
theorem kw_328 : (Jvm.Cond.code ({ cls := "PrintLedger$Press", name := "passesOf", desc := "(LPrintLedger$Job;)I" } : Jvm.MethodName) prog_5_method_2_code (2 : Nat) (Option.some Jvm.ClassFile.FieldType.int)) ∈ BG := bg_in 328 rfl rfl
set_option maxRecDepth 100000 in
theorem kw_329 : (Jvm.Cond.methodLink "PrintLedger$Press" (33 : Nat) ({ cls := "java/lang/Integer", name := "bitCount", desc := "(I)I" } : Jvm.MethodName)) ∈ BG := bg_in 329 rfl rfl
set_option maxRecDepth 100000 in
theorem kw_330 : (Jvm.Cond.static ({ cls := "java/lang/Integer", name := "bitCount", desc := "(I)I" } : Jvm.MethodName)) ∈ BG := bg_in 330 rfl rfl
set_option maxRecDepth 100000 in
theorem kw_331 : (Jvm.Cond.code ({ cls := "java/lang/Integer", name := "bitCount", desc := "(I)I" } : Jvm.MethodName) prog_15_method_49_code (1 : Nat) (Option.some Jvm.ClassFile.FieldType.int)) ∈ BG := bg_in 331 rfl rfl
set_option maxRecDepth 100000 in
theorem kw_332 : (Jvm.Cond.constant "java/lang/Integer" (265 : Nat) (1431655765 : Int32)) ∈ BG := bg_in 332 rfl rfl
set_option maxRecDepth 100000 in
theorem kw_333 : (Jvm.Cond.constant "java/lang/Integer" (266 : Nat) (858993459 : Int32)) ∈ BG := bg_in 333 rfl rfl
set_option maxRecDepth 100000 in
theorem kw_334 : (Jvm.Cond.constant "java/lang/Integer" (267 : Nat) (252645135 : Int32)) ∈ BG := bg_in 334 rfl rfl
set_option maxRecDepth 100000 in
theorem kw_335 : (Jvm.Cond.methodLinkNest "PrintLedger$Press" (39 : Nat) ({ cls := "PrintLedger", name := "divideUp", desc := "(II)I" } : Jvm.MethodName) "PrintLedger") ∈ EW := ew_in 335 rfl rfl
set_option maxRecDepth 100000 in
theorem kw_336 : (Jvm.Cond.methodLink "PrintLedger" (245 : Nat) ({ cls := "PrintLedger", name := "changeOf", desc := "(LPrintLedger$Job;I)I" } : Jvm.MethodName)) ∈ BG := bg_in 336 rfl rfl
set_option maxRecDepth 100000 in
theorem kw_337 : (Jvm.Cond.static ({ cls := "PrintLedger", name := "changeOf", desc := "(LPrintLedger$Job;I)I" } : Jvm.MethodName)) ∈ BG := bg_in 337 rfl rfl
set_option maxRecDepth 100000 in
theorem kw_338 : (Jvm.Cond.code ({ cls := "PrintLedger", name := "changeOf", desc := "(LPrintLedger$Job;I)I" } : Jvm.MethodName) prog_1_method_17_code (2 : Nat) (Option.some Jvm.ClassFile.FieldType.int)) ∈ BG := bg_in 338 rfl rfl
set_option maxRecDepth 100000 in
theorem kw_339 : (Jvm.Cond.methodLink "PrintLedger" (265 : Nat) ({ cls := "java/lang/Integer", name := "bitCount", desc := "(I)I" } : Jvm.MethodName)) ∈ BG := bg_in 339 rfl rfl
set_option maxRecDepth 100000 in
theorem kw_340 : (Jvm.Cond.constantLong "PrintLedger" (255 : Nat) (1000 : Int64)) ∈ BG := bg_in 340 rfl rfl
set_option maxRecDepth 100000 in
theorem kw_341 : (Jvm.Cond.methodLinkNest "PrintLedger" (260 : Nat) ({ cls := "PrintLedger$Job", name := "moneyOfInks", desc := "()I" } : Jvm.MethodName) "PrintLedger") ∈ EW := ew_in 341 rfl rfl
set_option maxRecDepth 100000 in
theorem kw_343 : (Jvm.Cond.instanceMethod ({ cls := "PrintLedger$Job", name := "moneyOfInks", desc := "()I" } : Jvm.MethodName)) ∈ BG := bg_in 343 rfl rfl
set_option maxRecDepth 100000 in
theorem kw_344 : (Jvm.Cond.code ({ cls := "PrintLedger$Job", name := "moneyOfInks", desc := "()I" } : Jvm.MethodName) prog_3_method_4_code (1 : Nat) (Option.some Jvm.ClassFile.FieldType.int)) ∈ BG := bg_in 344 rfl rfl
set_option maxRecDepth 100000 in
theorem kw_345 : (Jvm.Cond.methodLink "PrintLedger$Job" (67 : Nat) ({ cls := "java/lang/Integer", name := "bitCount", desc := "(I)I" } : Jvm.MethodName)) ∈ BG := bg_in 345 rfl rfl
set_option maxRecDepth 100000 in
theorem kw_346 : (Jvm.Cond.constantLong "PrintLedger" (263 : Nat) (100 : Int64)) ∈ BG := bg_in 346 rfl rfl
set_option maxRecDepth 100000 in
theorem kw_347 : (Jvm.Cond.methodLink "PrintLedger" (88 : Nat) ({ cls := "PrintLedger", name := "shortOf", desc := "(LPrintLedger$Paper;)I" } : Jvm.MethodName)) ∈ BG := bg_in 347 rfl rfl
set_option maxRecDepth 100000 in
theorem kw_349 : (Jvm.Cond.instanceMethod ({ cls := "PrintLedger", name := "shortOf", desc := "(LPrintLedger$Paper;)I" } : Jvm.MethodName)) ∈ BG := bg_in 349 rfl rfl
set_option maxRecDepth 100000 in
theorem kw_350 : (Jvm.Cond.code ({ cls := "PrintLedger", name := "shortOf", desc := "(LPrintLedger$Paper;)I" } : Jvm.MethodName) prog_1_method_9_code (2 : Nat) (Option.some Jvm.ClassFile.FieldType.int)) ∈ BG := bg_in 350 rfl rfl
set_option maxRecDepth 100000 in
theorem kw_351 : (Jvm.Cond.methodLink "PrintLedger" (134 : Nat) ({ cls := "java/lang/Math", name := "max", desc := "(II)I" } : Jvm.MethodName)) ∈ BG := bg_in 351 rfl rfl
set_option maxRecDepth 100000 in
theorem kw_353 : (Jvm.Cond.methodLink "PrintLedger" (358 : Nat) ({ cls := "PrintLedger", name := "digestWithPress", desc := "(JI)J" } : Jvm.MethodName)) ∈ BG := bg_in 353 rfl rfl
set_option maxRecDepth 100000 in
theorem kw_355 : (Jvm.Cond.instanceMethod ({ cls := "PrintLedger", name := "digestWithPress", desc := "(JI)J" } : Jvm.MethodName)) ∈ BG := bg_in 355 rfl rfl
set_option maxRecDepth 100000 in
theorem kw_356 : (Jvm.Cond.code ({ cls := "PrintLedger", name := "digestWithPress", desc := "(JI)J" } : Jvm.MethodName) prog_1_method_36_code (8 : Nat) (Option.some Jvm.ClassFile.FieldType.long)) ∈ BG := bg_in 356 rfl rfl
set_option maxRecDepth 100000 in
theorem kw_357 : (Jvm.Cond.methodLink "PrintLedger" (365 : Nat) ({ cls := "PrintLedger", name := "ofPress", desc := "(II)I" } : Jvm.MethodName)) ∈ BG := bg_in 357 rfl rfl
set_option maxRecDepth 100000 in
theorem kw_358 : (Jvm.Cond.instanceMethod ({ cls := "PrintLedger", name := "ofPress", desc := "(II)I" } : Jvm.MethodName)) ∈ BG := bg_in 358 rfl rfl
set_option maxRecDepth 100000 in
theorem kw_359 : (Jvm.Cond.selects "PrintLedger" ({ cls := "PrintLedger", name := "ofPress", desc := "(II)I" } : Jvm.MethodName) ({ cls := "PrintLedger", name := "ofPress", desc := "(II)I" } : Jvm.MethodName)) ∈ BG := bg_in 359 rfl rfl
set_option maxRecDepth 100000 in
theorem kw_360 : (Jvm.Cond.code ({ cls := "PrintLedger", name := "ofPress", desc := "(II)I" } : Jvm.MethodName) prog_1_method_19_code (4 : Nat) (Option.some Jvm.ClassFile.FieldType.int)) ∈ BG := bg_in 360 rfl rfl
set_option maxRecDepth 100000 in
theorem kw_361 : (Jvm.Cond.methodLink "PrintLedger" (206 : Nat) ({ cls := "PrintLedger", name := "pressOf", desc := "(I)LPrintLedger$Press;" } : Jvm.MethodName)) ∈ BG := bg_in 361 rfl rfl
set_option maxRecDepth 100000 in
theorem kw_363 : (Jvm.Cond.instanceMethod ({ cls := "PrintLedger", name := "pressOf", desc := "(I)LPrintLedger$Press;" } : Jvm.MethodName)) ∈ BG := bg_in 363 rfl rfl
set_option maxRecDepth 100000 in
theorem kw_364 : (Jvm.Cond.code ({ cls := "PrintLedger", name := "pressOf", desc := "(I)LPrintLedger$Press;" } : Jvm.MethodName) prog_1_method_40_code (3 : Nat) (Option.some (Jvm.ClassFile.FieldType.object "PrintLedger$Press"))) ∈ BG := bg_in 364 rfl rfl
set_option maxRecDepth 100000 in
theorem kw_366 : (Jvm.Cond.methodLink "PrintLedger" (276 : Nat) ({ cls := "PrintLedger", name := "minutesOfQueue", desc := "(LPrintLedger$Press;)I" } : Jvm.MethodName)) ∈ BG := bg_in 366 rfl rfl
set_option maxRecDepth 100000 in
theorem kw_368 : (Jvm.Cond.instanceMethod ({ cls := "PrintLedger", name := "minutesOfQueue", desc := "(LPrintLedger$Press;)I" } : Jvm.MethodName)) ∈ BG := bg_in 368 rfl rfl
set_option maxRecDepth 100000 in
theorem kw_369 : (Jvm.Cond.code ({ cls := "PrintLedger", name := "minutesOfQueue", desc := "(LPrintLedger$Press;)I" } : Jvm.MethodName) prog_1_method_24_code (6 : Nat) (Option.some Jvm.ClassFile.FieldType.int)) ∈ BG := bg_in 369 rfl rfl
set_option maxRecDepth 100000 in
theorem kw_371 : (Jvm.Cond.methodLink "PrintLedger" (368 : Nat) ({ cls := "PrintLedger", name := "queue", desc := "(II)I" } : Jvm.MethodName)) ∈ BG := bg_in 371 rfl rfl
set_option maxRecDepth 100000 in
theorem kw_372 : (Jvm.Cond.instanceMethod ({ cls := "PrintLedger", name := "queue", desc := "(II)I" } : Jvm.MethodName)) ∈ BG := bg_in 372 rfl rfl
set_option maxRecDepth 100000 in
theorem kw_373 : (Jvm.Cond.selects "PrintLedger" ({ cls := "PrintLedger", name := "queue", desc := "(II)I" } : Jvm.MethodName) ({ cls := "PrintLedger", name := "queue", desc := "(II)I" } : Jvm.MethodName)) ∈ BG := bg_in 373 rfl rfl
set_option maxRecDepth 100000 in
theorem kw_374 : (Jvm.Cond.code ({ cls := "PrintLedger", name := "queue", desc := "(II)I" } : Jvm.MethodName) prog_1_method_20_code (4 : Nat) (Option.some Jvm.ClassFile.FieldType.int)) ∈ BG := bg_in 374 rfl rfl
set_option maxRecDepth 100000 in
theorem kw_376 : (Jvm.Cond.methodLink "PrintLedger" (362 : Nat) ({ cls := "PrintLedger", name := "digestWithJob", desc := "(JI)J" } : Jvm.MethodName)) ∈ BG := bg_in 376 rfl rfl
set_option maxRecDepth 100000 in
theorem kw_378 : (Jvm.Cond.instanceMethod ({ cls := "PrintLedger", name := "digestWithJob", desc := "(JI)J" } : Jvm.MethodName)) ∈ BG := bg_in 378 rfl rfl
set_option maxRecDepth 100000 in
theorem kw_379 : (Jvm.Cond.code ({ cls := "PrintLedger", name := "digestWithJob", desc := "(JI)J" } : Jvm.MethodName) prog_1_method_37_code (8 : Nat) (Option.some Jvm.ClassFile.FieldType.long)) ∈ BG := bg_in 379 rfl rfl
set_option maxRecDepth 100000 in
theorem kw_380 : (Jvm.Cond.methodLink "PrintLedger" (371 : Nat) ({ cls := "PrintLedger", name := "ofJob", desc := "(II)I" } : Jvm.MethodName)) ∈ BG := bg_in 380 rfl rfl
set_option maxRecDepth 100000 in
theorem kw_381 : (Jvm.Cond.instanceMethod ({ cls := "PrintLedger", name := "ofJob", desc := "(II)I" } : Jvm.MethodName)) ∈ BG := bg_in 381 rfl rfl
set_option maxRecDepth 100000 in
theorem kw_382 : (Jvm.Cond.selects "PrintLedger" ({ cls := "PrintLedger", name := "ofJob", desc := "(II)I" } : Jvm.MethodName) ({ cls := "PrintLedger", name := "ofJob", desc := "(II)I" } : Jvm.MethodName)) ∈ BG := bg_in 382 rfl rfl
set_option maxRecDepth 100000 in
theorem kw_383 : (Jvm.Cond.code ({ cls := "PrintLedger", name := "ofJob", desc := "(II)I" } : Jvm.MethodName) prog_1_method_11_code (4 : Nat) (Option.some Jvm.ClassFile.FieldType.int)) ∈ BG := bg_in 383 rfl rfl
set_option maxRecDepth 100000 in
theorem kw_384 : (Jvm.Cond.methodLink "PrintLedger" (163 : Nat) ({ cls := "PrintLedger", name := "jobOf", desc := "(I)LPrintLedger$Job;" } : Jvm.MethodName)) ∈ BG := bg_in 384 rfl rfl
set_option maxRecDepth 100000 in
theorem kw_386 : (Jvm.Cond.instanceMethod ({ cls := "PrintLedger", name := "jobOf", desc := "(I)LPrintLedger$Job;" } : Jvm.MethodName)) ∈ BG := bg_in 386 rfl rfl
set_option maxRecDepth 100000 in
theorem kw_387 : (Jvm.Cond.code ({ cls := "PrintLedger", name := "jobOf", desc := "(I)LPrintLedger$Job;" } : Jvm.MethodName) prog_1_method_39_code (3 : Nat) (Option.some (Jvm.ClassFile.FieldType.object "PrintLedger$Job"))) ∈ BG := bg_in 387 rfl rfl
set_option maxRecDepth 100000 in
theorem kw_390 : (Jvm.Cond.methodLink "PrintLedger" (374 : Nat) ({ cls := "PrintLedger", name := "expected", desc := "(III)I" } : Jvm.MethodName)) ∈ BG := bg_in 390 rfl rfl
set_option maxRecDepth 100000 in
theorem kw_391 : (Jvm.Cond.instanceMethod ({ cls := "PrintLedger", name := "expected", desc := "(III)I" } : Jvm.MethodName)) ∈ BG := bg_in 391 rfl rfl
set_option maxRecDepth 100000 in
theorem kw_392 : (Jvm.Cond.selects "PrintLedger" ({ cls := "PrintLedger", name := "expected", desc := "(III)I" } : Jvm.MethodName) ({ cls := "PrintLedger", name := "expected", desc := "(III)I" } : Jvm.MethodName)) ∈ BG := bg_in 392 rfl rfl
set_option maxRecDepth 100000 in
theorem kw_393 : (Jvm.Cond.code ({ cls := "PrintLedger", name := "expected", desc := "(III)I" } : Jvm.MethodName) prog_1_method_12_code (7 : Nat) (Option.some Jvm.ClassFile.FieldType.int)) ∈ BG := bg_in 393 rfl rfl
set_option maxRecDepth 100000 in
theorem kw_395 : (Jvm.Cond.methodLink "PrintLedger" (378 : Nat) ({ cls := "PrintLedger", name := "bestPress", desc := "(I)I" } : Jvm.MethodName)) ∈ BG := bg_in 395 rfl rfl
set_option maxRecDepth 100000 in
theorem kw_396 : (Jvm.Cond.instanceMethod ({ cls := "PrintLedger", name := "bestPress", desc := "(I)I" } : Jvm.MethodName)) ∈ BG := bg_in 396 rfl rfl
set_option maxRecDepth 100000 in
theorem kw_397 : (Jvm.Cond.selects "PrintLedger" ({ cls := "PrintLedger", name := "bestPress", desc := "(I)I" } : Jvm.MethodName) ({ cls := "PrintLedger", name := "bestPress", desc := "(I)I" } : Jvm.MethodName)) ∈ BG := bg_in 397 rfl rfl
set_option maxRecDepth 100000 in
theorem kw_398 : (Jvm.Cond.code ({ cls := "PrintLedger", name := "bestPress", desc := "(I)I" } : Jvm.MethodName) prog_1_method_32_code (8 : Nat) (Option.some Jvm.ClassFile.FieldType.int)) ∈ BG := bg_in 398 rfl rfl
set_option maxRecDepth 100000 in
theorem kw_399 : (Jvm.Cond.constant "PrintLedger" (343 : Nat) (2147483647 : Int32)) ∈ BG := bg_in 399 rfl rfl
set_option maxRecDepth 100000 in
theorem kw_400 : (Jvm.Cond.methodLink "PrintLedger" (381 : Nat) ({ cls := "PrintLedger", name := "profit", desc := "(I)I" } : Jvm.MethodName)) ∈ BG := bg_in 400 rfl rfl
set_option maxRecDepth 100000 in
theorem kw_401 : (Jvm.Cond.instanceMethod ({ cls := "PrintLedger", name := "profit", desc := "(I)I" } : Jvm.MethodName)) ∈ BG := bg_in 401 rfl rfl
set_option maxRecDepth 100000 in
theorem kw_402 : (Jvm.Cond.selects "PrintLedger" ({ cls := "PrintLedger", name := "profit", desc := "(I)I" } : Jvm.MethodName) ({ cls := "PrintLedger", name := "profit", desc := "(I)I" } : Jvm.MethodName)) ∈ BG := bg_in 402 rfl rfl
set_option maxRecDepth 100000 in
theorem kw_403 : (Jvm.Cond.code ({ cls := "PrintLedger", name := "profit", desc := "(I)I" } : Jvm.MethodName) prog_1_method_34_code (3 : Nat) (Option.some Jvm.ClassFile.FieldType.int)) ∈ BG := bg_in 403 rfl rfl
set_option maxRecDepth 100000 in
theorem kw_404 : (Jvm.Cond.methodLinkNest "PrintLedger" (238 : Nat) ({ cls := "PrintLedger$Job", name := "worth", desc := "()I" } : Jvm.MethodName) "PrintLedger") ∈ EW := ew_in 404 rfl rfl
set_option maxRecDepth 100000 in
theorem kw_406 : (Jvm.Cond.instanceMethod ({ cls := "PrintLedger$Job", name := "worth", desc := "()I" } : Jvm.MethodName)) ∈ BG := bg_in 406 rfl rfl
set_option maxRecDepth 100000 in
theorem kw_407 : (Jvm.Cond.code ({ cls := "PrintLedger$Job", name := "worth", desc := "()I" } : Jvm.MethodName) prog_3_method_6_code (2 : Nat) (Option.some Jvm.ClassFile.FieldType.int)) ∈ BG := bg_in 407 rfl rfl
set_option maxRecDepth 100000 in
theorem kw_408 : (Jvm.Cond.methodLink "PrintLedger$Job" (80 : Nat) ({ cls := "java/lang/Math", name := "min", desc := "(II)I" } : Jvm.MethodName)) ∈ BG := bg_in 408 rfl rfl
set_option maxRecDepth 100000 in
theorem kw_409 : (Jvm.Cond.static ({ cls := "java/lang/Math", name := "min", desc := "(II)I" } : Jvm.MethodName)) ∈ BG := bg_in 409 rfl rfl
set_option maxRecDepth 100000 in
theorem kw_410 : (Jvm.Cond.code ({ cls := "java/lang/Math", name := "min", desc := "(II)I" } : Jvm.MethodName) prog_16_method_69_code (2 : Nat) (Option.some Jvm.ClassFile.FieldType.int)) ∈ BG := bg_in 410 rfl rfl
set_option maxRecDepth 100000 in
theorem kw_411 : (Jvm.Cond.methodLink "PrintLedgerLaw" (28 : Nat) ({ cls := "PrintLedgerLaw", name := "below", desc := "(II)I" } : Jvm.MethodName)) ∈ BG := bg_in 411 rfl rfl
set_option maxRecDepth 100000 in
theorem kw_412 : (Jvm.Cond.static ({ cls := "PrintLedgerLaw", name := "below", desc := "(II)I" } : Jvm.MethodName)) ∈ BG := bg_in 412 rfl rfl
set_option maxRecDepth 100000 in
theorem kw_413 : (Jvm.Cond.code ({ cls := "PrintLedgerLaw", name := "below", desc := "(II)I" } : Jvm.MethodName) method_2_code (2 : Nat) (Option.some Jvm.ClassFile.FieldType.int)) ∈ BG := bg_in 413 rfl rfl
set_option maxRecDepth 100000 in
theorem kw_414 : (Jvm.Cond.constant "PrintLedgerLaw" (7 : Nat) (2147483647 : Int32)) ∈ BG := bg_in 414 rfl rfl
set_option maxRecDepth 100000 in
theorem kw_415 : (Jvm.Cond.methodLink "PrintLedgerLaw" (12 : Nat) ({ cls := "PrintLedgerLaw", name := "cell", desc := "([II)I" } : Jvm.MethodName)) ∈ BG := bg_in 415 rfl rfl
set_option maxRecDepth 100000 in
theorem kw_416 : (Jvm.Cond.static ({ cls := "PrintLedgerLaw", name := "cell", desc := "([II)I" } : Jvm.MethodName)) ∈ BG := bg_in 416 rfl rfl
set_option maxRecDepth 100000 in
theorem kw_417 : (Jvm.Cond.code ({ cls := "PrintLedgerLaw", name := "cell", desc := "([II)I" } : Jvm.MethodName) method_3_code (2 : Nat) (Option.some Jvm.ClassFile.FieldType.int)) ∈ BG := bg_in 417 rfl rfl
set_option maxRecDepth 100000 in
theorem kw_418 : (Jvm.Cond.constant "PrintLedgerLaw" (8 : Nat) (790386105 : Int32)) ∈ BG := bg_in 418 rfl rfl
set_option maxRecDepth 100000 in
theorem kw_419 : (Jvm.Cond.methodLink "PrintLedgerLaw" (31 : Nat) ({ cls := "PrintLedgerLaw", name := "act", desc := "(LPrintLedger;IIII)Z" } : Jvm.MethodName)) ∈ BG := bg_in 419 rfl rfl
set_option maxRecDepth 100000 in
theorem kw_420 : (Jvm.Cond.static ({ cls := "PrintLedgerLaw", name := "act", desc := "(LPrintLedger;IIII)Z" } : Jvm.MethodName)) ∈ BG := bg_in 420 rfl rfl
set_option maxRecDepth 100000 in
theorem kw_421 : (Jvm.Cond.codeWith ({ cls := "PrintLedgerLaw", name := "act", desc := "(LPrintLedger;IIII)Z" } : Jvm.MethodName) method_5_code (7 : Nat) (Option.some Jvm.ClassFile.FieldType.boolean) [((0 : Nat), (132 : Nat), (514 : Nat), (102 : Nat)), ((133 : Nat), (182 : Nat), (514 : Nat), (102 : Nat)), ((183 : Nat), (214 : Nat), (514 : Nat), (102 : Nat)), ((215 : Nat), (239 : Nat), (514 : Nat), (102 : Nat)), ((240 : Nat), (294 : Nat), (514 : Nat), (102 : Nat)), ((295 : Nat), (331 : Nat), (514 : Nat), (102 : Nat)), ((332 : Nat), (364 : Nat), (514 : Nat), (102 : Nat)), ((365 : Nat), (389 : Nat), (514 : Nat), (102 : Nat)), ((390 : Nat), (415 : Nat), (514 : Nat), (102 : Nat)), ((416 : Nat), (463 : Nat), (514 : Nat), (102 : Nat)), ((464 : Nat), (513 : Nat), (514 : Nat), (102 : Nat)), ((0 : Nat), (132 : Nat), (552 : Nat), (104 : Nat)), ((133 : Nat), (182 : Nat), (552 : Nat), (104 : Nat)), ((183 : Nat), (214 : Nat), (552 : Nat), (104 : Nat)), ((215 : Nat), (239 : Nat), (552 : Nat), (104 : Nat)), ((240 : Nat), (294 : Nat), (552 : Nat), (104 : Nat)), ((295 : Nat), (331 : Nat), (552 : Nat), (104 : Nat)), ((332 : Nat), (364 : Nat), (552 : Nat), (104 : Nat)), ((365 : Nat), (389 : Nat), (552 : Nat), (104 : Nat)), ((390 : Nat), (415 : Nat), (552 : Nat), (104 : Nat)), ((416 : Nat), (463 : Nat), (552 : Nat), (104 : Nat)), ((464 : Nat), (513 : Nat), (552 : Nat), (104 : Nat)), ((0 : Nat), (132 : Nat), (570 : Nat), (106 : Nat)), ((133 : Nat), (182 : Nat), (570 : Nat), (106 : Nat)), ((183 : Nat), (214 : Nat), (570 : Nat), (106 : Nat)), ((215 : Nat), (239 : Nat), (570 : Nat), (106 : Nat)), ((240 : Nat), (294 : Nat), (570 : Nat), (106 : Nat)), ((295 : Nat), (331 : Nat), (570 : Nat), (106 : Nat)), ((332 : Nat), (364 : Nat), (570 : Nat), (106 : Nat)), ((365 : Nat), (389 : Nat), (570 : Nat), (106 : Nat)), ((390 : Nat), (415 : Nat), (570 : Nat), (106 : Nat)), ((416 : Nat), (463 : Nat), (570 : Nat), (106 : Nat)), ((464 : Nat), (513 : Nat), (570 : Nat), (106 : Nat))]) ∈ BG := bg_in 421 rfl rfl
set_option maxRecDepth 100000 in
theorem kw_422 : (Jvm.Cond.classLink "PrintLedgerLaw" (102 : Nat) "java/lang/IndexOutOfBoundsException") ∈ BG := bg_in 422 rfl rfl
set_option maxRecDepth 100000 in
theorem kw_423 : (Jvm.Cond.classLink "PrintLedgerLaw" (104 : Nat) "java/lang/IllegalArgumentException") ∈ BG := bg_in 423 rfl rfl
set_option maxRecDepth 100000 in
theorem kw_424 : (Jvm.Cond.classLink "PrintLedgerLaw" (106 : Nat) "java/lang/IllegalStateException") ∈ BG := bg_in 424 rfl rfl
set_option maxRecDepth 100000 in
theorem kw_425 : (Jvm.Cond.methodLink "PrintLedgerLaw" (50 : Nat) ({ cls := "PrintLedger", name := "job", desc := "(IIIII)I" } : Jvm.MethodName)) ∈ BG := bg_in 425 rfl rfl
set_option maxRecDepth 100000 in
theorem kw_426 : (Jvm.Cond.instanceMethod ({ cls := "PrintLedger", name := "job", desc := "(IIIII)I" } : Jvm.MethodName)) ∈ BG := bg_in 426 rfl rfl
set_option maxRecDepth 100000 in
theorem kw_427 : (Jvm.Cond.selects "PrintLedger" ({ cls := "PrintLedger", name := "job", desc := "(IIIII)I" } : Jvm.MethodName) ({ cls := "PrintLedger", name := "job", desc := "(IIIII)I" } : Jvm.MethodName)) ∈ BG := bg_in 427 rfl rfl
set_option maxRecDepth 100000 in
theorem kw_428 : (Jvm.Cond.code ({ cls := "PrintLedger", name := "job", desc := "(IIIII)I" } : Jvm.MethodName) prog_1_method_10_code (9 : Nat) (Option.some Jvm.ClassFile.FieldType.int)) ∈ BG := bg_in 428 rfl rfl
set_option maxRecDepth 100000 in
theorem kw_429 : (Jvm.Cond.methodLink "PrintLedger" (51 : Nat) ({ cls := "PrintLedger", name := "isOutside", desc := "(III)Z" } : Jvm.MethodName)) ∈ BG := bg_in 429 rfl rfl
set_option maxRecDepth 100000 in
theorem kw_430 : (Jvm.Cond.static ({ cls := "PrintLedger", name := "isOutside", desc := "(III)Z" } : Jvm.MethodName)) ∈ BG := bg_in 430 rfl rfl
set_option maxRecDepth 100000 in
theorem kw_431 : (Jvm.Cond.code ({ cls := "PrintLedger", name := "isOutside", desc := "(III)Z" } : Jvm.MethodName) prog_1_method_41_code (3 : Nat) (Option.some Jvm.ClassFile.FieldType.boolean)) ∈ BG := bg_in 431 rfl rfl
set_option maxRecDepth 100000 in
theorem kw_435 : (Jvm.Cond.methodLinkNest "PrintLedger" (143 : Nat) ({ cls := "PrintLedger$Paper", name := "holds", desc := "(II)I" } : Jvm.MethodName) "PrintLedger") ∈ EW := ew_in 435 rfl rfl
set_option maxRecDepth 100000 in
theorem kw_437 : (Jvm.Cond.instanceMethod ({ cls := "PrintLedger$Paper", name := "holds", desc := "(II)I" } : Jvm.MethodName)) ∈ BG := bg_in 437 rfl rfl
set_option maxRecDepth 100000 in
theorem kw_438 : (Jvm.Cond.code ({ cls := "PrintLedger$Paper", name := "holds", desc := "(II)I" } : Jvm.MethodName) prog_4_method_2_code (3 : Nat) (Option.some Jvm.ClassFile.FieldType.int)) ∈ BG := bg_in 438 rfl rfl
set_option maxRecDepth 100000 in
theorem kw_439 : (Jvm.Cond.methodLinkNest "PrintLedger$Paper" (21 : Nat) ({ cls := "PrintLedger", name := "divide", desc := "(II)I" } : Jvm.MethodName) "PrintLedger") ∈ EW := ew_in 439 rfl rfl
set_option maxRecDepth 100000 in
theorem kw_440 : (Jvm.Cond.static ({ cls := "PrintLedger", name := "divide", desc := "(II)I" } : Jvm.MethodName)) ∈ BG := bg_in 440 rfl rfl
set_option maxRecDepth 100000 in
theorem kw_441 : (Jvm.Cond.code ({ cls := "PrintLedger", name := "divide", desc := "(II)I" } : Jvm.MethodName) prog_1_method_42_code (2 : Nat) (Option.some Jvm.ClassFile.FieldType.int)) ∈ BG := bg_in 441 rfl rfl
set_option maxRecDepth 100000 in
theorem kw_443 : (Jvm.Cond.classLink "PrintLedger" (151 : Nat) "java/lang/IllegalStateException") ∈ BG := bg_in 443 rfl rfl
set_option maxRecDepth 100000 in
theorem kw_444 : (Jvm.Cond.instantiable "java/lang/IllegalStateException" (6 : Nat)) ∈ BG := bg_in 444 rfl rfl
set_option maxRecDepth 100000 in
theorem kw_445 : (Jvm.Cond.castable "java/lang/IllegalStateException" "java/lang/IllegalStateException") ∈ EW := ew_in 445 rfl rfl
set_option maxRecDepth 100000 in
theorem kw_446 : (Jvm.Cond.selects "java/lang/IllegalStateException" ({ cls := "java/lang/Throwable", name := "fillInStackTrace", desc := "(I)Ljava/lang/Throwable;" } : Jvm.MethodName) ({ cls := "java/lang/Throwable", name := "fillInStackTrace", desc := "(I)Ljava/lang/Throwable;" } : Jvm.MethodName)) ∈ BG := bg_in 446 rfl rfl
set_option maxRecDepth 100000 in
theorem kw_447 : (Jvm.Cond.lays "java/lang/IllegalStateException" "java/lang/Throwable" "cause" "Ljava/lang/Throwable;") ∈ BG := bg_in 447 rfl rfl
set_option maxRecDepth 100000 in
theorem kw_448 : (Jvm.Cond.lays "java/lang/IllegalStateException" "java/lang/Throwable" "stackTrace" "[Ljava/lang/StackTraceElement;") ∈ BG := bg_in 448 rfl rfl
set_option maxRecDepth 100000 in
theorem kw_449 : (Jvm.Cond.lays "java/lang/IllegalStateException" "java/lang/Throwable" "suppressedExceptions" "Ljava/util/List;") ∈ BG := bg_in 449 rfl rfl
set_option maxRecDepth 100000 in
theorem kw_450 : (Jvm.Cond.lays "java/lang/IllegalStateException" "java/lang/Throwable" "detailMessage" "Ljava/lang/String;") ∈ BG := bg_in 450 rfl rfl
set_option maxRecDepth 100000 in
theorem kw_451 : (Jvm.Cond.lays "java/lang/IllegalStateException" "java/lang/Throwable" "backtrace" "Ljava/lang/Object;") ∈ BG := bg_in 451 rfl rfl
set_option maxRecDepth 100000 in
theorem kw_453 : (Jvm.Cond.methodLink "PrintLedger" (155 : Nat) ({ cls := "java/lang/IllegalStateException", name := "<init>", desc := "(Ljava/lang/String;)V" } : Jvm.MethodName)) ∈ BG := bg_in 453 rfl rfl
set_option maxRecDepth 100000 in
theorem kw_454 : (Jvm.Cond.instanceMethod ({ cls := "java/lang/IllegalStateException", name := "<init>", desc := "(Ljava/lang/String;)V" } : Jvm.MethodName)) ∈ BG := bg_in 454 rfl rfl
set_option maxRecDepth 100000 in
theorem kw_455 : (Jvm.Cond.code ({ cls := "java/lang/IllegalStateException", name := "<init>", desc := "(Ljava/lang/String;)V" } : Jvm.MethodName) prog_13_method_2_code (2 : Nat) (Option.none : Option Jvm.ClassFile.FieldType)) ∈ BG := bg_in 455 rfl rfl
set_option maxRecDepth 100000 in
theorem kw_456 : (Jvm.Cond.methodLink "java/lang/IllegalStateException" (7 : Nat) ({ cls := "java/lang/RuntimeException", name := "<init>", desc := "(Ljava/lang/String;)V" } : Jvm.MethodName)) ∈ BG := bg_in 456 rfl rfl
set_option maxRecDepth 100000 in
theorem kw_457 : (Jvm.Cond.lays "java/lang/IllegalStateException" "java/lang/Throwable" "depth" "I") ∈ BG := bg_in 457 rfl rfl
set_option maxRecDepth 100000 in
theorem kw_459 : (Jvm.Cond.methodLinkNest "PrintLedger" (156 : Nat) ({ cls := "PrintLedger$Job", name := "<init>", desc := "(IILPrintLedger$Paper;II)V" } : Jvm.MethodName) "PrintLedger") ∈ EW := ew_in 459 rfl rfl
set_option maxRecDepth 100000 in
theorem kw_460 : (Jvm.Cond.instanceMethod ({ cls := "PrintLedger$Job", name := "<init>", desc := "(IILPrintLedger$Paper;II)V" } : Jvm.MethodName)) ∈ BG := bg_in 460 rfl rfl
set_option maxRecDepth 100000 in
theorem kw_461 : (Jvm.Cond.code ({ cls := "PrintLedger$Job", name := "<init>", desc := "(IILPrintLedger$Paper;II)V" } : Jvm.MethodName) prog_3_method_1_code (6 : Nat) (Option.none : Option Jvm.ClassFile.FieldType)) ∈ BG := bg_in 461 rfl rfl
set_option maxRecDepth 100000 in
theorem kw_462 : (Jvm.Cond.methodLink "PrintLedger$Job" (3 : Nat) ({ cls := "java/lang/Object", name := "<init>", desc := "()V" } : Jvm.MethodName)) ∈ BG := bg_in 462 rfl rfl
set_option maxRecDepth 100000 in
theorem kw_463 : (Jvm.Cond.fieldLink "PrintLedger$Job" (18 : Nat) "PrintLedger$Job" "number" "I") ∈ BG := bg_in 463 rfl rfl
set_option maxRecDepth 100000 in
theorem kw_464 : (Jvm.Cond.fieldLinkNest "PrintLedger" (287 : Nat) "PrintLedger$Job" "number" "I" "PrintLedger") ∈ EW := ew_in 464 rfl rfl
set_option maxRecDepth 100000 in
theorem kw_465 : (Jvm.Cond.fieldLink "PrintLedger$Job" (21 : Nat) "PrintLedger$Job" "paper" "I") ∈ BG := bg_in 465 rfl rfl
set_option maxRecDepth 100000 in
theorem kw_466 : (Jvm.Cond.fieldLinkNest "PrintLedger" (166 : Nat) "PrintLedger$Job" "paper" "I" "PrintLedger") ∈ EW := ew_in 466 rfl rfl
set_option maxRecDepth 100000 in
theorem kw_467 : (Jvm.Cond.fieldLink "PrintLedger$Job" (24 : Nat) "PrintLedger$Job" "sheet" "LPrintLedger$Paper;") ∈ BG := bg_in 467 rfl rfl
set_option maxRecDepth 100000 in
theorem kw_468 : (Jvm.Cond.fieldLinkNest "PrintLedger" (120 : Nat) "PrintLedger$Job" "sheet" "LPrintLedger$Paper;" "PrintLedger") ∈ EW := ew_in 468 rfl rfl
set_option maxRecDepth 100000 in
theorem kw_469 : (Jvm.Cond.fieldLink "PrintLedger$Job" (28 : Nat) "PrintLedger$Job" "copies" "I") ∈ BG := bg_in 469 rfl rfl
set_option maxRecDepth 100000 in
theorem kw_470 : (Jvm.Cond.fieldLinkNest "PrintLedger" (169 : Nat) "PrintLedger$Job" "copies" "I" "PrintLedger") ∈ EW := ew_in 470 rfl rfl
set_option maxRecDepth 100000 in
theorem kw_471 : (Jvm.Cond.fieldLink "PrintLedger$Job" (31 : Nat) "PrintLedger$Job" "inks" "I") ∈ BG := bg_in 471 rfl rfl
set_option maxRecDepth 100000 in
theorem kw_472 : (Jvm.Cond.fieldLinkNest "PrintLedger$Press" (30 : Nat) "PrintLedger$Job" "inks" "I" "PrintLedger") ∈ EW := ew_in 472 rfl rfl
set_option maxRecDepth 100000 in
theorem kw_473 : (Jvm.Cond.fieldLinkNest "PrintLedger" (172 : Nat) "PrintLedger$Job" "inks" "I" "PrintLedger") ∈ EW := ew_in 473 rfl rfl
set_option maxRecDepth 100000 in
theorem kw_474 : (Jvm.Cond.fieldLink "PrintLedger$Job" (44 : Nat) "PrintLedger$Job" "lies" "I") ∈ BG := bg_in 474 rfl rfl
set_option maxRecDepth 100000 in
theorem kw_475 : (Jvm.Cond.fieldLinkNest "PrintLedger" (173 : Nat) "PrintLedger$Job" "lies" "I" "PrintLedger") ∈ EW := ew_in 475 rfl rfl
set_option maxRecDepth 100000 in
theorem kw_476 : (Jvm.Cond.fieldLink "PrintLedger$Job" (40 : Nat) "PrintLedger$Job" "turned" "Z") ∈ BG := bg_in 476 rfl rfl
set_option maxRecDepth 100000 in
theorem kw_477 : (Jvm.Cond.fieldLinkNest "PrintLedger" (176 : Nat) "PrintLedger$Job" "turned" "Z" "PrintLedger") ∈ EW := ew_in 477 rfl rfl
set_option maxRecDepth 100000 in
theorem kw_478 : (Jvm.Cond.fieldLink "PrintLedger$Job" (53 : Nat) "PrintLedger$Job" "leaves" "I") ∈ BG := bg_in 478 rfl rfl
set_option maxRecDepth 100000 in
theorem kw_479 : (Jvm.Cond.fieldLinkNest "PrintLedger" (180 : Nat) "PrintLedger$Job" "leaves" "I" "PrintLedger") ∈ EW := ew_in 479 rfl rfl
set_option maxRecDepth 100000 in
theorem kw_480 : (Jvm.Cond.fieldLink "PrintLedger$Job" (9 : Nat) "PrintLedger$Job" "state" "I") ∈ BG := bg_in 480 rfl rfl
set_option maxRecDepth 100000 in
theorem kw_481 : (Jvm.Cond.fieldLinkNest "PrintLedger" (183 : Nat) "PrintLedger$Job" "state" "I" "PrintLedger") ∈ EW := ew_in 481 rfl rfl
set_option maxRecDepth 100000 in
theorem kw_482 : (Jvm.Cond.fieldLink "PrintLedger$Job" (15 : Nat) "PrintLedger$Job" "press" "I") ∈ BG := bg_in 482 rfl rfl
set_option maxRecDepth 100000 in
theorem kw_483 : (Jvm.Cond.fieldLinkNest "PrintLedger" (201 : Nat) "PrintLedger$Job" "press" "I" "PrintLedger") ∈ EW := ew_in 483 rfl rfl
set_option maxRecDepth 100000 in
theorem kw_484 : (Jvm.Cond.fieldLink "PrintLedger$Job" (56 : Nat) "PrintLedger$Job" "made" "I") ∈ BG := bg_in 484 rfl rfl
set_option maxRecDepth 100000 in
theorem kw_485 : (Jvm.Cond.fieldLinkNest "PrintLedger" (186 : Nat) "PrintLedger$Job" "made" "I" "PrintLedger") ∈ EW := ew_in 485 rfl rfl
set_option maxRecDepth 100000 in
theorem kw_486 : (Jvm.Cond.fieldLink "PrintLedger$Job" (83 : Nat) "PrintLedger$Job" "quote" "I") ∈ BG := bg_in 486 rfl rfl
set_option maxRecDepth 100000 in
theorem kw_487 : (Jvm.Cond.fieldLinkNest "PrintLedger" (192 : Nat) "PrintLedger$Job" "quote" "I" "PrintLedger") ∈ EW := ew_in 487 rfl rfl
set_option maxRecDepth 100000 in
theorem kw_488 : (Jvm.Cond.fieldLinkNest "PrintLedger" (195 : Nat) "PrintLedger$Job" "cost" "I" "PrintLedger") ∈ EW := ew_in 488 rfl rfl
set_option maxRecDepth 100000 in
theorem kw_489 : (Jvm.Cond.fieldLinkNest "PrintLedger" (198 : Nat) "PrintLedger$Job" "invoiced" "I" "PrintLedger") ∈ EW := ew_in 489 rfl rfl
set_option maxRecDepth 100000 in
theorem kw_490 : (Jvm.Cond.fieldLinkNest "PrintLedger" (300 : Nat) "PrintLedger$Job" "inksArePaid" "Z" "PrintLedger") ∈ EW := ew_in 490 rfl rfl
set_option maxRecDepth 100000 in
theorem kw_491 : (Jvm.Cond.laysFinal "PrintLedger$Job" "PrintLedger$Job" "number" "I") ∈ BG := bg_in 491 rfl rfl
set_option maxRecDepth 100000 in
theorem kw_493 : (Jvm.Cond.laysFinal "PrintLedger$Job" "PrintLedger$Job" "paper" "I") ∈ BG := bg_in 493 rfl rfl
set_option maxRecDepth 100000 in
theorem kw_495 : (Jvm.Cond.laysFinal "PrintLedger$Job" "PrintLedger$Job" "sheet" "LPrintLedger$Paper;") ∈ BG := bg_in 495 rfl rfl
set_option maxRecDepth 100000 in
theorem kw_497 : (Jvm.Cond.laysFinal "PrintLedger$Job" "PrintLedger$Job" "copies" "I") ∈ BG := bg_in 497 rfl rfl
set_option maxRecDepth 100000 in
theorem kw_499 : (Jvm.Cond.laysFinal "PrintLedger$Job" "PrintLedger$Job" "inks" "I") ∈ BG := bg_in 499 rfl rfl
set_option maxRecDepth 100000 in
theorem kw_501 : (Jvm.Cond.lays "PrintLedger$Job" "PrintLedger$Job" "lies" "I") ∈ BG := bg_in 501 rfl rfl
set_option maxRecDepth 100000 in
theorem kw_503 : (Jvm.Cond.lays "PrintLedger$Job" "PrintLedger$Job" "turned" "Z") ∈ BG := bg_in 503 rfl rfl
set_option maxRecDepth 100000 in
theorem kw_505 : (Jvm.Cond.lays "PrintLedger$Job" "PrintLedger$Job" "leaves" "I") ∈ BG := bg_in 505 rfl rfl
set_option maxRecDepth 100000 in
theorem kw_507 : (Jvm.Cond.lays "PrintLedger$Job" "PrintLedger$Job" "state" "I") ∈ BG := bg_in 507 rfl rfl
set_option maxRecDepth 100000 in
theorem kw_509 : (Jvm.Cond.lays "PrintLedger$Job" "PrintLedger$Job" "press" "I") ∈ BG := bg_in 509 rfl rfl
set_option maxRecDepth 100000 in
theorem kw_511 : (Jvm.Cond.lays "PrintLedger$Job" "PrintLedger$Job" "made" "I") ∈ BG := bg_in 511 rfl rfl
set_option maxRecDepth 100000 in
theorem kw_513 : (Jvm.Cond.lays "PrintLedger$Job" "PrintLedger$Job" "quote" "I") ∈ BG := bg_in 513 rfl rfl
set_option maxRecDepth 100000 in
theorem kw_515 : (Jvm.Cond.lays "PrintLedger$Job" "PrintLedger$Job" "cost" "I") ∈ BG := bg_in 515 rfl rfl
set_option maxRecDepth 100000 in
theorem kw_517 : (Jvm.Cond.lays "PrintLedger$Job" "PrintLedger$Job" "invoiced" "I") ∈ BG := bg_in 517 rfl rfl
set_option maxRecDepth 100000 in
theorem kw_519 : (Jvm.Cond.lays "PrintLedger$Job" "PrintLedger$Job" "inksArePaid" "Z") ∈ BG := bg_in 519 rfl rfl
set_option maxRecDepth 100000 in
theorem kw_522 : (Jvm.Cond.methodLinkNest "PrintLedger" (159 : Nat) ({ cls := "PrintLedger$Job", name := "layOut", desc := "(II)V" } : Jvm.MethodName) "PrintLedger") ∈ EW := ew_in 522 rfl rfl
set_option maxRecDepth 100000 in
theorem kw_524 : (Jvm.Cond.instanceMethod ({ cls := "PrintLedger$Job", name := "layOut", desc := "(II)V" } : Jvm.MethodName)) ∈ BG := bg_in 524 rfl rfl
set_option maxRecDepth 100000 in
theorem kw_525 : (Jvm.Cond.code ({ cls := "PrintLedger$Job", name := "layOut", desc := "(II)V" } : Jvm.MethodName) prog_3_method_2_code (5 : Nat) (Option.none : Option Jvm.ClassFile.FieldType)) ∈ BG := bg_in 525 rfl rfl
set_option maxRecDepth 100000 in
theorem kw_526 : (Jvm.Cond.methodLinkNest "PrintLedger$Job" (34 : Nat) ({ cls := "PrintLedger$Paper", name := "holds", desc := "(II)I" } : Jvm.MethodName) "PrintLedger") ∈ EW := ew_in 526 rfl rfl
set_option maxRecDepth 100000 in
theorem kw_527 : (Jvm.Cond.methodLink "PrintLedgerLaw" (54 : Nat) ({ cls := "PrintLedger", name := "order", desc := "(II)I" } : Jvm.MethodName)) ∈ BG := bg_in 527 rfl rfl
set_option maxRecDepth 100000 in
theorem kw_528 : (Jvm.Cond.instanceMethod ({ cls := "PrintLedger", name := "order", desc := "(II)I" } : Jvm.MethodName)) ∈ BG := bg_in 528 rfl rfl
set_option maxRecDepth 100000 in
theorem kw_529 : (Jvm.Cond.selects "PrintLedger" ({ cls := "PrintLedger", name := "order", desc := "(II)I" } : Jvm.MethodName) ({ cls := "PrintLedger", name := "order", desc := "(II)I" } : Jvm.MethodName)) ∈ BG := bg_in 529 rfl rfl
set_option maxRecDepth 100000 in
theorem kw_530 : (Jvm.Cond.code ({ cls := "PrintLedger", name := "order", desc := "(II)I" } : Jvm.MethodName) prog_1_method_13_code (5 : Nat) (Option.some Jvm.ClassFile.FieldType.int)) ∈ BG := bg_in 530 rfl rfl
set_option maxRecDepth 100000 in
theorem kw_532 : (Jvm.Cond.methodLinkNest "PrintLedger" (228 : Nat) ({ cls := "PrintLedger$Press", name := "insert", desc := "(LPrintLedger$Job;I)V" } : Jvm.MethodName) "PrintLedger") ∈ EW := ew_in 532 rfl rfl
set_option maxRecDepth 100000 in
theorem kw_534 : (Jvm.Cond.instanceMethod ({ cls := "PrintLedger$Press", name := "insert", desc := "(LPrintLedger$Job;I)V" } : Jvm.MethodName)) ∈ BG := bg_in 534 rfl rfl
set_option maxRecDepth 100000 in
theorem kw_535 : (Jvm.Cond.code ({ cls := "PrintLedger$Press", name := "insert", desc := "(LPrintLedger$Job;I)V" } : Jvm.MethodName) prog_5_method_4_code (4 : Nat) (Option.none : Option Jvm.ClassFile.FieldType)) ∈ BG := bg_in 535 rfl rfl
set_option maxRecDepth 100000 in
theorem kw_536 : (Jvm.Cond.methodLink "PrintLedgerLaw" (57 : Nat) ({ cls := "PrintLedger", name := "ofJob", desc := "(II)I" } : Jvm.MethodName)) ∈ BG := bg_in 536 rfl rfl
set_option maxRecDepth 100000 in
theorem kw_537 : (Jvm.Cond.methodLink "PrintLedgerLaw" (60 : Nat) ({ cls := "PrintLedger", name := "ofPress", desc := "(II)I" } : Jvm.MethodName)) ∈ BG := bg_in 537 rfl rfl
set_option maxRecDepth 100000 in
theorem kw_538 : (Jvm.Cond.methodLink "PrintLedgerLaw" (63 : Nat) ({ cls := "PrintLedger", name := "queue", desc := "(II)I" } : Jvm.MethodName)) ∈ BG := bg_in 538 rfl rfl
set_option maxRecDepth 100000 in
theorem kw_539 : (Jvm.Cond.methodLink "PrintLedgerLaw" (66 : Nat) ({ cls := "PrintLedger", name := "buy", desc := "(II)I" } : Jvm.MethodName)) ∈ BG := bg_in 539 rfl rfl
set_option maxRecDepth 100000 in
theorem kw_540 : (Jvm.Cond.instanceMethod ({ cls := "PrintLedger", name := "buy", desc := "(II)I" } : Jvm.MethodName)) ∈ BG := bg_in 540 rfl rfl
set_option maxRecDepth 100000 in
theorem kw_541 : (Jvm.Cond.selects "PrintLedger" ({ cls := "PrintLedger", name := "buy", desc := "(II)I" } : Jvm.MethodName) ({ cls := "PrintLedger", name := "buy", desc := "(II)I" } : Jvm.MethodName)) ∈ BG := bg_in 541 rfl rfl
set_option maxRecDepth 100000 in
theorem kw_542 : (Jvm.Cond.code ({ cls := "PrintLedger", name := "buy", desc := "(II)I" } : Jvm.MethodName) prog_1_method_3_code (4 : Nat) (Option.some Jvm.ClassFile.FieldType.int)) ∈ BG := bg_in 542 rfl rfl
set_option maxRecDepth 100000 in
theorem kw_544 : (Jvm.Cond.methodLinkNest "PrintLedger" (75 : Nat) ({ cls := "PrintLedger$Paper", name := "lotsWithRoom", desc := "()I" } : Jvm.MethodName) "PrintLedger") ∈ EW := ew_in 544 rfl rfl
set_option maxRecDepth 100000 in
theorem kw_546 : (Jvm.Cond.instanceMethod ({ cls := "PrintLedger$Paper", name := "lotsWithRoom", desc := "()I" } : Jvm.MethodName)) ∈ BG := bg_in 546 rfl rfl
set_option maxRecDepth 100000 in
theorem kw_547 : (Jvm.Cond.code ({ cls := "PrintLedger$Paper", name := "lotsWithRoom", desc := "()I" } : Jvm.MethodName) prog_4_method_3_code (1 : Nat) (Option.some Jvm.ClassFile.FieldType.int)) ∈ BG := bg_in 547 rfl rfl
set_option maxRecDepth 100000 in
theorem kw_548 : (Jvm.Cond.constant "PrintLedger$Paper" (25 : Nat) (99999 : Int32)) ∈ BG := bg_in 548 rfl rfl
set_option maxRecDepth 100000 in
theorem kw_550 : (Jvm.Cond.methodLink "PrintLedger" (81 : Nat) ({ cls := "PrintLedger", name := "bring", desc := "(LPrintLedger$Paper;I)V" } : Jvm.MethodName)) ∈ BG := bg_in 550 rfl rfl
set_option maxRecDepth 100000 in
theorem kw_552 : (Jvm.Cond.instanceMethod ({ cls := "PrintLedger", name := "bring", desc := "(LPrintLedger$Paper;I)V" } : Jvm.MethodName)) ∈ BG := bg_in 552 rfl rfl
set_option maxRecDepth 100000 in
theorem kw_553 : (Jvm.Cond.code ({ cls := "PrintLedger", name := "bring", desc := "(LPrintLedger$Paper;I)V" } : Jvm.MethodName) prog_1_method_6_code (4 : Nat) (Option.none : Option Jvm.ClassFile.FieldType)) ∈ BG := bg_in 553 rfl rfl
set_option maxRecDepth 100000 in
theorem kw_554 : (Jvm.Cond.methodLink "PrintLedgerLaw" (69 : Nat) ({ cls := "PrintLedger", name := "ofPaper", desc := "(II)I" } : Jvm.MethodName)) ∈ BG := bg_in 554 rfl rfl
set_option maxRecDepth 100000 in
theorem kw_555 : (Jvm.Cond.methodLink "PrintLedgerLaw" (72 : Nat) ({ cls := "PrintLedger", name := "buyAll", desc := "()I" } : Jvm.MethodName)) ∈ BG := bg_in 555 rfl rfl
set_option maxRecDepth 100000 in
theorem kw_556 : (Jvm.Cond.instanceMethod ({ cls := "PrintLedger", name := "buyAll", desc := "()I" } : Jvm.MethodName)) ∈ BG := bg_in 556 rfl rfl
set_option maxRecDepth 100000 in
theorem kw_557 : (Jvm.Cond.selects "PrintLedger" ({ cls := "PrintLedger", name := "buyAll", desc := "()I" } : Jvm.MethodName) ({ cls := "PrintLedger", name := "buyAll", desc := "()I" } : Jvm.MethodName)) ∈ BG := bg_in 557 rfl rfl
set_option maxRecDepth 100000 in
theorem kw_558 : (Jvm.Cond.code ({ cls := "PrintLedger", name := "buyAll", desc := "()I" } : Jvm.MethodName) prog_1_method_4_code (6 : Nat) (Option.some Jvm.ClassFile.FieldType.int)) ∈ BG := bg_in 558 rfl rfl
set_option maxRecDepth 100000 in
theorem kw_559 : (Jvm.Cond.methodLink "PrintLedger" (92 : Nat) ({ cls := "PrintLedger", name := "divideUp", desc := "(II)I" } : Jvm.MethodName)) ∈ BG := bg_in 559 rfl rfl
set_option maxRecDepth 100000 in
theorem kw_560 : (Jvm.Cond.methodLink "PrintLedger" (96 : Nat) ({ cls := "java/lang/Math", name := "min", desc := "(II)I" } : Jvm.MethodName)) ∈ BG := bg_in 560 rfl rfl
set_option maxRecDepth 100000 in
theorem kw_561 : (Jvm.Cond.methodLink "PrintLedgerLaw" (76 : Nat) ({ cls := "PrintLedger", name := "invoice", desc := "(I)I" } : Jvm.MethodName)) ∈ BG := bg_in 561 rfl rfl
set_option maxRecDepth 100000 in
theorem kw_562 : (Jvm.Cond.instanceMethod ({ cls := "PrintLedger", name := "invoice", desc := "(I)I" } : Jvm.MethodName)) ∈ BG := bg_in 562 rfl rfl
set_option maxRecDepth 100000 in
theorem kw_563 : (Jvm.Cond.selects "PrintLedger" ({ cls := "PrintLedger", name := "invoice", desc := "(I)I" } : Jvm.MethodName) ({ cls := "PrintLedger", name := "invoice", desc := "(I)I" } : Jvm.MethodName)) ∈ BG := bg_in 563 rfl rfl
set_option maxRecDepth 100000 in
theorem kw_564 : (Jvm.Cond.code ({ cls := "PrintLedger", name := "invoice", desc := "(I)I" } : Jvm.MethodName) prog_1_method_15_code (3 : Nat) (Option.some Jvm.ClassFile.FieldType.int)) ∈ BG := bg_in 564 rfl rfl
set_option maxRecDepth 100000 in
theorem kw_567 : (Jvm.Cond.methodLink "PrintLedgerLaw" (79 : Nat) ({ cls := "PrintLedger", name := "profit", desc := "(I)I" } : Jvm.MethodName)) ∈ BG := bg_in 567 rfl rfl
set_option maxRecDepth 100000 in
theorem kw_568 : (Jvm.Cond.methodLink "PrintLedgerLaw" (82 : Nat) ({ cls := "PrintLedger", name := "again", desc := "(I)I" } : Jvm.MethodName)) ∈ BG := bg_in 568 rfl rfl
set_option maxRecDepth 100000 in
theorem kw_569 : (Jvm.Cond.instanceMethod ({ cls := "PrintLedger", name := "again", desc := "(I)I" } : Jvm.MethodName)) ∈ BG := bg_in 569 rfl rfl
set_option maxRecDepth 100000 in
theorem kw_570 : (Jvm.Cond.selects "PrintLedger" ({ cls := "PrintLedger", name := "again", desc := "(I)I" } : Jvm.MethodName) ({ cls := "PrintLedger", name := "again", desc := "(I)I" } : Jvm.MethodName)) ∈ BG := bg_in 570 rfl rfl
set_option maxRecDepth 100000 in
theorem kw_571 : (Jvm.Cond.code ({ cls := "PrintLedger", name := "again", desc := "(I)I" } : Jvm.MethodName) prog_1_method_14_code (3 : Nat) (Option.some Jvm.ClassFile.FieldType.int)) ∈ BG := bg_in 571 rfl rfl
set_option maxRecDepth 100000 in
theorem kw_573 : (Jvm.Cond.methodLink "PrintLedgerLaw" (85 : Nat) ({ cls := "PrintLedger", name := "sort", desc := "(I)I" } : Jvm.MethodName)) ∈ BG := bg_in 573 rfl rfl
set_option maxRecDepth 100000 in
theorem kw_574 : (Jvm.Cond.instanceMethod ({ cls := "PrintLedger", name := "sort", desc := "(I)I" } : Jvm.MethodName)) ∈ BG := bg_in 574 rfl rfl
set_option maxRecDepth 100000 in
theorem kw_575 : (Jvm.Cond.selects "PrintLedger" ({ cls := "PrintLedger", name := "sort", desc := "(I)I" } : Jvm.MethodName) ({ cls := "PrintLedger", name := "sort", desc := "(I)I" } : Jvm.MethodName)) ∈ BG := bg_in 575 rfl rfl
set_option maxRecDepth 100000 in
theorem kw_576 : (Jvm.Cond.code ({ cls := "PrintLedger", name := "sort", desc := "(I)I" } : Jvm.MethodName) prog_1_method_21_code (4 : Nat) (Option.some Jvm.ClassFile.FieldType.int)) ∈ BG := bg_in 576 rfl rfl
set_option maxRecDepth 100000 in
theorem kw_577 : (Jvm.Cond.methodLinkNest "PrintLedger" (290 : Nat) ({ cls := "PrintLedger$Press", name := "bringLeastChangeAhead", desc := "()V" } : Jvm.MethodName) "PrintLedger") ∈ EW := ew_in 577 rfl rfl
set_option maxRecDepth 100000 in
theorem kw_579 : (Jvm.Cond.instanceMethod ({ cls := "PrintLedger$Press", name := "bringLeastChangeAhead", desc := "()V" } : Jvm.MethodName)) ∈ BG := bg_in 579 rfl rfl
set_option maxRecDepth 100000 in
theorem kw_580 : (Jvm.Cond.code ({ cls := "PrintLedger$Press", name := "bringLeastChangeAhead", desc := "()V" } : Jvm.MethodName) prog_5_method_6_code (6 : Nat) (Option.none : Option Jvm.ClassFile.FieldType)) ∈ BG := bg_in 580 rfl rfl
set_option maxRecDepth 100000 in
theorem kw_581 : (Jvm.Cond.methodLink "PrintLedger$Press" (47 : Nat) ({ cls := "PrintLedger$Press", name := "placeOfLeastChange", desc := "(II)I" } : Jvm.MethodName)) ∈ BG := bg_in 581 rfl rfl
set_option maxRecDepth 100000 in
theorem kw_583 : (Jvm.Cond.instanceMethod ({ cls := "PrintLedger$Press", name := "placeOfLeastChange", desc := "(II)I" } : Jvm.MethodName)) ∈ BG := bg_in 583 rfl rfl
set_option maxRecDepth 100000 in
theorem kw_584 : (Jvm.Cond.code ({ cls := "PrintLedger$Press", name := "placeOfLeastChange", desc := "(II)I" } : Jvm.MethodName) prog_5_method_7_code (8 : Nat) (Option.some Jvm.ClassFile.FieldType.int)) ∈ BG := bg_in 584 rfl rfl
set_option maxRecDepth 100000 in
theorem kw_585 : (Jvm.Cond.constant "PrintLedger$Press" (62 : Nat) (2147483647 : Int32)) ∈ BG := bg_in 585 rfl rfl
set_option maxRecDepth 100000 in
theorem kw_586 : (Jvm.Cond.methodLink "PrintLedger$Press" (50 : Nat) ({ cls := "PrintLedger$Press", name := "jobAt", desc := "(I)LPrintLedger$Job;" } : Jvm.MethodName)) ∈ BG := bg_in 586 rfl rfl
set_option maxRecDepth 100000 in
theorem kw_587 : (Jvm.Cond.methodLinkNest "PrintLedger$Press" (63 : Nat) ({ cls := "PrintLedger", name := "changeOf", desc := "(LPrintLedger$Job;I)I" } : Jvm.MethodName) "PrintLedger") ∈ EW := ew_in 587 rfl rfl
set_option maxRecDepth 100000 in
theorem kw_588 : (Jvm.Cond.methodLink "PrintLedger$Press" (54 : Nat) ({ cls := "PrintLedger$Press", name := "remove", desc := "(I)V" } : Jvm.MethodName)) ∈ BG := bg_in 588 rfl rfl
set_option maxRecDepth 100000 in
theorem kw_590 : (Jvm.Cond.instanceMethod ({ cls := "PrintLedger$Press", name := "remove", desc := "(I)V" } : Jvm.MethodName)) ∈ BG := bg_in 590 rfl rfl
set_option maxRecDepth 100000 in
theorem kw_591 : (Jvm.Cond.code ({ cls := "PrintLedger$Press", name := "remove", desc := "(I)V" } : Jvm.MethodName) prog_5_method_5_code (3 : Nat) (Option.none : Option Jvm.ClassFile.FieldType)) ∈ BG := bg_in 591 rfl rfl
set_option maxRecDepth 100000 in
theorem kw_592 : (Jvm.Cond.methodLink "PrintLedger$Press" (58 : Nat) ({ cls := "PrintLedger$Press", name := "insert", desc := "(LPrintLedger$Job;I)V" } : Jvm.MethodName)) ∈ BG := bg_in 592 rfl rfl
set_option maxRecDepth 100000 in
theorem kw_593 : (Jvm.Cond.methodLink "PrintLedgerLaw" (88 : Nat) ({ cls := "PrintLedger", name := "towers", desc := "(II)I" } : Jvm.MethodName)) ∈ BG := bg_in 593 rfl rfl
set_option maxRecDepth 100000 in
theorem kw_594 : (Jvm.Cond.instanceMethod ({ cls := "PrintLedger", name := "towers", desc := "(II)I" } : Jvm.MethodName)) ∈ BG := bg_in 594 rfl rfl
set_option maxRecDepth 100000 in
theorem kw_595 : (Jvm.Cond.selects "PrintLedger" ({ cls := "PrintLedger", name := "towers", desc := "(II)I" } : Jvm.MethodName) ({ cls := "PrintLedger", name := "towers", desc := "(II)I" } : Jvm.MethodName)) ∈ BG := bg_in 595 rfl rfl
set_option maxRecDepth 100000 in
theorem kw_596 : (Jvm.Cond.code ({ cls := "PrintLedger", name := "towers", desc := "(II)I" } : Jvm.MethodName) prog_1_method_18_code (5 : Nat) (Option.some Jvm.ClassFile.FieldType.int)) ∈ BG := bg_in 596 rfl rfl
set_option maxRecDepth 100000 in
theorem kw_598 : (Jvm.Cond.methodLink "PrintLedgerLaw" (91 : Nat) ({ cls := "PrintLedgerLaw", name := "isTold", desc := "(LPrintLedger;III)Z" } : Jvm.MethodName)) ∈ BG := bg_in 598 rfl rfl
set_option maxRecDepth 100000 in
theorem kw_599 : (Jvm.Cond.static ({ cls := "PrintLedgerLaw", name := "isTold", desc := "(LPrintLedger;III)Z" } : Jvm.MethodName)) ∈ BG := bg_in 599 rfl rfl
set_option maxRecDepth 100000 in
theorem kw_600 : (Jvm.Cond.code ({ cls := "PrintLedgerLaw", name := "isTold", desc := "(LPrintLedger;III)Z" } : Jvm.MethodName) method_6_code (12 : Nat) (Option.some Jvm.ClassFile.FieldType.boolean)) ∈ BG := bg_in 600 rfl rfl
set_option maxRecDepth 100000 in
theorem kw_601 : (Jvm.Cond.methodLink "PrintLedgerLaw" (108 : Nat) ({ cls := "PrintLedger", name := "slip", desc := "(III)I" } : Jvm.MethodName)) ∈ BG := bg_in 601 rfl rfl
set_option maxRecDepth 100000 in
theorem kw_602 : (Jvm.Cond.instanceMethod ({ cls := "PrintLedger", name := "slip", desc := "(III)I" } : Jvm.MethodName)) ∈ BG := bg_in 602 rfl rfl
set_option maxRecDepth 100000 in
theorem kw_603 : (Jvm.Cond.selects "PrintLedger" ({ cls := "PrintLedger", name := "slip", desc := "(III)I" } : Jvm.MethodName) ({ cls := "PrintLedger", name := "slip", desc := "(III)I" } : Jvm.MethodName)) ∈ BG := bg_in 603 rfl rfl
set_option maxRecDepth 100000 in
theorem kw_604 : (Jvm.Cond.code ({ cls := "PrintLedger", name := "slip", desc := "(III)I" } : Jvm.MethodName) prog_1_method_22_code (8 : Nat) (Option.some Jvm.ClassFile.FieldType.int)) ∈ BG := bg_in 604 rfl rfl
set_option maxRecDepth 100000 in
theorem kw_605 : (Jvm.Cond.methodLink "PrintLedger" (293 : Nat) ({ cls := "PrintLedger", name := "jobOfSlip", desc := "(LPrintLedger$Press;II)LPrintLedger$Job;" } : Jvm.MethodName)) ∈ BG := bg_in 605 rfl rfl
set_option maxRecDepth 100000 in
theorem kw_606 : (Jvm.Cond.static ({ cls := "PrintLedger", name := "jobOfSlip", desc := "(LPrintLedger$Press;II)LPrintLedger$Job;" } : Jvm.MethodName)) ∈ BG := bg_in 606 rfl rfl
set_option maxRecDepth 100000 in
theorem kw_607 : (Jvm.Cond.code ({ cls := "PrintLedger", name := "jobOfSlip", desc := "(LPrintLedger$Press;II)LPrintLedger$Job;" } : Jvm.MethodName) prog_1_method_23_code (4 : Nat) (Option.some (Jvm.ClassFile.FieldType.object "PrintLedger$Job"))) ∈ BG := bg_in 607 rfl rfl
set_option maxRecDepth 100000 in
theorem kw_612 : (Jvm.Cond.methodLinkNest "PrintLedger" (297 : Nat) ({ cls := "PrintLedger$Job", name := "takenWith", desc := "(I)I" } : Jvm.MethodName) "PrintLedger") ∈ EW := ew_in 612 rfl rfl
set_option maxRecDepth 100000 in
theorem kw_614 : (Jvm.Cond.instanceMethod ({ cls := "PrintLedger$Job", name := "takenWith", desc := "(I)I" } : Jvm.MethodName)) ∈ BG := bg_in 614 rfl rfl
set_option maxRecDepth 100000 in
theorem kw_615 : (Jvm.Cond.code ({ cls := "PrintLedger$Job", name := "takenWith", desc := "(I)I" } : Jvm.MethodName) prog_3_method_5_code (2 : Nat) (Option.some Jvm.ClassFile.FieldType.int)) ∈ BG := bg_in 615 rfl rfl
set_option maxRecDepth 100000 in
theorem kw_616 : (Jvm.Cond.methodLink "PrintLedger$Job" (73 : Nat) ({ cls := "PrintLedger$Job", name := "sheets", desc := "()I" } : Jvm.MethodName)) ∈ BG := bg_in 616 rfl rfl
set_option maxRecDepth 100000 in
theorem kw_617 : (Jvm.Cond.methodLinkNest "PrintLedger" (303 : Nat) ({ cls := "PrintLedger$Press", name := "remove", desc := "(I)V" } : Jvm.MethodName) "PrintLedger") ∈ EW := ew_in 617 rfl rfl
set_option maxRecDepth 100000 in
theorem kw_618 : (Jvm.Cond.methodLinkNest "PrintLedger" (307 : Nat) ({ cls := "PrintLedger$Press", name := "learn", desc := "(LPrintLedger$Job;III)V" } : Jvm.MethodName) "PrintLedger") ∈ EW := ew_in 618 rfl rfl
set_option maxRecDepth 100000 in
theorem kw_620 : (Jvm.Cond.instanceMethod ({ cls := "PrintLedger$Press", name := "learn", desc := "(LPrintLedger$Job;III)V" } : Jvm.MethodName)) ∈ BG := bg_in 620 rfl rfl
set_option maxRecDepth 100000 in
theorem kw_621 : (Jvm.Cond.code ({ cls := "PrintLedger$Press", name := "learn", desc := "(LPrintLedger$Job;III)V" } : Jvm.MethodName) prog_5_method_9_code (8 : Nat) (Option.none : Option Jvm.ClassFile.FieldType)) ∈ BG := bg_in 621 rfl rfl
set_option maxRecDepth 100000 in
theorem kw_622 : (Jvm.Cond.methodLink "PrintLedger$Press" (67 : Nat) ({ cls := "PrintLedger$Press", name := "passesOf", desc := "(LPrintLedger$Job;)I" } : Jvm.MethodName)) ∈ BG := bg_in 622 rfl rfl
set_option maxRecDepth 100000 in
theorem kw_623 : (Jvm.Cond.methodLinkNest "PrintLedger$Press" (71 : Nat) ({ cls := "PrintLedger", name := "divide", desc := "(II)I" } : Jvm.MethodName) "PrintLedger") ∈ EW := ew_in 623 rfl rfl
set_option maxRecDepth 100000 in
theorem kw_624 : (Jvm.Cond.methodLink "PrintLedger$Press" (74 : Nat) ({ cls := "PrintLedger$Press", name := "rateOf", desc := "(I)I" } : Jvm.MethodName)) ∈ BG := bg_in 624 rfl rfl
set_option maxRecDepth 100000 in
theorem kw_625 : (Jvm.Cond.static ({ cls := "PrintLedger$Press", name := "rateOf", desc := "(I)I" } : Jvm.MethodName)) ∈ BG := bg_in 625 rfl rfl
set_option maxRecDepth 100000 in
theorem kw_626 : (Jvm.Cond.code ({ cls := "PrintLedger$Press", name := "rateOf", desc := "(I)I" } : Jvm.MethodName) prog_5_method_10_code (1 : Nat) (Option.some Jvm.ClassFile.FieldType.int)) ∈ BG := bg_in 626 rfl rfl
set_option maxRecDepth 100000 in
theorem kw_627 : (Jvm.Cond.methodLink "PrintLedger$Press" (82 : Nat) ({ cls := "java/lang/Math", name := "min", desc := "(II)I" } : Jvm.MethodName)) ∈ BG := bg_in 627 rfl rfl
set_option maxRecDepth 100000 in
theorem kw_628 : (Jvm.Cond.methodLink "PrintLedger$Press" (77 : Nat) ({ cls := "java/lang/Math", name := "max", desc := "(II)I" } : Jvm.MethodName)) ∈ BG := bg_in 628 rfl rfl
set_option maxRecDepth 100000 in
theorem kw_629 : (Jvm.Cond.methodLink "PrintLedgerLaw" (112 : Nat) ({ cls := "PrintLedger", name := "expected", desc := "(III)I" } : Jvm.MethodName)) ∈ BG := bg_in 629 rfl rfl
set_option maxRecDepth 100000 in
theorem kw_630 : (Jvm.Cond.methodLink "PrintLedgerLaw" (95 : Nat) ({ cls := "PrintLedger", name := "terms", desc := "(II)I" } : Jvm.MethodName)) ∈ BG := bg_in 630 rfl rfl
set_option maxRecDepth 100000 in
theorem kw_631 : (Jvm.Cond.instanceMethod ({ cls := "PrintLedger", name := "terms", desc := "(II)I" } : Jvm.MethodName)) ∈ BG := bg_in 631 rfl rfl
set_option maxRecDepth 100000 in
theorem kw_632 : (Jvm.Cond.selects "PrintLedger" ({ cls := "PrintLedger", name := "terms", desc := "(II)I" } : Jvm.MethodName) ({ cls := "PrintLedger", name := "terms", desc := "(II)I" } : Jvm.MethodName)) ∈ BG := bg_in 632 rfl rfl
set_option maxRecDepth 100000 in
theorem kw_633 : (Jvm.Cond.code ({ cls := "PrintLedger", name := "terms", desc := "(II)I" } : Jvm.MethodName) prog_1_method_25_code (3 : Nat) (Option.some Jvm.ClassFile.FieldType.int)) ∈ BG := bg_in 633 rfl rfl
set_option maxRecDepth 100000 in
theorem kw_636 : (Jvm.Cond.methodLink "PrintLedgerLaw" (98 : Nat) ({ cls := "PrintLedger", name := "paper", desc := "(IIII)I" } : Jvm.MethodName)) ∈ BG := bg_in 636 rfl rfl
set_option maxRecDepth 100000 in
theorem kw_637 : (Jvm.Cond.instanceMethod ({ cls := "PrintLedger", name := "paper", desc := "(IIII)I" } : Jvm.MethodName)) ∈ BG := bg_in 637 rfl rfl
set_option maxRecDepth 100000 in
theorem kw_638 : (Jvm.Cond.selects "PrintLedger" ({ cls := "PrintLedger", name := "paper", desc := "(IIII)I" } : Jvm.MethodName) ({ cls := "PrintLedger", name := "paper", desc := "(IIII)I" } : Jvm.MethodName)) ∈ BG := bg_in 638 rfl rfl
set_option maxRecDepth 100000 in
theorem kw_639 : (Jvm.Cond.code ({ cls := "PrintLedger", name := "paper", desc := "(IIII)I" } : Jvm.MethodName) prog_1_method_2_code (7 : Nat) (Option.some Jvm.ClassFile.FieldType.int)) ∈ BG := bg_in 639 rfl rfl
set_option maxRecDepth 100000 in
theorem kw_642 : (Jvm.Cond.methodLink "PrintLedgerLaw" (39 : Nat) ({ cls := "PrintLedgerLaw", name := "areJobsRight", desc := "(LPrintLedger;)Z" } : Jvm.MethodName)) ∈ BG := bg_in 642 rfl rfl
set_option maxRecDepth 100000 in
theorem kw_643 : (Jvm.Cond.static ({ cls := "PrintLedgerLaw", name := "areJobsRight", desc := "(LPrintLedger;)Z" } : Jvm.MethodName)) ∈ BG := bg_in 643 rfl rfl
set_option maxRecDepth 100000 in
theorem kw_644 : (Jvm.Cond.code ({ cls := "PrintLedgerLaw", name := "areJobsRight", desc := "(LPrintLedger;)Z" } : Jvm.MethodName) method_7_code (13 : Nat) (Option.some Jvm.ClassFile.FieldType.boolean)) ∈ BG := bg_in 644 rfl rfl
set_option maxRecDepth 100000 in
theorem kw_645 : (Jvm.Cond.methodLink "PrintLedgerLaw" (115 : Nat) ({ cls := "PrintLedger", name := "bestPress", desc := "(I)I" } : Jvm.MethodName)) ∈ BG := bg_in 645 rfl rfl
set_option maxRecDepth 100000 in
theorem kw_646 : (Jvm.Cond.arrayClass Jvm.ClassFile.FieldType.int) ∈ BG := bg_in 646 rfl rfl
set_option maxRecDepth 100000 in
theorem kw_647 : (Jvm.Cond.methodLink "PrintLedgerLaw" (43 : Nat) ({ cls := "PrintLedgerLaw", name := "arePressesRight", desc := "(LPrintLedger;)Z" } : Jvm.MethodName)) ∈ BG := bg_in 647 rfl rfl
set_option maxRecDepth 100000 in
theorem kw_648 : (Jvm.Cond.static ({ cls := "PrintLedgerLaw", name := "arePressesRight", desc := "(LPrintLedger;)Z" } : Jvm.MethodName)) ∈ BG := bg_in 648 rfl rfl
set_option maxRecDepth 100000 in
theorem kw_649 : (Jvm.Cond.code ({ cls := "PrintLedgerLaw", name := "arePressesRight", desc := "(LPrintLedger;)Z" } : Jvm.MethodName) method_8_code (4 : Nat) (Option.some Jvm.ClassFile.FieldType.boolean)) ∈ BG := bg_in 649 rfl rfl
set_option maxRecDepth 100000 in
theorem kw_650 : (Jvm.Cond.methodLink "PrintLedgerLaw" (46 : Nat) ({ cls := "PrintLedgerLaw", name := "arePapersRight", desc := "(LPrintLedger;Z)Z" } : Jvm.MethodName)) ∈ BG := bg_in 650 rfl rfl
set_option maxRecDepth 100000 in
theorem kw_651 : (Jvm.Cond.static ({ cls := "PrintLedgerLaw", name := "arePapersRight", desc := "(LPrintLedger;Z)Z" } : Jvm.MethodName)) ∈ BG := bg_in 651 rfl rfl
set_option maxRecDepth 100000 in
theorem kw_652 : (Jvm.Cond.code ({ cls := "PrintLedgerLaw", name := "arePapersRight", desc := "(LPrintLedger;Z)Z" } : Jvm.MethodName) method_9_code (9 : Nat) (Option.some Jvm.ClassFile.FieldType.boolean)) ∈ BG := bg_in 652 rfl rfl
set_option maxRecDepth 100000 in
theorem kw_653 : (Jvm.Cond.constant "PrintLedgerLaw" (118 : Nat) (99999 : Int32)) ∈ BG := bg_in 653 rfl rfl
set_option maxRecDepth 100000 in
theorem kw_654 : (Jvm.Cond.methodLink "PrintLedgerLaw" (22 : Nat) ({ cls := "java/lang/Math", name := "max", desc := "(II)I" } : Jvm.MethodName)) ∈ BG := bg_in 654 rfl rfl
theorem in_X0 : ∀ w ∈ u_ws RX0 TX0 7, w ∈ BG := by decide +kernel
theorem de_X0 : ∀ k, k < 7 → (TX0 k).1 = RX0 := by decide +kernel
theorem in_X1 : ∀ w ∈ u_ws RX1 TX1 15, w ∈ BG := by decide +kernel
theorem de_X1 : ∀ k, k < 15 → (TX1 k).1 = RX1 := by decide +kernel
theorem in_X2 : ∀ w ∈ u_ws RX2 TX2 4, w ∈ BG := by decide +kernel
theorem de_X2 : ∀ k, k < 4 → (TX2 k).1 = RX2 := by decide +kernel
theorem in_X3 : ∀ w ∈ u_ws RX3 TX3 7, w ∈ BG := by decide +kernel
theorem de_X3 : ∀ k, k < 7 → (TX3 k).1 = RX3 := by decide +kernel
theorem in_X4 : ∀ w ∈ u_ws RX4 TX4 11, w ∈ BG := by decide +kernel
theorem de_X4 : ∀ k, k < 11 → (TX4 k).1 = RX4 := by decide +kernel
